-- ===== PART A: goes FIRST, ahead of the names: the tables' words, and 'selects' of the private methods out of them =====
/-- a private method of a class that the tables say can be made, by its rows of tables_1 -/
def lw_okq (q : MethodName × Nat) : Prop := (q.1.cls ≠ "java/lang/invoke/MethodHandle" ∧ q.1.cls ≠ "java/lang/invoke/VarHandle") ∧ Cond.instantiable q.1.cls q.2 ∈ tables_1 ∧ Cond.privateMethod q.1 ∈ tables_1 ∧ Cond.instanceMethod q.1 ∈ tables_1
theorem lw_p0 : lw_okq (⟨"FamineCode", "refuse", "(I)I"⟩, 9) := ⟨⟨by decide +kernel, by decide +kernel⟩, List.mem_of_getElem? (i := 17) (by decide +kernel), List.mem_of_getElem? (i := 292) (by decide +kernel), List.mem_of_getElem? (i := 293) (by decide +kernel)⟩
theorem lw_p1 : lw_okq (⟨"FamineCode", "done", "(I)I"⟩, 9) := ⟨⟨by decide +kernel, by decide +kernel⟩, List.mem_of_getElem? (i := 17) (by decide +kernel), List.mem_of_getElem? (i := 308) (by decide +kernel), List.mem_of_getElem? (i := 309) (by decide +kernel)⟩
theorem lw_p2 : lw_okq (⟨"FamineCode", "isDistrict", "(I)Z"⟩, 9) := ⟨⟨by decide +kernel, by decide +kernel⟩, List.mem_of_getElem? (i := 17) (by decide +kernel), List.mem_of_getElem? (i := 316) (by decide +kernel), List.mem_of_getElem? (i := 317) (by decide +kernel)⟩
theorem lw_p3 : lw_okq (⟨"FamineCode", "isLine", "(I)Z"⟩, 9) := ⟨⟨by decide +kernel, by decide +kernel⟩, List.mem_of_getElem? (i := 17) (by decide +kernel), List.mem_of_getElem? (i := 354) (by decide +kernel), List.mem_of_getElem? (i := 355) (by decide +kernel)⟩
theorem lw_p4 : lw_okq (⟨"FamineCode", "canAskLoad", "(III)Z"⟩, 9) := ⟨⟨by decide +kernel, by decide +kernel⟩, List.mem_of_getElem? (i := 17) (by decide +kernel), List.mem_of_getElem? (i := 474) (by decide +kernel), List.mem_of_getElem? (i := 475) (by decide +kernel)⟩
theorem lw_p5 : lw_okq (⟨"FamineCode$Carts", "layWays", "(LFamineCode$Ways;)V"⟩, 7) := ⟨⟨by decide +kernel, by decide +kernel⟩, List.mem_of_getElem? (i := 180) (by decide +kernel), List.mem_of_getElem? (i := 484) (by decide +kernel), List.mem_of_getElem? (i := 485) (by decide +kernel)⟩
theorem lw_p6 : lw_okq (⟨"FamineCode$Carts", "layEdge", "(IIIJ)V"⟩, 7) := ⟨⟨by decide +kernel, by decide +kernel⟩, List.mem_of_getElem? (i := 180) (by decide +kernel), List.mem_of_getElem? (i := 491) (by decide +kernel), List.mem_of_getElem? (i := 492) (by decide +kernel)⟩
theorem lw_p7 : lw_okq (⟨"FamineCode$Carts", "layGiven", "(LFamineCode$Land;II)V"⟩, 7) := ⟨⟨by decide +kernel, by decide +kernel⟩, List.mem_of_getElem? (i := 180) (by decide +kernel), List.mem_of_getElem? (i := 495) (by decide +kernel), List.mem_of_getElem? (i := 496) (by decide +kernel)⟩
theorem lw_p8 : lw_okq (⟨"FamineCode$Carts", "findPath", "(I)Z"⟩, 7) := ⟨⟨by decide +kernel, by decide +kernel⟩, List.mem_of_getElem? (i := 180) (by decide +kernel), List.mem_of_getElem? (i := 503) (by decide +kernel), List.mem_of_getElem? (i := 504) (by decide +kernel)⟩
theorem lw_p9 : lw_okq (⟨"FamineCode$Carts", "comeNearer", "(I)Z"⟩, 7) := ⟨⟨by decide +kernel, by decide +kernel⟩, List.mem_of_getElem? (i := 180) (by decide +kernel), List.mem_of_getElem? (i := 511) (by decide +kernel), List.mem_of_getElem? (i := 512) (by decide +kernel)⟩
theorem lw_p10 : lw_okq (⟨"FamineCode$Carts", "sendAlong", "(II)I"⟩, 7) := ⟨⟨by decide +kernel, by decide +kernel⟩, List.mem_of_getElem? (i := 180) (by decide +kernel), List.mem_of_getElem? (i := 515) (by decide +kernel), List.mem_of_getElem? (i := 516) (by decide +kernel)⟩
theorem lw_p11 : lw_okq (⟨"FamineCode$Acts", "own", "(III)I"⟩, 6) := ⟨⟨by decide +kernel, by decide +kernel⟩, List.mem_of_getElem? (i := 210) (by decide +kernel), List.mem_of_getElem? (i := 673) (by decide +kernel), List.mem_of_getElem? (i := 674) (by decide +kernel)⟩
theorem lw_p12 : lw_okq (⟨"FamineCode$Acts", "from", "(IIII)I"⟩, 6) := ⟨⟨by decide +kernel, by decide +kernel⟩, List.mem_of_getElem? (i := 210) (by decide +kernel), List.mem_of_getElem? (i := 677) (by decide +kernel), List.mem_of_getElem? (i := 678) (by decide +kernel)⟩
theorem lw_p13 : lw_okq (⟨"FamineCode$Acts", "body", "(IIII)I"⟩, 6) := ⟨⟨by decide +kernel, by decide +kernel⟩, List.mem_of_getElem? (i := 210) (by decide +kernel), List.mem_of_getElem? (i := 686) (by decide +kernel), List.mem_of_getElem? (i := 687) (by decide +kernel)⟩
theorem lw_p14 : lw_okq (⟨"FamineCode$Acts", "keepInTrace", "(I)V"⟩, 6) := ⟨⟨by decide +kernel, by decide +kernel⟩, List.mem_of_getElem? (i := 210) (by decide +kernel), List.mem_of_getElem? (i := 690) (by decide +kernel), List.mem_of_getElem? (i := 691) (by decide +kernel)⟩
theorem lw_p15 : lw_okq (⟨"FamineCode", "forgeKind", "(II)I"⟩, 9) := ⟨⟨by decide +kernel, by decide +kernel⟩, List.mem_of_getElem? (i := 17) (by decide +kernel), List.mem_of_getElem? (i := 755) (by decide +kernel), List.mem_of_getElem? (i := 756) (by decide +kernel)⟩
def lw_privs_1 : List (MethodName × Nat) := [(⟨"FamineCode", "refuse", "(I)I"⟩, 9), (⟨"FamineCode", "done", "(I)I"⟩, 9), (⟨"FamineCode", "isDistrict", "(I)Z"⟩, 9), (⟨"FamineCode", "isLine", "(I)Z"⟩, 9), (⟨"FamineCode", "canAskLoad", "(III)Z"⟩, 9), (⟨"FamineCode$Carts", "layWays", "(LFamineCode$Ways;)V"⟩, 7), (⟨"FamineCode$Carts", "layEdge", "(IIIJ)V"⟩, 7), (⟨"FamineCode$Carts", "layGiven", "(LFamineCode$Land;II)V"⟩, 7), (⟨"FamineCode$Carts", "findPath", "(I)Z"⟩, 7), (⟨"FamineCode$Carts", "comeNearer", "(I)Z"⟩, 7), (⟨"FamineCode$Carts", "sendAlong", "(II)I"⟩, 7), (⟨"FamineCode$Acts", "own", "(III)I"⟩, 6), (⟨"FamineCode$Acts", "from", "(IIII)I"⟩, 6), (⟨"FamineCode$Acts", "body", "(IIII)I"⟩, 6), (⟨"FamineCode$Acts", "keepInTrace", "(I)V"⟩, 6), (⟨"FamineCode", "forgeKind", "(II)I"⟩, 9)]
theorem lw_r1 : ∀ q ∈ lw_privs_1, lw_okq q := List.forall_mem_cons.mpr ⟨lw_p0, List.forall_mem_cons.mpr ⟨lw_p1, List.forall_mem_cons.mpr ⟨lw_p2, List.forall_mem_cons.mpr ⟨lw_p3, List.forall_mem_cons.mpr ⟨lw_p4, List.forall_mem_cons.mpr ⟨lw_p5, List.forall_mem_cons.mpr ⟨lw_p6, List.forall_mem_cons.mpr ⟨lw_p7, List.forall_mem_cons.mpr ⟨lw_p8, List.forall_mem_cons.mpr ⟨lw_p9, List.forall_mem_cons.mpr ⟨lw_p10, List.forall_mem_cons.mpr ⟨lw_p11, List.forall_mem_cons.mpr ⟨lw_p12, List.forall_mem_cons.mpr ⟨lw_p13, List.forall_mem_cons.mpr ⟨lw_p14, List.forall_mem_cons.mpr ⟨lw_p15, fun _ h => absurd h List.not_mem_nil⟩⟩⟩⟩⟩⟩⟩⟩⟩⟩⟩⟩⟩⟩⟩⟩
theorem lw_p16 : lw_okq (⟨"FamineCode", "forgeShort", "(II)I"⟩, 9) := ⟨⟨by decide +kernel, by decide +kernel⟩, List.mem_of_getElem? (i := 17) (by decide +kernel), List.mem_of_getElem? (i := 763) (by decide +kernel), List.mem_of_getElem? (i := 764) (by decide +kernel)⟩
theorem lw_p17 : lw_okq (⟨"FamineCode", "forgeCopy", "(II)I"⟩, 9) := ⟨⟨by decide +kernel, by decide +kernel⟩, List.mem_of_getElem? (i := 17) (by decide +kernel), List.mem_of_getElem? (i := 767) (by decide +kernel), List.mem_of_getElem? (i := 768) (by decide +kernel)⟩
theorem lw_p18 : lw_okq (⟨"FamineCode", "forgeRow", "(I)I"⟩, 9) := ⟨⟨by decide +kernel, by decide +kernel⟩, List.mem_of_getElem? (i := 17) (by decide +kernel), List.mem_of_getElem? (i := 775) (by decide +kernel), List.mem_of_getElem? (i := 776) (by decide +kernel)⟩
theorem lw_p19 : lw_okq (⟨"FamineCodeModel", "refused", "(I)I"⟩, 63) := ⟨⟨by decide +kernel, by decide +kernel⟩, List.mem_of_getElem? (i := 783) (by decide +kernel), List.mem_of_getElem? (i := 988) (by decide +kernel), List.mem_of_getElem? (i := 989) (by decide +kernel)⟩
theorem lw_p20 : lw_okq (⟨"FamineCodeModel", "done", "(I)I"⟩, 63) := ⟨⟨by decide +kernel, by decide +kernel⟩, List.mem_of_getElem? (i := 783) (by decide +kernel), List.mem_of_getElem? (i := 992) (by decide +kernel), List.mem_of_getElem? (i := 993) (by decide +kernel)⟩
theorem lw_p21 : lw_okq (⟨"FamineCodeModel", "isClass", "(II)Z"⟩, 63) := ⟨⟨by decide +kernel, by decide +kernel⟩, List.mem_of_getElem? (i := 783) (by decide +kernel), List.mem_of_getElem? (i := 1000) (by decide +kernel), List.mem_of_getElem? (i := 1001) (by decide +kernel)⟩
theorem lw_p22 : lw_okq (⟨"FamineCodeModel", "isDistrict", "(I)Z"⟩, 63) := ⟨⟨by decide +kernel, by decide +kernel⟩, List.mem_of_getElem? (i := 783) (by decide +kernel), List.mem_of_getElem? (i := 1004) (by decide +kernel), List.mem_of_getElem? (i := 1005) (by decide +kernel)⟩
theorem lw_p23 : lw_okq (⟨"FamineCodeModel", "tells", "(IIII)V"⟩, 63) := ⟨⟨by decide +kernel, by decide +kernel⟩, List.mem_of_getElem? (i := 783) (by decide +kernel), List.mem_of_getElem? (i := 1024) (by decide +kernel), List.mem_of_getElem? (i := 1025) (by decide +kernel)⟩
theorem lw_p24 : lw_okq (⟨"FamineCodeModel", "isLine", "(I)Z"⟩, 63) := ⟨⟨by decide +kernel, by decide +kernel⟩, List.mem_of_getElem? (i := 783) (by decide +kernel), List.mem_of_getElem? (i := 1036) (by decide +kernel), List.mem_of_getElem? (i := 1037) (by decide +kernel)⟩
theorem lw_p25 : lw_okq (⟨"FamineCodeModel", "signKnown", "(IIII)I"⟩, 63) := ⟨⟨by decide +kernel, by decide +kernel⟩, List.mem_of_getElem? (i := 783) (by decide +kernel), List.mem_of_getElem? (i := 1047) (by decide +kernel), List.mem_of_getElem? (i := 1048) (by decide +kernel)⟩
theorem lw_p26 : lw_okq (⟨"FamineCodeModel", "holdsAt", "(IIII)Z"⟩, 63) := ⟨⟨by decide +kernel, by decide +kernel⟩, List.mem_of_getElem? (i := 783) (by decide +kernel), List.mem_of_getElem? (i := 1055) (by decide +kernel), List.mem_of_getElem? (i := 1056) (by decide +kernel)⟩
theorem lw_p27 : lw_okq (⟨"FamineCodeModel", "tests", "(IIII)Z"⟩, 63) := ⟨⟨by decide +kernel, by decide +kernel⟩, List.mem_of_getElem? (i := 783) (by decide +kernel), List.mem_of_getElem? (i := 1059) (by decide +kernel), List.mem_of_getElem? (i := 1060) (by decide +kernel)⟩
theorem lw_p28 : lw_okq (⟨"FamineCodeModel", "bits", "(IIIII)I"⟩, 63) := ⟨⟨by decide +kernel, by decide +kernel⟩, List.mem_of_getElem? (i := 783) (by decide +kernel), List.mem_of_getElem? (i := 1067) (by decide +kernel), List.mem_of_getElem? (i := 1068) (by decide +kernel)⟩
theorem lw_p29 : lw_okq (⟨"FamineCodeModel", "isInForce", "(II)Z"⟩, 63) := ⟨⟨by decide +kernel, by decide +kernel⟩, List.mem_of_getElem? (i := 783) (by decide +kernel), List.mem_of_getElem? (i := 1071) (by decide +kernel), List.mem_of_getElem? (i := 1072) (by decide +kernel)⟩
theorem lw_p30 : lw_okq (⟨"FamineCodeModel", "lives", "(II)I"⟩, 63) := ⟨⟨by decide +kernel, by decide +kernel⟩, List.mem_of_getElem? (i := 783) (by decide +kernel), List.mem_of_getElem? (i := 1087) (by decide +kernel), List.mem_of_getElem? (i := 1088) (by decide +kernel)⟩
theorem lw_p31 : lw_okq (⟨"FamineCodeModel", "least", "(II)I"⟩, 63) := ⟨⟨by decide +kernel, by decide +kernel⟩, List.mem_of_getElem? (i := 783) (by decide +kernel), List.mem_of_getElem? (i := 1091) (by decide +kernel), List.mem_of_getElem? (i := 1092) (by decide +kernel)⟩
def lw_privs_2 : List (MethodName × Nat) := [(⟨"FamineCode", "forgeShort", "(II)I"⟩, 9), (⟨"FamineCode", "forgeCopy", "(II)I"⟩, 9), (⟨"FamineCode", "forgeRow", "(I)I"⟩, 9), (⟨"FamineCodeModel", "refused", "(I)I"⟩, 63), (⟨"FamineCodeModel", "done", "(I)I"⟩, 63), (⟨"FamineCodeModel", "isClass", "(II)Z"⟩, 63), (⟨"FamineCodeModel", "isDistrict", "(I)Z"⟩, 63), (⟨"FamineCodeModel", "tells", "(IIII)V"⟩, 63), (⟨"FamineCodeModel", "isLine", "(I)Z"⟩, 63), (⟨"FamineCodeModel", "signKnown", "(IIII)I"⟩, 63), (⟨"FamineCodeModel", "holdsAt", "(IIII)Z"⟩, 63), (⟨"FamineCodeModel", "tests", "(IIII)Z"⟩, 63), (⟨"FamineCodeModel", "bits", "(IIIII)I"⟩, 63), (⟨"FamineCodeModel", "isInForce", "(II)Z"⟩, 63), (⟨"FamineCodeModel", "lives", "(II)I"⟩, 63), (⟨"FamineCodeModel", "least", "(II)I"⟩, 63)]
theorem lw_r2 : ∀ q ∈ lw_privs_2, lw_okq q := List.forall_mem_cons.mpr ⟨lw_p16, List.forall_mem_cons.mpr ⟨lw_p17, List.forall_mem_cons.mpr ⟨lw_p18, List.forall_mem_cons.mpr ⟨lw_p19, List.forall_mem_cons.mpr ⟨lw_p20, List.forall_mem_cons.mpr ⟨lw_p21, List.forall_mem_cons.mpr ⟨lw_p22, List.forall_mem_cons.mpr ⟨lw_p23, List.forall_mem_cons.mpr ⟨lw_p24, List.forall_mem_cons.mpr ⟨lw_p25, List.forall_mem_cons.mpr ⟨lw_p26, List.forall_mem_cons.mpr ⟨lw_p27, List.forall_mem_cons.mpr ⟨lw_p28, List.forall_mem_cons.mpr ⟨lw_p29, List.forall_mem_cons.mpr ⟨lw_p30, List.forall_mem_cons.mpr ⟨lw_p31, fun _ h => absurd h List.not_mem_nil⟩⟩⟩⟩⟩⟩⟩⟩⟩⟩⟩⟩⟩⟩⟩⟩
theorem lw_p32 : lw_okq (⟨"FamineCodeModel", "pays", "(II)V"⟩, 63) := ⟨⟨by decide +kernel, by decide +kernel⟩, List.mem_of_getElem? (i := 783) (by decide +kernel), List.mem_of_getElem? (i := 1095) (by decide +kernel), List.mem_of_getElem? (i := 1096) (by decide +kernel)⟩
theorem lw_p33 : lw_okq (⟨"FamineCodeModel", "gets", "(II)V"⟩, 63) := ⟨⟨by decide +kernel, by decide +kernel⟩, List.mem_of_getElem? (i := 783) (by decide +kernel), List.mem_of_getElem? (i := 1099) (by decide +kernel), List.mem_of_getElem? (i := 1100) (by decide +kernel)⟩
theorem lw_p34 : lw_okq (⟨"FamineCodeModel", "lends", "(II)V"⟩, 63) := ⟨⟨by decide +kernel, by decide +kernel⟩, List.mem_of_getElem? (i := 783) (by decide +kernel), List.mem_of_getElem? (i := 1103) (by decide +kernel), List.mem_of_getElem? (i := 1104) (by decide +kernel)⟩
theorem lw_p35 : lw_okq (⟨"FamineCodeModel", "isLoad", "(III)Z"⟩, 63) := ⟨⟨by decide +kernel, by decide +kernel⟩, List.mem_of_getElem? (i := 783) (by decide +kernel), List.mem_of_getElem? (i := 1119) (by decide +kernel), List.mem_of_getElem? (i := 1120) (by decide +kernel)⟩
theorem lw_p36 : lw_okq (⟨"FamineCodeModel", "findLoad", "(III)I"⟩, 63) := ⟨⟨by decide +kernel, by decide +kernel⟩, List.mem_of_getElem? (i := 783) (by decide +kernel), List.mem_of_getElem? (i := 1123) (by decide +kernel), List.mem_of_getElem? (i := 1124) (by decide +kernel)⟩
theorem lw_p37 : lw_okq (⟨"FamineCodeModel", "flow", "(III)I"⟩, 63) := ⟨⟨by decide +kernel, by decide +kernel⟩, List.mem_of_getElem? (i := 783) (by decide +kernel), List.mem_of_getElem? (i := 1127) (by decide +kernel), List.mem_of_getElem? (i := 1128) (by decide +kernel)⟩
theorem lw_p38 : lw_okq (⟨"FamineCodeModel", "findFar", "(I)V"⟩, 63) := ⟨⟨by decide +kernel, by decide +kernel⟩, List.mem_of_getElem? (i := 783) (by decide +kernel), List.mem_of_getElem? (i := 1131) (by decide +kernel), List.mem_of_getElem? (i := 1132) (by decide +kernel)⟩
theorem lw_p39 : lw_okq (⟨"FamineCodeModel", "reaches", "(IIII)V"⟩, 63) := ⟨⟨by decide +kernel, by decide +kernel⟩, List.mem_of_getElem? (i := 783) (by decide +kernel), List.mem_of_getElem? (i := 1136) (by decide +kernel), List.mem_of_getElem? (i := 1137) (by decide +kernel)⟩
theorem lw_p40 : lw_okq (⟨"FamineCodeModel", "widest", "(II)I"⟩, 63) := ⟨⟨by decide +kernel, by decide +kernel⟩, List.mem_of_getElem? (i := 783) (by decide +kernel), List.mem_of_getElem? (i := 1140) (by decide +kernel), List.mem_of_getElem? (i := 1141) (by decide +kernel)⟩
theorem lw_p41 : lw_okq (⟨"FamineCodeModel", "goes", "(II)V"⟩, 63) := ⟨⟨by decide +kernel, by decide +kernel⟩, List.mem_of_getElem? (i := 783) (by decide +kernel), List.mem_of_getElem? (i := 1144) (by decide +kernel), List.mem_of_getElem? (i := 1145) (by decide +kernel)⟩
theorem lw_p42 : lw_okq (⟨"FamineCodeModel", "reachedBy", "(II)I"⟩, 63) := ⟨⟨by decide +kernel, by decide +kernel⟩, List.mem_of_getElem? (i := 783) (by decide +kernel), List.mem_of_getElem? (i := 1160) (by decide +kernel), List.mem_of_getElem? (i := 1161) (by decide +kernel)⟩
theorem lw_p43 : lw_okq (⟨"FamineCodeModel", "sumOf", "(IZ)I"⟩, 63) := ⟨⟨by decide +kernel, by decide +kernel⟩, List.mem_of_getElem? (i := 783) (by decide +kernel), List.mem_of_getElem? (i := 1164) (by decide +kernel), List.mem_of_getElem? (i := 1165) (by decide +kernel)⟩
theorem lw_p44 : lw_okq (⟨"FamineCodeModel", "keep", "(I)V"⟩, 63) := ⟨⟨by decide +kernel, by decide +kernel⟩, List.mem_of_getElem? (i := 783) (by decide +kernel), List.mem_of_getElem? (i := 1175) (by decide +kernel), List.mem_of_getElem? (i := 1176) (by decide +kernel)⟩
theorem lw_p45 : lw_okq (⟨"FamineCodeModel", "allDead", "()I"⟩, 63) := ⟨⟨by decide +kernel, by decide +kernel⟩, List.mem_of_getElem? (i := 783) (by decide +kernel), List.mem_of_getElem? (i := 1179) (by decide +kernel), List.mem_of_getElem? (i := 1180) (by decide +kernel)⟩
theorem lw_p46 : lw_okq (⟨"FamineCodeModel", "lay", "(I)V"⟩, 63) := ⟨⟨by decide +kernel, by decide +kernel⟩, List.mem_of_getElem? (i := 783) (by decide +kernel), List.mem_of_getElem? (i := 1183) (by decide +kernel), List.mem_of_getElem? (i := 1184) (by decide +kernel)⟩
theorem lw_p47 : lw_okq (⟨"FamineCodeModel", "openOf", "(II)I"⟩, 63) := ⟨⟨by decide +kernel, by decide +kernel⟩, List.mem_of_getElem? (i := 783) (by decide +kernel), List.mem_of_getElem? (i := 1211) (by decide +kernel), List.mem_of_getElem? (i := 1212) (by decide +kernel)⟩
def lw_privs_3 : List (MethodName × Nat) := [(⟨"FamineCodeModel", "pays", "(II)V"⟩, 63), (⟨"FamineCodeModel", "gets", "(II)V"⟩, 63), (⟨"FamineCodeModel", "lends", "(II)V"⟩, 63), (⟨"FamineCodeModel", "isLoad", "(III)Z"⟩, 63), (⟨"FamineCodeModel", "findLoad", "(III)I"⟩, 63), (⟨"FamineCodeModel", "flow", "(III)I"⟩, 63), (⟨"FamineCodeModel", "findFar", "(I)V"⟩, 63), (⟨"FamineCodeModel", "reaches", "(IIII)V"⟩, 63), (⟨"FamineCodeModel", "widest", "(II)I"⟩, 63), (⟨"FamineCodeModel", "goes", "(II)V"⟩, 63), (⟨"FamineCodeModel", "reachedBy", "(II)I"⟩, 63), (⟨"FamineCodeModel", "sumOf", "(IZ)I"⟩, 63), (⟨"FamineCodeModel", "keep", "(I)V"⟩, 63), (⟨"FamineCodeModel", "allDead", "()I"⟩, 63), (⟨"FamineCodeModel", "lay", "(I)V"⟩, 63), (⟨"FamineCodeModel", "openOf", "(II)I"⟩, 63)]
theorem lw_r3 : ∀ q ∈ lw_privs_3, lw_okq q := List.forall_mem_cons.mpr ⟨lw_p32, List.forall_mem_cons.mpr ⟨lw_p33, List.forall_mem_cons.mpr ⟨lw_p34, List.forall_mem_cons.mpr ⟨lw_p35, List.forall_mem_cons.mpr ⟨lw_p36, List.forall_mem_cons.mpr ⟨lw_p37, List.forall_mem_cons.mpr ⟨lw_p38, List.forall_mem_cons.mpr ⟨lw_p39, List.forall_mem_cons.mpr ⟨lw_p40, List.forall_mem_cons.mpr ⟨lw_p41, List.forall_mem_cons.mpr ⟨lw_p42, List.forall_mem_cons.mpr ⟨lw_p43, List.forall_mem_cons.mpr ⟨lw_p44, List.forall_mem_cons.mpr ⟨lw_p45, List.forall_mem_cons.mpr ⟨lw_p46, List.forall_mem_cons.mpr ⟨lw_p47, fun _ h => absurd h List.not_mem_nil⟩⟩⟩⟩⟩⟩⟩⟩⟩⟩⟩⟩⟩⟩⟩⟩
theorem lw_p48 : lw_okq (⟨"FamineCodeModel", "ran", "(I)V"⟩, 63) := ⟨⟨by decide +kernel, by decide +kernel⟩, List.mem_of_getElem? (i := 783) (by decide +kernel), List.mem_of_getElem? (i := 1215) (by decide +kernel), List.mem_of_getElem? (i := 1216) (by decide +kernel)⟩
theorem lw_p49 : lw_okq (⟨"FamineCodeModel", "open10", "(II)I"⟩, 63) := ⟨⟨by decide +kernel, by decide +kernel⟩, List.mem_of_getElem? (i := 783) (by decide +kernel), List.mem_of_getElem? (i := 1219) (by decide +kernel), List.mem_of_getElem? (i := 1220) (by decide +kernel)⟩
theorem lw_p50 : lw_okq (⟨"FamineCodeModel", "payOf", "(II)I"⟩, 63) := ⟨⟨by decide +kernel, by decide +kernel⟩, List.mem_of_getElem? (i := 783) (by decide +kernel), List.mem_of_getElem? (i := 1223) (by decide +kernel), List.mem_of_getElem? (i := 1224) (by decide +kernel)⟩
theorem lw_p51 : lw_okq (⟨"FamineCodeModel", "pay20", "(II)I"⟩, 63) := ⟨⟨by decide +kernel, by decide +kernel⟩, List.mem_of_getElem? (i := 783) (by decide +kernel), List.mem_of_getElem? (i := 1227) (by decide +kernel), List.mem_of_getElem? (i := 1228) (by decide +kernel)⟩
theorem lw_p52 : lw_okq (⟨"FamineCodeModel", "pay11", "(II)I"⟩, 63) := ⟨⟨by decide +kernel, by decide +kernel⟩, List.mem_of_getElem? (i := 783) (by decide +kernel), List.mem_of_getElem? (i := 1231) (by decide +kernel), List.mem_of_getElem? (i := 1232) (by decide +kernel)⟩
theorem lw_p53 : lw_okq (⟨"FamineCodeModel", "endOf", "(II)I"⟩, 63) := ⟨⟨by decide +kernel, by decide +kernel⟩, List.mem_of_getElem? (i := 783) (by decide +kernel), List.mem_of_getElem? (i := 1235) (by decide +kernel), List.mem_of_getElem? (i := 1236) (by decide +kernel)⟩
theorem lw_p54 : lw_okq (⟨"FamineCodeModel", "end12", "(II)I"⟩, 63) := ⟨⟨by decide +kernel, by decide +kernel⟩, List.mem_of_getElem? (i := 783) (by decide +kernel), List.mem_of_getElem? (i := 1239) (by decide +kernel), List.mem_of_getElem? (i := 1240) (by decide +kernel)⟩
theorem lw_p55 : lw_okq (⟨"FamineCodeModel", "end50", "(II)I"⟩, 63) := ⟨⟨by decide +kernel, by decide +kernel⟩, List.mem_of_getElem? (i := 783) (by decide +kernel), List.mem_of_getElem? (i := 1243) (by decide +kernel), List.mem_of_getElem? (i := 1244) (by decide +kernel)⟩
theorem lw_p56 : lw_okq (⟨"FamineCodeModel", "tellOf", "(II)I"⟩, 63) := ⟨⟨by decide +kernel, by decide +kernel⟩, List.mem_of_getElem? (i := 783) (by decide +kernel), List.mem_of_getElem? (i := 1247) (by decide +kernel), List.mem_of_getElem? (i := 1248) (by decide +kernel)⟩
theorem lw_p57 : lw_okq (⟨"FamineCodeModel", "tell13", "(II)I"⟩, 63) := ⟨⟨by decide +kernel, by decide +kernel⟩, List.mem_of_getElem? (i := 783) (by decide +kernel), List.mem_of_getElem? (i := 1251) (by decide +kernel), List.mem_of_getElem? (i := 1252) (by decide +kernel)⟩
theorem lw_p58 : lw_okq (⟨"FamineCodeModel", "isUnder", "(II)Z"⟩, 63) := ⟨⟨by decide +kernel, by decide +kernel⟩, List.mem_of_getElem? (i := 783) (by decide +kernel), List.mem_of_getElem? (i := 1278) (by decide +kernel), List.mem_of_getElem? (i := 1279) (by decide +kernel)⟩
theorem lw_p59 : lw_okq (⟨"FamineCodeModel", "shorts", "(II)I"⟩, 63) := ⟨⟨by decide +kernel, by decide +kernel⟩, List.mem_of_getElem? (i := 783) (by decide +kernel), List.mem_of_getElem? (i := 1282) (by decide +kernel), List.mem_of_getElem? (i := 1283) (by decide +kernel)⟩
theorem lw_p60 : lw_okq (⟨"FamineCodeModel", "copied", "(II)I"⟩, 63) := ⟨⟨by decide +kernel, by decide +kernel⟩, List.mem_of_getElem? (i := 783) (by decide +kernel), List.mem_of_getElem? (i := 1286) (by decide +kernel), List.mem_of_getElem? (i := 1287) (by decide +kernel)⟩
def lw_privs_4 : List (MethodName × Nat) := [(⟨"FamineCodeModel", "ran", "(I)V"⟩, 63), (⟨"FamineCodeModel", "open10", "(II)I"⟩, 63), (⟨"FamineCodeModel", "payOf", "(II)I"⟩, 63), (⟨"FamineCodeModel", "pay20", "(II)I"⟩, 63), (⟨"FamineCodeModel", "pay11", "(II)I"⟩, 63), (⟨"FamineCodeModel", "endOf", "(II)I"⟩, 63), (⟨"FamineCodeModel", "end12", "(II)I"⟩, 63), (⟨"FamineCodeModel", "end50", "(II)I"⟩, 63), (⟨"FamineCodeModel", "tellOf", "(II)I"⟩, 63), (⟨"FamineCodeModel", "tell13", "(II)I"⟩, 63), (⟨"FamineCodeModel", "isUnder", "(II)Z"⟩, 63), (⟨"FamineCodeModel", "shorts", "(II)I"⟩, 63), (⟨"FamineCodeModel", "copied", "(II)I"⟩, 63)]
theorem lw_r4 : ∀ q ∈ lw_privs_4, lw_okq q := List.forall_mem_cons.mpr ⟨lw_p48, List.forall_mem_cons.mpr ⟨lw_p49, List.forall_mem_cons.mpr ⟨lw_p50, List.forall_mem_cons.mpr ⟨lw_p51, List.forall_mem_cons.mpr ⟨lw_p52, List.forall_mem_cons.mpr ⟨lw_p53, List.forall_mem_cons.mpr ⟨lw_p54, List.forall_mem_cons.mpr ⟨lw_p55, List.forall_mem_cons.mpr ⟨lw_p56, List.forall_mem_cons.mpr ⟨lw_p57, List.forall_mem_cons.mpr ⟨lw_p58, List.forall_mem_cons.mpr ⟨lw_p59, List.forall_mem_cons.mpr ⟨lw_p60, fun _ h => absurd h List.not_mem_nil⟩⟩⟩⟩⟩⟩⟩⟩⟩⟩⟩⟩⟩
def lw_privs : List (MethodName × Nat) := lw_privs_1 ++ (lw_privs_2 ++ (lw_privs_3 ++ (lw_privs_4)))
def lw_tbl : List Cond := k2_sels lw_privs ++ tables_1
theorem lw_privs_ok : ∀ q ∈ lw_privs, lw_okq q := by
  show ∀ q ∈ lw_privs_1 ++ (lw_privs_2 ++ (lw_privs_3 ++ (lw_privs_4))), lw_okq q
  exact List.forall_mem_append.mpr ⟨lw_r1, List.forall_mem_append.mpr ⟨lw_r2, List.forall_mem_append.mpr ⟨lw_r3, lw_r4⟩⟩⟩
-- ===== end of PART A; then your names; then what follows =====
def RX0 : String := "FamineCode$Acts"
def TX0 : u_T := fun k => match k with
  | 0 => ("FamineCode$Acts", "trace", "[I", true)
  | 1 => ("FamineCode$Acts", "ran", "I", false)
  | 2 => ("FamineCode$Acts", "number", "I", false)
  | 3 => ("FamineCode$Acts", "kind", "I", false)
  | 4 => ("FamineCode$Acts", "least", "I", false)
  | _ => ("FamineCode$Acts", "span", "I", false)
def tyX0 : Nat → FieldType := fun k => match k with
  | 0 => .array .int
  | 1 => .int
  | 2 => .int
  | 3 => .int
  | 4 => .int
  | _ => .int
abbrev wsX00 : List Cond := u_ws RX0 TX0 6
theorem nmX0 : ∀ a, a < 6 → ∀ b, b < 6 → a ≠ b → (TX0 a).2.1 ≠ (TX0 b).2.1 := by decide +kernel
theorem tyX0_ok : ∀ k, k < 6 → parseFieldDescriptor (TX0 k).2.2.1 = some (tyX0 k) := by decide +kernel
def RX1 : String := "FamineCode$Carts"
def TX1 : u_T := fun k => match k with
  | 0 => ("FamineCode$Carts", "tons", "[I", true)
  | 1 => ("FamineCode$Carts", "tail", "[I", true)
  | 2 => ("FamineCode$Carts", "head", "[I", true)
  | 3 => ("FamineCode$Carts", "room", "[I", true)
  | 4 => ("FamineCode$Carts", "cost", "[J", true)
  | 5 => ("FamineCode$Carts", "distance", "[J", true)
  | _ => ("FamineCode$Carts", "edgeInto", "[I", true)
def tyX1 : Nat → FieldType := fun k => match k with
  | 0 => .array .int
  | 1 => .array .int
  | 2 => .array .int
  | 3 => .array .int
  | 4 => .array .long
  | 5 => .array .long
  | _ => .array .int
abbrev wsX10 : List Cond := u_ws RX1 TX1 7
theorem nmX1 : ∀ a, a < 7 → ∀ b, b < 7 → a ≠ b → (TX1 a).2.1 ≠ (TX1 b).2.1 := by decide +kernel
theorem tyX1_ok : ∀ k, k < 7 → parseFieldDescriptor (TX1 k).2.2.1 = some (tyX1 k) := by decide +kernel
def RX2 : String := "FamineCode$Code"
def TX2 : u_T := fun k => match k with
  | 0 => ("FamineCode$Code", "facts", "[I", true)
  | _ => ("FamineCode$Code", "count", "I", false)
def tyX2 : Nat → FieldType := fun k => match k with
  | 0 => .array .int
  | _ => .int
abbrev wsX20 : List Cond := u_ws RX2 TX2 2
theorem nmX2 : ∀ a, a < 2 → ∀ b, b < 2 → a ≠ b → (TX2 a).2.1 ≠ (TX2 b).2.1 := by decide +kernel
theorem tyX2_ok : ∀ k, k < 2 → parseFieldDescriptor (TX2 k).2.2.1 = some (tyX2 k) := by decide +kernel
def RX3 : String := "FamineCode$Land"
def TX3 : u_T := fun k => match k with
  | 0 => ("FamineCode$Land", "facts", "[I", true)
  | 1 => ("FamineCode$Land", "count", "I", false)
  | 2 => ("FamineCode$Land", "wage", "I", false)
  | 3 => ("FamineCode$Land", "paid", "I", false)
  | 4 => ("FamineCode$Land", "lent", "I", false)
  | _ => ("FamineCode$Land", "earned", "I", false)
def tyX3 : Nat → FieldType := fun k => match k with
  | 0 => .array .int
  | 1 => .int
  | 2 => .int
  | 3 => .int
  | 4 => .int
  | _ => .int
abbrev wsX30 : List Cond := u_ws RX3 TX3 6
theorem nmX3 : ∀ a, a < 6 → ∀ b, b < 6 → a ≠ b → (TX3 a).2.1 ≠ (TX3 b).2.1 := by decide +kernel
theorem tyX3_ok : ∀ k, k < 6 → parseFieldDescriptor (TX3 k).2.2.1 = some (tyX3 k) := by decide +kernel
def RX4 : String := "FamineCode$Sheets"
def TX4 : u_T := fun k => match k with
  | 0 => ("FamineCode$Sheets", "sort", "[I", true)
  | 1 => ("FamineCode$Sheets", "length", "[I", true)
  | _ => ("FamineCode$Sheets", "numbers", "[I", true)
def tyX4 : Nat → FieldType := fun k => match k with
  | 0 => .array .int
  | 1 => .array .int
  | _ => .array .int
abbrev wsX40 : List Cond := u_ws RX4 TX4 3
theorem nmX4 : ∀ a, a < 3 → ∀ b, b < 3 → a ≠ b → (TX4 a).2.1 ≠ (TX4 b).2.1 := by decide +kernel
theorem tyX4_ok : ∀ k, k < 3 → parseFieldDescriptor (TX4 k).2.2.1 = some (tyX4 k) := by decide +kernel
def RX5 : String := "FamineCode$Signs"
def TX5 : u_T := fun k => match k with
  | 0 => ("FamineCode$Signs", "number", "[I", true)
  | 1 => ("FamineCode$Signs", "toldAt", "[I", true)
  | 2 => ("FamineCode$Signs", "before", "[I", true)
  | 3 => ("FamineCode$Signs", "last", "[I", true)
  | _ => ("FamineCode$Signs", "count", "I", false)
def tyX5 : Nat → FieldType := fun k => match k with
  | 0 => .array .int
  | 1 => .array .int
  | 2 => .array .int
  | 3 => .array .int
  | _ => .int
abbrev wsX50 : List Cond := u_ws RX5 TX5 5
theorem nmX5 : ∀ a, a < 5 → ∀ b, b < 5 → a ≠ b → (TX5 a).2.1 ≠ (TX5 b).2.1 := by decide +kernel
theorem tyX5_ok : ∀ k, k < 5 → parseFieldDescriptor (TX5 k).2.2.1 = some (tyX5 k) := by decide +kernel
def RX6 : String := "FamineCode$State"
def TX6 : u_T := fun k => match k with
  | 0 => ("FamineCode$State", "land", "LFamineCode$Land;", true)
  | 1 => ("FamineCode$State", "signs", "LFamineCode$Signs;", true)
  | 2 => ("FamineCode$State", "code", "LFamineCode$Code;", true)
  | 3 => ("FamineCode$State", "ways", "LFamineCode$Ways;", true)
  | 4 => ("FamineCode$State", "works", "LFamineCode$Works;", true)
  | 5 => ("FamineCode$State", "opened", "[I", true)
  | _ => ("FamineCode$State", "week", "I", false)
def tyX6 : Nat → FieldType := fun k => match k with
  | 0 => .object "FamineCode$Land"
  | 1 => .object "FamineCode$Signs"
  | 2 => .object "FamineCode$Code"
  | 3 => .object "FamineCode$Ways"
  | 4 => .object "FamineCode$Works"
  | 5 => .array .int
  | _ => .int
abbrev wsX60 : List Cond := u_ws RX6 TX6 7
theorem nmX6 : ∀ a, a < 7 → ∀ b, b < 7 → a ≠ b → (TX6 a).2.1 ≠ (TX6 b).2.1 := by decide +kernel
theorem tyX6_ok : ∀ k, k < 7 → parseFieldDescriptor (TX6 k).2.2.1 = some (tyX6 k) := by decide +kernel
def RX7 : String := "FamineCode$Ways"
def TX7 : u_T := fun k => match k with
  | 0 => ("FamineCode$Ways", "from", "[I", true)
  | 1 => ("FamineCode$Ways", "to", "[I", true)
  | 2 => ("FamineCode$Ways", "cap", "[I", true)
  | 3 => ("FamineCode$Ways", "price", "[I", true)
  | _ => ("FamineCode$Ways", "count", "I", false)
def tyX7 : Nat → FieldType := fun k => match k with
  | 0 => .array .int
  | 1 => .array .int
  | 2 => .array .int
  | 3 => .array .int
  | _ => .int
abbrev wsX70 : List Cond := u_ws RX7 TX7 5
theorem nmX7 : ∀ a, a < 5 → ∀ b, b < 5 → a ≠ b → (TX7 a).2.1 ≠ (TX7 b).2.1 := by decide +kernel
theorem tyX7_ok : ∀ k, k < 5 → parseFieldDescriptor (TX7 k).2.2.1 = some (tyX7 k) := by decide +kernel
def RX8 : String := "FamineCode$Works"
def TX8 : u_T := fun k => match k with
  | 0 => ("FamineCode$Works", "in", "[I", true)
  | 1 => ("FamineCode$Works", "hands", "[I", true)
  | 2 => ("FamineCode$Works", "worth", "[I", true)
  | _ => ("FamineCode$Works", "count", "I", false)
def tyX8 : Nat → FieldType := fun k => match k with
  | 0 => .array .int
  | 1 => .array .int
  | 2 => .array .int
  | _ => .int
abbrev wsX80 : List Cond := u_ws RX8 TX8 4
theorem nmX8 : ∀ a, a < 4 → ∀ b, b < 4 → a ≠ b → (TX8 a).2.1 ≠ (TX8 b).2.1 := by decide +kernel
theorem tyX8_ok : ∀ k, k < 4 → parseFieldDescriptor (TX8 k).2.2.1 = some (tyX8 k) := by decide +kernel
def RX9 : String := "FamineCode"
def TX9 : u_T := fun k => match k with
  | 0 => ("FamineCode", "now", "LFamineCode$State;", true)
  | 1 => ("FamineCode", "kept", "LFamineCode$State;", true)
  | 2 => ("FamineCode", "dreamt", "LFamineCode$Land;", true)
  | 3 => ("FamineCode", "carts", "LFamineCode$Carts;", true)
  | 4 => ("FamineCode", "acts", "LFamineCode$Acts;", true)
  | 5 => ("FamineCode", "sheets", "LFamineCode$Sheets;", true)
  | 6 => ("FamineCode", "hasKept", "Z", false)
  | 7 => ("FamineCode", "backs", "I", false)
  | _ => ("FamineCode", "latest", "I", false)
def tyX9 : Nat → FieldType := fun k => match k with
  | 0 => .object "FamineCode$State"
  | 1 => .object "FamineCode$State"
  | 2 => .object "FamineCode$Land"
  | 3 => .object "FamineCode$Carts"
  | 4 => .object "FamineCode$Acts"
  | 5 => .object "FamineCode$Sheets"
  | 6 => .boolean
  | 7 => .int
  | _ => .int
abbrev wsX90 : List Cond := u_ws RX9 TX9 9
theorem nmX9 : ∀ a, a < 9 → ∀ b, b < 9 → a ≠ b → (TX9 a).2.1 ≠ (TX9 b).2.1 := by decide +kernel
theorem tyX9_ok : ∀ k, k < 9 → parseFieldDescriptor (TX9 k).2.2.1 = some (tyX9 k) := by decide +kernel
def RX10 : String := "FamineCodeModel"
def TX10 : u_T := fun k => match k with
  | 0 => ("FamineCodeModel", "status", "I", false)
  | 1 => ("FamineCodeModel", "districts", "I", false)
  | 2 => ("FamineCodeModel", "store", "[I", true)
  | 3 => ("FamineCodeModel", "price", "[I", true)
  | 4 => ("FamineCodeModel", "people", "[I", true)
  | 5 => ("FamineCodeModel", "coins", "[I", true)
  | 6 => ("FamineCodeModel", "debt", "[I", true)
  | 7 => ("FamineCodeModel", "lack", "[I", true)
  | 8 => ("FamineCodeModel", "dead", "[I", true)
  | 9 => ("FamineCodeModel", "was", "[I", true)
  | 10 => ("FamineCodeModel", "week", "I", false)
  | 11 => ("FamineCodeModel", "wage", "I", false)
  | 12 => ("FamineCodeModel", "paid", "I", false)
  | 13 => ("FamineCodeModel", "lent", "I", false)
  | 14 => ("FamineCodeModel", "earned", "I", false)
  | 15 => ("FamineCodeModel", "signs", "I", false)
  | 16 => ("FamineCodeModel", "signOf", "[I", true)
  | 17 => ("FamineCodeModel", "signSort", "[I", true)
  | 18 => ("FamineCodeModel", "signWeek", "[I", true)
  | 19 => ("FamineCodeModel", "signAt", "[I", true)
  | 20 => ("FamineCodeModel", "signNumber", "[I", true)
  | 21 => ("FamineCodeModel", "lines", "I", false)
  | 22 => ("FamineCodeModel", "kind", "[I", true)
  | 23 => ("FamineCodeModel", "sort", "[I", true)
  | 24 => ("FamineCodeModel", "span", "[I", true)
  | 25 => ("FamineCodeModel", "how", "[I", true)
  | 26 => ("FamineCodeModel", "bound", "[I", true)
  | 27 => ("FamineCodeModel", "unknown", "[Z", true)
  | 28 => ("FamineCodeModel", "hangs", "[I", true)
  | 29 => ("FamineCodeModel", "since", "[I", true)
  | 30 => ("FamineCodeModel", "ended", "[I", true)
  | 31 => ("FamineCodeModel", "ways", "I", false)
  | 32 => ("FamineCodeModel", "wayFrom", "[I", true)
  | 33 => ("FamineCodeModel", "wayTo", "[I", true)
  | 34 => ("FamineCodeModel", "wayCap", "[I", true)
  | 35 => ("FamineCodeModel", "wayPrice", "[I", true)
  | 36 => ("FamineCodeModel", "works", "I", false)
  | 37 => ("FamineCodeModel", "workIn", "[I", true)
  | 38 => ("FamineCodeModel", "workHands", "[I", true)
  | 39 => ("FamineCodeModel", "workWorth", "[I", true)
  | 40 => ("FamineCodeModel", "cap", "[I", true)
  | 41 => ("FamineCodeModel", "tons", "[I", true)
  | 42 => ("FamineCodeModel", "left", "[I", true)
  | 43 => ("FamineCodeModel", "far", "[I", true)
  | 44 => ("FamineCodeModel", "by", "[I", true)
  | 45 => ("FamineCodeModel", "keptStore", "[I", true)
  | 46 => ("FamineCodeModel", "keptPrice", "[I", true)
  | 47 => ("FamineCodeModel", "keptPeople", "[I", true)
  | 48 => ("FamineCodeModel", "keptCoins", "[I", true)
  | 49 => ("FamineCodeModel", "keptDebt", "[I", true)
  | 50 => ("FamineCodeModel", "keptLack", "[I", true)
  | 51 => ("FamineCodeModel", "keptDead", "[I", true)
  | 52 => ("FamineCodeModel", "keptSums", "[I", true)
  | 53 => ("FamineCodeModel", "hasImage", "Z", false)
  | 54 => ("FamineCodeModel", "backs", "I", false)
  | 55 => ("FamineCodeModel", "imageOf", "[I", true)
  | 56 => ("FamineCodeModel", "imageEnded", "[I", true)
  | 57 => ("FamineCodeModel", "imageWas", "[I", true)
  | 58 => ("FamineCodeModel", "trace", "[I", true)
  | 59 => ("FamineCodeModel", "traces", "I", false)
  | 60 => ("FamineCodeModel", "sheetSort", "[I", true)
  | 61 => ("FamineCodeModel", "sheetSize", "[I", true)
  | _ => ("FamineCodeModel", "cells", "[I", true)
def tyX10 : Nat → FieldType := fun k => match k with
  | 0 => .int
  | 1 => .int
  | 2 => .array .int
  | 3 => .array .int
  | 4 => .array .int
  | 5 => .array .int
  | 6 => .array .int
  | 7 => .array .int
  | 8 => .array .int
  | 9 => .array .int
  | 10 => .int
  | 11 => .int
  | 12 => .int
  | 13 => .int
  | 14 => .int
  | 15 => .int
  | 16 => .array .int
  | 17 => .array .int
  | 18 => .array .int
  | 19 => .array .int
  | 20 => .array .int
  | 21 => .int
  | 22 => .array .int
  | 23 => .array .int
  | 24 => .array .int
  | 25 => .array .int
  | 26 => .array .int
  | 27 => .array .boolean
  | 28 => .array .int
  | 29 => .array .int
  | 30 => .array .int
  | 31 => .int
  | 32 => .array .int
  | 33 => .array .int
  | 34 => .array .int
  | 35 => .array .int
  | 36 => .int
  | 37 => .array .int
  | 38 => .array .int
  | 39 => .array .int
  | 40 => .array .int
  | 41 => .array .int
  | 42 => .array .int
  | 43 => .array .int
  | 44 => .array .int
  | 45 => .array .int
  | 46 => .array .int
  | 47 => .array .int
  | 48 => .array .int
  | 49 => .array .int
  | 50 => .array .int
  | 51 => .array .int
  | 52 => .array .int
  | 53 => .boolean
  | 54 => .int
  | 55 => .array .int
  | 56 => .array .int
  | 57 => .array .int
  | 58 => .array .int
  | 59 => .int
  | 60 => .array .int
  | 61 => .array .int
  | _ => .array .int
abbrev wsX100 : List Cond := u_ws RX10 TX10 63
theorem nmX10 : ∀ a, a < 63 → ∀ b, b < 63 → a ≠ b → (TX10 a).2.1 ≠ (TX10 b).2.1 := by decide +kernel
theorem tyX10_ok : ∀ k, k < 63 → parseFieldDescriptor (TX10 k).2.2.1 = some (tyX10 k) := by decide +kernel
def RL : String := "FamineCodeLaw"
abbrev vwCl : List vw_C := [(RX0, TX0, 6), (RX1, TX1, 7), (RX2, TX2, 2), (RX3, TX3, 6), (RX4, TX4, 3), (RX5, TX5, 5), (RX6, TX6, 7), (RX7, TX7, 5), (RX8, TX8, 4), (RX9, TX9, 9), (RX10, TX10, 63)]
