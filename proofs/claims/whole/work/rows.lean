section
-- ===== PART A: goes FIRST, ahead of the names: the tables' words, and 'selects' of the private methods out of them =====
/-- a private method of a class that the tables say can be made, by its rows of tables_1 -/
def lw_okq (q : MethodName × Nat) : Prop := (q.1.cls ≠ "java/lang/invoke/MethodHandle" ∧ q.1.cls ≠ "java/lang/invoke/VarHandle") ∧ Cond.instantiable q.1.cls q.2 ∈ tables_1 ∧ Cond.privateMethod q.1 ∈ tables_1 ∧ Cond.instanceMethod q.1 ∈ tables_1
theorem lw_p0 : lw_okq (⟨"TenYards", "shelfAt", "(I)LTenYards$Shelf;"⟩, 11) := ⟨⟨by decide +kernel, by decide +kernel⟩, List.mem_of_getElem? (i := 28) (by decide +kernel), List.mem_of_getElem? (i := 311) (by decide +kernel), List.mem_of_getElem? (i := 312) (by decide +kernel)⟩
theorem lw_p1 : lw_okq (⟨"TenYards$Air", "scan", "(LTenYards$Shelf;I)I"⟩, 10) := ⟨⟨by decide +kernel, by decide +kernel⟩, List.mem_of_getElem? (i := 36) (by decide +kernel), List.mem_of_getElem? (i := 339) (by decide +kernel), List.mem_of_getElem? (i := 340) (by decide +kernel)⟩
theorem lw_p2 : lw_okq (⟨"TenYards$Air", "isAsTold", "(I)Z"⟩, 10) := ⟨⟨by decide +kernel, by decide +kernel⟩, List.mem_of_getElem? (i := 36) (by decide +kernel), List.mem_of_getElem? (i := 425) (by decide +kernel), List.mem_of_getElem? (i := 426) (by decide +kernel)⟩
theorem lw_p3 : lw_okq (⟨"TenYards$Air", "takeUp", "(I)V"⟩, 10) := ⟨⟨by decide +kernel, by decide +kernel⟩, List.mem_of_getElem? (i := 36) (by decide +kernel), List.mem_of_getElem? (i := 438) (by decide +kernel), List.mem_of_getElem? (i := 439) (by decide +kernel)⟩
theorem lw_p4 : lw_okq (⟨"TenYards", "landing", "(IIIII)I"⟩, 11) := ⟨⟨by decide +kernel, by decide +kernel⟩, List.mem_of_getElem? (i := 28) (by decide +kernel), List.mem_of_getElem? (i := 703) (by decide +kernel), List.mem_of_getElem? (i := 704) (by decide +kernel)⟩
theorem lw_p5 : lw_okq (⟨"TenYards$Fall", "plunge", "(II)V"⟩, 12) := ⟨⟨by decide +kernel, by decide +kernel⟩, List.mem_of_getElem? (i := 88) (by decide +kernel), List.mem_of_getElem? (i := 721) (by decide +kernel), List.mem_of_getElem? (i := 722) (by decide +kernel)⟩
theorem lw_p6 : lw_okq (⟨"TenYards$Fall", "puff", "()I"⟩, 12) := ⟨⟨by decide +kernel, by decide +kernel⟩, List.mem_of_getElem? (i := 88) (by decide +kernel), List.mem_of_getElem? (i := 726) (by decide +kernel), List.mem_of_getElem? (i := 727) (by decide +kernel)⟩
theorem lw_p7 : lw_okq (⟨"TenYards$Fall", "sink", "(II)V"⟩, 12) := ⟨⟨by decide +kernel, by decide +kernel⟩, List.mem_of_getElem? (i := 88) (by decide +kernel), List.mem_of_getElem? (i := 733) (by decide +kernel), List.mem_of_getElem? (i := 734) (by decide +kernel)⟩
theorem lw_p8 : lw_okq (⟨"TenYards", "refusalOfLoad", "(LTenYards$Shelf;)I"⟩, 11) := ⟨⟨by decide +kernel, by decide +kernel⟩, List.mem_of_getElem? (i := 28) (by decide +kernel), List.mem_of_getElem? (i := 783) (by decide +kernel), List.mem_of_getElem? (i := 784) (by decide +kernel)⟩
theorem lw_p9 : lw_okq (⟨"TenYards", "loadWithin", "(LTenYards$Shelf;IIII)I"⟩, 11) := ⟨⟨by decide +kernel, by decide +kernel⟩, List.mem_of_getElem? (i := 28) (by decide +kernel), List.mem_of_getElem? (i := 788) (by decide +kernel), List.mem_of_getElem? (i := 789) (by decide +kernel)⟩
theorem lw_p10 : lw_okq (⟨"TenYards", "tellOffs", "(LTenYards$Shelf;III)V"⟩, 11) := ⟨⟨by decide +kernel, by decide +kernel⟩, List.mem_of_getElem? (i := 28) (by decide +kernel), List.mem_of_getElem? (i := 802) (by decide +kernel), List.mem_of_getElem? (i := 803) (by decide +kernel)⟩
theorem lw_p11 : lw_okq (⟨"TenYards", "sumOfOrder", "(I)I"⟩, 11) := ⟨⟨by decide +kernel, by decide +kernel⟩, List.mem_of_getElem? (i := 28) (by decide +kernel), List.mem_of_getElem? (i := 807) (by decide +kernel), List.mem_of_getElem? (i := 808) (by decide +kernel)⟩
theorem lw_p12 : lw_okq (⟨"TenYards", "digitsOfOrder", "(I)I"⟩, 11) := ⟨⟨by decide +kernel, by decide +kernel⟩, List.mem_of_getElem? (i := 28) (by decide +kernel), List.mem_of_getElem? (i := 811) (by decide +kernel), List.mem_of_getElem? (i := 812) (by decide +kernel)⟩
theorem lw_p13 : lw_okq (⟨"TenYards", "nextOrder", "(I)Z"⟩, 11) := ⟨⟨by decide +kernel, by decide +kernel⟩, List.mem_of_getElem? (i := 28) (by decide +kernel), List.mem_of_getElem? (i := 815) (by decide +kernel), List.mem_of_getElem? (i := 816) (by decide +kernel)⟩
theorem lw_p14 : lw_okq (⟨"TenYards", "swapPlaces", "(II)V"⟩, 11) := ⟨⟨by decide +kernel, by decide +kernel⟩, List.mem_of_getElem? (i := 28) (by decide +kernel), List.mem_of_getElem? (i := 819) (by decide +kernel), List.mem_of_getElem? (i := 820) (by decide +kernel)⟩
theorem lw_p15 : lw_okq (⟨"TenYards", "goodBySeeds", "(LTenYards$Faller;IIIIII)I"⟩, 11) := ⟨⟨by decide +kernel, by decide +kernel⟩, List.mem_of_getElem? (i := 28) (by decide +kernel), List.mem_of_getElem? (i := 855) (by decide +kernel), List.mem_of_getElem? (i := 856) (by decide +kernel)⟩
def lw_privs_1 : List (MethodName × Nat) := [(⟨"TenYards", "shelfAt", "(I)LTenYards$Shelf;"⟩, 11), (⟨"TenYards$Air", "scan", "(LTenYards$Shelf;I)I"⟩, 10), (⟨"TenYards$Air", "isAsTold", "(I)Z"⟩, 10), (⟨"TenYards$Air", "takeUp", "(I)V"⟩, 10), (⟨"TenYards", "landing", "(IIIII)I"⟩, 11), (⟨"TenYards$Fall", "plunge", "(II)V"⟩, 12), (⟨"TenYards$Fall", "puff", "()I"⟩, 12), (⟨"TenYards$Fall", "sink", "(II)V"⟩, 12), (⟨"TenYards", "refusalOfLoad", "(LTenYards$Shelf;)I"⟩, 11), (⟨"TenYards", "loadWithin", "(LTenYards$Shelf;IIII)I"⟩, 11), (⟨"TenYards", "tellOffs", "(LTenYards$Shelf;III)V"⟩, 11), (⟨"TenYards", "sumOfOrder", "(I)I"⟩, 11), (⟨"TenYards", "digitsOfOrder", "(I)I"⟩, 11), (⟨"TenYards", "nextOrder", "(I)Z"⟩, 11), (⟨"TenYards", "swapPlaces", "(II)V"⟩, 11), (⟨"TenYards", "goodBySeeds", "(LTenYards$Faller;IIIIII)I"⟩, 11)]
theorem lw_r1 : ∀ q ∈ lw_privs_1, lw_okq q := List.forall_mem_cons.mpr ⟨lw_p0, List.forall_mem_cons.mpr ⟨lw_p1, List.forall_mem_cons.mpr ⟨lw_p2, List.forall_mem_cons.mpr ⟨lw_p3, List.forall_mem_cons.mpr ⟨lw_p4, List.forall_mem_cons.mpr ⟨lw_p5, List.forall_mem_cons.mpr ⟨lw_p6, List.forall_mem_cons.mpr ⟨lw_p7, List.forall_mem_cons.mpr ⟨lw_p8, List.forall_mem_cons.mpr ⟨lw_p9, List.forall_mem_cons.mpr ⟨lw_p10, List.forall_mem_cons.mpr ⟨lw_p11, List.forall_mem_cons.mpr ⟨lw_p12, List.forall_mem_cons.mpr ⟨lw_p13, List.forall_mem_cons.mpr ⟨lw_p14, List.forall_mem_cons.mpr ⟨lw_p15, fun _ h => absurd h List.not_mem_nil⟩⟩⟩⟩⟩⟩⟩⟩⟩⟩⟩⟩⟩⟩⟩⟩
theorem lw_p16 : lw_okq (⟨"java/lang/Throwable", "fillInStackTrace", "(I)Ljava/lang/Throwable;"⟩, 6) := ⟨⟨by decide +kernel, by decide +kernel⟩, List.mem_of_getElem? (i := 1009) (by decide +kernel), List.mem_of_getElem? (i := 1007) (by decide +kernel), List.mem_of_getElem? (i := 1008) (by decide +kernel)⟩
theorem lw_p17 : lw_okq (⟨"TenYardsModel", "wrongRow", "(II)I"⟩, 36) := ⟨⟨by decide +kernel, by decide +kernel⟩, List.mem_of_getElem? (i := 1095) (by decide +kernel), List.mem_of_getElem? (i := 1218) (by decide +kernel), List.mem_of_getElem? (i := 1219) (by decide +kernel)⟩
theorem lw_p18 : lw_okq (⟨"TenYardsModel", "readsStatement", "()Z"⟩, 36) := ⟨⟨by decide +kernel, by decide +kernel⟩, List.mem_of_getElem? (i := 1095) (by decide +kernel), List.mem_of_getElem? (i := 1229) (by decide +kernel), List.mem_of_getElem? (i := 1230) (by decide +kernel)⟩
theorem lw_p19 : lw_okq (⟨"TenYardsModel", "here", "()I"⟩, 36) := ⟨⟨by decide +kernel, by decide +kernel⟩, List.mem_of_getElem? (i := 1095) (by decide +kernel), List.mem_of_getElem? (i := 1233) (by decide +kernel), List.mem_of_getElem? (i := 1234) (by decide +kernel)⟩
theorem lw_p20 : lw_okq (⟨"TenYardsModel", "readsDigit", "()Z"⟩, 36) := ⟨⟨by decide +kernel, by decide +kernel⟩, List.mem_of_getElem? (i := 1095) (by decide +kernel), List.mem_of_getElem? (i := 1237) (by decide +kernel), List.mem_of_getElem? (i := 1238) (by decide +kernel)⟩
theorem lw_p21 : lw_okq (⟨"TenYardsModel", "isDigit", "()Z"⟩, 36) := ⟨⟨by decide +kernel, by decide +kernel⟩, List.mem_of_getElem? (i := 1095) (by decide +kernel), List.mem_of_getElem? (i := 1241) (by decide +kernel), List.mem_of_getElem? (i := 1242) (by decide +kernel)⟩
theorem lw_p22 : lw_okq (⟨"TenYardsModel", "readsSigned", "()Z"⟩, 36) := ⟨⟨by decide +kernel, by decide +kernel⟩, List.mem_of_getElem? (i := 1095) (by decide +kernel), List.mem_of_getElem? (i := 1247) (by decide +kernel), List.mem_of_getElem? (i := 1248) (by decide +kernel)⟩
theorem lw_p23 : lw_okq (⟨"TenYardsModel", "readsNumber", "()Z"⟩, 36) := ⟨⟨by decide +kernel, by decide +kernel⟩, List.mem_of_getElem? (i := 1095) (by decide +kernel), List.mem_of_getElem? (i := 1251) (by decide +kernel), List.mem_of_getElem? (i := 1252) (by decide +kernel)⟩
theorem lw_p24 : lw_okq (⟨"TenYardsModel", "takes", "(I)Z"⟩, 36) := ⟨⟨by decide +kernel, by decide +kernel⟩, List.mem_of_getElem? (i := 1095) (by decide +kernel), List.mem_of_getElem? (i := 1255) (by decide +kernel), List.mem_of_getElem? (i := 1256) (by decide +kernel)⟩
theorem lw_p25 : lw_okq (⟨"TenYardsModel", "comes", "(I)Z"⟩, 36) := ⟨⟨by decide +kernel, by decide +kernel⟩, List.mem_of_getElem? (i := 1095) (by decide +kernel), List.mem_of_getElem? (i := 1259) (by decide +kernel), List.mem_of_getElem? (i := 1260) (by decide +kernel)⟩
theorem lw_p26 : lw_okq (⟨"TenYardsModel", "north", "(I)I"⟩, 36) := ⟨⟨by decide +kernel, by decide +kernel⟩, List.mem_of_getElem? (i := 1095) (by decide +kernel), List.mem_of_getElem? (i := 1282) (by decide +kernel), List.mem_of_getElem? (i := 1283) (by decide +kernel)⟩
theorem lw_p27 : lw_okq (⟨"TenYardsModel", "east", "(I)I"⟩, 36) := ⟨⟨by decide +kernel, by decide +kernel⟩, List.mem_of_getElem? (i := 1095) (by decide +kernel), List.mem_of_getElem? (i := 1286) (by decide +kernel), List.mem_of_getElem? (i := 1287) (by decide +kernel)⟩
theorem lw_p28 : lw_okq (⟨"TenYardsModel", "isFaller", "(I)Z"⟩, 36) := ⟨⟨by decide +kernel, by decide +kernel⟩, List.mem_of_getElem? (i := 1095) (by decide +kernel), List.mem_of_getElem? (i := 1299) (by decide +kernel), List.mem_of_getElem? (i := 1300) (by decide +kernel)⟩
theorem lw_p29 : lw_okq (⟨"TenYardsModel", "of", "(II)I"⟩, 36) := ⟨⟨by decide +kernel, by decide +kernel⟩, List.mem_of_getElem? (i := 1095) (by decide +kernel), List.mem_of_getElem? (i := 1303) (by decide +kernel), List.mem_of_getElem? (i := 1304) (by decide +kernel)⟩
theorem lw_p30 : lw_okq (⟨"TenYardsModel", "steersBy", "(IIIIII)V"⟩, 36) := ⟨⟨by decide +kernel, by decide +kernel⟩, List.mem_of_getElem? (i := 1095) (by decide +kernel), List.mem_of_getElem? (i := 1334) (by decide +kernel), List.mem_of_getElem? (i := 1335) (by decide +kernel)⟩
theorem lw_p31 : lw_okq (⟨"TenYardsModel", "toward", "(ZIII)V"⟩, 36) := ⟨⟨by decide +kernel, by decide +kernel⟩, List.mem_of_getElem? (i := 1095) (by decide +kernel), List.mem_of_getElem? (i := 1341) (by decide +kernel), List.mem_of_getElem? (i := 1342) (by decide +kernel)⟩
def lw_privs_2 : List (MethodName × Nat) := [(⟨"java/lang/Throwable", "fillInStackTrace", "(I)Ljava/lang/Throwable;"⟩, 6), (⟨"TenYardsModel", "wrongRow", "(II)I"⟩, 36), (⟨"TenYardsModel", "readsStatement", "()Z"⟩, 36), (⟨"TenYardsModel", "here", "()I"⟩, 36), (⟨"TenYardsModel", "readsDigit", "()Z"⟩, 36), (⟨"TenYardsModel", "isDigit", "()Z"⟩, 36), (⟨"TenYardsModel", "readsSigned", "()Z"⟩, 36), (⟨"TenYardsModel", "readsNumber", "()Z"⟩, 36), (⟨"TenYardsModel", "takes", "(I)Z"⟩, 36), (⟨"TenYardsModel", "comes", "(I)Z"⟩, 36), (⟨"TenYardsModel", "north", "(I)I"⟩, 36), (⟨"TenYardsModel", "east", "(I)I"⟩, 36), (⟨"TenYardsModel", "isFaller", "(I)Z"⟩, 36), (⟨"TenYardsModel", "of", "(II)I"⟩, 36), (⟨"TenYardsModel", "steersBy", "(IIIIII)V"⟩, 36), (⟨"TenYardsModel", "toward", "(ZIII)V"⟩, 36)]
theorem lw_r2 : ∀ q ∈ lw_privs_2, lw_okq q := List.forall_mem_cons.mpr ⟨lw_p16, List.forall_mem_cons.mpr ⟨lw_p17, List.forall_mem_cons.mpr ⟨lw_p18, List.forall_mem_cons.mpr ⟨lw_p19, List.forall_mem_cons.mpr ⟨lw_p20, List.forall_mem_cons.mpr ⟨lw_p21, List.forall_mem_cons.mpr ⟨lw_p22, List.forall_mem_cons.mpr ⟨lw_p23, List.forall_mem_cons.mpr ⟨lw_p24, List.forall_mem_cons.mpr ⟨lw_p25, List.forall_mem_cons.mpr ⟨lw_p26, List.forall_mem_cons.mpr ⟨lw_p27, List.forall_mem_cons.mpr ⟨lw_p28, List.forall_mem_cons.mpr ⟨lw_p29, List.forall_mem_cons.mpr ⟨lw_p30, List.forall_mem_cons.mpr ⟨lw_p31, fun _ h => absurd h List.not_mem_nil⟩⟩⟩⟩⟩⟩⟩⟩⟩⟩⟩⟩⟩⟩⟩⟩
theorem lw_p32 : lw_okq (⟨"TenYardsModel", "isBarred", "(II)Z"⟩, 36) := ⟨⟨by decide +kernel, by decide +kernel⟩, List.mem_of_getElem? (i := 1095) (by decide +kernel), List.mem_of_getElem? (i := 1349) (by decide +kernel), List.mem_of_getElem? (i := 1350) (by decide +kernel)⟩
theorem lw_p33 : lw_okq (⟨"TenYardsModel", "falls", "(IIII)V"⟩, 36) := ⟨⟨by decide +kernel, by decide +kernel⟩, List.mem_of_getElem? (i := 1095) (by decide +kernel), List.mem_of_getElem? (i := 1358) (by decide +kernel), List.mem_of_getElem? (i := 1359) (by decide +kernel)⟩
theorem lw_p34 : lw_okq (⟨"TenYardsModel", "leavesOne", "(IIII)V"⟩, 36) := ⟨⟨by decide +kernel, by decide +kernel⟩, List.mem_of_getElem? (i := 1095) (by decide +kernel), List.mem_of_getElem? (i := 1362) (by decide +kernel), List.mem_of_getElem? (i := 1363) (by decide +kernel)⟩
theorem lw_p35 : lw_okq (⟨"TenYardsModel", "leaves", "(IIIIII)V"⟩, 36) := ⟨⟨by decide +kernel, by decide +kernel⟩, List.mem_of_getElem? (i := 1095) (by decide +kernel), List.mem_of_getElem? (i := 1366) (by decide +kernel), List.mem_of_getElem? (i := 1367) (by decide +kernel)⟩
theorem lw_p36 : lw_okq (⟨"TenYardsModel", "lands", "()V"⟩, 36) := ⟨⟨by decide +kernel, by decide +kernel⟩, List.mem_of_getElem? (i := 1095) (by decide +kernel), List.mem_of_getElem? (i := 1370) (by decide +kernel), List.mem_of_getElem? (i := 1371) (by decide +kernel)⟩
theorem lw_p37 : lw_okq (⟨"TenYardsModel", "hasLanded", "()Z"⟩, 36) := ⟨⟨by decide +kernel, by decide +kernel⟩, List.mem_of_getElem? (i := 1095) (by decide +kernel), List.mem_of_getElem? (i := 1374) (by decide +kernel), List.mem_of_getElem? (i := 1375) (by decide +kernel)⟩
theorem lw_p38 : lw_okq (⟨"TenYardsModel", "goesSecond", "()V"⟩, 36) := ⟨⟨by decide +kernel, by decide +kernel⟩, List.mem_of_getElem? (i := 1095) (by decide +kernel), List.mem_of_getElem? (i := 1378) (by decide +kernel), List.mem_of_getElem? (i := 1379) (by decide +kernel)⟩
theorem lw_p39 : lw_okq (⟨"TenYardsModel", "goesDown", "(I)V"⟩, 36) := ⟨⟨by decide +kernel, by decide +kernel⟩, List.mem_of_getElem? (i := 1095) (by decide +kernel), List.mem_of_getElem? (i := 1385) (by decide +kernel), List.mem_of_getElem? (i := 1386) (by decide +kernel)⟩
theorem lw_p40 : lw_okq (⟨"TenYardsModel", "drawn", "(I)I"⟩, 36) := ⟨⟨by decide +kernel, by decide +kernel⟩, List.mem_of_getElem? (i := 1095) (by decide +kernel), List.mem_of_getElem? (i := 1389) (by decide +kernel), List.mem_of_getElem? (i := 1390) (by decide +kernel)⟩
theorem lw_p41 : lw_okq (⟨"TenYardsModel", "holdsWay", "()V"⟩, 36) := ⟨⟨by decide +kernel, by decide +kernel⟩, List.mem_of_getElem? (i := 1095) (by decide +kernel), List.mem_of_getElem? (i := 1396) (by decide +kernel), List.mem_of_getElem? (i := 1397) (by decide +kernel)⟩
theorem lw_p42 : lw_okq (⟨"TenYardsModel", "toldOf", "(I)I"⟩, 36) := ⟨⟨by decide +kernel, by decide +kernel⟩, List.mem_of_getElem? (i := 1095) (by decide +kernel), List.mem_of_getElem? (i := 1400) (by decide +kernel), List.mem_of_getElem? (i := 1401) (by decide +kernel)⟩
theorem lw_p43 : lw_okq (⟨"TenYardsModel", "off", "()I"⟩, 36) := ⟨⟨by decide +kernel, by decide +kernel⟩, List.mem_of_getElem? (i := 1095) (by decide +kernel), List.mem_of_getElem? (i := 1404) (by decide +kernel), List.mem_of_getElem? (i := 1405) (by decide +kernel)⟩
theorem lw_p44 : lw_okq (⟨"TenYardsModel", "wrongLoad", "(I)I"⟩, 36) := ⟨⟨by decide +kernel, by decide +kernel⟩, List.mem_of_getElem? (i := 1095) (by decide +kernel), List.mem_of_getElem? (i := 1432) (by decide +kernel), List.mem_of_getElem? (i := 1433) (by decide +kernel)⟩
theorem lw_p45 : lw_okq (⟨"TenYardsModel", "loadOf", "(IIIII)I"⟩, 36) := ⟨⟨by decide +kernel, by decide +kernel⟩, List.mem_of_getElem? (i := 1095) (by decide +kernel), List.mem_of_getElem? (i := 1437) (by decide +kernel), List.mem_of_getElem? (i := 1438) (by decide +kernel)⟩
theorem lw_p46 : lw_okq (⟨"TenYardsModel", "lines", "(IIII)V"⟩, 36) := ⟨⟨by decide +kernel, by decide +kernel⟩, List.mem_of_getElem? (i := 1095) (by decide +kernel), List.mem_of_getElem? (i := 1450) (by decide +kernel), List.mem_of_getElem? (i := 1451) (by decide +kernel)⟩
theorem lw_p47 : lw_okq (⟨"TenYardsModel", "isWithin", "(IIIII)Z"⟩, 36) := ⟨⟨by decide +kernel, by decide +kernel⟩, List.mem_of_getElem? (i := 1095) (by decide +kernel), List.mem_of_getElem? (i := 1475) (by decide +kernel), List.mem_of_getElem? (i := 1476) (by decide +kernel)⟩
def lw_privs_3 : List (MethodName × Nat) := [(⟨"TenYardsModel", "isBarred", "(II)Z"⟩, 36), (⟨"TenYardsModel", "falls", "(IIII)V"⟩, 36), (⟨"TenYardsModel", "leavesOne", "(IIII)V"⟩, 36), (⟨"TenYardsModel", "leaves", "(IIIIII)V"⟩, 36), (⟨"TenYardsModel", "lands", "()V"⟩, 36), (⟨"TenYardsModel", "hasLanded", "()Z"⟩, 36), (⟨"TenYardsModel", "goesSecond", "()V"⟩, 36), (⟨"TenYardsModel", "goesDown", "(I)V"⟩, 36), (⟨"TenYardsModel", "drawn", "(I)I"⟩, 36), (⟨"TenYardsModel", "holdsWay", "()V"⟩, 36), (⟨"TenYardsModel", "toldOf", "(I)I"⟩, 36), (⟨"TenYardsModel", "off", "()I"⟩, 36), (⟨"TenYardsModel", "wrongLoad", "(I)I"⟩, 36), (⟨"TenYardsModel", "loadOf", "(IIIII)I"⟩, 36), (⟨"TenYardsModel", "lines", "(IIII)V"⟩, 36), (⟨"TenYardsModel", "isWithin", "(IIIII)Z"⟩, 36)]
theorem lw_r3 : ∀ q ∈ lw_privs_3, lw_okq q := List.forall_mem_cons.mpr ⟨lw_p32, List.forall_mem_cons.mpr ⟨lw_p33, List.forall_mem_cons.mpr ⟨lw_p34, List.forall_mem_cons.mpr ⟨lw_p35, List.forall_mem_cons.mpr ⟨lw_p36, List.forall_mem_cons.mpr ⟨lw_p37, List.forall_mem_cons.mpr ⟨lw_p38, List.forall_mem_cons.mpr ⟨lw_p39, List.forall_mem_cons.mpr ⟨lw_p40, List.forall_mem_cons.mpr ⟨lw_p41, List.forall_mem_cons.mpr ⟨lw_p42, List.forall_mem_cons.mpr ⟨lw_p43, List.forall_mem_cons.mpr ⟨lw_p44, List.forall_mem_cons.mpr ⟨lw_p45, List.forall_mem_cons.mpr ⟨lw_p46, List.forall_mem_cons.mpr ⟨lw_p47, fun _ h => absurd h List.not_mem_nil⟩⟩⟩⟩⟩⟩⟩⟩⟩⟩⟩⟩⟩⟩⟩⟩
theorem lw_p48 : lw_okq (⟨"TenYardsModel", "withinOf", "(IIIIII)I"⟩, 36) := ⟨⟨by decide +kernel, by decide +kernel⟩, List.mem_of_getElem? (i := 1095) (by decide +kernel), List.mem_of_getElem? (i := 1479) (by decide +kernel), List.mem_of_getElem? (i := 1480) (by decide +kernel)⟩
theorem lw_p49 : lw_okq (⟨"TenYardsModel", "leastOf", "(I)I"⟩, 36) := ⟨⟨by decide +kernel, by decide +kernel⟩, List.mem_of_getElem? (i := 1095) (by decide +kernel), List.mem_of_getElem? (i := 1509) (by decide +kernel), List.mem_of_getElem? (i := 1510) (by decide +kernel)⟩
theorem lw_p50 : lw_okq (⟨"TenYardsModel", "careOf", "(I)I"⟩, 36) := ⟨⟨by decide +kernel, by decide +kernel⟩, List.mem_of_getElem? (i := 1095) (by decide +kernel), List.mem_of_getElem? (i := 1530) (by decide +kernel), List.mem_of_getElem? (i := 1531) (by decide +kernel)⟩
theorem lw_p51 : lw_okq (⟨"TenYardsModel", "wrongKept", "(I)I"⟩, 36) := ⟨⟨by decide +kernel, by decide +kernel⟩, List.mem_of_getElem? (i := 1095) (by decide +kernel), List.mem_of_getElem? (i := 1554) (by decide +kernel), List.mem_of_getElem? (i := 1555) (by decide +kernel)⟩
def lw_privs_4 : List (MethodName × Nat) := [(⟨"TenYardsModel", "withinOf", "(IIIIII)I"⟩, 36), (⟨"TenYardsModel", "leastOf", "(I)I"⟩, 36), (⟨"TenYardsModel", "careOf", "(I)I"⟩, 36), (⟨"TenYardsModel", "wrongKept", "(I)I"⟩, 36)]
theorem lw_r4 : ∀ q ∈ lw_privs_4, lw_okq q := List.forall_mem_cons.mpr ⟨lw_p48, List.forall_mem_cons.mpr ⟨lw_p49, List.forall_mem_cons.mpr ⟨lw_p50, List.forall_mem_cons.mpr ⟨lw_p51, fun _ h => absurd h List.not_mem_nil⟩⟩⟩⟩
def lw_privs : List (MethodName × Nat) := lw_privs_1 ++ (lw_privs_2 ++ (lw_privs_3 ++ (lw_privs_4)))
def lw_tbl : List Cond := k2_sels lw_privs ++ tables_1
theorem lw_privs_ok : ∀ q ∈ lw_privs, lw_okq q := by
  show ∀ q ∈ lw_privs_1 ++ (lw_privs_2 ++ (lw_privs_3 ++ (lw_privs_4))), lw_okq q
  exact List.forall_mem_append.mpr ⟨lw_r1, List.forall_mem_append.mpr ⟨lw_r2, List.forall_mem_append.mpr ⟨lw_r3, lw_r4⟩⟩⟩
end
section
def RX0 : String := "TenYards$Air"
def TX0 : u_T := fun k => match k with
  | 0 => ("TenYards$Air", "east", "[I", true)
  | 1 => ("TenYards$Air", "north", "[I", true)
  | 2 => ("TenYards$Air", "gust", "I", false)
  | 3 => ("TenYards$Air", "plane", "I", false)
  | 4 => ("TenYards$Air", "exitHeight", "I", false)
  | 5 => ("TenYards$Air", "fallers", "[LTenYards$Faller;", true)
  | 6 => ("TenYards$Air", "fallerCount", "I", false)
  | 7 => ("TenYards$Air", "boxes", "[I", true)
  | 8 => ("TenYards$Air", "boxCount", "I", false)
  | _ => ("TenYards$Air", "told", "[I", true)
def tyX0 : Nat → FieldType := fun k => match k with
  | 0 => .array .int
  | 1 => .array .int
  | 2 => .int
  | 3 => .int
  | 4 => .int
  | 5 => .array (.object "TenYards$Faller")
  | 6 => .int
  | 7 => .array .int
  | 8 => .int
  | _ => .array .int
theorem nmX0 : ∀ a, a < 10 → ∀ b, b < 10 → a ≠ b → (TX0 a).2.1 ≠ (TX0 b).2.1 := by decide +kernel
theorem tyX0_ok : ∀ k, k < 10 → parseFieldDescriptor (TX0 k).2.2.1 = some (tyX0 k) := by decide +kernel
abbrev cX0_init : ByteArray := prog_2_method_1_code
def yX0_init : MethodName := ⟨RX0, "<init>", "()V"⟩
abbrev cX0_become : ByteArray := prog_2_method_2_code
def yX0_become : MethodName := ⟨RX0, "become", "(LTenYards$Air;)V"⟩
abbrev cX0_fallerAt : ByteArray := prog_2_method_3_code
def yX0_fallerAt : MethodName := ⟨RX0, "fallerAt", "(I)LTenYards$Faller;"⟩
abbrev cX0_bars : ByteArray := prog_2_method_4_code
def yX0_bars : MethodName := ⟨RX0, "bars", "(II)Z"⟩
abbrev cX0_windyLayers : ByteArray := prog_2_method_5_code
def yX0_windyLayers : MethodName := ⟨RX0, "windyLayers", "()I"⟩
abbrev cX0_readFrom : ByteArray := prog_2_method_6_code
def yX0_readFrom : MethodName := ⟨RX0, "readFrom", "(LTenYards$Shelf;)I"⟩
abbrev cX0_scan : ByteArray := prog_2_method_7_code
def yX0_scan : MethodName := ⟨RX0, "scan", "(LTenYards$Shelf;I)I"⟩
abbrev cX0_formOf : ByteArray := prog_2_method_8_code
def yX0_formOf : MethodName := ⟨RX0, "formOf", "(I)Ljava/lang/String;"⟩
abbrev cX0_isAsFormed : ByteArray := prog_2_method_9_code
def yX0_isAsFormed : MethodName := ⟨RX0, "isAsFormed", "(CI)Z"⟩
abbrev cX0_isDigit : ByteArray := prog_2_method_10_code
def yX0_isDigit : MethodName := ⟨RX0, "isDigit", "(I)Z"⟩
abbrev cX0_behindNumber : ByteArray := prog_2_method_11_code
def yX0_behindNumber : MethodName := ⟨RX0, "behindNumber", "(LTenYards$Shelf;I)I"⟩
abbrev cX0_numberBetween : ByteArray := prog_2_method_12_code
def yX0_numberBetween : MethodName := ⟨RX0, "numberBetween", "(LTenYards$Shelf;II)I"⟩
abbrev cX0_isAsTold : ByteArray := prog_2_method_13_code
def yX0_isAsTold : MethodName := ⟨RX0, "isAsTold", "(I)Z"⟩
abbrev cX0_takeUp : ByteArray := prog_2_method_14_code
def yX0_takeUp : MethodName := ⟨RX0, "takeUp", "(I)V"⟩
abbrev cX0_isWind : ByteArray := prog_2_method_15_code
def yX0_isWind : MethodName := ⟨RX0, "isWind", "(I)Z"⟩
abbrev cX0_isYards : ByteArray := prog_2_method_16_code
def yX0_isYards : MethodName := ⟨RX0, "isYards", "(I)Z"⟩
def RX1 : String := "TenYards$Crabbing"
def TX1 : u_T := fun k => match k with
  | 0 => ("TenYards$Faller", "number", "I", true)
  | 1 => ("TenYards$Faller", "figure", "I", true)
  | 2 => ("TenYards$Faller", "opens", "I", true)
  | 3 => ("TenYards$Faller", "kind", "I", false)
  | 4 => ("TenYards$Faller", "falls", "I", false)
  | 5 => ("TenYards$Faller", "sinks", "I", false)
  | 6 => ("TenYards$Faller", "pace", "I", false)
  | _ => ("TenYards$Faller", "worth", "I", false)
def tyX1 : Nat → FieldType := fun k => match k with
  | 0 => .int
  | 1 => .int
  | 2 => .int
  | 3 => .int
  | 4 => .int
  | 5 => .int
  | 6 => .int
  | _ => .int
theorem nmX1 : ∀ a, a < 8 → ∀ b, b < 8 → a ≠ b → (TX1 a).2.1 ≠ (TX1 b).2.1 := by decide +kernel
theorem tyX1_ok : ∀ k, k < 8 → parseFieldDescriptor (TX1 k).2.2.1 = some (tyX1 k) := by decide +kernel
abbrev cX1_init : ByteArray := prog_3_method_1_code
def yX1_init : MethodName := ⟨RX1, "<init>", "(III)V"⟩
abbrev cX1_steersAlongX : ByteArray := prog_3_method_2_code
def yX1_steersAlongX : MethodName := ⟨RX1, "steersAlongX", "(IIII)Z"⟩
abbrev cX1_fail : ByteArray := prog_3_method_3_code
def yX1_fail : MethodName := ⟨RX1, "fail", "()V"⟩
def RX2 : String := "TenYards$Downwind"
def TX2 : u_T := fun k => match k with
  | 0 => ("TenYards$Faller", "number", "I", true)
  | 1 => ("TenYards$Faller", "figure", "I", true)
  | 2 => ("TenYards$Faller", "opens", "I", true)
  | 3 => ("TenYards$Faller", "kind", "I", false)
  | 4 => ("TenYards$Faller", "falls", "I", false)
  | 5 => ("TenYards$Faller", "sinks", "I", false)
  | 6 => ("TenYards$Faller", "pace", "I", false)
  | _ => ("TenYards$Faller", "worth", "I", false)
def tyX2 : Nat → FieldType := fun k => match k with
  | 0 => .int
  | 1 => .int
  | 2 => .int
  | 3 => .int
  | 4 => .int
  | 5 => .int
  | 6 => .int
  | _ => .int
theorem nmX2 : ∀ a, a < 8 → ∀ b, b < 8 → a ≠ b → (TX2 a).2.1 ≠ (TX2 b).2.1 := by decide +kernel
theorem tyX2_ok : ∀ k, k < 8 → parseFieldDescriptor (TX2 k).2.2.1 = some (tyX2 k) := by decide +kernel
abbrev cX2_init : ByteArray := prog_4_method_1_code
def yX2_init : MethodName := ⟨RX2, "<init>", "(III)V"⟩
abbrev cX2_steersAlongX : ByteArray := prog_4_method_2_code
def yX2_steersAlongX : MethodName := ⟨RX2, "steersAlongX", "(IIII)Z"⟩
abbrev cX2_stepAlong : ByteArray := prog_4_method_3_code
def yX2_stepAlong : MethodName := ⟨RX2, "stepAlong", "(II)I"⟩
def RX3 : String := "TenYards$Fall"
def TX3 : u_T := fun k => match k with
  | 0 => ("TenYards$Fall", "over", "LTenYards$Air;", true)
  | 1 => ("TenYards$Fall", "faller", "LTenYards$Faller;", false)
  | 2 => ("TenYards$Fall", "x", "I", false)
  | 3 => ("TenYards$Fall", "y", "I", false)
  | 4 => ("TenYards$Fall", "height", "I", false)
  | 5 => ("TenYards$Fall", "seconds", "I", false)
  | 6 => ("TenYards$Fall", "gust", "I", false)
  | 7 => ("TenYards$Fall", "opens", "I", false)
  | 8 => ("TenYards$Fall", "seed", "I", false)
  | 9 => ("TenYards$Fall", "isWayHeld", "Z", false)
  | 10 => ("TenYards$Fall", "wayEast", "I", false)
  | _ => ("TenYards$Fall", "wayNorth", "I", false)
def tyX3 : Nat → FieldType := fun k => match k with
  | 0 => .object "TenYards$Air"
  | 1 => .object "TenYards$Faller"
  | 2 => .int
  | 3 => .int
  | 4 => .int
  | 5 => .int
  | 6 => .int
  | 7 => .int
  | 8 => .int
  | 9 => .boolean
  | 10 => .int
  | _ => .int
theorem nmX3 : ∀ a, a < 12 → ∀ b, b < 12 → a ≠ b → (TX3 a).2.1 ≠ (TX3 b).2.1 := by decide +kernel
theorem tyX3_ok : ∀ k, k < 12 → parseFieldDescriptor (TX3 k).2.2.1 = some (tyX3 k) := by decide +kernel
abbrev cX3_init : ByteArray := prog_5_method_1_code
def yX3_init : MethodName := ⟨RX3, "<init>", "(LTenYards$Air;)V"⟩
abbrev cX3_held : ByteArray := prog_5_method_2_code
def yX3_held : MethodName := ⟨RX3, "held", "(I)I"⟩
abbrev cX3_begin : ByteArray := prog_5_method_3_code
def yX3_begin : MethodName := ⟨RX3, "begin", "(LTenYards$Faller;III)V"⟩
abbrev cX3_holdWay : ByteArray := prog_5_method_4_code
def yX3_holdWay : MethodName := ⟨RX3, "holdWay", "(II)V"⟩
abbrev cX3_openAt : ByteArray := prog_5_method_5_code
def yX3_openAt : MethodName := ⟨RX3, "openAt", "(I)V"⟩
abbrev cX3_hasLanded : ByteArray := prog_5_method_6_code
def yX3_hasLanded : MethodName := ⟨RX3, "hasLanded", "()Z"⟩
abbrev cX3_land : ByteArray := prog_5_method_7_code
def yX3_land : MethodName := ⟨RX3, "land", "()V"⟩
abbrev cX3_offFrom : ByteArray := prog_5_method_8_code
def yX3_offFrom : MethodName := ⟨RX3, "offFrom", "(LTenYards$Faller;II)I"⟩
abbrev cX3_goOn : ByteArray := prog_5_method_9_code
def yX3_goOn : MethodName := ⟨RX3, "goOn", "(I)V"⟩
abbrev cX3_plunge : ByteArray := prog_5_method_10_code
def yX3_plunge : MethodName := ⟨RX3, "plunge", "(II)V"⟩
abbrev cX3_sink : ByteArray := prog_5_method_11_code
def yX3_sink : MethodName := ⟨RX3, "sink", "(II)V"⟩
abbrev cX3_puff : ByteArray := prog_5_method_12_code
def yX3_puff : MethodName := ⟨RX3, "puff", "()I"⟩
abbrev cX3_off : ByteArray := prog_5_method_13_code
def yX3_off : MethodName := ⟨RX3, "off", "()I"⟩
abbrev cX3_apartFrom : ByteArray := prog_5_method_14_code
def yX3_apartFrom : MethodName := ⟨RX3, "apartFrom", "(LTenYards$Fall;)I"⟩
def RX4 : String := "TenYards$Faller"
def TX4 : u_T := fun k => match k with
  | 0 => ("TenYards$Faller", "number", "I", true)
  | 1 => ("TenYards$Faller", "figure", "I", true)
  | 2 => ("TenYards$Faller", "opens", "I", true)
  | 3 => ("TenYards$Faller", "kind", "I", false)
  | 4 => ("TenYards$Faller", "falls", "I", false)
  | 5 => ("TenYards$Faller", "sinks", "I", false)
  | 6 => ("TenYards$Faller", "pace", "I", false)
  | _ => ("TenYards$Faller", "worth", "I", false)
def tyX4 : Nat → FieldType := fun k => match k with
  | 0 => .int
  | 1 => .int
  | 2 => .int
  | 3 => .int
  | 4 => .int
  | 5 => .int
  | 6 => .int
  | _ => .int
theorem nmX4 : ∀ a, a < 8 → ∀ b, b < 8 → a ≠ b → (TX4 a).2.1 ≠ (TX4 b).2.1 := by decide +kernel
theorem tyX4_ok : ∀ k, k < 8 → parseFieldDescriptor (TX4 k).2.2.1 = some (tyX4 k) := by decide +kernel
abbrev cX4_init : ByteArray := prog_6_method_1_code
def yX4_init : MethodName := ⟨RX4, "<init>", "(III)V"⟩
abbrev cX4_ofKind : ByteArray := prog_6_method_2_code
def yX4_ofKind : MethodName := ⟨RX4, "ofKind", "(IIII)LTenYards$Faller;"⟩
abbrev cX4_driftOf : ByteArray := prog_6_method_3_code
def yX4_driftOf : MethodName := ⟨RX4, "driftOf", "(I)I"⟩
abbrev cX4_isToSteer : ByteArray := prog_6_method_4_code
def yX4_isToSteer : MethodName := ⟨RX4, "isToSteer", "(II)Z"⟩
abbrev cX4_steersAlongX : ByteArray := prog_6_method_5_code
def yX4_steersAlongX : MethodName := ⟨RX4, "steersAlongX", "(IIII)Z"⟩
abbrev cX4_stepAlong : ByteArray := prog_6_method_6_code
def yX4_stepAlong : MethodName := ⟨RX4, "stepAlong", "(II)I"⟩
abbrev cX4_steerEast : ByteArray := prog_6_method_7_code
def yX4_steerEast : MethodName := ⟨RX4, "steerEast", "(IIII)I"⟩
abbrev cX4_steerNorth : ByteArray := prog_6_method_8_code
def yX4_steerNorth : MethodName := ⟨RX4, "steerNorth", "(IIII)I"⟩
abbrev cX4_fail : ByteArray := prog_6_method_9_code
def yX4_fail : MethodName := ⟨RX4, "fail", "()V"⟩
def RX5 : String := "TenYards$Heavy"
def TX5 : u_T := fun k => match k with
  | 0 => ("TenYards$Faller", "number", "I", true)
  | 1 => ("TenYards$Faller", "figure", "I", true)
  | 2 => ("TenYards$Faller", "opens", "I", true)
  | 3 => ("TenYards$Faller", "kind", "I", false)
  | 4 => ("TenYards$Faller", "falls", "I", false)
  | 5 => ("TenYards$Faller", "sinks", "I", false)
  | 6 => ("TenYards$Faller", "pace", "I", false)
  | _ => ("TenYards$Faller", "worth", "I", false)
def tyX5 : Nat → FieldType := fun k => match k with
  | 0 => .int
  | 1 => .int
  | 2 => .int
  | 3 => .int
  | 4 => .int
  | 5 => .int
  | 6 => .int
  | _ => .int
theorem nmX5 : ∀ a, a < 8 → ∀ b, b < 8 → a ≠ b → (TX5 a).2.1 ≠ (TX5 b).2.1 := by decide +kernel
theorem tyX5_ok : ∀ k, k < 8 → parseFieldDescriptor (TX5 k).2.2.1 = some (tyX5 k) := by decide +kernel
abbrev cX5_init : ByteArray := prog_7_method_1_code
def yX5_init : MethodName := ⟨RX5, "<init>", "(III)V"⟩
abbrev cX5_driftOf : ByteArray := prog_7_method_2_code
def yX5_driftOf : MethodName := ⟨RX5, "driftOf", "(I)I"⟩
def RX6 : String := "TenYards$Holding"
def TX6 : u_T := fun k => match k with
  | 0 => ("TenYards$Faller", "number", "I", true)
  | 1 => ("TenYards$Faller", "figure", "I", true)
  | 2 => ("TenYards$Faller", "opens", "I", true)
  | 3 => ("TenYards$Faller", "kind", "I", false)
  | 4 => ("TenYards$Faller", "falls", "I", false)
  | 5 => ("TenYards$Faller", "sinks", "I", false)
  | 6 => ("TenYards$Faller", "pace", "I", false)
  | _ => ("TenYards$Faller", "worth", "I", false)
def tyX6 : Nat → FieldType := fun k => match k with
  | 0 => .int
  | 1 => .int
  | 2 => .int
  | 3 => .int
  | 4 => .int
  | 5 => .int
  | 6 => .int
  | _ => .int
theorem nmX6 : ∀ a, a < 8 → ∀ b, b < 8 → a ≠ b → (TX6 a).2.1 ≠ (TX6 b).2.1 := by decide +kernel
theorem tyX6_ok : ∀ k, k < 8 → parseFieldDescriptor (TX6 k).2.2.1 = some (tyX6 k) := by decide +kernel
abbrev cX6_init : ByteArray := prog_8_method_1_code
def yX6_init : MethodName := ⟨RX6, "<init>", "(III)V"⟩
abbrev cX6_isToSteer : ByteArray := prog_8_method_2_code
def yX6_isToSteer : MethodName := ⟨RX6, "isToSteer", "(II)Z"⟩
def RX7 : String := "TenYards$Light"
def TX7 : u_T := fun k => match k with
  | 0 => ("TenYards$Faller", "number", "I", true)
  | 1 => ("TenYards$Faller", "figure", "I", true)
  | 2 => ("TenYards$Faller", "opens", "I", true)
  | 3 => ("TenYards$Faller", "kind", "I", false)
  | 4 => ("TenYards$Faller", "falls", "I", false)
  | 5 => ("TenYards$Faller", "sinks", "I", false)
  | 6 => ("TenYards$Faller", "pace", "I", false)
  | _ => ("TenYards$Faller", "worth", "I", false)
def tyX7 : Nat → FieldType := fun k => match k with
  | 0 => .int
  | 1 => .int
  | 2 => .int
  | 3 => .int
  | 4 => .int
  | 5 => .int
  | 6 => .int
  | _ => .int
theorem nmX7 : ∀ a, a < 8 → ∀ b, b < 8 → a ≠ b → (TX7 a).2.1 ≠ (TX7 b).2.1 := by decide +kernel
theorem tyX7_ok : ∀ k, k < 8 → parseFieldDescriptor (TX7 k).2.2.1 = some (tyX7 k) := by decide +kernel
abbrev cX7_init : ByteArray := prog_9_method_1_code
def yX7_init : MethodName := ⟨RX7, "<init>", "(III)V"⟩
abbrev cX7_driftOf : ByteArray := prog_9_method_2_code
def yX7_driftOf : MethodName := ⟨RX7, "driftOf", "(I)I"⟩
def RX8 : String := "TenYards$Papered"
def TX8 : u_T := fun k => match k with
  | 0 => ("TenYards$Faller", "number", "I", true)
  | 1 => ("TenYards$Faller", "figure", "I", true)
  | 2 => ("TenYards$Faller", "opens", "I", true)
  | 3 => ("TenYards$Faller", "kind", "I", false)
  | 4 => ("TenYards$Faller", "falls", "I", false)
  | 5 => ("TenYards$Faller", "sinks", "I", false)
  | 6 => ("TenYards$Faller", "pace", "I", false)
  | _ => ("TenYards$Faller", "worth", "I", false)
def tyX8 : Nat → FieldType := fun k => match k with
  | 0 => .int
  | 1 => .int
  | 2 => .int
  | 3 => .int
  | 4 => .int
  | 5 => .int
  | 6 => .int
  | _ => .int
theorem nmX8 : ∀ a, a < 8 → ∀ b, b < 8 → a ≠ b → (TX8 a).2.1 ≠ (TX8 b).2.1 := by decide +kernel
theorem tyX8_ok : ∀ k, k < 8 → parseFieldDescriptor (TX8 k).2.2.1 = some (tyX8 k) := by decide +kernel
abbrev cX8_init : ByteArray := prog_10_method_1_code
def yX8_init : MethodName := ⟨RX8, "<init>", "(III)V"⟩
abbrev cX8_isToSteer : ByteArray := prog_10_method_2_code
def yX8_isToSteer : MethodName := ⟨RX8, "isToSteer", "(II)Z"⟩
abbrev cX8_fail : ByteArray := prog_10_method_3_code
def yX8_fail : MethodName := ⟨RX8, "fail", "()V"⟩
def RX9 : String := "TenYards$Shelf"
def TX9 : u_T := fun k => match k with
  | 0 => ("TenYards$Shelf", "faller", "LTenYards$Faller;", false)
  | 1 => ("TenYards$Shelf", "isRow", "Z", false)
  | 2 => ("TenYards$Shelf", "sort", "I", false)
  | 3 => ("TenYards$Shelf", "size", "I", false)
  | _ => ("TenYards$Shelf", "elements", "[I", true)
def tyX9 : Nat → FieldType := fun k => match k with
  | 0 => .object "TenYards$Faller"
  | 1 => .boolean
  | 2 => .int
  | 3 => .int
  | _ => .array .int
theorem nmX9 : ∀ a, a < 5 → ∀ b, b < 5 → a ≠ b → (TX9 a).2.1 ≠ (TX9 b).2.1 := by decide +kernel
theorem tyX9_ok : ∀ k, k < 5 → parseFieldDescriptor (TX9 k).2.2.1 = some (tyX9 k) := by decide +kernel
abbrev cX9_init : ByteArray := prog_11_method_1_code
def yX9_init : MethodName := ⟨RX9, "<init>", "()V"⟩
abbrev cX9_isEmpty : ByteArray := prog_11_method_2_code
def yX9_isEmpty : MethodName := ⟨RX9, "isEmpty", "()Z"⟩
abbrev cX9_empty : ByteArray := prog_11_method_3_code
def yX9_empty : MethodName := ⟨RX9, "empty", "()V"⟩
abbrev cX9_hold : ByteArray := prog_11_method_4_code
def yX9_hold : MethodName := ⟨RX9, "hold", "(LTenYards$Faller;)V"⟩
abbrev cX9_holdRow : ByteArray := prog_11_method_5_code
def yX9_holdRow : MethodName := ⟨RX9, "holdRow", "(II)V"⟩
abbrev cX9_hasPlaces : ByteArray := prog_11_method_6_code
def yX9_hasPlaces : MethodName := ⟨RX9, "hasPlaces", "(II)Z"⟩
abbrev cX9_store : ByteArray := prog_11_method_7_code
def yX9_store : MethodName := ⟨RX9, "store", "(II)V"⟩
abbrev cX9_valueAt : ByteArray := prog_11_method_8_code
def yX9_valueAt : MethodName := ⟨RX9, "valueAt", "(I)I"⟩
abbrev cX9_leastOfSort : ByteArray := prog_11_method_9_code
def yX9_leastOfSort : MethodName := ⟨RX9, "leastOfSort", "()I"⟩
def RX10 : String := "TenYards$Stalled"
def TX10 : u_T := fun k => match k with
  | 0 => ("TenYards$Faller", "number", "I", true)
  | 1 => ("TenYards$Faller", "figure", "I", true)
  | 2 => ("TenYards$Faller", "opens", "I", true)
  | 3 => ("TenYards$Faller", "kind", "I", false)
  | 4 => ("TenYards$Faller", "falls", "I", false)
  | 5 => ("TenYards$Faller", "sinks", "I", false)
  | 6 => ("TenYards$Faller", "pace", "I", false)
  | _ => ("TenYards$Faller", "worth", "I", false)
def tyX10 : Nat → FieldType := fun k => match k with
  | 0 => .int
  | 1 => .int
  | 2 => .int
  | 3 => .int
  | 4 => .int
  | 5 => .int
  | 6 => .int
  | _ => .int
theorem nmX10 : ∀ a, a < 8 → ∀ b, b < 8 → a ≠ b → (TX10 a).2.1 ≠ (TX10 b).2.1 := by decide +kernel
theorem tyX10_ok : ∀ k, k < 8 → parseFieldDescriptor (TX10 k).2.2.1 = some (tyX10 k) := by decide +kernel
abbrev cX10_init : ByteArray := prog_12_method_1_code
def yX10_init : MethodName := ⟨RX10, "<init>", "(III)V"⟩
abbrev cX10_driftOf : ByteArray := prog_12_method_2_code
def yX10_driftOf : MethodName := ⟨RX10, "driftOf", "(I)I"⟩
abbrev cX10_isToSteer : ByteArray := prog_12_method_3_code
def yX10_isToSteer : MethodName := ⟨RX10, "isToSteer", "(II)Z"⟩
abbrev cX10_fail : ByteArray := prog_12_method_4_code
def yX10_fail : MethodName := ⟨RX10, "fail", "()V"⟩
def RX11 : String := "TenYards"
def TX11 : u_T := fun k => match k with
  | 0 => ("TenYards", "air", "LTenYards$Air;", true)
  | 1 => ("TenYards", "draft", "LTenYards$Air;", true)
  | 2 => ("TenYards", "pictured", "LTenYards$Air;", true)
  | 3 => ("TenYards", "isPictured", "Z", false)
  | 4 => ("TenYards", "fall", "LTenYards$Fall;", true)
  | 5 => ("TenYards", "laterFall", "LTenYards$Fall;", true)
  | 6 => ("TenYards", "shelves", "[LTenYards$Shelf;", true)
  | 7 => ("TenYards", "offs", "[I", true)
  | 8 => ("TenYards", "places", "[I", true)
  | 9 => ("TenYards", "crateX", "[I", true)
  | _ => ("TenYards", "crateY", "[I", true)
def tyX11 : Nat → FieldType := fun k => match k with
  | 0 => .object "TenYards$Air"
  | 1 => .object "TenYards$Air"
  | 2 => .object "TenYards$Air"
  | 3 => .boolean
  | 4 => .object "TenYards$Fall"
  | 5 => .object "TenYards$Fall"
  | 6 => .array (.object "TenYards$Shelf")
  | 7 => .array .int
  | 8 => .array .int
  | 9 => .array .int
  | _ => .array .int
theorem nmX11 : ∀ a, a < 11 → ∀ b, b < 11 → a ≠ b → (TX11 a).2.1 ≠ (TX11 b).2.1 := by decide +kernel
theorem tyX11_ok : ∀ k, k < 11 → parseFieldDescriptor (TX11 k).2.2.1 = some (tyX11 k) := by decide +kernel
abbrev cX11_init : ByteArray := prog_1_method_1_code
def yX11_init : MethodName := ⟨RX11, "<init>", "()V"⟩
abbrev cX11_air : ByteArray := prog_1_method_2_code
def yX11_air : MethodName := ⟨RX11, "air", "(I)I"⟩
abbrev cX11_wind : ByteArray := prog_1_method_3_code
def yX11_wind : MethodName := ⟨RX11, "wind", "(IZ)I"⟩
abbrev cX11_set : ByteArray := prog_1_method_4_code
def yX11_set : MethodName := ⟨RX11, "set", "(II)I"⟩
abbrev cX11_faller : ByteArray := prog_1_method_5_code
def yX11_faller : MethodName := ⟨RX11, "faller", "(II)I"⟩
abbrev cX11_drift : ByteArray := prog_1_method_6_code
def yX11_drift : MethodName := ⟨RX11, "drift", "(II)I"⟩
abbrev cX11_steers : ByteArray := prog_1_method_7_code
def yX11_steers : MethodName := ⟨RX11, "steers", "(IIIIZ)I"⟩
abbrev cX11_barred : ByteArray := prog_1_method_8_code
def yX11_barred : MethodName := ⟨RX11, "barred", "(II)I"⟩
abbrev cX11_fall : ByteArray := prog_1_method_9_code
def yX11_fall : MethodName := ⟨RX11, "fall", "(IIII)I"⟩
abbrev cX11_fallBy : ByteArray := prog_1_method_10_code
def yX11_fallBy : MethodName := ⟨RX11, "fallBy", "(IIIII)I"⟩
abbrev cX11_at : ByteArray := prog_1_method_11_code
def yX11_at : MethodName := ⟨RX11, "at", "(IIIII)I"⟩
abbrev cX11_mean : ByteArray := prog_1_method_12_code
def yX11_mean : MethodName := ⟨RX11, "mean", "(IIIZ)I"⟩
abbrev cX11_exit : ByteArray := prog_1_method_13_code
def yX11_exit : MethodName := ⟨RX11, "exit", "(II)I"⟩
abbrev cX11_load : ByteArray := prog_1_method_14_code
def yX11_load : MethodName := ⟨RX11, "load", "(IIIII)I"⟩
abbrev cX11_bestLoad : ByteArray := prog_1_method_15_code
def yX11_bestLoad : MethodName := ⟨RX11, "bestLoad", "(IIII)I"⟩
abbrev cX11_order : ByteArray := prog_1_method_16_code
def yX11_order : MethodName := ⟨RX11, "order", "(IIIII)I"⟩
abbrev cX11_cone : ByteArray := prog_1_method_17_code
def yX11_cone : MethodName := ⟨RX11, "cone", "(III)I"⟩
abbrev cX11_steering : ByteArray := prog_1_method_18_code
def yX11_steering : MethodName := ⟨RX11, "steering", "(IIII)I"⟩
abbrev cX11_last : ByteArray := prog_1_method_19_code
def yX11_last : MethodName := ⟨RX11, "last", "(I)I"⟩
abbrev cX11_safe : ByteArray := prog_1_method_20_code
def yX11_safe : MethodName := ⟨RX11, "safe", "(III)I"⟩
abbrev cX11_within : ByteArray := prog_1_method_21_code
def yX11_within : MethodName := ⟨RX11, "within", "(IIIIII)I"⟩
abbrev cX11_stop : ByteArray := prog_1_method_22_code
def yX11_stop : MethodName := ⟨RX11, "stop", "(IIIIII)I"⟩
abbrev cX11_knew : ByteArray := prog_1_method_23_code
def yX11_knew : MethodName := ⟨RX11, "knew", "(IIII)I"⟩
abbrev cX11_two : ByteArray := prog_1_method_24_code
def yX11_two : MethodName := ⟨RX11, "two", "(IIIII)I"⟩
abbrev cX11_habits : ByteArray := prog_1_method_25_code
def yX11_habits : MethodName := ⟨RX11, "habits", "(IIIIII)I"⟩
abbrev cX11_crates : ByteArray := prog_1_method_26_code
def yX11_crates : MethodName := ⟨RX11, "crates", "(IIII)I"⟩
abbrev cX11_judge : ByteArray := prog_1_method_27_code
def yX11_judge : MethodName := ⟨RX11, "judge", "(III)I"⟩
abbrev cX11_image : ByteArray := prog_1_method_28_code
def yX11_image : MethodName := ⟨RX11, "image", "()I"⟩
abbrev cX11_restore : ByteArray := prog_1_method_29_code
def yX11_restore : MethodName := ⟨RX11, "restore", "()I"⟩
abbrev cX11_count : ByteArray := prog_1_method_30_code
def yX11_count : MethodName := ⟨RX11, "count", "(I)I"⟩
abbrev cX11_keep : ByteArray := prog_1_method_31_code
def yX11_keep : MethodName := ⟨RX11, "keep", "(III)I"⟩
abbrev cX11_row : ByteArray := prog_1_method_32_code
def yX11_row : MethodName := ⟨RX11, "row", "(III)I"⟩
abbrev cX11_put : ByteArray := prog_1_method_33_code
def yX11_put : MethodName := ⟨RX11, "put", "(III)I"⟩
abbrev cX11_element : ByteArray := prog_1_method_34_code
def yX11_element : MethodName := ⟨RX11, "element", "(II)J"⟩
abbrev cX11_copy : ByteArray := prog_1_method_35_code
def yX11_copy : MethodName := ⟨RX11, "copy", "(IIIII)I"⟩
abbrev cX11_care : ByteArray := prog_1_method_36_code
def yX11_care : MethodName := ⟨RX11, "care", "(I)I"⟩
abbrev cX11_toss : ByteArray := prog_1_method_37_code
def yX11_toss : MethodName := ⟨RX11, "toss", "(I)I"⟩
abbrev cX11_isFrom : ByteArray := prog_1_method_38_code
def yX11_isFrom : MethodName := ⟨RX11, "isFrom", "(III)Z"⟩
abbrev cX11_isPlace : ByteArray := prog_1_method_39_code
def yX11_isPlace : MethodName := ⟨RX11, "isPlace", "(II)Z"⟩
abbrev cX11_isLayer : ByteArray := prog_1_method_40_code
def yX11_isLayer : MethodName := ⟨RX11, "isLayer", "(I)Z"⟩
abbrev cX11_isGap : ByteArray := prog_1_method_41_code
def yX11_isGap : MethodName := ⟨RX11, "isGap", "(I)Z"⟩
abbrev cX11_shelfAt : ByteArray := prog_1_method_42_code
def yX11_shelfAt : MethodName := ⟨RX11, "shelfAt", "(I)LTenYards$Shelf;"⟩
abbrev cX11_refusalOfRow : ByteArray := prog_1_method_43_code
def yX11_refusalOfRow : MethodName := ⟨RX11, "refusalOfRow", "(LTenYards$Shelf;)I"⟩
abbrev cX11_refusalOfBytes : ByteArray := prog_1_method_44_code
def yX11_refusalOfBytes : MethodName := ⟨RX11, "refusalOfBytes", "(LTenYards$Shelf;)I"⟩
abbrev cX11_refusalOfLoad : ByteArray := prog_1_method_45_code
def yX11_refusalOfLoad : MethodName := ⟨RX11, "refusalOfLoad", "(LTenYards$Shelf;)I"⟩
abbrev cX11_landing : ByteArray := prog_1_method_46_code
def yX11_landing : MethodName := ⟨RX11, "landing", "(IIIII)I"⟩
abbrev cX11_loadWithin : ByteArray := prog_1_method_47_code
def yX11_loadWithin : MethodName := ⟨RX11, "loadWithin", "(LTenYards$Shelf;IIII)I"⟩
abbrev cX11_goodBySeeds : ByteArray := prog_1_method_48_code
def yX11_goodBySeeds : MethodName := ⟨RX11, "goodBySeeds", "(LTenYards$Faller;IIIIII)I"⟩
abbrev cX11_tellOffs : ByteArray := prog_1_method_49_code
def yX11_tellOffs : MethodName := ⟨RX11, "tellOffs", "(LTenYards$Shelf;III)V"⟩
abbrev cX11_sumOfOrder : ByteArray := prog_1_method_50_code
def yX11_sumOfOrder : MethodName := ⟨RX11, "sumOfOrder", "(I)I"⟩
abbrev cX11_digitsOfOrder : ByteArray := prog_1_method_51_code
def yX11_digitsOfOrder : MethodName := ⟨RX11, "digitsOfOrder", "(I)I"⟩
abbrev cX11_nextOrder : ByteArray := prog_1_method_52_code
def yX11_nextOrder : MethodName := ⟨RX11, "nextOrder", "(I)Z"⟩
abbrev cX11_swapPlaces : ByteArray := prog_1_method_53_code
def yX11_swapPlaces : MethodName := ⟨RX11, "swapPlaces", "(II)V"⟩
abbrev cX11_eastOfWay : ByteArray := prog_1_method_54_code
def yX11_eastOfWay : MethodName := ⟨RX11, "eastOfWay", "(I)I"⟩
abbrev cX11_northOfWay : ByteArray := prog_1_method_55_code
def yX11_northOfWay : MethodName := ⟨RX11, "northOfWay", "(I)I"⟩
def RX12 : String := "TenYardsModel"
def TX12 : u_T := fun k => match k with
  | 0 => ("TenYardsModel", "s", "[I", true)
  | 1 => ("TenYardsModel", "image", "[I", true)
  | 2 => ("TenYardsModel", "read", "[I", true)
  | 3 => ("TenYardsModel", "kept", "[I", true)
  | 4 => ("TenYardsModel", "sort", "[I", true)
  | 5 => ("TenYardsModel", "size", "[I", true)
  | 6 => ("TenYardsModel", "element", "[I", true)
  | 7 => ("TenYardsModel", "keptCare", "[I", true)
  | 8 => ("TenYardsModel", "keptToss", "[I", true)
  | 9 => ("TenYardsModel", "hasImage", "Z", false)
  | 10 => ("TenYardsModel", "thrown", "I", false)
  | 11 => ("TenYardsModel", "pos", "I", false)
  | 12 => ("TenYardsModel", "base", "I", false)
  | 13 => ("TenYardsModel", "end", "I", false)
  | 14 => ("TenYardsModel", "told", "I", false)
  | 15 => ("TenYardsModel", "numbers", "[I", true)
  | 16 => ("TenYardsModel", "steerX", "I", false)
  | 17 => ("TenYardsModel", "steerY", "I", false)
  | 18 => ("TenYardsModel", "kind", "I", false)
  | 19 => ("TenYardsModel", "figure", "I", false)
  | 20 => ("TenYardsModel", "opens", "I", false)
  | 21 => ("TenYardsModel", "way", "I", false)
  | 22 => ("TenYardsModel", "atX", "I", false)
  | 23 => ("TenYardsModel", "atY", "I", false)
  | 24 => ("TenYardsModel", "height", "I", false)
  | 25 => ("TenYardsModel", "seconds", "I", false)
  | 26 => ("TenYardsModel", "seed", "I", false)
  | 27 => ("TenYardsModel", "openX", "I", false)
  | 28 => ("TenYardsModel", "openY", "I", false)
  | 29 => ("TenYardsModel", "openAt", "I", false)
  | 30 => ("TenYardsModel", "offs", "[I", true)
  | 31 => ("TenYardsModel", "line", "[I", true)
  | 32 => ("TenYardsModel", "bestDigits", "I", false)
  | 33 => ("TenYardsModel", "bestSum", "I", false)
  | 34 => ("TenYardsModel", "crateX", "[I", true)
  | _ => ("TenYardsModel", "crateY", "[I", true)
def tyX12 : Nat → FieldType := fun k => match k with
  | 0 => .array .int
  | 1 => .array .int
  | 2 => .array .int
  | 3 => .array .int
  | 4 => .array .int
  | 5 => .array .int
  | 6 => .array .int
  | 7 => .array .int
  | 8 => .array .int
  | 9 => .boolean
  | 10 => .int
  | 11 => .int
  | 12 => .int
  | 13 => .int
  | 14 => .int
  | 15 => .array .int
  | 16 => .int
  | 17 => .int
  | 18 => .int
  | 19 => .int
  | 20 => .int
  | 21 => .int
  | 22 => .int
  | 23 => .int
  | 24 => .int
  | 25 => .int
  | 26 => .int
  | 27 => .int
  | 28 => .int
  | 29 => .int
  | 30 => .array .int
  | 31 => .array .int
  | 32 => .int
  | 33 => .int
  | 34 => .array .int
  | _ => .array .int
theorem nmX12 : ∀ a, a < 36 → ∀ b, b < 36 → a ≠ b → (TX12 a).2.1 ≠ (TX12 b).2.1 := by decide +kernel
theorem tyX12_ok : ∀ k, k < 36 → parseFieldDescriptor (TX12 k).2.2.1 = some (tyX12 k) := by decide +kernel
abbrev cX12_init : ByteArray := prog_14_method_1_code
def yX12_init : MethodName := ⟨RX12, "<init>", "()V"⟩
abbrev cX12_thrown : ByteArray := prog_14_method_2_code
def yX12_thrown : MethodName := ⟨RX12, "thrown", "()I"⟩
abbrev cX12_isIn : ByteArray := prog_14_method_3_code
def yX12_isIn : MethodName := ⟨RX12, "isIn", "(JJJ)Z"⟩
abbrev cX12_isFaller : ByteArray := prog_14_method_4_code
def yX12_isFaller : MethodName := ⟨RX12, "isFaller", "(I)Z"⟩
abbrev cX12_isShelf : ByteArray := prog_14_method_5_code
def yX12_isShelf : MethodName := ⟨RX12, "isShelf", "(I)Z"⟩
abbrev cX12_isEdge : ByteArray := prog_14_method_6_code
def yX12_isEdge : MethodName := ⟨RX12, "isEdge", "(I)Z"⟩
abbrev cX12_of : ByteArray := prog_14_method_7_code
def yX12_of : MethodName := ⟨RX12, "of", "(II)I"⟩
abbrev cX12_amount : ByteArray := prog_14_method_8_code
def yX12_amount : MethodName := ⟨RX12, "amount", "(I)I"⟩
abbrev cX12_lesser : ByteArray := prog_14_method_9_code
def yX12_lesser : MethodName := ⟨RX12, "lesser", "(II)I"⟩
abbrev cX12_held : ByteArray := prog_14_method_10_code
def yX12_held : MethodName := ⟨RX12, "held", "(I)I"⟩
abbrev cX12_here : ByteArray := prog_14_method_11_code
def yX12_here : MethodName := ⟨RX12, "here", "()I"⟩
abbrev cX12_isDigit : ByteArray := prog_14_method_12_code
def yX12_isDigit : MethodName := ⟨RX12, "isDigit", "()Z"⟩
abbrev cX12_takes : ByteArray := prog_14_method_13_code
def yX12_takes : MethodName := ⟨RX12, "takes", "(I)Z"⟩
abbrev cX12_readsDigit : ByteArray := prog_14_method_14_code
def yX12_readsDigit : MethodName := ⟨RX12, "readsDigit", "()Z"⟩
abbrev cX12_readsNumber : ByteArray := prog_14_method_15_code
def yX12_readsNumber : MethodName := ⟨RX12, "readsNumber", "()Z"⟩
abbrev cX12_readsSigned : ByteArray := prog_14_method_16_code
def yX12_readsSigned : MethodName := ⟨RX12, "readsSigned", "()Z"⟩
abbrev cX12_readsStatement : ByteArray := prog_14_method_17_code
def yX12_readsStatement : MethodName := ⟨RX12, "readsStatement", "()Z"⟩
abbrev cX12_isValue : ByteArray := prog_14_method_18_code
def yX12_isValue : MethodName := ⟨RX12, "isValue", "(II)Z"⟩
abbrev cX12_comes : ByteArray := prog_14_method_19_code
def yX12_comes : MethodName := ⟨RX12, "comes", "(I)Z"⟩
abbrev cX12_wrongRow : ByteArray := prog_14_method_20_code
def yX12_wrongRow : MethodName := ⟨RX12, "wrongRow", "(II)I"⟩
abbrev cX12_air : ByteArray := prog_14_method_21_code
def yX12_air : MethodName := ⟨RX12, "air", "(I)I"⟩
abbrev cX12_east : ByteArray := prog_14_method_22_code
def yX12_east : MethodName := ⟨RX12, "east", "(I)I"⟩
abbrev cX12_north : ByteArray := prog_14_method_23_code
def yX12_north : MethodName := ⟨RX12, "north", "(I)I"⟩
abbrev cX12_wind : ByteArray := prog_14_method_24_code
def yX12_wind : MethodName := ⟨RX12, "wind", "(IZ)I"⟩
abbrev cX12_set : ByteArray := prog_14_method_25_code
def yX12_set : MethodName := ⟨RX12, "set", "(II)I"⟩
abbrev cX12_fallsBy : ByteArray := prog_14_method_26_code
def yX12_fallsBy : MethodName := ⟨RX12, "fallsBy", "(I)I"⟩
abbrev cX12_sinksBy : ByteArray := prog_14_method_27_code
def yX12_sinksBy : MethodName := ⟨RX12, "sinksBy", "(II)I"⟩
abbrev cX12_paceBy : ByteArray := prog_14_method_28_code
def yX12_paceBy : MethodName := ⟨RX12, "paceBy", "(II)I"⟩
abbrev cX12_driftBy : ByteArray := prog_14_method_29_code
def yX12_driftBy : MethodName := ⟨RX12, "driftBy", "(II)I"⟩
abbrev cX12_faller : ByteArray := prog_14_method_30_code
def yX12_faller : MethodName := ⟨RX12, "faller", "(II)I"⟩
abbrev cX12_drift : ByteArray := prog_14_method_31_code
def yX12_drift : MethodName := ⟨RX12, "drift", "(II)I"⟩
abbrev cX12_toward : ByteArray := prog_14_method_32_code
def yX12_toward : MethodName := ⟨RX12, "toward", "(ZIII)V"⟩
abbrev cX12_steersBy : ByteArray := prog_14_method_33_code
def yX12_steersBy : MethodName := ⟨RX12, "steersBy", "(IIIIII)V"⟩
abbrev cX12_steers : ByteArray := prog_14_method_34_code
def yX12_steers : MethodName := ⟨RX12, "steers", "(IIIIZ)I"⟩
abbrev cX12_isBarred : ByteArray := prog_14_method_35_code
def yX12_isBarred : MethodName := ⟨RX12, "isBarred", "(II)Z"⟩
abbrev cX12_barred : ByteArray := prog_14_method_36_code
def yX12_barred : MethodName := ⟨RX12, "barred", "(II)I"⟩
abbrev cX12_leaves : ByteArray := prog_14_method_37_code
def yX12_leaves : MethodName := ⟨RX12, "leaves", "(IIIIII)V"⟩
abbrev cX12_leavesOne : ByteArray := prog_14_method_38_code
def yX12_leavesOne : MethodName := ⟨RX12, "leavesOne", "(IIII)V"⟩
abbrev cX12_hasLanded : ByteArray := prog_14_method_39_code
def yX12_hasLanded : MethodName := ⟨RX12, "hasLanded", "()Z"⟩
abbrev cX12_goesDown : ByteArray := prog_14_method_40_code
def yX12_goesDown : MethodName := ⟨RX12, "goesDown", "(I)V"⟩
abbrev cX12_drawn : ByteArray := prog_14_method_41_code
def yX12_drawn : MethodName := ⟨RX12, "drawn", "(I)I"⟩
abbrev cX12_holdsWay : ByteArray := prog_14_method_42_code
def yX12_holdsWay : MethodName := ⟨RX12, "holdsWay", "()V"⟩
abbrev cX12_goesSecond : ByteArray := prog_14_method_43_code
def yX12_goesSecond : MethodName := ⟨RX12, "goesSecond", "()V"⟩
abbrev cX12_lands : ByteArray := prog_14_method_44_code
def yX12_lands : MethodName := ⟨RX12, "lands", "()V"⟩
abbrev cX12_off : ByteArray := prog_14_method_45_code
def yX12_off : MethodName := ⟨RX12, "off", "()I"⟩
abbrev cX12_falls : ByteArray := prog_14_method_46_code
def yX12_falls : MethodName := ⟨RX12, "falls", "(IIII)V"⟩
abbrev cX12_toldOf : ByteArray := prog_14_method_47_code
def yX12_toldOf : MethodName := ⟨RX12, "toldOf", "(I)I"⟩
abbrev cX12_fallBy : ByteArray := prog_14_method_48_code
def yX12_fallBy : MethodName := ⟨RX12, "fallBy", "(IIIII)I"⟩
abbrev cX12_fall : ByteArray := prog_14_method_49_code
def yX12_fall : MethodName := ⟨RX12, "fall", "(IIII)I"⟩
abbrev cX12_at : ByteArray := prog_14_method_50_code
def yX12_at : MethodName := ⟨RX12, "at", "(IIIII)I"⟩
abbrev cX12_mean : ByteArray := prog_14_method_51_code
def yX12_mean : MethodName := ⟨RX12, "mean", "(IIIZ)I"⟩
abbrev cX12_exit : ByteArray := prog_14_method_52_code
def yX12_exit : MethodName := ⟨RX12, "exit", "(II)I"⟩
abbrev cX12_wrongLoad : ByteArray := prog_14_method_53_code
def yX12_wrongLoad : MethodName := ⟨RX12, "wrongLoad", "(I)I"⟩
abbrev cX12_loadOf : ByteArray := prog_14_method_54_code
def yX12_loadOf : MethodName := ⟨RX12, "loadOf", "(IIIII)I"⟩
abbrev cX12_load : ByteArray := prog_14_method_55_code
def yX12_load : MethodName := ⟨RX12, "load", "(IIIII)I"⟩
abbrev cX12_bestLoad : ByteArray := prog_14_method_56_code
def yX12_bestLoad : MethodName := ⟨RX12, "bestLoad", "(IIII)I"⟩
abbrev cX12_lines : ByteArray := prog_14_method_57_code
def yX12_lines : MethodName := ⟨RX12, "lines", "(IIII)V"⟩
abbrev cX12_order : ByteArray := prog_14_method_58_code
def yX12_order : MethodName := ⟨RX12, "order", "(IIIII)I"⟩
abbrev cX12_cone : ByteArray := prog_14_method_59_code
def yX12_cone : MethodName := ⟨RX12, "cone", "(III)I"⟩
abbrev cX12_steering : ByteArray := prog_14_method_60_code
def yX12_steering : MethodName := ⟨RX12, "steering", "(IIII)I"⟩
abbrev cX12_last : ByteArray := prog_14_method_61_code
def yX12_last : MethodName := ⟨RX12, "last", "(I)I"⟩
abbrev cX12_safe : ByteArray := prog_14_method_62_code
def yX12_safe : MethodName := ⟨RX12, "safe", "(III)I"⟩
abbrev cX12_withinOf : ByteArray := prog_14_method_63_code
def yX12_withinOf : MethodName := ⟨RX12, "withinOf", "(IIIIII)I"⟩
abbrev cX12_isWithin : ByteArray := prog_14_method_64_code
def yX12_isWithin : MethodName := ⟨RX12, "isWithin", "(IIIII)Z"⟩
abbrev cX12_within : ByteArray := prog_14_method_65_code
def yX12_within : MethodName := ⟨RX12, "within", "(IIIIII)I"⟩
abbrev cX12_stop : ByteArray := prog_14_method_66_code
def yX12_stop : MethodName := ⟨RX12, "stop", "(IIIIII)I"⟩
abbrev cX12_knew : ByteArray := prog_14_method_67_code
def yX12_knew : MethodName := ⟨RX12, "knew", "(IIII)I"⟩
abbrev cX12_two : ByteArray := prog_14_method_68_code
def yX12_two : MethodName := ⟨RX12, "two", "(IIIII)I"⟩
abbrev cX12_habits : ByteArray := prog_14_method_69_code
def yX12_habits : MethodName := ⟨RX12, "habits", "(IIIIII)I"⟩
abbrev cX12_crates : ByteArray := prog_14_method_70_code
def yX12_crates : MethodName := ⟨RX12, "crates", "(IIII)I"⟩
abbrev cX12_leastOf : ByteArray := prog_14_method_71_code
def yX12_leastOf : MethodName := ⟨RX12, "leastOf", "(I)I"⟩
abbrev cX12_judge : ByteArray := prog_14_method_72_code
def yX12_judge : MethodName := ⟨RX12, "judge", "(III)I"⟩
abbrev cX12_image : ByteArray := prog_14_method_73_code
def yX12_image : MethodName := ⟨RX12, "image", "()I"⟩
abbrev cX12_restore : ByteArray := prog_14_method_74_code
def yX12_restore : MethodName := ⟨RX12, "restore", "()I"⟩
abbrev cX12_count : ByteArray := prog_14_method_75_code
def yX12_count : MethodName := ⟨RX12, "count", "(I)I"⟩
abbrev cX12_careOf : ByteArray := prog_14_method_76_code
def yX12_careOf : MethodName := ⟨RX12, "careOf", "(I)I"⟩
abbrev cX12_keep : ByteArray := prog_14_method_77_code
def yX12_keep : MethodName := ⟨RX12, "keep", "(III)I"⟩
abbrev cX12_row : ByteArray := prog_14_method_78_code
def yX12_row : MethodName := ⟨RX12, "row", "(III)I"⟩
abbrev cX12_put : ByteArray := prog_14_method_79_code
def yX12_put : MethodName := ⟨RX12, "put", "(III)I"⟩
abbrev cX12_element : ByteArray := prog_14_method_80_code
def yX12_element : MethodName := ⟨RX12, "element", "(II)J"⟩
abbrev cX12_copy : ByteArray := prog_14_method_81_code
def yX12_copy : MethodName := ⟨RX12, "copy", "(IIIII)I"⟩
abbrev cX12_wrongKept : ByteArray := prog_14_method_82_code
def yX12_wrongKept : MethodName := ⟨RX12, "wrongKept", "(I)I"⟩
abbrev cX12_care : ByteArray := prog_14_method_83_code
def yX12_care : MethodName := ⟨RX12, "care", "(I)I"⟩
abbrev cX12_toss : ByteArray := prog_14_method_84_code
def yX12_toss : MethodName := ⟨RX12, "toss", "(I)I"⟩
def RJ6 : String := "java/lang/Integer"
def TJ6 : u_T := fun k => match k with
  | _ => ("", "", "", false)
def tyJ6 : Nat → FieldType := fun k => match k with
  | _ => .int
theorem nmJ6 : ∀ a, a < 0 → ∀ b, b < 0 → a ≠ b → (TJ6 a).2.1 ≠ (TJ6 b).2.1 := by decide +kernel
theorem tyJ6_ok : ∀ k, k < 0 → parseFieldDescriptor (TJ6 k).2.2.1 = some (tyJ6 k) := by decide +kernel
abbrev cJ6_signum_0f7a4 : ByteArray := prog_18_method_56_code
def yJ6_signum_0f7a4 : MethodName := ⟨RJ6, "signum", "(I)I"⟩
def RJ9 : String := "java/lang/Math"
def TJ9 : u_T := fun k => match k with
  | _ => ("", "", "", false)
def tyJ9 : Nat → FieldType := fun k => match k with
  | _ => .int
theorem nmJ9 : ∀ a, a < 0 → ∀ b, b < 0 → a ≠ b → (TJ9 a).2.1 ≠ (TJ9 b).2.1 := by decide +kernel
theorem tyJ9_ok : ∀ k, k < 0 → parseFieldDescriptor (TJ9 k).2.2.1 = some (tyJ9 k) := by decide +kernel
abbrev cJ9_abs_0f7a4 : ByteArray := prog_19_method_59_code
def yJ9_abs_0f7a4 : MethodName := ⟨RJ9, "abs", "(I)I"⟩
abbrev cJ9_max_7cf53 : ByteArray := prog_19_method_65_code
def yJ9_max_7cf53 : MethodName := ⟨RJ9, "max", "(II)I"⟩
abbrev cJ9_min_7cf53 : ByteArray := prog_19_method_69_code
def yJ9_min_7cf53 : MethodName := ⟨RJ9, "min", "(II)I"⟩
def RJ0 : String := "java/lang/String"
def TJ0 : u_T := fun k => match k with
  | _ => ("", "", "", false)
def tyJ0 : Nat → FieldType := fun k => match k with
  | _ => .int
theorem nmJ0 : ∀ a, a < 0 → ∀ b, b < 0 → a ≠ b → (TJ0 a).2.1 ≠ (TJ0 b).2.1 := by decide +kernel
theorem tyJ0_ok : ∀ k, k < 0 → parseFieldDescriptor (TJ0 k).2.2.1 = some (tyJ0 k) := by decide +kernel
abbrev cJ0_length_8abf5 : ByteArray := prog_21_method_54_code
def yJ0_length_8abf5 : MethodName := ⟨RJ0, "length", "()I"⟩
abbrev cJ0_isEmpty_aae02 : ByteArray := prog_21_method_55_code
def yJ0_isEmpty_aae02 : MethodName := ⟨RJ0, "isEmpty", "()Z"⟩
abbrev cJ0_charAt_5068e : ByteArray := prog_21_method_56_code
def yJ0_charAt_5068e : MethodName := ⟨RJ0, "charAt", "(I)C"⟩
abbrev cJ0_coder_7d493 : ByteArray := prog_21_method_152_code
def yJ0_coder_7d493 : MethodName := ⟨RJ0, "coder", "()B"⟩
abbrev cJ0_isLatin1_aae02 : ByteArray := prog_21_method_154_code
def yJ0_isLatin1_aae02 : MethodName := ⟨RJ0, "isLatin1", "()Z"⟩
abbrev cJ0_checkIndex_df160 : ByteArray := prog_21_method_155_code
def yJ0_checkIndex_df160 : MethodName := ⟨RJ0, "checkIndex", "(II)V"⟩
def RJ1 : String := "java/lang/StringLatin1"
def TJ1 : u_T := fun k => match k with
  | _ => ("", "", "", false)
def tyJ1 : Nat → FieldType := fun k => match k with
  | _ => .int
theorem nmJ1 : ∀ a, a < 0 → ∀ b, b < 0 → a ≠ b → (TJ1 a).2.1 ≠ (TJ1 b).2.1 := by decide +kernel
theorem tyJ1_ok : ∀ k, k < 0 → parseFieldDescriptor (TJ1 k).2.2.1 = some (tyJ1 k) := by decide +kernel
abbrev cJ1_charAt_3b067 : ByteArray := prog_22_method_2_code
def yJ1_charAt_3b067 : MethodName := ⟨RJ1, "charAt", "([BI)C"⟩
def RJ2 : String := "java/lang/StringUTF16"
def TJ2 : u_T := fun k => match k with
  | _ => ("", "", "", false)
def tyJ2 : Nat → FieldType := fun k => match k with
  | _ => .int
theorem nmJ2 : ∀ a, a < 0 → ∀ b, b < 0 → a ≠ b → (TJ2 a).2.1 ≠ (TJ2 b).2.1 := by decide +kernel
theorem tyJ2_ok : ∀ k, k < 0 → parseFieldDescriptor (TJ2 k).2.2.1 = some (tyJ2 k) := by decide +kernel
abbrev cJ2_getChar_3b067 : ByteArray := prog_23_method_5_code
def yJ2_getChar_3b067 : MethodName := ⟨RJ2, "getChar", "([BI)C"⟩
abbrev cJ2_length_9d52b : ByteArray := prog_23_method_6_code
def yJ2_length_9d52b : MethodName := ⟨RJ2, "length", "([B)I"⟩
abbrev cJ2_charAt_3b067 : ByteArray := prog_23_method_83_code
def yJ2_charAt_3b067 : MethodName := ⟨RJ2, "charAt", "([BI)C"⟩
abbrev cJ2_checkIndex_2214a : ByteArray := prog_23_method_91_code
def yJ2_checkIndex_2214a : MethodName := ⟨RJ2, "checkIndex", "(I[B)V"⟩
def RJ10 : String := "java/lang/System"
def TJ10 : u_T := fun k => match k with
  | _ => ("", "", "", false)
def tyJ10 : Nat → FieldType := fun k => match k with
  | _ => .int
theorem nmJ10 : ∀ a, a < 0 → ∀ b, b < 0 → a ≠ b → (TJ10 a).2.1 ≠ (TJ10 b).2.1 := by decide +kernel
theorem tyJ10_ok : ∀ k, k < 0 → parseFieldDescriptor (TJ10 k).2.2.1 = some (tyJ10 k) := by decide +kernel
def RJ3 : String := "jdk/internal/util/Preconditions"
def TJ3 : u_T := fun k => match k with
  | _ => ("", "", "", false)
def tyJ3 : Nat → FieldType := fun k => match k with
  | _ => .int
theorem nmJ3 : ∀ a, a < 0 → ∀ b, b < 0 → a ≠ b → (TJ3 a).2.1 ≠ (TJ3 b).2.1 := by decide +kernel
theorem tyJ3_ok : ∀ k, k < 0 → parseFieldDescriptor (TJ3 k).2.2.1 = some (tyJ3 k) := by decide +kernel
abbrev cJ3_checkIndex_8e157 : ByteArray := prog_27_method_11_code
def yJ3_checkIndex_8e157 : MethodName := ⟨RJ3, "checkIndex", "(IILjava/util/function/BiFunction;)I"⟩
def RL : String := "TenYardsLaw"
abbrev cL_element : ByteArray := method_3_code
def yL_element : MethodName := ⟨RL, "element", "(LTenYards;II[J)I"⟩
abbrev cL_law : ByteArray := code
def yL_law : MethodName := ⟨RL, "law", "([I)Z"⟩
end
section
theorem dX0_init_0 : decode cX0_init 0 = .ok (.aload_n 0, 1) := by decide +kernel
theorem dX0_init_1 : decode cX0_init 1 = .ok (.invokespecial 3, 3) := by decide +kernel
theorem dX0_init_4 : decode cX0_init 4 = .ok (.aload_n 0, 1) := by decide +kernel
theorem dX0_init_5 : decode cX0_init 5 = .ok (.bipush 10, 2) := by decide +kernel
theorem dX0_init_7 : decode cX0_init 7 = .ok (.newarray .int, 2) := by decide +kernel
theorem dX0_init_9 : decode cX0_init 9 = .ok (.putfield 9, 3) := by decide +kernel
theorem dX0_init_12 : decode cX0_init 12 = .ok (.aload_n 0, 1) := by decide +kernel
theorem dX0_init_13 : decode cX0_init 13 = .ok (.bipush 10, 2) := by decide +kernel
theorem dX0_init_15 : decode cX0_init 15 = .ok (.newarray .int, 2) := by decide +kernel
theorem dX0_init_17 : decode cX0_init 17 = .ok (.putfield 15, 3) := by decide +kernel
theorem dX0_init_20 : decode cX0_init 20 = .ok (.aload_n 0, 1) := by decide +kernel
theorem dX0_init_21 : decode cX0_init 21 = .ok (.iconst 0, 1) := by decide +kernel
theorem dX0_init_22 : decode cX0_init 22 = .ok (.putfield 18, 3) := by decide +kernel
theorem dX0_init_25 : decode cX0_init 25 = .ok (.aload_n 0, 1) := by decide +kernel
theorem dX0_init_26 : decode cX0_init 26 = .ok (.sipush 400, 3) := by decide +kernel
theorem dX0_init_29 : decode cX0_init 29 = .ok (.putfield 22, 3) := by decide +kernel
theorem dX0_init_32 : decode cX0_init 32 = .ok (.aload_n 0, 1) := by decide +kernel
theorem dX0_init_33 : decode cX0_init 33 = .ok (.sipush 2000, 3) := by decide +kernel
theorem dX0_init_36 : decode cX0_init 36 = .ok (.putfield 25, 3) := by decide +kernel
theorem dX0_init_39 : decode cX0_init 39 = .ok (.aload_n 0, 1) := by decide +kernel
theorem dX0_init_40 : decode cX0_init 40 = .ok (.bipush 8, 2) := by decide +kernel
theorem dX0_init_42 : decode cX0_init 42 = .ok (.anewarray 28, 3) := by decide +kernel
theorem dX0_init_45 : decode cX0_init 45 = .ok (.putfield 30, 3) := by decide +kernel
theorem dX0_init_48 : decode cX0_init 48 = .ok (.aload_n 0, 1) := by decide +kernel
theorem dX0_init_49 : decode cX0_init 49 = .ok (.iconst 0, 1) := by decide +kernel
theorem dX0_init_50 : decode cX0_init 50 = .ok (.putfield 34, 3) := by decide +kernel
theorem dX0_init_53 : decode cX0_init 53 = .ok (.aload_n 0, 1) := by decide +kernel
theorem dX0_init_54 : decode cX0_init 54 = .ok (.bipush 24, 2) := by decide +kernel
theorem dX0_init_56 : decode cX0_init 56 = .ok (.newarray .int, 2) := by decide +kernel
theorem dX0_init_58 : decode cX0_init 58 = .ok (.putfield 37, 3) := by decide +kernel
theorem dX0_init_61 : decode cX0_init 61 = .ok (.aload_n 0, 1) := by decide +kernel
theorem dX0_init_62 : decode cX0_init 62 = .ok (.iconst 0, 1) := by decide +kernel
theorem dX0_init_63 : decode cX0_init 63 = .ok (.putfield 40, 3) := by decide +kernel
theorem dX0_init_66 : decode cX0_init 66 = .ok (.aload_n 0, 1) := by decide +kernel
theorem dX0_init_67 : decode cX0_init 67 = .ok (.iconst 4, 1) := by decide +kernel
theorem dX0_init_68 : decode cX0_init 68 = .ok (.newarray .int, 2) := by decide +kernel
theorem dX0_init_70 : decode cX0_init 70 = .ok (.putfield 43, 3) := by decide +kernel
theorem dX0_init_73 : decode cX0_init 73 = .ok (.return_, 1) := by decide +kernel
theorem dX0_become_0 : decode cX0_become 0 = .ok (.aload_n 1, 1) := by decide +kernel
theorem dX0_become_1 : decode cX0_become 1 = .ok (.getfield 9, 3) := by decide +kernel
theorem dX0_become_4 : decode cX0_become 4 = .ok (.iconst 0, 1) := by decide +kernel
theorem dX0_become_5 : decode cX0_become 5 = .ok (.aload_n 0, 1) := by decide +kernel
theorem dX0_become_6 : decode cX0_become 6 = .ok (.getfield 9, 3) := by decide +kernel
theorem dX0_become_9 : decode cX0_become 9 = .ok (.iconst 0, 1) := by decide +kernel
theorem dX0_become_10 : decode cX0_become 10 = .ok (.bipush 10, 2) := by decide +kernel
theorem dX0_become_12 : decode cX0_become 12 = .ok (.invokestatic 46, 3) := by decide +kernel
theorem dX0_become_15 : decode cX0_become 15 = .ok (.aload_n 1, 1) := by decide +kernel
theorem dX0_become_16 : decode cX0_become 16 = .ok (.getfield 15, 3) := by decide +kernel
theorem dX0_become_19 : decode cX0_become 19 = .ok (.iconst 0, 1) := by decide +kernel
theorem dX0_become_20 : decode cX0_become 20 = .ok (.aload_n 0, 1) := by decide +kernel
theorem dX0_become_21 : decode cX0_become 21 = .ok (.getfield 15, 3) := by decide +kernel
theorem dX0_become_24 : decode cX0_become 24 = .ok (.iconst 0, 1) := by decide +kernel
theorem dX0_become_25 : decode cX0_become 25 = .ok (.bipush 10, 2) := by decide +kernel
theorem dX0_become_27 : decode cX0_become 27 = .ok (.invokestatic 46, 3) := by decide +kernel
theorem dX0_become_30 : decode cX0_become 30 = .ok (.aload_n 1, 1) := by decide +kernel
theorem dX0_become_31 : decode cX0_become 31 = .ok (.getfield 37, 3) := by decide +kernel
theorem dX0_become_34 : decode cX0_become 34 = .ok (.iconst 0, 1) := by decide +kernel
theorem dX0_become_35 : decode cX0_become 35 = .ok (.aload_n 0, 1) := by decide +kernel
theorem dX0_become_36 : decode cX0_become 36 = .ok (.getfield 37, 3) := by decide +kernel
theorem dX0_become_39 : decode cX0_become 39 = .ok (.iconst 0, 1) := by decide +kernel
theorem dX0_become_40 : decode cX0_become 40 = .ok (.bipush 24, 2) := by decide +kernel
theorem dX0_become_42 : decode cX0_become 42 = .ok (.invokestatic 46, 3) := by decide +kernel
theorem dX0_become_45 : decode cX0_become 45 = .ok (.iconst 0, 1) := by decide +kernel
theorem dX0_become_46 : decode cX0_become 46 = .ok (.istore_n 2, 1) := by decide +kernel
theorem dX0_become_47 : decode cX0_become 47 = .ok (.iload_n 2, 1) := by decide +kernel
theorem dX0_become_48 : decode cX0_become 48 = .ok (.bipush 8, 2) := by decide +kernel
theorem dX0_become_50 : decode cX0_become 50 = .ok (.if_icmp .ge 21, 3) := by decide +kernel
theorem dX0_become_53 : decode cX0_become 53 = .ok (.aload_n 0, 1) := by decide +kernel
theorem dX0_become_54 : decode cX0_become 54 = .ok (.getfield 30, 3) := by decide +kernel
theorem dX0_become_57 : decode cX0_become 57 = .ok (.iload_n 2, 1) := by decide +kernel
theorem dX0_become_58 : decode cX0_become 58 = .ok (.aload_n 1, 1) := by decide +kernel
theorem dX0_become_59 : decode cX0_become 59 = .ok (.getfield 30, 3) := by decide +kernel
theorem dX0_become_62 : decode cX0_become 62 = .ok (.iload_n 2, 1) := by decide +kernel
theorem dX0_become_63 : decode cX0_become 63 = .ok (.aaload, 1) := by decide +kernel
theorem dX0_become_64 : decode cX0_become 64 = .ok (.aastore, 1) := by decide +kernel
theorem dX0_become_65 : decode cX0_become 65 = .ok (.iinc 2 1, 3) := by decide +kernel
theorem dX0_become_68 : decode cX0_become 68 = .ok (.goto (-21), 3) := by decide +kernel
theorem dX0_become_71 : decode cX0_become 71 = .ok (.aload_n 0, 1) := by decide +kernel
theorem dX0_become_72 : decode cX0_become 72 = .ok (.aload_n 1, 1) := by decide +kernel
theorem dX0_become_73 : decode cX0_become 73 = .ok (.getfield 18, 3) := by decide +kernel
theorem dX0_become_76 : decode cX0_become 76 = .ok (.putfield 18, 3) := by decide +kernel
theorem dX0_become_79 : decode cX0_become 79 = .ok (.aload_n 0, 1) := by decide +kernel
theorem dX0_become_80 : decode cX0_become 80 = .ok (.aload_n 1, 1) := by decide +kernel
theorem dX0_become_81 : decode cX0_become 81 = .ok (.getfield 22, 3) := by decide +kernel
theorem dX0_become_84 : decode cX0_become 84 = .ok (.putfield 22, 3) := by decide +kernel
theorem dX0_become_87 : decode cX0_become 87 = .ok (.aload_n 0, 1) := by decide +kernel
theorem dX0_become_88 : decode cX0_become 88 = .ok (.aload_n 1, 1) := by decide +kernel
theorem dX0_become_89 : decode cX0_become 89 = .ok (.getfield 25, 3) := by decide +kernel
theorem dX0_become_92 : decode cX0_become 92 = .ok (.putfield 25, 3) := by decide +kernel
theorem dX0_become_95 : decode cX0_become 95 = .ok (.aload_n 0, 1) := by decide +kernel
theorem dX0_become_96 : decode cX0_become 96 = .ok (.aload_n 1, 1) := by decide +kernel
theorem dX0_become_97 : decode cX0_become 97 = .ok (.getfield 34, 3) := by decide +kernel
theorem dX0_become_100 : decode cX0_become 100 = .ok (.putfield 34, 3) := by decide +kernel
theorem dX0_become_103 : decode cX0_become 103 = .ok (.aload_n 0, 1) := by decide +kernel
theorem dX0_become_104 : decode cX0_become 104 = .ok (.aload_n 1, 1) := by decide +kernel
theorem dX0_become_105 : decode cX0_become 105 = .ok (.getfield 40, 3) := by decide +kernel
theorem dX0_become_108 : decode cX0_become 108 = .ok (.putfield 40, 3) := by decide +kernel
theorem dX0_become_111 : decode cX0_become 111 = .ok (.return_, 1) := by decide +kernel
theorem dX0_fallerAt_0 : decode cX0_fallerAt 0 = .ok (.iload_n 1, 1) := by decide +kernel
theorem dX0_fallerAt_1 : decode cX0_fallerAt 1 = .ok (.ifCond .lt 26, 3) := by decide +kernel
theorem dX0_fallerAt_4 : decode cX0_fallerAt 4 = .ok (.iload_n 1, 1) := by decide +kernel
theorem dX0_fallerAt_5 : decode cX0_fallerAt 5 = .ok (.aload_n 0, 1) := by decide +kernel
theorem dX0_fallerAt_6 : decode cX0_fallerAt 6 = .ok (.getfield 34, 3) := by decide +kernel
theorem dX0_fallerAt_9 : decode cX0_fallerAt 9 = .ok (.if_icmp .ge 18, 3) := by decide +kernel
theorem dX0_fallerAt_12 : decode cX0_fallerAt 12 = .ok (.iload_n 1, 1) := by decide +kernel
theorem dX0_fallerAt_13 : decode cX0_fallerAt 13 = .ok (.bipush 8, 2) := by decide +kernel
theorem dX0_fallerAt_15 : decode cX0_fallerAt 15 = .ok (.if_icmp .ge 12, 3) := by decide +kernel
theorem dX0_fallerAt_18 : decode cX0_fallerAt 18 = .ok (.aload_n 0, 1) := by decide +kernel
theorem dX0_fallerAt_19 : decode cX0_fallerAt 19 = .ok (.getfield 30, 3) := by decide +kernel
theorem dX0_fallerAt_22 : decode cX0_fallerAt 22 = .ok (.iload_n 1, 1) := by decide +kernel
theorem dX0_fallerAt_23 : decode cX0_fallerAt 23 = .ok (.aaload, 1) := by decide +kernel
theorem dX0_fallerAt_24 : decode cX0_fallerAt 24 = .ok (.goto 4, 3) := by decide +kernel
theorem dX0_fallerAt_27 : decode cX0_fallerAt 27 = .ok (.aconst_null, 1) := by decide +kernel
theorem dX0_fallerAt_28 : decode cX0_fallerAt 28 = .ok (.areturn, 1) := by decide +kernel
theorem dX0_bars_0 : decode cX0_bars 0 = .ok (.iconst 0, 1) := by decide +kernel
theorem dX0_bars_1 : decode cX0_bars 1 = .ok (.istore_n 3, 1) := by decide +kernel
theorem dX0_bars_2 : decode cX0_bars 2 = .ok (.iload_n 3, 1) := by decide +kernel
theorem dX0_bars_3 : decode cX0_bars 3 = .ok (.aload_n 0, 1) := by decide +kernel
theorem dX0_bars_4 : decode cX0_bars 4 = .ok (.getfield 40, 3) := by decide +kernel
theorem dX0_bars_7 : decode cX0_bars 7 = .ok (.if_icmp .ge 69, 3) := by decide +kernel
theorem dX0_bars_10 : decode cX0_bars 10 = .ok (.iload_n 3, 1) := by decide +kernel
theorem dX0_bars_11 : decode cX0_bars 11 = .ok (.bipush 6, 2) := by decide +kernel
theorem dX0_bars_13 : decode cX0_bars 13 = .ok (.if_icmp .ge 63, 3) := by decide +kernel
theorem dX0_bars_16 : decode cX0_bars 16 = .ok (.aload_n 0, 1) := by decide +kernel
theorem dX0_bars_17 : decode cX0_bars 17 = .ok (.getfield 37, 3) := by decide +kernel
theorem dX0_bars_20 : decode cX0_bars 20 = .ok (.iconst 4, 1) := by decide +kernel
theorem dX0_bars_21 : decode cX0_bars 21 = .ok (.iload_n 3, 1) := by decide +kernel
theorem dX0_bars_22 : decode cX0_bars 22 = .ok (.imul, 1) := by decide +kernel
theorem dX0_bars_23 : decode cX0_bars 23 = .ok (.iaload, 1) := by decide +kernel
theorem dX0_bars_24 : decode cX0_bars 24 = .ok (.iload_n 1, 1) := by decide +kernel
theorem dX0_bars_25 : decode cX0_bars 25 = .ok (.aload_n 0, 1) := by decide +kernel
theorem dX0_bars_26 : decode cX0_bars 26 = .ok (.getfield 37, 3) := by decide +kernel
theorem dX0_bars_29 : decode cX0_bars 29 = .ok (.iconst 4, 1) := by decide +kernel
theorem dX0_bars_30 : decode cX0_bars 30 = .ok (.iload_n 3, 1) := by decide +kernel
theorem dX0_bars_31 : decode cX0_bars 31 = .ok (.imul, 1) := by decide +kernel
theorem dX0_bars_32 : decode cX0_bars 32 = .ok (.iconst 2, 1) := by decide +kernel
theorem dX0_bars_33 : decode cX0_bars 33 = .ok (.iadd, 1) := by decide +kernel
theorem dX0_bars_34 : decode cX0_bars 34 = .ok (.iaload, 1) := by decide +kernel
theorem dX0_bars_35 : decode cX0_bars 35 = .ok (.invokestatic 52, 3) := by decide +kernel
theorem dX0_bars_38 : decode cX0_bars 38 = .ok (.ifCond .eq 32, 3) := by decide +kernel
theorem dX0_bars_41 : decode cX0_bars 41 = .ok (.aload_n 0, 1) := by decide +kernel
theorem dX0_bars_42 : decode cX0_bars 42 = .ok (.getfield 37, 3) := by decide +kernel
theorem dX0_bars_45 : decode cX0_bars 45 = .ok (.iconst 4, 1) := by decide +kernel
theorem dX0_bars_46 : decode cX0_bars 46 = .ok (.iload_n 3, 1) := by decide +kernel
theorem dX0_bars_47 : decode cX0_bars 47 = .ok (.imul, 1) := by decide +kernel
theorem dX0_bars_48 : decode cX0_bars 48 = .ok (.iconst 1, 1) := by decide +kernel
theorem dX0_bars_49 : decode cX0_bars 49 = .ok (.iadd, 1) := by decide +kernel
theorem dX0_bars_50 : decode cX0_bars 50 = .ok (.iaload, 1) := by decide +kernel
theorem dX0_bars_51 : decode cX0_bars 51 = .ok (.iload_n 2, 1) := by decide +kernel
theorem dX0_bars_52 : decode cX0_bars 52 = .ok (.aload_n 0, 1) := by decide +kernel
theorem dX0_bars_53 : decode cX0_bars 53 = .ok (.getfield 37, 3) := by decide +kernel
theorem dX0_bars_56 : decode cX0_bars 56 = .ok (.iconst 4, 1) := by decide +kernel
theorem dX0_bars_57 : decode cX0_bars 57 = .ok (.iload_n 3, 1) := by decide +kernel
theorem dX0_bars_58 : decode cX0_bars 58 = .ok (.imul, 1) := by decide +kernel
theorem dX0_bars_59 : decode cX0_bars 59 = .ok (.iconst 3, 1) := by decide +kernel
theorem dX0_bars_60 : decode cX0_bars 60 = .ok (.iadd, 1) := by decide +kernel
theorem dX0_bars_61 : decode cX0_bars 61 = .ok (.iaload, 1) := by decide +kernel
theorem dX0_bars_62 : decode cX0_bars 62 = .ok (.invokestatic 52, 3) := by decide +kernel
theorem dX0_bars_65 : decode cX0_bars 65 = .ok (.ifCond .eq 5, 3) := by decide +kernel
theorem dX0_bars_68 : decode cX0_bars 68 = .ok (.iconst 1, 1) := by decide +kernel
theorem dX0_bars_69 : decode cX0_bars 69 = .ok (.ireturn, 1) := by decide +kernel
theorem dX0_bars_70 : decode cX0_bars 70 = .ok (.iinc 3 1, 3) := by decide +kernel
theorem dX0_bars_73 : decode cX0_bars 73 = .ok (.goto (-71), 3) := by decide +kernel
theorem dX0_bars_76 : decode cX0_bars 76 = .ok (.iconst 0, 1) := by decide +kernel
theorem dX0_bars_77 : decode cX0_bars 77 = .ok (.ireturn, 1) := by decide +kernel
theorem dX0_windyLayers_0 : decode cX0_windyLayers 0 = .ok (.iconst 0, 1) := by decide +kernel
theorem dX0_windyLayers_1 : decode cX0_windyLayers 1 = .ok (.istore_n 1, 1) := by decide +kernel
theorem dX0_windyLayers_2 : decode cX0_windyLayers 2 = .ok (.iconst 0, 1) := by decide +kernel
theorem dX0_windyLayers_3 : decode cX0_windyLayers 3 = .ok (.istore_n 2, 1) := by decide +kernel
theorem dX0_windyLayers_4 : decode cX0_windyLayers 4 = .ok (.iload_n 2, 1) := by decide +kernel
theorem dX0_windyLayers_5 : decode cX0_windyLayers 5 = .ok (.bipush 10, 2) := by decide +kernel
theorem dX0_windyLayers_7 : decode cX0_windyLayers 7 = .ok (.if_icmp .ge 30, 3) := by decide +kernel
theorem dX0_windyLayers_10 : decode cX0_windyLayers 10 = .ok (.aload_n 0, 1) := by decide +kernel
theorem dX0_windyLayers_11 : decode cX0_windyLayers 11 = .ok (.getfield 9, 3) := by decide +kernel
theorem dX0_windyLayers_14 : decode cX0_windyLayers 14 = .ok (.iload_n 2, 1) := by decide +kernel
theorem dX0_windyLayers_15 : decode cX0_windyLayers 15 = .ok (.iaload, 1) := by decide +kernel
theorem dX0_windyLayers_16 : decode cX0_windyLayers 16 = .ok (.ifCond .ne 12, 3) := by decide +kernel
theorem dX0_windyLayers_19 : decode cX0_windyLayers 19 = .ok (.aload_n 0, 1) := by decide +kernel
theorem dX0_windyLayers_20 : decode cX0_windyLayers 20 = .ok (.getfield 15, 3) := by decide +kernel
theorem dX0_windyLayers_23 : decode cX0_windyLayers 23 = .ok (.iload_n 2, 1) := by decide +kernel
theorem dX0_windyLayers_24 : decode cX0_windyLayers 24 = .ok (.iaload, 1) := by decide +kernel
theorem dX0_windyLayers_25 : decode cX0_windyLayers 25 = .ok (.ifCond .eq 6, 3) := by decide +kernel
theorem dX0_windyLayers_28 : decode cX0_windyLayers 28 = .ok (.iinc 1 1, 3) := by decide +kernel
theorem dX0_windyLayers_31 : decode cX0_windyLayers 31 = .ok (.iinc 2 1, 3) := by decide +kernel
theorem dX0_windyLayers_34 : decode cX0_windyLayers 34 = .ok (.goto (-30), 3) := by decide +kernel
theorem dX0_windyLayers_37 : decode cX0_windyLayers 37 = .ok (.iload_n 1, 1) := by decide +kernel
theorem dX0_windyLayers_38 : decode cX0_windyLayers 38 = .ok (.ireturn, 1) := by decide +kernel
theorem dX0_readFrom_0 : decode cX0_readFrom 0 = .ok (.iconst 0, 1) := by decide +kernel
theorem dX0_readFrom_1 : decode cX0_readFrom 1 = .ok (.istore_n 2, 1) := by decide +kernel
theorem dX0_readFrom_2 : decode cX0_readFrom 2 = .ok (.iconst 0, 1) := by decide +kernel
theorem dX0_readFrom_3 : decode cX0_readFrom 3 = .ok (.istore_n 3, 1) := by decide +kernel
theorem dX0_readFrom_4 : decode cX0_readFrom 4 = .ok (.iconst (-1), 1) := by decide +kernel
theorem dX0_readFrom_5 : decode cX0_readFrom 5 = .ok (.istore 4, 2) := by decide +kernel
theorem dX0_readFrom_7 : decode cX0_readFrom 7 = .ok (.iload_n 2, 1) := by decide +kernel
theorem dX0_readFrom_8 : decode cX0_readFrom 8 = .ok (.bipush 100, 2) := by decide +kernel
theorem dX0_readFrom_10 : decode cX0_readFrom 10 = .ok (.if_icmp .ge 83, 3) := by decide +kernel
theorem dX0_readFrom_13 : decode cX0_readFrom 13 = .ok (.iload_n 2, 1) := by decide +kernel
theorem dX0_readFrom_14 : decode cX0_readFrom 14 = .ok (.ifCond .eq 11, 3) := by decide +kernel
theorem dX0_readFrom_17 : decode cX0_readFrom 17 = .ok (.iload_n 3, 1) := by decide +kernel
theorem dX0_readFrom_18 : decode cX0_readFrom 18 = .ok (.aload_n 1, 1) := by decide +kernel
theorem dX0_readFrom_19 : decode cX0_readFrom 19 = .ok (.getfield 56, 3) := by decide +kernel
theorem dX0_readFrom_22 : decode cX0_readFrom 22 = .ok (.if_icmp .ge 71, 3) := by decide +kernel
theorem dX0_readFrom_25 : decode cX0_readFrom 25 = .ok (.aload_n 0, 1) := by decide +kernel
theorem dX0_readFrom_26 : decode cX0_readFrom 26 = .ok (.aload_n 1, 1) := by decide +kernel
theorem dX0_readFrom_27 : decode cX0_readFrom 27 = .ok (.iload_n 3, 1) := by decide +kernel
theorem dX0_readFrom_28 : decode cX0_readFrom 28 = .ok (.invokevirtual 61, 3) := by decide +kernel
theorem dX0_readFrom_31 : decode cX0_readFrom 31 = .ok (.istore 5, 2) := by decide +kernel
theorem dX0_readFrom_33 : decode cX0_readFrom 33 = .ok (.iload 5, 2) := by decide +kernel
theorem dX0_readFrom_35 : decode cX0_readFrom 35 = .ok (.ifCond .ge 12, 3) := by decide +kernel
theorem dX0_readFrom_38 : decode cX0_readFrom 38 = .ok (.sipush (-1000), 3) := by decide +kernel
theorem dX0_readFrom_41 : decode cX0_readFrom 41 = .ok (.iload 5, 2) := by decide +kernel
theorem dX0_readFrom_43 : decode cX0_readFrom 43 = .ok (.iconst (-1), 1) := by decide +kernel
theorem dX0_readFrom_44 : decode cX0_readFrom 44 = .ok (.ixor, 1) := by decide +kernel
theorem dX0_readFrom_45 : decode cX0_readFrom 45 = .ok (.isub, 1) := by decide +kernel
theorem dX0_readFrom_46 : decode cX0_readFrom 46 = .ok (.ireturn, 1) := by decide +kernel
theorem dX0_readFrom_47 : decode cX0_readFrom 47 = .ok (.iload 4, 2) := by decide +kernel
theorem dX0_readFrom_49 : decode cX0_readFrom 49 = .ok (.ifCond .ge 27, 3) := by decide +kernel
theorem dX0_readFrom_52 : decode cX0_readFrom 52 = .ok (.aload_n 0, 1) := by decide +kernel
theorem dX0_readFrom_53 : decode cX0_readFrom 53 = .ok (.aload_n 1, 1) := by decide +kernel
theorem dX0_readFrom_54 : decode cX0_readFrom 54 = .ok (.iload_n 3, 1) := by decide +kernel
theorem dX0_readFrom_55 : decode cX0_readFrom 55 = .ok (.invokevirtual 65, 3) := by decide +kernel
theorem dX0_readFrom_58 : decode cX0_readFrom 58 = .ok (.invokevirtual 69, 3) := by decide +kernel
theorem dX0_readFrom_61 : decode cX0_readFrom 61 = .ok (.ifCond .eq 15, 3) := by decide +kernel
theorem dX0_readFrom_64 : decode cX0_readFrom 64 = .ok (.aload_n 0, 1) := by decide +kernel
theorem dX0_readFrom_65 : decode cX0_readFrom 65 = .ok (.aload_n 1, 1) := by decide +kernel
theorem dX0_readFrom_66 : decode cX0_readFrom 66 = .ok (.iload_n 3, 1) := by decide +kernel
theorem dX0_readFrom_67 : decode cX0_readFrom 67 = .ok (.invokevirtual 65, 3) := by decide +kernel
theorem dX0_readFrom_70 : decode cX0_readFrom 70 = .ok (.invokevirtual 73, 3) := by decide +kernel
theorem dX0_readFrom_73 : decode cX0_readFrom 73 = .ok (.goto 11, 3) := by decide +kernel
theorem dX0_readFrom_76 : decode cX0_readFrom 76 = .ok (.iload 4, 2) := by decide +kernel
theorem dX0_readFrom_78 : decode cX0_readFrom 78 = .ok (.ifCond .ge 6, 3) := by decide +kernel
theorem dX0_readFrom_81 : decode cX0_readFrom 81 = .ok (.iload_n 3, 1) := by decide +kernel
theorem dX0_readFrom_82 : decode cX0_readFrom 82 = .ok (.istore 4, 2) := by decide +kernel
theorem dX0_readFrom_84 : decode cX0_readFrom 84 = .ok (.iload 5, 2) := by decide +kernel
theorem dX0_readFrom_86 : decode cX0_readFrom 86 = .ok (.istore_n 3, 1) := by decide +kernel
theorem dX0_readFrom_87 : decode cX0_readFrom 87 = .ok (.iinc 2 1, 3) := by decide +kernel
theorem dX0_readFrom_90 : decode cX0_readFrom 90 = .ok (.goto (-83), 3) := by decide +kernel
theorem dX0_readFrom_93 : decode cX0_readFrom 93 = .ok (.iload 4, 2) := by decide +kernel
theorem dX0_readFrom_95 : decode cX0_readFrom 95 = .ok (.ifCond .ge 7, 3) := by decide +kernel
theorem dX0_readFrom_98 : decode cX0_readFrom 98 = .ok (.iload_n 2, 1) := by decide +kernel
theorem dX0_readFrom_99 : decode cX0_readFrom 99 = .ok (.goto 9, 3) := by decide +kernel
theorem dX0_readFrom_102 : decode cX0_readFrom 102 = .ok (.sipush (-2000), 3) := by decide +kernel
theorem dX0_readFrom_105 : decode cX0_readFrom 105 = .ok (.iload 4, 2) := by decide +kernel
theorem dX0_readFrom_107 : decode cX0_readFrom 107 = .ok (.isub, 1) := by decide +kernel
theorem dX0_readFrom_108 : decode cX0_readFrom 108 = .ok (.ireturn, 1) := by decide +kernel
theorem dX0_scan_0 : decode cX0_scan 0 = .ok (.aload_n 1, 1) := by decide +kernel
theorem dX0_scan_1 : decode cX0_scan 1 = .ok (.iload_n 2, 1) := by decide +kernel
theorem dX0_scan_2 : decode cX0_scan 2 = .ok (.invokevirtual 65, 3) := by decide +kernel
theorem dX0_scan_5 : decode cX0_scan 5 = .ok (.invokestatic 77, 3) := by decide +kernel
theorem dX0_scan_8 : decode cX0_scan 8 = .ok (.astore_n 3, 1) := by decide +kernel
theorem dX0_scan_9 : decode cX0_scan 9 = .ok (.aload_n 3, 1) := by decide +kernel
theorem dX0_scan_10 : decode cX0_scan 10 = .ok (.invokevirtual 81, 3) := by decide +kernel
theorem dX0_scan_13 : decode cX0_scan 13 = .ok (.ifCond .eq 7, 3) := by decide +kernel
theorem dX0_scan_16 : decode cX0_scan 16 = .ok (.iload_n 2, 1) := by decide +kernel
theorem dX0_scan_17 : decode cX0_scan 17 = .ok (.iconst (-1), 1) := by decide +kernel
theorem dX0_scan_18 : decode cX0_scan 18 = .ok (.ixor, 1) := by decide +kernel
theorem dX0_scan_19 : decode cX0_scan 19 = .ok (.ireturn, 1) := by decide +kernel
theorem dX0_scan_20 : decode cX0_scan 20 = .ok (.iload_n 2, 1) := by decide +kernel
theorem dX0_scan_21 : decode cX0_scan 21 = .ok (.iconst 1, 1) := by decide +kernel
theorem dX0_scan_22 : decode cX0_scan 22 = .ok (.iadd, 1) := by decide +kernel
theorem dX0_scan_23 : decode cX0_scan 23 = .ok (.istore 4, 2) := by decide +kernel
theorem dX0_scan_25 : decode cX0_scan 25 = .ok (.iconst 0, 1) := by decide +kernel
theorem dX0_scan_26 : decode cX0_scan 26 = .ok (.istore 5, 2) := by decide +kernel
theorem dX0_scan_28 : decode cX0_scan 28 = .ok (.iconst 0, 1) := by decide +kernel
theorem dX0_scan_29 : decode cX0_scan 29 = .ok (.istore 6, 2) := by decide +kernel
theorem dX0_scan_31 : decode cX0_scan 31 = .ok (.iconst 0, 1) := by decide +kernel
theorem dX0_scan_32 : decode cX0_scan 32 = .ok (.istore 7, 2) := by decide +kernel
theorem dX0_scan_34 : decode cX0_scan 34 = .ok (.iload 7, 2) := by decide +kernel
theorem dX0_scan_36 : decode cX0_scan 36 = .ok (.aload_n 3, 1) := by decide +kernel
theorem dX0_scan_37 : decode cX0_scan 37 = .ok (.invokevirtual 87, 3) := by decide +kernel
theorem dX0_scan_40 : decode cX0_scan 40 = .ok (.if_icmp .ge 144, 3) := by decide +kernel
theorem dX0_scan_43 : decode cX0_scan 43 = .ok (.aload_n 3, 1) := by decide +kernel
theorem dX0_scan_44 : decode cX0_scan 44 = .ok (.iload 7, 2) := by decide +kernel
theorem dX0_scan_46 : decode cX0_scan 46 = .ok (.invokevirtual 91, 3) := by decide +kernel
theorem dX0_scan_49 : decode cX0_scan 49 = .ok (.istore 8, 2) := by decide +kernel
theorem dX0_scan_51 : decode cX0_scan 51 = .ok (.aload_n 1, 1) := by decide +kernel
theorem dX0_scan_52 : decode cX0_scan 52 = .ok (.iload 4, 2) := by decide +kernel
theorem dX0_scan_54 : decode cX0_scan 54 = .ok (.invokevirtual 65, 3) := by decide +kernel
theorem dX0_scan_57 : decode cX0_scan 57 = .ok (.istore 9, 2) := by decide +kernel
theorem dX0_scan_59 : decode cX0_scan 59 = .ok (.iload 8, 2) := by decide +kernel
theorem dX0_scan_61 : decode cX0_scan 61 = .ok (.iload 9, 2) := by decide +kernel
theorem dX0_scan_63 : decode cX0_scan 63 = .ok (.invokestatic 95, 3) := by decide +kernel
theorem dX0_scan_66 : decode cX0_scan 66 = .ok (.ifCond .ne 8, 3) := by decide +kernel
theorem dX0_scan_69 : decode cX0_scan 69 = .ok (.iload 4, 2) := by decide +kernel
theorem dX0_scan_71 : decode cX0_scan 71 = .ok (.iconst (-1), 1) := by decide +kernel
theorem dX0_scan_72 : decode cX0_scan 72 = .ok (.ixor, 1) := by decide +kernel
theorem dX0_scan_73 : decode cX0_scan 73 = .ok (.ireturn, 1) := by decide +kernel
theorem dX0_scan_74 : decode cX0_scan 74 = .ok (.iload 8, 2) := by decide +kernel
theorem dX0_scan_76 : decode cX0_scan 76 = .ok (.bipush 110, 2) := by decide +kernel
theorem dX0_scan_78 : decode cX0_scan 78 = .ok (.if_icmp .ne 12, 3) := by decide +kernel
theorem dX0_scan_81 : decode cX0_scan 81 = .ok (.aload_n 1, 1) := by decide +kernel
theorem dX0_scan_82 : decode cX0_scan 82 = .ok (.iload 4, 2) := by decide +kernel
theorem dX0_scan_84 : decode cX0_scan 84 = .ok (.invokestatic 99, 3) := by decide +kernel
theorem dX0_scan_87 : decode cX0_scan 87 = .ok (.goto 7, 3) := by decide +kernel
theorem dX0_scan_90 : decode cX0_scan 90 = .ok (.iload 4, 2) := by decide +kernel
theorem dX0_scan_92 : decode cX0_scan 92 = .ok (.iconst 1, 1) := by decide +kernel
theorem dX0_scan_93 : decode cX0_scan 93 = .ok (.iadd, 1) := by decide +kernel
theorem dX0_scan_94 : decode cX0_scan 94 = .ok (.istore 10, 2) := by decide +kernel
theorem dX0_scan_96 : decode cX0_scan 96 = .ok (.iload 8, 2) := by decide +kernel
theorem dX0_scan_98 : decode cX0_scan 98 = .ok (.bipush 110, 2) := by decide +kernel
theorem dX0_scan_100 : decode cX0_scan 100 = .ok (.if_icmp .eq 10, 3) := by decide +kernel
theorem dX0_scan_103 : decode cX0_scan 103 = .ok (.iload 8, 2) := by decide +kernel
theorem dX0_scan_105 : decode cX0_scan 105 = .ok (.bipush 100, 2) := by decide +kernel
theorem dX0_scan_107 : decode cX0_scan 107 = .ok (.if_icmp .ne 46, 3) := by decide +kernel
theorem dX0_scan_110 : decode cX0_scan 110 = .ok (.iload 5, 2) := by decide +kernel
theorem dX0_scan_112 : decode cX0_scan 112 = .ok (.aload_n 0, 1) := by decide +kernel
theorem dX0_scan_113 : decode cX0_scan 113 = .ok (.getfield 43, 3) := by decide +kernel
theorem dX0_scan_116 : decode cX0_scan 116 = .ok (.arraylength, 1) := by decide +kernel
theorem dX0_scan_117 : decode cX0_scan 117 = .ok (.if_icmp .ge 36, 3) := by decide +kernel
theorem dX0_scan_120 : decode cX0_scan 120 = .ok (.aload_n 1, 1) := by decide +kernel
theorem dX0_scan_121 : decode cX0_scan 121 = .ok (.iload 4, 2) := by decide +kernel
theorem dX0_scan_123 : decode cX0_scan 123 = .ok (.iload 10, 2) := by decide +kernel
theorem dX0_scan_125 : decode cX0_scan 125 = .ok (.invokestatic 102, 3) := by decide +kernel
theorem dX0_scan_128 : decode cX0_scan 128 = .ok (.istore 11, 2) := by decide +kernel
theorem dX0_scan_130 : decode cX0_scan 130 = .ok (.aload_n 0, 1) := by decide +kernel
theorem dX0_scan_131 : decode cX0_scan 131 = .ok (.getfield 43, 3) := by decide +kernel
theorem dX0_scan_134 : decode cX0_scan 134 = .ok (.iload 5, 2) := by decide +kernel
theorem dX0_scan_136 : decode cX0_scan 136 = .ok (.iload 6, 2) := by decide +kernel
theorem dX0_scan_138 : decode cX0_scan 138 = .ok (.ifCond .eq 9, 3) := by decide +kernel
theorem dX0_scan_141 : decode cX0_scan 141 = .ok (.iload 11, 2) := by decide +kernel
theorem dX0_scan_143 : decode cX0_scan 143 = .ok (.ineg, 1) := by decide +kernel
theorem dX0_scan_144 : decode cX0_scan 144 = .ok (.goto 5, 3) := by decide +kernel
theorem dX0_scan_147 : decode cX0_scan 147 = .ok (.iload 11, 2) := by decide +kernel
theorem dX0_scan_149 : decode cX0_scan 149 = .ok (.iastore, 1) := by decide +kernel
theorem dX0_scan_150 : decode cX0_scan 150 = .ok (.iinc 5 1, 3) := by decide +kernel
theorem dX0_scan_153 : decode cX0_scan 153 = .ok (.iload 8, 2) := by decide +kernel
theorem dX0_scan_155 : decode cX0_scan 155 = .ok (.bipush 115, 2) := by decide +kernel
theorem dX0_scan_157 : decode cX0_scan 157 = .ok (.if_icmp .ne 14, 3) := by decide +kernel
theorem dX0_scan_160 : decode cX0_scan 160 = .ok (.iload 9, 2) := by decide +kernel
theorem dX0_scan_162 : decode cX0_scan 162 = .ok (.bipush 45, 2) := by decide +kernel
theorem dX0_scan_164 : decode cX0_scan 164 = .ok (.if_icmp .ne 7, 3) := by decide +kernel
theorem dX0_scan_167 : decode cX0_scan 167 = .ok (.iconst 1, 1) := by decide +kernel
theorem dX0_scan_168 : decode cX0_scan 168 = .ok (.goto 4, 3) := by decide +kernel
theorem dX0_scan_171 : decode cX0_scan 171 = .ok (.iconst 0, 1) := by decide +kernel
theorem dX0_scan_172 : decode cX0_scan 172 = .ok (.istore 6, 2) := by decide +kernel
theorem dX0_scan_174 : decode cX0_scan 174 = .ok (.iload 10, 2) := by decide +kernel
theorem dX0_scan_176 : decode cX0_scan 176 = .ok (.istore 4, 2) := by decide +kernel
theorem dX0_scan_178 : decode cX0_scan 178 = .ok (.iinc 7 1, 3) := by decide +kernel
theorem dX0_scan_181 : decode cX0_scan 181 = .ok (.goto (-147), 3) := by decide +kernel
theorem dX0_scan_184 : decode cX0_scan 184 = .ok (.iload 4, 2) := by decide +kernel
theorem dX0_scan_186 : decode cX0_scan 186 = .ok (.ireturn, 1) := by decide +kernel
theorem dX0_formOf_0 : decode cX0_formOf 0 = .ok (.iload_n 0, 1) := by decide +kernel
theorem dX0_formOf_1 : decode cX0_formOf 1 = .ok (.tableswitch 78 97 108 #[69, 75, 78, 78, 78, 72, 66, 78, 78, 78, 78, 63], 63) := by decide +kernel
theorem dX0_formOf_64 : decode cX0_formOf 64 = .ok (.ldc 106, 2) := by decide +kernel
theorem dX0_formOf_66 : decode cX0_formOf 66 = .ok (.areturn, 1) := by decide +kernel
theorem dX0_formOf_67 : decode cX0_formOf 67 = .ok (.ldc 108, 2) := by decide +kernel
theorem dX0_formOf_69 : decode cX0_formOf 69 = .ok (.areturn, 1) := by decide +kernel
theorem dX0_formOf_70 : decode cX0_formOf 70 = .ok (.ldc 110, 2) := by decide +kernel
theorem dX0_formOf_72 : decode cX0_formOf 72 = .ok (.areturn, 1) := by decide +kernel
theorem dX0_formOf_73 : decode cX0_formOf 73 = .ok (.ldc 112, 2) := by decide +kernel
theorem dX0_formOf_75 : decode cX0_formOf 75 = .ok (.areturn, 1) := by decide +kernel
theorem dX0_formOf_76 : decode cX0_formOf 76 = .ok (.ldc 114, 2) := by decide +kernel
theorem dX0_formOf_78 : decode cX0_formOf 78 = .ok (.areturn, 1) := by decide +kernel
theorem dX0_formOf_79 : decode cX0_formOf 79 = .ok (.ldc 116, 2) := by decide +kernel
theorem dX0_formOf_81 : decode cX0_formOf 81 = .ok (.areturn, 1) := by decide +kernel
theorem dX0_isAsFormed_0 : decode cX0_isAsFormed 0 = .ok (.iload_n 0, 1) := by decide +kernel
theorem dX0_isAsFormed_1 : decode cX0_isAsFormed 1 = .ok (.lookupswitch 58 #[(100, 35), (110, 35), (115, 40)], 35) := by decide +kernel
theorem dX0_isAsFormed_36 : decode cX0_isAsFormed 36 = .ok (.iload_n 1, 1) := by decide +kernel
theorem dX0_isAsFormed_37 : decode cX0_isAsFormed 37 = .ok (.invokestatic 118, 3) := by decide +kernel
theorem dX0_isAsFormed_40 : decode cX0_isAsFormed 40 = .ok (.ireturn, 1) := by decide +kernel
theorem dX0_isAsFormed_41 : decode cX0_isAsFormed 41 = .ok (.iload_n 1, 1) := by decide +kernel
theorem dX0_isAsFormed_42 : decode cX0_isAsFormed 42 = .ok (.bipush 43, 2) := by decide +kernel
theorem dX0_isAsFormed_44 : decode cX0_isAsFormed 44 = .ok (.if_icmp .eq 9, 3) := by decide +kernel
theorem dX0_isAsFormed_47 : decode cX0_isAsFormed 47 = .ok (.iload_n 1, 1) := by decide +kernel
theorem dX0_isAsFormed_48 : decode cX0_isAsFormed 48 = .ok (.bipush 45, 2) := by decide +kernel
theorem dX0_isAsFormed_50 : decode cX0_isAsFormed 50 = .ok (.if_icmp .ne 7, 3) := by decide +kernel
theorem dX0_isAsFormed_53 : decode cX0_isAsFormed 53 = .ok (.iconst 1, 1) := by decide +kernel
theorem dX0_isAsFormed_54 : decode cX0_isAsFormed 54 = .ok (.goto 4, 3) := by decide +kernel
theorem dX0_isAsFormed_57 : decode cX0_isAsFormed 57 = .ok (.iconst 0, 1) := by decide +kernel
theorem dX0_isAsFormed_58 : decode cX0_isAsFormed 58 = .ok (.ireturn, 1) := by decide +kernel
theorem dX0_isAsFormed_59 : decode cX0_isAsFormed 59 = .ok (.iload_n 1, 1) := by decide +kernel
theorem dX0_isAsFormed_60 : decode cX0_isAsFormed 60 = .ok (.iload_n 0, 1) := by decide +kernel
theorem dX0_isAsFormed_61 : decode cX0_isAsFormed 61 = .ok (.if_icmp .ne 7, 3) := by decide +kernel
theorem dX0_isAsFormed_64 : decode cX0_isAsFormed 64 = .ok (.iconst 1, 1) := by decide +kernel
theorem dX0_isAsFormed_65 : decode cX0_isAsFormed 65 = .ok (.goto 4, 3) := by decide +kernel
theorem dX0_isAsFormed_68 : decode cX0_isAsFormed 68 = .ok (.iconst 0, 1) := by decide +kernel
theorem dX0_isAsFormed_69 : decode cX0_isAsFormed 69 = .ok (.ireturn, 1) := by decide +kernel
theorem dX0_isDigit_0 : decode cX0_isDigit 0 = .ok (.bipush 48, 2) := by decide +kernel
theorem dX0_isDigit_2 : decode cX0_isDigit 2 = .ok (.iload_n 0, 1) := by decide +kernel
theorem dX0_isDigit_3 : decode cX0_isDigit 3 = .ok (.bipush 57, 2) := by decide +kernel
theorem dX0_isDigit_5 : decode cX0_isDigit 5 = .ok (.invokestatic 52, 3) := by decide +kernel
theorem dX0_isDigit_8 : decode cX0_isDigit 8 = .ok (.ireturn, 1) := by decide +kernel
theorem dX0_behindNumber_0 : decode cX0_behindNumber 0 = .ok (.aload_n 0, 1) := by decide +kernel
theorem dX0_behindNumber_1 : decode cX0_behindNumber 1 = .ok (.iload_n 1, 1) := by decide +kernel
theorem dX0_behindNumber_2 : decode cX0_behindNumber 2 = .ok (.invokevirtual 65, 3) := by decide +kernel
theorem dX0_behindNumber_5 : decode cX0_behindNumber 5 = .ok (.bipush 48, 2) := by decide +kernel
theorem dX0_behindNumber_7 : decode cX0_behindNumber 7 = .ok (.if_icmp .ne 7, 3) := by decide +kernel
theorem dX0_behindNumber_10 : decode cX0_behindNumber 10 = .ok (.iconst 1, 1) := by decide +kernel
theorem dX0_behindNumber_11 : decode cX0_behindNumber 11 = .ok (.goto 4, 3) := by decide +kernel
theorem dX0_behindNumber_14 : decode cX0_behindNumber 14 = .ok (.iconst 4, 1) := by decide +kernel
theorem dX0_behindNumber_15 : decode cX0_behindNumber 15 = .ok (.istore_n 2, 1) := by decide +kernel
theorem dX0_behindNumber_16 : decode cX0_behindNumber 16 = .ok (.iconst 0, 1) := by decide +kernel
theorem dX0_behindNumber_17 : decode cX0_behindNumber 17 = .ok (.istore_n 3, 1) := by decide +kernel
theorem dX0_behindNumber_18 : decode cX0_behindNumber 18 = .ok (.iload_n 3, 1) := by decide +kernel
theorem dX0_behindNumber_19 : decode cX0_behindNumber 19 = .ok (.iload_n 2, 1) := by decide +kernel
theorem dX0_behindNumber_20 : decode cX0_behindNumber 20 = .ok (.if_icmp .ge 22, 3) := by decide +kernel
theorem dX0_behindNumber_23 : decode cX0_behindNumber 23 = .ok (.aload_n 0, 1) := by decide +kernel
theorem dX0_behindNumber_24 : decode cX0_behindNumber 24 = .ok (.iload_n 1, 1) := by decide +kernel
theorem dX0_behindNumber_25 : decode cX0_behindNumber 25 = .ok (.iload_n 3, 1) := by decide +kernel
theorem dX0_behindNumber_26 : decode cX0_behindNumber 26 = .ok (.iadd, 1) := by decide +kernel
theorem dX0_behindNumber_27 : decode cX0_behindNumber 27 = .ok (.invokevirtual 65, 3) := by decide +kernel
theorem dX0_behindNumber_30 : decode cX0_behindNumber 30 = .ok (.invokestatic 118, 3) := by decide +kernel
theorem dX0_behindNumber_33 : decode cX0_behindNumber 33 = .ok (.ifCond .eq 9, 3) := by decide +kernel
theorem dX0_behindNumber_36 : decode cX0_behindNumber 36 = .ok (.iinc 3 1, 3) := by decide +kernel
theorem dX0_behindNumber_39 : decode cX0_behindNumber 39 = .ok (.goto (-21), 3) := by decide +kernel
theorem dX0_behindNumber_42 : decode cX0_behindNumber 42 = .ok (.iload_n 1, 1) := by decide +kernel
theorem dX0_behindNumber_43 : decode cX0_behindNumber 43 = .ok (.iload_n 3, 1) := by decide +kernel
theorem dX0_behindNumber_44 : decode cX0_behindNumber 44 = .ok (.iadd, 1) := by decide +kernel
theorem dX0_behindNumber_45 : decode cX0_behindNumber 45 = .ok (.ireturn, 1) := by decide +kernel
theorem dX0_numberBetween_0 : decode cX0_numberBetween 0 = .ok (.iconst 0, 1) := by decide +kernel
theorem dX0_numberBetween_1 : decode cX0_numberBetween 1 = .ok (.istore_n 3, 1) := by decide +kernel
theorem dX0_numberBetween_2 : decode cX0_numberBetween 2 = .ok (.iload_n 1, 1) := by decide +kernel
theorem dX0_numberBetween_3 : decode cX0_numberBetween 3 = .ok (.istore 4, 2) := by decide +kernel
theorem dX0_numberBetween_5 : decode cX0_numberBetween 5 = .ok (.iload 4, 2) := by decide +kernel
theorem dX0_numberBetween_7 : decode cX0_numberBetween 7 = .ok (.iload_n 2, 1) := by decide +kernel
theorem dX0_numberBetween_8 : decode cX0_numberBetween 8 = .ok (.if_icmp .ge 24, 3) := by decide +kernel
theorem dX0_numberBetween_11 : decode cX0_numberBetween 11 = .ok (.iload_n 3, 1) := by decide +kernel
theorem dX0_numberBetween_12 : decode cX0_numberBetween 12 = .ok (.bipush 10, 2) := by decide +kernel
theorem dX0_numberBetween_14 : decode cX0_numberBetween 14 = .ok (.imul, 1) := by decide +kernel
theorem dX0_numberBetween_15 : decode cX0_numberBetween 15 = .ok (.aload_n 0, 1) := by decide +kernel
theorem dX0_numberBetween_16 : decode cX0_numberBetween 16 = .ok (.iload 4, 2) := by decide +kernel
theorem dX0_numberBetween_18 : decode cX0_numberBetween 18 = .ok (.invokevirtual 65, 3) := by decide +kernel
theorem dX0_numberBetween_21 : decode cX0_numberBetween 21 = .ok (.iadd, 1) := by decide +kernel
theorem dX0_numberBetween_22 : decode cX0_numberBetween 22 = .ok (.bipush 48, 2) := by decide +kernel
theorem dX0_numberBetween_24 : decode cX0_numberBetween 24 = .ok (.isub, 1) := by decide +kernel
theorem dX0_numberBetween_25 : decode cX0_numberBetween 25 = .ok (.istore_n 3, 1) := by decide +kernel
theorem dX0_numberBetween_26 : decode cX0_numberBetween 26 = .ok (.iinc 4 1, 3) := by decide +kernel
theorem dX0_numberBetween_29 : decode cX0_numberBetween 29 = .ok (.goto (-24), 3) := by decide +kernel
theorem dX0_numberBetween_32 : decode cX0_numberBetween 32 = .ok (.iload_n 3, 1) := by decide +kernel
theorem dX0_numberBetween_33 : decode cX0_numberBetween 33 = .ok (.ireturn, 1) := by decide +kernel
theorem dX0_isAsTold_0 : decode cX0_isAsTold 0 = .ok (.iload_n 1, 1) := by decide +kernel
theorem dX0_isAsTold_1 : decode cX0_isAsTold 1 = .ok (.lookupswitch 183 #[(97, 98), (102, 138), (103, 85), (108, 43)], 43) := by decide +kernel
theorem dX0_isAsTold_44 : decode cX0_isAsTold 44 = .ok (.aload_n 0, 1) := by decide +kernel
theorem dX0_isAsTold_45 : decode cX0_isAsTold 45 = .ok (.getfield 43, 3) := by decide +kernel
theorem dX0_isAsTold_48 : decode cX0_isAsTold 48 = .ok (.iconst 0, 1) := by decide +kernel
theorem dX0_isAsTold_49 : decode cX0_isAsTold 49 = .ok (.iaload, 1) := by decide +kernel
theorem dX0_isAsTold_50 : decode cX0_isAsTold 50 = .ok (.invokestatic 121, 3) := by decide +kernel
theorem dX0_isAsTold_53 : decode cX0_isAsTold 53 = .ok (.ifCond .eq 31, 3) := by decide +kernel
theorem dX0_isAsTold_56 : decode cX0_isAsTold 56 = .ok (.aload_n 0, 1) := by decide +kernel
theorem dX0_isAsTold_57 : decode cX0_isAsTold 57 = .ok (.getfield 43, 3) := by decide +kernel
theorem dX0_isAsTold_60 : decode cX0_isAsTold 60 = .ok (.iconst 1, 1) := by decide +kernel
theorem dX0_isAsTold_61 : decode cX0_isAsTold 61 = .ok (.iaload, 1) := by decide +kernel
theorem dX0_isAsTold_62 : decode cX0_isAsTold 62 = .ok (.invokestatic 124, 3) := by decide +kernel
theorem dX0_isAsTold_65 : decode cX0_isAsTold 65 = .ok (.ifCond .eq 19, 3) := by decide +kernel
theorem dX0_isAsTold_68 : decode cX0_isAsTold 68 = .ok (.aload_n 0, 1) := by decide +kernel
theorem dX0_isAsTold_69 : decode cX0_isAsTold 69 = .ok (.getfield 43, 3) := by decide +kernel
theorem dX0_isAsTold_72 : decode cX0_isAsTold 72 = .ok (.iconst 2, 1) := by decide +kernel
theorem dX0_isAsTold_73 : decode cX0_isAsTold 73 = .ok (.iaload, 1) := by decide +kernel
theorem dX0_isAsTold_74 : decode cX0_isAsTold 74 = .ok (.invokestatic 124, 3) := by decide +kernel
theorem dX0_isAsTold_77 : decode cX0_isAsTold 77 = .ok (.ifCond .eq 7, 3) := by decide +kernel
theorem dX0_isAsTold_80 : decode cX0_isAsTold 80 = .ok (.iconst 1, 1) := by decide +kernel
theorem dX0_isAsTold_81 : decode cX0_isAsTold 81 = .ok (.goto 4, 3) := by decide +kernel
theorem dX0_isAsTold_84 : decode cX0_isAsTold 84 = .ok (.iconst 0, 1) := by decide +kernel
theorem dX0_isAsTold_85 : decode cX0_isAsTold 85 = .ok (.ireturn, 1) := by decide +kernel
theorem dX0_isAsTold_86 : decode cX0_isAsTold 86 = .ok (.iconst 0, 1) := by decide +kernel
theorem dX0_isAsTold_87 : decode cX0_isAsTold 87 = .ok (.aload_n 0, 1) := by decide +kernel
theorem dX0_isAsTold_88 : decode cX0_isAsTold 88 = .ok (.getfield 43, 3) := by decide +kernel
theorem dX0_isAsTold_91 : decode cX0_isAsTold 91 = .ok (.iconst 0, 1) := by decide +kernel
theorem dX0_isAsTold_92 : decode cX0_isAsTold 92 = .ok (.iaload, 1) := by decide +kernel
theorem dX0_isAsTold_93 : decode cX0_isAsTold 93 = .ok (.bipush 30, 2) := by decide +kernel
theorem dX0_isAsTold_95 : decode cX0_isAsTold 95 = .ok (.invokestatic 52, 3) := by decide +kernel
theorem dX0_isAsTold_98 : decode cX0_isAsTold 98 = .ok (.ireturn, 1) := by decide +kernel
theorem dX0_isAsTold_99 : decode cX0_isAsTold 99 = .ok (.iconst 0, 1) := by decide +kernel
theorem dX0_isAsTold_100 : decode cX0_isAsTold 100 = .ok (.aload_n 0, 1) := by decide +kernel
theorem dX0_isAsTold_101 : decode cX0_isAsTold 101 = .ok (.getfield 43, 3) := by decide +kernel
theorem dX0_isAsTold_104 : decode cX0_isAsTold 104 = .ok (.iconst 0, 1) := by decide +kernel
theorem dX0_isAsTold_105 : decode cX0_isAsTold 105 = .ok (.iaload, 1) := by decide +kernel
theorem dX0_isAsTold_106 : decode cX0_isAsTold 106 = .ok (.sipush 900, 3) := by decide +kernel
theorem dX0_isAsTold_109 : decode cX0_isAsTold 109 = .ok (.invokestatic 52, 3) := by decide +kernel
theorem dX0_isAsTold_112 : decode cX0_isAsTold 112 = .ok (.ifCond .eq 25, 3) := by decide +kernel
theorem dX0_isAsTold_115 : decode cX0_isAsTold 115 = .ok (.sipush 300, 3) := by decide +kernel
theorem dX0_isAsTold_118 : decode cX0_isAsTold 118 = .ok (.aload_n 0, 1) := by decide +kernel
theorem dX0_isAsTold_119 : decode cX0_isAsTold 119 = .ok (.getfield 43, 3) := by decide +kernel
theorem dX0_isAsTold_122 : decode cX0_isAsTold 122 = .ok (.iconst 1, 1) := by decide +kernel
theorem dX0_isAsTold_123 : decode cX0_isAsTold 123 = .ok (.iaload, 1) := by decide +kernel
theorem dX0_isAsTold_124 : decode cX0_isAsTold 124 = .ok (.sipush 3000, 3) := by decide +kernel
theorem dX0_isAsTold_127 : decode cX0_isAsTold 127 = .ok (.invokestatic 52, 3) := by decide +kernel
theorem dX0_isAsTold_130 : decode cX0_isAsTold 130 = .ok (.ifCond .eq 7, 3) := by decide +kernel
theorem dX0_isAsTold_133 : decode cX0_isAsTold 133 = .ok (.iconst 1, 1) := by decide +kernel
theorem dX0_isAsTold_134 : decode cX0_isAsTold 134 = .ok (.goto 4, 3) := by decide +kernel
theorem dX0_isAsTold_137 : decode cX0_isAsTold 137 = .ok (.iconst 0, 1) := by decide +kernel
theorem dX0_isAsTold_138 : decode cX0_isAsTold 138 = .ok (.ireturn, 1) := by decide +kernel
theorem dX0_isAsTold_139 : decode cX0_isAsTold 139 = .ok (.iconst 0, 1) := by decide +kernel
theorem dX0_isAsTold_140 : decode cX0_isAsTold 140 = .ok (.aload_n 0, 1) := by decide +kernel
theorem dX0_isAsTold_141 : decode cX0_isAsTold 141 = .ok (.getfield 43, 3) := by decide +kernel
theorem dX0_isAsTold_144 : decode cX0_isAsTold 144 = .ok (.iconst 0, 1) := by decide +kernel
theorem dX0_isAsTold_145 : decode cX0_isAsTold 145 = .ok (.iaload, 1) := by decide +kernel
theorem dX0_isAsTold_146 : decode cX0_isAsTold 146 = .ok (.bipush 7, 2) := by decide +kernel
theorem dX0_isAsTold_148 : decode cX0_isAsTold 148 = .ok (.invokestatic 52, 3) := by decide +kernel
theorem dX0_isAsTold_151 : decode cX0_isAsTold 151 = .ok (.ifCond .eq 31, 3) := by decide +kernel
theorem dX0_isAsTold_154 : decode cX0_isAsTold 154 = .ok (.iconst 0, 1) := by decide +kernel
theorem dX0_isAsTold_155 : decode cX0_isAsTold 155 = .ok (.aload_n 0, 1) := by decide +kernel
theorem dX0_isAsTold_156 : decode cX0_isAsTold 156 = .ok (.getfield 43, 3) := by decide +kernel
theorem dX0_isAsTold_159 : decode cX0_isAsTold 159 = .ok (.iconst 2, 1) := by decide +kernel
theorem dX0_isAsTold_160 : decode cX0_isAsTold 160 = .ok (.iaload, 1) := by decide +kernel
theorem dX0_isAsTold_161 : decode cX0_isAsTold 161 = .ok (.bipush 20, 2) := by decide +kernel
theorem dX0_isAsTold_163 : decode cX0_isAsTold 163 = .ok (.invokestatic 52, 3) := by decide +kernel
theorem dX0_isAsTold_166 : decode cX0_isAsTold 166 = .ok (.ifCond .eq 16, 3) := by decide +kernel
theorem dX0_isAsTold_169 : decode cX0_isAsTold 169 = .ok (.aload_n 0, 1) := by decide +kernel
theorem dX0_isAsTold_170 : decode cX0_isAsTold 170 = .ok (.getfield 34, 3) := by decide +kernel
theorem dX0_isAsTold_173 : decode cX0_isAsTold 173 = .ok (.bipush 8, 2) := by decide +kernel
theorem dX0_isAsTold_175 : decode cX0_isAsTold 175 = .ok (.if_icmp .ge 7, 3) := by decide +kernel
theorem dX0_isAsTold_178 : decode cX0_isAsTold 178 = .ok (.iconst 1, 1) := by decide +kernel
theorem dX0_isAsTold_179 : decode cX0_isAsTold 179 = .ok (.goto 4, 3) := by decide +kernel
theorem dX0_isAsTold_182 : decode cX0_isAsTold 182 = .ok (.iconst 0, 1) := by decide +kernel
theorem dX0_isAsTold_183 : decode cX0_isAsTold 183 = .ok (.ireturn, 1) := by decide +kernel
theorem dX0_isAsTold_184 : decode cX0_isAsTold 184 = .ok (.aload_n 0, 1) := by decide +kernel
theorem dX0_isAsTold_185 : decode cX0_isAsTold 185 = .ok (.getfield 43, 3) := by decide +kernel
theorem dX0_isAsTold_188 : decode cX0_isAsTold 188 = .ok (.iconst 0, 1) := by decide +kernel
theorem dX0_isAsTold_189 : decode cX0_isAsTold 189 = .ok (.iaload, 1) := by decide +kernel
theorem dX0_isAsTold_190 : decode cX0_isAsTold 190 = .ok (.invokestatic 127, 3) := by decide +kernel
theorem dX0_isAsTold_193 : decode cX0_isAsTold 193 = .ok (.ifCond .eq 52, 3) := by decide +kernel
theorem dX0_isAsTold_196 : decode cX0_isAsTold 196 = .ok (.aload_n 0, 1) := by decide +kernel
theorem dX0_isAsTold_197 : decode cX0_isAsTold 197 = .ok (.getfield 43, 3) := by decide +kernel
theorem dX0_isAsTold_200 : decode cX0_isAsTold 200 = .ok (.iconst 1, 1) := by decide +kernel
theorem dX0_isAsTold_201 : decode cX0_isAsTold 201 = .ok (.iaload, 1) := by decide +kernel
theorem dX0_isAsTold_202 : decode cX0_isAsTold 202 = .ok (.invokestatic 127, 3) := by decide +kernel
theorem dX0_isAsTold_205 : decode cX0_isAsTold 205 = .ok (.ifCond .eq 40, 3) := by decide +kernel
theorem dX0_isAsTold_208 : decode cX0_isAsTold 208 = .ok (.aload_n 0, 1) := by decide +kernel
theorem dX0_isAsTold_209 : decode cX0_isAsTold 209 = .ok (.getfield 43, 3) := by decide +kernel
theorem dX0_isAsTold_212 : decode cX0_isAsTold 212 = .ok (.iconst 2, 1) := by decide +kernel
theorem dX0_isAsTold_213 : decode cX0_isAsTold 213 = .ok (.iaload, 1) := by decide +kernel
theorem dX0_isAsTold_214 : decode cX0_isAsTold 214 = .ok (.invokestatic 127, 3) := by decide +kernel
theorem dX0_isAsTold_217 : decode cX0_isAsTold 217 = .ok (.ifCond .eq 28, 3) := by decide +kernel
theorem dX0_isAsTold_220 : decode cX0_isAsTold 220 = .ok (.aload_n 0, 1) := by decide +kernel
theorem dX0_isAsTold_221 : decode cX0_isAsTold 221 = .ok (.getfield 43, 3) := by decide +kernel
theorem dX0_isAsTold_224 : decode cX0_isAsTold 224 = .ok (.iconst 3, 1) := by decide +kernel
theorem dX0_isAsTold_225 : decode cX0_isAsTold 225 = .ok (.iaload, 1) := by decide +kernel
theorem dX0_isAsTold_226 : decode cX0_isAsTold 226 = .ok (.invokestatic 127, 3) := by decide +kernel
theorem dX0_isAsTold_229 : decode cX0_isAsTold 229 = .ok (.ifCond .eq 16, 3) := by decide +kernel
theorem dX0_isAsTold_232 : decode cX0_isAsTold 232 = .ok (.aload_n 0, 1) := by decide +kernel
theorem dX0_isAsTold_233 : decode cX0_isAsTold 233 = .ok (.getfield 40, 3) := by decide +kernel
theorem dX0_isAsTold_236 : decode cX0_isAsTold 236 = .ok (.bipush 6, 2) := by decide +kernel
theorem dX0_isAsTold_238 : decode cX0_isAsTold 238 = .ok (.if_icmp .ge 7, 3) := by decide +kernel
theorem dX0_isAsTold_241 : decode cX0_isAsTold 241 = .ok (.iconst 1, 1) := by decide +kernel
theorem dX0_isAsTold_242 : decode cX0_isAsTold 242 = .ok (.goto 4, 3) := by decide +kernel
theorem dX0_isAsTold_245 : decode cX0_isAsTold 245 = .ok (.iconst 0, 1) := by decide +kernel
theorem dX0_isAsTold_246 : decode cX0_isAsTold 246 = .ok (.ireturn, 1) := by decide +kernel
theorem dX0_takeUp_0 : decode cX0_takeUp 0 = .ok (.iload_n 1, 1) := by decide +kernel
theorem dX0_takeUp_1 : decode cX0_takeUp 1 = .ok (.lookupswitch 163 #[(97, 93), (102, 116), (103, 80), (108, 43)], 43) := by decide +kernel
theorem dX0_takeUp_44 : decode cX0_takeUp 44 = .ok (.aload_n 0, 1) := by decide +kernel
theorem dX0_takeUp_45 : decode cX0_takeUp 45 = .ok (.getfield 9, 3) := by decide +kernel
theorem dX0_takeUp_48 : decode cX0_takeUp 48 = .ok (.aload_n 0, 1) := by decide +kernel
theorem dX0_takeUp_49 : decode cX0_takeUp 49 = .ok (.getfield 43, 3) := by decide +kernel
theorem dX0_takeUp_52 : decode cX0_takeUp 52 = .ok (.iconst 0, 1) := by decide +kernel
theorem dX0_takeUp_53 : decode cX0_takeUp 53 = .ok (.iaload, 1) := by decide +kernel
theorem dX0_takeUp_54 : decode cX0_takeUp 54 = .ok (.aload_n 0, 1) := by decide +kernel
theorem dX0_takeUp_55 : decode cX0_takeUp 55 = .ok (.getfield 43, 3) := by decide +kernel
theorem dX0_takeUp_58 : decode cX0_takeUp 58 = .ok (.iconst 1, 1) := by decide +kernel
theorem dX0_takeUp_59 : decode cX0_takeUp 59 = .ok (.iaload, 1) := by decide +kernel
theorem dX0_takeUp_60 : decode cX0_takeUp 60 = .ok (.iastore, 1) := by decide +kernel
theorem dX0_takeUp_61 : decode cX0_takeUp 61 = .ok (.aload_n 0, 1) := by decide +kernel
theorem dX0_takeUp_62 : decode cX0_takeUp 62 = .ok (.getfield 15, 3) := by decide +kernel
theorem dX0_takeUp_65 : decode cX0_takeUp 65 = .ok (.aload_n 0, 1) := by decide +kernel
theorem dX0_takeUp_66 : decode cX0_takeUp 66 = .ok (.getfield 43, 3) := by decide +kernel
theorem dX0_takeUp_69 : decode cX0_takeUp 69 = .ok (.iconst 0, 1) := by decide +kernel
theorem dX0_takeUp_70 : decode cX0_takeUp 70 = .ok (.iaload, 1) := by decide +kernel
theorem dX0_takeUp_71 : decode cX0_takeUp 71 = .ok (.aload_n 0, 1) := by decide +kernel
theorem dX0_takeUp_72 : decode cX0_takeUp 72 = .ok (.getfield 43, 3) := by decide +kernel
theorem dX0_takeUp_75 : decode cX0_takeUp 75 = .ok (.iconst 2, 1) := by decide +kernel
theorem dX0_takeUp_76 : decode cX0_takeUp 76 = .ok (.iaload, 1) := by decide +kernel
theorem dX0_takeUp_77 : decode cX0_takeUp 77 = .ok (.iastore, 1) := by decide +kernel
theorem dX0_takeUp_78 : decode cX0_takeUp 78 = .ok (.goto 218, 3) := by decide +kernel
theorem dX0_takeUp_81 : decode cX0_takeUp 81 = .ok (.aload_n 0, 1) := by decide +kernel
theorem dX0_takeUp_82 : decode cX0_takeUp 82 = .ok (.aload_n 0, 1) := by decide +kernel
theorem dX0_takeUp_83 : decode cX0_takeUp 83 = .ok (.getfield 43, 3) := by decide +kernel
theorem dX0_takeUp_86 : decode cX0_takeUp 86 = .ok (.iconst 0, 1) := by decide +kernel
theorem dX0_takeUp_87 : decode cX0_takeUp 87 = .ok (.iaload, 1) := by decide +kernel
theorem dX0_takeUp_88 : decode cX0_takeUp 88 = .ok (.putfield 18, 3) := by decide +kernel
theorem dX0_takeUp_91 : decode cX0_takeUp 91 = .ok (.goto 205, 3) := by decide +kernel
theorem dX0_takeUp_94 : decode cX0_takeUp 94 = .ok (.aload_n 0, 1) := by decide +kernel
theorem dX0_takeUp_95 : decode cX0_takeUp 95 = .ok (.aload_n 0, 1) := by decide +kernel
theorem dX0_takeUp_96 : decode cX0_takeUp 96 = .ok (.getfield 43, 3) := by decide +kernel
theorem dX0_takeUp_99 : decode cX0_takeUp 99 = .ok (.iconst 0, 1) := by decide +kernel
theorem dX0_takeUp_100 : decode cX0_takeUp 100 = .ok (.iaload, 1) := by decide +kernel
theorem dX0_takeUp_101 : decode cX0_takeUp 101 = .ok (.putfield 22, 3) := by decide +kernel
theorem dX0_takeUp_104 : decode cX0_takeUp 104 = .ok (.aload_n 0, 1) := by decide +kernel
theorem dX0_takeUp_105 : decode cX0_takeUp 105 = .ok (.aload_n 0, 1) := by decide +kernel
theorem dX0_takeUp_106 : decode cX0_takeUp 106 = .ok (.getfield 43, 3) := by decide +kernel
theorem dX0_takeUp_109 : decode cX0_takeUp 109 = .ok (.iconst 1, 1) := by decide +kernel
theorem dX0_takeUp_110 : decode cX0_takeUp 110 = .ok (.iaload, 1) := by decide +kernel
theorem dX0_takeUp_111 : decode cX0_takeUp 111 = .ok (.putfield 25, 3) := by decide +kernel
theorem dX0_takeUp_114 : decode cX0_takeUp 114 = .ok (.goto 182, 3) := by decide +kernel
theorem dX0_takeUp_117 : decode cX0_takeUp 117 = .ok (.aload_n 0, 1) := by decide +kernel
theorem dX0_takeUp_118 : decode cX0_takeUp 118 = .ok (.getfield 30, 3) := by decide +kernel
theorem dX0_takeUp_121 : decode cX0_takeUp 121 = .ok (.aload_n 0, 1) := by decide +kernel
theorem dX0_takeUp_122 : decode cX0_takeUp 122 = .ok (.getfield 34, 3) := by decide +kernel
theorem dX0_takeUp_125 : decode cX0_takeUp 125 = .ok (.aload_n 0, 1) := by decide +kernel
theorem dX0_takeUp_126 : decode cX0_takeUp 126 = .ok (.getfield 43, 3) := by decide +kernel
theorem dX0_takeUp_129 : decode cX0_takeUp 129 = .ok (.iconst 0, 1) := by decide +kernel
theorem dX0_takeUp_130 : decode cX0_takeUp 130 = .ok (.iaload, 1) := by decide +kernel
theorem dX0_takeUp_131 : decode cX0_takeUp 131 = .ok (.aload_n 0, 1) := by decide +kernel
theorem dX0_takeUp_132 : decode cX0_takeUp 132 = .ok (.getfield 34, 3) := by decide +kernel
theorem dX0_takeUp_135 : decode cX0_takeUp 135 = .ok (.aload_n 0, 1) := by decide +kernel
theorem dX0_takeUp_136 : decode cX0_takeUp 136 = .ok (.getfield 43, 3) := by decide +kernel
theorem dX0_takeUp_139 : decode cX0_takeUp 139 = .ok (.iconst 1, 1) := by decide +kernel
theorem dX0_takeUp_140 : decode cX0_takeUp 140 = .ok (.iaload, 1) := by decide +kernel
theorem dX0_takeUp_141 : decode cX0_takeUp 141 = .ok (.aload_n 0, 1) := by decide +kernel
theorem dX0_takeUp_142 : decode cX0_takeUp 142 = .ok (.getfield 43, 3) := by decide +kernel
theorem dX0_takeUp_145 : decode cX0_takeUp 145 = .ok (.iconst 2, 1) := by decide +kernel
theorem dX0_takeUp_146 : decode cX0_takeUp 146 = .ok (.iaload, 1) := by decide +kernel
theorem dX0_takeUp_147 : decode cX0_takeUp 147 = .ok (.invokestatic 130, 3) := by decide +kernel
theorem dX0_takeUp_150 : decode cX0_takeUp 150 = .ok (.aastore, 1) := by decide +kernel
theorem dX0_takeUp_151 : decode cX0_takeUp 151 = .ok (.aload_n 0, 1) := by decide +kernel
theorem dX0_takeUp_152 : decode cX0_takeUp 152 = .ok (.dup, 1) := by decide +kernel
theorem dX0_takeUp_153 : decode cX0_takeUp 153 = .ok (.getfield 34, 3) := by decide +kernel
theorem dX0_takeUp_156 : decode cX0_takeUp 156 = .ok (.iconst 1, 1) := by decide +kernel
theorem dX0_takeUp_157 : decode cX0_takeUp 157 = .ok (.iadd, 1) := by decide +kernel
theorem dX0_takeUp_158 : decode cX0_takeUp 158 = .ok (.putfield 34, 3) := by decide +kernel
theorem dX0_takeUp_161 : decode cX0_takeUp 161 = .ok (.goto 135, 3) := by decide +kernel
theorem dX0_takeUp_164 : decode cX0_takeUp 164 = .ok (.aload_n 0, 1) := by decide +kernel
theorem dX0_takeUp_165 : decode cX0_takeUp 165 = .ok (.getfield 37, 3) := by decide +kernel
theorem dX0_takeUp_168 : decode cX0_takeUp 168 = .ok (.iconst 4, 1) := by decide +kernel
theorem dX0_takeUp_169 : decode cX0_takeUp 169 = .ok (.aload_n 0, 1) := by decide +kernel
theorem dX0_takeUp_170 : decode cX0_takeUp 170 = .ok (.getfield 40, 3) := by decide +kernel
theorem dX0_takeUp_173 : decode cX0_takeUp 173 = .ok (.imul, 1) := by decide +kernel
theorem dX0_takeUp_174 : decode cX0_takeUp 174 = .ok (.bipush 10, 2) := by decide +kernel
theorem dX0_takeUp_176 : decode cX0_takeUp 176 = .ok (.aload_n 0, 1) := by decide +kernel
theorem dX0_takeUp_177 : decode cX0_takeUp 177 = .ok (.getfield 43, 3) := by decide +kernel
theorem dX0_takeUp_180 : decode cX0_takeUp 180 = .ok (.iconst 0, 1) := by decide +kernel
theorem dX0_takeUp_181 : decode cX0_takeUp 181 = .ok (.iaload, 1) := by decide +kernel
theorem dX0_takeUp_182 : decode cX0_takeUp 182 = .ok (.aload_n 0, 1) := by decide +kernel
theorem dX0_takeUp_183 : decode cX0_takeUp 183 = .ok (.getfield 43, 3) := by decide +kernel
theorem dX0_takeUp_186 : decode cX0_takeUp 186 = .ok (.iconst 2, 1) := by decide +kernel
theorem dX0_takeUp_187 : decode cX0_takeUp 187 = .ok (.iaload, 1) := by decide +kernel
theorem dX0_takeUp_188 : decode cX0_takeUp 188 = .ok (.invokestatic 134, 3) := by decide +kernel
theorem dX0_takeUp_191 : decode cX0_takeUp 191 = .ok (.imul, 1) := by decide +kernel
theorem dX0_takeUp_192 : decode cX0_takeUp 192 = .ok (.iastore, 1) := by decide +kernel
theorem dX0_takeUp_193 : decode cX0_takeUp 193 = .ok (.aload_n 0, 1) := by decide +kernel
theorem dX0_takeUp_194 : decode cX0_takeUp 194 = .ok (.getfield 37, 3) := by decide +kernel
theorem dX0_takeUp_197 : decode cX0_takeUp 197 = .ok (.iconst 4, 1) := by decide +kernel
theorem dX0_takeUp_198 : decode cX0_takeUp 198 = .ok (.aload_n 0, 1) := by decide +kernel
theorem dX0_takeUp_199 : decode cX0_takeUp 199 = .ok (.getfield 40, 3) := by decide +kernel
theorem dX0_takeUp_202 : decode cX0_takeUp 202 = .ok (.imul, 1) := by decide +kernel
theorem dX0_takeUp_203 : decode cX0_takeUp 203 = .ok (.iconst 1, 1) := by decide +kernel
theorem dX0_takeUp_204 : decode cX0_takeUp 204 = .ok (.iadd, 1) := by decide +kernel
theorem dX0_takeUp_205 : decode cX0_takeUp 205 = .ok (.bipush 10, 2) := by decide +kernel
theorem dX0_takeUp_207 : decode cX0_takeUp 207 = .ok (.aload_n 0, 1) := by decide +kernel
theorem dX0_takeUp_208 : decode cX0_takeUp 208 = .ok (.getfield 43, 3) := by decide +kernel
theorem dX0_takeUp_211 : decode cX0_takeUp 211 = .ok (.iconst 1, 1) := by decide +kernel
theorem dX0_takeUp_212 : decode cX0_takeUp 212 = .ok (.iaload, 1) := by decide +kernel
theorem dX0_takeUp_213 : decode cX0_takeUp 213 = .ok (.aload_n 0, 1) := by decide +kernel
theorem dX0_takeUp_214 : decode cX0_takeUp 214 = .ok (.getfield 43, 3) := by decide +kernel
theorem dX0_takeUp_217 : decode cX0_takeUp 217 = .ok (.iconst 3, 1) := by decide +kernel
theorem dX0_takeUp_218 : decode cX0_takeUp 218 = .ok (.iaload, 1) := by decide +kernel
theorem dX0_takeUp_219 : decode cX0_takeUp 219 = .ok (.invokestatic 134, 3) := by decide +kernel
theorem dX0_takeUp_222 : decode cX0_takeUp 222 = .ok (.imul, 1) := by decide +kernel
theorem dX0_takeUp_223 : decode cX0_takeUp 223 = .ok (.iastore, 1) := by decide +kernel
theorem dX0_takeUp_224 : decode cX0_takeUp 224 = .ok (.aload_n 0, 1) := by decide +kernel
theorem dX0_takeUp_225 : decode cX0_takeUp 225 = .ok (.getfield 37, 3) := by decide +kernel
theorem dX0_takeUp_228 : decode cX0_takeUp 228 = .ok (.iconst 4, 1) := by decide +kernel
theorem dX0_takeUp_229 : decode cX0_takeUp 229 = .ok (.aload_n 0, 1) := by decide +kernel
theorem dX0_takeUp_230 : decode cX0_takeUp 230 = .ok (.getfield 40, 3) := by decide +kernel
theorem dX0_takeUp_233 : decode cX0_takeUp 233 = .ok (.imul, 1) := by decide +kernel
theorem dX0_takeUp_234 : decode cX0_takeUp 234 = .ok (.iconst 2, 1) := by decide +kernel
theorem dX0_takeUp_235 : decode cX0_takeUp 235 = .ok (.iadd, 1) := by decide +kernel
theorem dX0_takeUp_236 : decode cX0_takeUp 236 = .ok (.bipush 10, 2) := by decide +kernel
theorem dX0_takeUp_238 : decode cX0_takeUp 238 = .ok (.aload_n 0, 1) := by decide +kernel
theorem dX0_takeUp_239 : decode cX0_takeUp 239 = .ok (.getfield 43, 3) := by decide +kernel
theorem dX0_takeUp_242 : decode cX0_takeUp 242 = .ok (.iconst 0, 1) := by decide +kernel
theorem dX0_takeUp_243 : decode cX0_takeUp 243 = .ok (.iaload, 1) := by decide +kernel
theorem dX0_takeUp_244 : decode cX0_takeUp 244 = .ok (.aload_n 0, 1) := by decide +kernel
theorem dX0_takeUp_245 : decode cX0_takeUp 245 = .ok (.getfield 43, 3) := by decide +kernel
theorem dX0_takeUp_248 : decode cX0_takeUp 248 = .ok (.iconst 2, 1) := by decide +kernel
theorem dX0_takeUp_249 : decode cX0_takeUp 249 = .ok (.iaload, 1) := by decide +kernel
theorem dX0_takeUp_250 : decode cX0_takeUp 250 = .ok (.invokestatic 140, 3) := by decide +kernel
theorem dX0_takeUp_253 : decode cX0_takeUp 253 = .ok (.imul, 1) := by decide +kernel
theorem dX0_takeUp_254 : decode cX0_takeUp 254 = .ok (.iastore, 1) := by decide +kernel
theorem dX0_takeUp_255 : decode cX0_takeUp 255 = .ok (.aload_n 0, 1) := by decide +kernel
theorem dX0_takeUp_256 : decode cX0_takeUp 256 = .ok (.getfield 37, 3) := by decide +kernel
theorem dX0_takeUp_259 : decode cX0_takeUp 259 = .ok (.iconst 4, 1) := by decide +kernel
theorem dX0_takeUp_260 : decode cX0_takeUp 260 = .ok (.aload_n 0, 1) := by decide +kernel
theorem dX0_takeUp_261 : decode cX0_takeUp 261 = .ok (.getfield 40, 3) := by decide +kernel
theorem dX0_takeUp_264 : decode cX0_takeUp 264 = .ok (.imul, 1) := by decide +kernel
theorem dX0_takeUp_265 : decode cX0_takeUp 265 = .ok (.iconst 3, 1) := by decide +kernel
theorem dX0_takeUp_266 : decode cX0_takeUp 266 = .ok (.iadd, 1) := by decide +kernel
theorem dX0_takeUp_267 : decode cX0_takeUp 267 = .ok (.bipush 10, 2) := by decide +kernel
theorem dX0_takeUp_269 : decode cX0_takeUp 269 = .ok (.aload_n 0, 1) := by decide +kernel
theorem dX0_takeUp_270 : decode cX0_takeUp 270 = .ok (.getfield 43, 3) := by decide +kernel
theorem dX0_takeUp_273 : decode cX0_takeUp 273 = .ok (.iconst 1, 1) := by decide +kernel
theorem dX0_takeUp_274 : decode cX0_takeUp 274 = .ok (.iaload, 1) := by decide +kernel
theorem dX0_takeUp_275 : decode cX0_takeUp 275 = .ok (.aload_n 0, 1) := by decide +kernel
theorem dX0_takeUp_276 : decode cX0_takeUp 276 = .ok (.getfield 43, 3) := by decide +kernel
theorem dX0_takeUp_279 : decode cX0_takeUp 279 = .ok (.iconst 3, 1) := by decide +kernel
theorem dX0_takeUp_280 : decode cX0_takeUp 280 = .ok (.iaload, 1) := by decide +kernel
theorem dX0_takeUp_281 : decode cX0_takeUp 281 = .ok (.invokestatic 140, 3) := by decide +kernel
theorem dX0_takeUp_284 : decode cX0_takeUp 284 = .ok (.imul, 1) := by decide +kernel
theorem dX0_takeUp_285 : decode cX0_takeUp 285 = .ok (.iastore, 1) := by decide +kernel
theorem dX0_takeUp_286 : decode cX0_takeUp 286 = .ok (.aload_n 0, 1) := by decide +kernel
theorem dX0_takeUp_287 : decode cX0_takeUp 287 = .ok (.dup, 1) := by decide +kernel
theorem dX0_takeUp_288 : decode cX0_takeUp 288 = .ok (.getfield 40, 3) := by decide +kernel
theorem dX0_takeUp_291 : decode cX0_takeUp 291 = .ok (.iconst 1, 1) := by decide +kernel
theorem dX0_takeUp_292 : decode cX0_takeUp 292 = .ok (.iadd, 1) := by decide +kernel
theorem dX0_takeUp_293 : decode cX0_takeUp 293 = .ok (.putfield 40, 3) := by decide +kernel
theorem dX0_takeUp_296 : decode cX0_takeUp 296 = .ok (.return_, 1) := by decide +kernel
theorem dX0_isWind_0 : decode cX0_isWind 0 = .ok (.bipush (-90), 2) := by decide +kernel
theorem dX0_isWind_2 : decode cX0_isWind 2 = .ok (.iload_n 0, 1) := by decide +kernel
theorem dX0_isWind_3 : decode cX0_isWind 3 = .ok (.bipush 90, 2) := by decide +kernel
theorem dX0_isWind_5 : decode cX0_isWind 5 = .ok (.invokestatic 52, 3) := by decide +kernel
theorem dX0_isWind_8 : decode cX0_isWind 8 = .ok (.ireturn, 1) := by decide +kernel
theorem dX0_isYards_0 : decode cX0_isYards 0 = .ok (.sipush (-3000), 3) := by decide +kernel
theorem dX0_isYards_3 : decode cX0_isYards 3 = .ok (.iload_n 0, 1) := by decide +kernel
theorem dX0_isYards_4 : decode cX0_isYards 4 = .ok (.sipush 3000, 3) := by decide +kernel
theorem dX0_isYards_7 : decode cX0_isYards 7 = .ok (.invokestatic 52, 3) := by decide +kernel
theorem dX0_isYards_10 : decode cX0_isYards 10 = .ok (.ireturn, 1) := by decide +kernel
theorem dX1_init_0 : decode cX1_init 0 = .ok (.aload_n 0, 1) := by decide +kernel
theorem dX1_init_1 : decode cX1_init 1 = .ok (.iload_n 1, 1) := by decide +kernel
theorem dX1_init_2 : decode cX1_init 2 = .ok (.iload_n 2, 1) := by decide +kernel
theorem dX1_init_3 : decode cX1_init 3 = .ok (.iload_n 3, 1) := by decide +kernel
theorem dX1_init_4 : decode cX1_init 4 = .ok (.invokespecial 1, 3) := by decide +kernel
theorem dX1_init_7 : decode cX1_init 7 = .ok (.aload_n 0, 1) := by decide +kernel
theorem dX1_init_8 : decode cX1_init 8 = .ok (.iconst 5, 1) := by decide +kernel
theorem dX1_init_9 : decode cX1_init 9 = .ok (.putfield 7, 3) := by decide +kernel
theorem dX1_init_12 : decode cX1_init 12 = .ok (.aload_n 0, 1) := by decide +kernel
theorem dX1_init_13 : decode cX1_init 13 = .ok (.dup, 1) := by decide +kernel
theorem dX1_init_14 : decode cX1_init 14 = .ok (.getfield 13, 3) := by decide +kernel
theorem dX1_init_17 : decode cX1_init 17 = .ok (.iconst 2, 1) := by decide +kernel
theorem dX1_init_18 : decode cX1_init 18 = .ok (.isub, 1) := by decide +kernel
theorem dX1_init_19 : decode cX1_init 19 = .ok (.putfield 13, 3) := by decide +kernel
theorem dX1_init_22 : decode cX1_init 22 = .ok (.aload_n 0, 1) := by decide +kernel
theorem dX1_init_23 : decode cX1_init 23 = .ok (.dup, 1) := by decide +kernel
theorem dX1_init_24 : decode cX1_init 24 = .ok (.getfield 16, 3) := by decide +kernel
theorem dX1_init_27 : decode cX1_init 27 = .ok (.bipush 10, 2) := by decide +kernel
theorem dX1_init_29 : decode cX1_init 29 = .ok (.iadd, 1) := by decide +kernel
theorem dX1_init_30 : decode cX1_init 30 = .ok (.putfield 16, 3) := by decide +kernel
theorem dX1_init_33 : decode cX1_init 33 = .ok (.aload_n 0, 1) := by decide +kernel
theorem dX1_init_34 : decode cX1_init 34 = .ok (.dup, 1) := by decide +kernel
theorem dX1_init_35 : decode cX1_init 35 = .ok (.getfield 19, 3) := by decide +kernel
theorem dX1_init_38 : decode cX1_init 38 = .ok (.iconst 3, 1) := by decide +kernel
theorem dX1_init_39 : decode cX1_init 39 = .ok (.iadd, 1) := by decide +kernel
theorem dX1_init_40 : decode cX1_init 40 = .ok (.putfield 19, 3) := by decide +kernel
theorem dX1_init_43 : decode cX1_init 43 = .ok (.return_, 1) := by decide +kernel
theorem dX1_steersAlongX_0 : decode cX1_steersAlongX 0 = .ok (.iload 4, 2) := by decide +kernel
theorem dX1_steersAlongX_2 : decode cX1_steersAlongX 2 = .ok (.invokestatic 22, 3) := by decide +kernel
theorem dX1_steersAlongX_5 : decode cX1_steersAlongX 5 = .ok (.iload_n 3, 1) := by decide +kernel
theorem dX1_steersAlongX_6 : decode cX1_steersAlongX 6 = .ok (.invokestatic 22, 3) := by decide +kernel
theorem dX1_steersAlongX_9 : decode cX1_steersAlongX 9 = .ok (.if_icmp .le 7, 3) := by decide +kernel
theorem dX1_steersAlongX_12 : decode cX1_steersAlongX 12 = .ok (.iconst 1, 1) := by decide +kernel
theorem dX1_steersAlongX_13 : decode cX1_steersAlongX 13 = .ok (.goto 4, 3) := by decide +kernel
theorem dX1_steersAlongX_16 : decode cX1_steersAlongX 16 = .ok (.iconst 0, 1) := by decide +kernel
theorem dX1_steersAlongX_17 : decode cX1_steersAlongX 17 = .ok (.ireturn, 1) := by decide +kernel
theorem dX1_fail_0 : decode cX1_fail 0 = .ok (.aload_n 0, 1) := by decide +kernel
theorem dX1_fail_1 : decode cX1_fail 1 = .ok (.getfield 28, 3) := by decide +kernel
theorem dX1_fail_4 : decode cX1_fail 4 = .ok (.ifCond .eq 13, 3) := by decide +kernel
theorem dX1_fail_7 : decode cX1_fail 7 = .ok (.new 31, 3) := by decide +kernel
theorem dX1_fail_10 : decode cX1_fail 10 = .ok (.dup, 1) := by decide +kernel
theorem dX1_fail_11 : decode cX1_fail 11 = .ok (.ldc 33, 2) := by decide +kernel
theorem dX1_fail_13 : decode cX1_fail 13 = .ok (.invokespecial 35, 3) := by decide +kernel
theorem dX1_fail_16 : decode cX1_fail 16 = .ok (.athrow, 1) := by decide +kernel
theorem dX1_fail_17 : decode cX1_fail 17 = .ok (.return_, 1) := by decide +kernel
theorem dX2_init_0 : decode cX2_init 0 = .ok (.aload_n 0, 1) := by decide +kernel
theorem dX2_init_1 : decode cX2_init 1 = .ok (.iload_n 1, 1) := by decide +kernel
theorem dX2_init_2 : decode cX2_init 2 = .ok (.iload_n 2, 1) := by decide +kernel
theorem dX2_init_3 : decode cX2_init 3 = .ok (.iload_n 3, 1) := by decide +kernel
theorem dX2_init_4 : decode cX2_init 4 = .ok (.invokespecial 1, 3) := by decide +kernel
theorem dX2_init_7 : decode cX2_init 7 = .ok (.aload_n 0, 1) := by decide +kernel
theorem dX2_init_8 : decode cX2_init 8 = .ok (.bipush 6, 2) := by decide +kernel
theorem dX2_init_10 : decode cX2_init 10 = .ok (.putfield 7, 3) := by decide +kernel
theorem dX2_init_13 : decode cX2_init 13 = .ok (.aload_n 0, 1) := by decide +kernel
theorem dX2_init_14 : decode cX2_init 14 = .ok (.dup, 1) := by decide +kernel
theorem dX2_init_15 : decode cX2_init 15 = .ok (.getfield 13, 3) := by decide +kernel
theorem dX2_init_18 : decode cX2_init 18 = .ok (.iconst 2, 1) := by decide +kernel
theorem dX2_init_19 : decode cX2_init 19 = .ok (.iadd, 1) := by decide +kernel
theorem dX2_init_20 : decode cX2_init 20 = .ok (.putfield 13, 3) := by decide +kernel
theorem dX2_init_23 : decode cX2_init 23 = .ok (.aload_n 0, 1) := by decide +kernel
theorem dX2_init_24 : decode cX2_init 24 = .ok (.dup, 1) := by decide +kernel
theorem dX2_init_25 : decode cX2_init 25 = .ok (.getfield 16, 3) := by decide +kernel
theorem dX2_init_28 : decode cX2_init 28 = .ok (.iload_n 2, 1) := by decide +kernel
theorem dX2_init_29 : decode cX2_init 29 = .ok (.iconst 3, 1) := by decide +kernel
theorem dX2_init_30 : decode cX2_init 30 = .ok (.imul, 1) := by decide +kernel
theorem dX2_init_31 : decode cX2_init 31 = .ok (.iadd, 1) := by decide +kernel
theorem dX2_init_32 : decode cX2_init 32 = .ok (.putfield 16, 3) := by decide +kernel
theorem dX2_init_35 : decode cX2_init 35 = .ok (.aload_n 0, 1) := by decide +kernel
theorem dX2_init_36 : decode cX2_init 36 = .ok (.dup, 1) := by decide +kernel
theorem dX2_init_37 : decode cX2_init 37 = .ok (.getfield 19, 3) := by decide +kernel
theorem dX2_init_40 : decode cX2_init 40 = .ok (.iload_n 2, 1) := by decide +kernel
theorem dX2_init_41 : decode cX2_init 41 = .ok (.imul, 1) := by decide +kernel
theorem dX2_init_42 : decode cX2_init 42 = .ok (.putfield 19, 3) := by decide +kernel
theorem dX2_init_45 : decode cX2_init 45 = .ok (.return_, 1) := by decide +kernel
theorem dX2_steersAlongX_0 : decode cX2_steersAlongX 0 = .ok (.iload_n 3, 1) := by decide +kernel
theorem dX2_steersAlongX_1 : decode cX2_steersAlongX 1 = .ok (.invokestatic 22, 3) := by decide +kernel
theorem dX2_steersAlongX_4 : decode cX2_steersAlongX 4 = .ok (.iload 4, 2) := by decide +kernel
theorem dX2_steersAlongX_6 : decode cX2_steersAlongX 6 = .ok (.invokestatic 22, 3) := by decide +kernel
theorem dX2_steersAlongX_9 : decode cX2_steersAlongX 9 = .ok (.if_icmp .lt 7, 3) := by decide +kernel
theorem dX2_steersAlongX_12 : decode cX2_steersAlongX 12 = .ok (.iconst 1, 1) := by decide +kernel
theorem dX2_steersAlongX_13 : decode cX2_steersAlongX 13 = .ok (.goto 4, 3) := by decide +kernel
theorem dX2_steersAlongX_16 : decode cX2_steersAlongX 16 = .ok (.iconst 0, 1) := by decide +kernel
theorem dX2_steersAlongX_17 : decode cX2_steersAlongX 17 = .ok (.ireturn, 1) := by decide +kernel
theorem dX2_stepAlong_0 : decode cX2_stepAlong 0 = .ok (.iload_n 2, 1) := by decide +kernel
theorem dX2_stepAlong_1 : decode cX2_stepAlong 1 = .ok (.invokestatic 28, 3) := by decide +kernel
theorem dX2_stepAlong_4 : decode cX2_stepAlong 4 = .ok (.aload_n 0, 1) := by decide +kernel
theorem dX2_stepAlong_5 : decode cX2_stepAlong 5 = .ok (.getfield 16, 3) := by decide +kernel
theorem dX2_stepAlong_8 : decode cX2_stepAlong 8 = .ok (.imul, 1) := by decide +kernel
theorem dX2_stepAlong_9 : decode cX2_stepAlong 9 = .ok (.ireturn, 1) := by decide +kernel
theorem dX3_init_0 : decode cX3_init 0 = .ok (.aload_n 0, 1) := by decide +kernel
theorem dX3_init_1 : decode cX3_init 1 = .ok (.invokespecial 3, 3) := by decide +kernel
theorem dX3_init_4 : decode cX3_init 4 = .ok (.aload_n 0, 1) := by decide +kernel
theorem dX3_init_5 : decode cX3_init 5 = .ok (.new 9, 3) := by decide +kernel
theorem dX3_init_8 : decode cX3_init 8 = .ok (.dup, 1) := by decide +kernel
theorem dX3_init_9 : decode cX3_init 9 = .ok (.iconst 0, 1) := by decide +kernel
theorem dX3_init_10 : decode cX3_init 10 = .ok (.iconst 0, 1) := by decide +kernel
theorem dX3_init_11 : decode cX3_init 11 = .ok (.iconst 0, 1) := by decide +kernel
theorem dX3_init_12 : decode cX3_init 12 = .ok (.invokespecial 11, 3) := by decide +kernel
theorem dX3_init_15 : decode cX3_init 15 = .ok (.putfield 14, 3) := by decide +kernel
theorem dX3_init_18 : decode cX3_init 18 = .ok (.aload_n 0, 1) := by decide +kernel
theorem dX3_init_19 : decode cX3_init 19 = .ok (.iconst 0, 1) := by decide +kernel
theorem dX3_init_20 : decode cX3_init 20 = .ok (.putfield 20, 3) := by decide +kernel
theorem dX3_init_23 : decode cX3_init 23 = .ok (.aload_n 0, 1) := by decide +kernel
theorem dX3_init_24 : decode cX3_init 24 = .ok (.iconst 0, 1) := by decide +kernel
theorem dX3_init_25 : decode cX3_init 25 = .ok (.putfield 24, 3) := by decide +kernel
theorem dX3_init_28 : decode cX3_init 28 = .ok (.aload_n 0, 1) := by decide +kernel
theorem dX3_init_29 : decode cX3_init 29 = .ok (.iconst 0, 1) := by decide +kernel
theorem dX3_init_30 : decode cX3_init 30 = .ok (.putfield 27, 3) := by decide +kernel
theorem dX3_init_33 : decode cX3_init 33 = .ok (.aload_n 0, 1) := by decide +kernel
theorem dX3_init_34 : decode cX3_init 34 = .ok (.iconst 0, 1) := by decide +kernel
theorem dX3_init_35 : decode cX3_init 35 = .ok (.putfield 30, 3) := by decide +kernel
theorem dX3_init_38 : decode cX3_init 38 = .ok (.aload_n 0, 1) := by decide +kernel
theorem dX3_init_39 : decode cX3_init 39 = .ok (.iconst 0, 1) := by decide +kernel
theorem dX3_init_40 : decode cX3_init 40 = .ok (.putfield 33, 3) := by decide +kernel
theorem dX3_init_43 : decode cX3_init 43 = .ok (.aload_n 0, 1) := by decide +kernel
theorem dX3_init_44 : decode cX3_init 44 = .ok (.iconst 0, 1) := by decide +kernel
theorem dX3_init_45 : decode cX3_init 45 = .ok (.putfield 36, 3) := by decide +kernel
theorem dX3_init_48 : decode cX3_init 48 = .ok (.aload_n 0, 1) := by decide +kernel
theorem dX3_init_49 : decode cX3_init 49 = .ok (.iconst 0, 1) := by decide +kernel
theorem dX3_init_50 : decode cX3_init 50 = .ok (.putfield 39, 3) := by decide +kernel
theorem dX3_init_53 : decode cX3_init 53 = .ok (.aload_n 0, 1) := by decide +kernel
theorem dX3_init_54 : decode cX3_init 54 = .ok (.iconst 0, 1) := by decide +kernel
theorem dX3_init_55 : decode cX3_init 55 = .ok (.putfield 42, 3) := by decide +kernel
theorem dX3_init_58 : decode cX3_init 58 = .ok (.aload_n 0, 1) := by decide +kernel
theorem dX3_init_59 : decode cX3_init 59 = .ok (.iconst 0, 1) := by decide +kernel
theorem dX3_init_60 : decode cX3_init 60 = .ok (.putfield 46, 3) := by decide +kernel
theorem dX3_init_63 : decode cX3_init 63 = .ok (.aload_n 0, 1) := by decide +kernel
theorem dX3_init_64 : decode cX3_init 64 = .ok (.iconst 0, 1) := by decide +kernel
theorem dX3_init_65 : decode cX3_init 65 = .ok (.putfield 49, 3) := by decide +kernel
theorem dX3_init_68 : decode cX3_init 68 = .ok (.aload_n 0, 1) := by decide +kernel
theorem dX3_init_69 : decode cX3_init 69 = .ok (.aload_n 1, 1) := by decide +kernel
theorem dX3_init_70 : decode cX3_init 70 = .ok (.putfield 52, 3) := by decide +kernel
theorem dX3_init_73 : decode cX3_init 73 = .ok (.return_, 1) := by decide +kernel
theorem dX3_held_0 : decode cX3_held 0 = .ok (.sipush (-30000), 3) := by decide +kernel
theorem dX3_held_3 : decode cX3_held 3 = .ok (.iload_n 0, 1) := by decide +kernel
theorem dX3_held_4 : decode cX3_held 4 = .ok (.sipush 30000, 3) := by decide +kernel
theorem dX3_held_7 : decode cX3_held 7 = .ok (.invokestatic 56, 3) := by decide +kernel
theorem dX3_held_10 : decode cX3_held 10 = .ok (.invokestatic 62, 3) := by decide +kernel
theorem dX3_held_13 : decode cX3_held 13 = .ok (.ireturn, 1) := by decide +kernel
theorem dX3_begin_0 : decode cX3_begin 0 = .ok (.aload_n 0, 1) := by decide +kernel
theorem dX3_begin_1 : decode cX3_begin 1 = .ok (.aload_n 1, 1) := by decide +kernel
theorem dX3_begin_2 : decode cX3_begin 2 = .ok (.putfield 14, 3) := by decide +kernel
theorem dX3_begin_5 : decode cX3_begin 5 = .ok (.aload_n 0, 1) := by decide +kernel
theorem dX3_begin_6 : decode cX3_begin 6 = .ok (.iload_n 2, 1) := by decide +kernel
theorem dX3_begin_7 : decode cX3_begin 7 = .ok (.putfield 20, 3) := by decide +kernel
theorem dX3_begin_10 : decode cX3_begin 10 = .ok (.aload_n 0, 1) := by decide +kernel
theorem dX3_begin_11 : decode cX3_begin 11 = .ok (.iload_n 3, 1) := by decide +kernel
theorem dX3_begin_12 : decode cX3_begin 12 = .ok (.putfield 24, 3) := by decide +kernel
theorem dX3_begin_15 : decode cX3_begin 15 = .ok (.aload_n 0, 1) := by decide +kernel
theorem dX3_begin_16 : decode cX3_begin 16 = .ok (.iload 4, 2) := by decide +kernel
theorem dX3_begin_18 : decode cX3_begin 18 = .ok (.putfield 39, 3) := by decide +kernel
theorem dX3_begin_21 : decode cX3_begin 21 = .ok (.aload_n 0, 1) := by decide +kernel
theorem dX3_begin_22 : decode cX3_begin 22 = .ok (.aload_n 0, 1) := by decide +kernel
theorem dX3_begin_23 : decode cX3_begin 23 = .ok (.getfield 52, 3) := by decide +kernel
theorem dX3_begin_26 : decode cX3_begin 26 = .ok (.getfield 65, 3) := by decide +kernel
theorem dX3_begin_29 : decode cX3_begin 29 = .ok (.putfield 27, 3) := by decide +kernel
theorem dX3_begin_32 : decode cX3_begin 32 = .ok (.aload_n 0, 1) := by decide +kernel
theorem dX3_begin_33 : decode cX3_begin 33 = .ok (.aload_n 0, 1) := by decide +kernel
theorem dX3_begin_34 : decode cX3_begin 34 = .ok (.getfield 52, 3) := by decide +kernel
theorem dX3_begin_37 : decode cX3_begin 37 = .ok (.getfield 70, 3) := by decide +kernel
theorem dX3_begin_40 : decode cX3_begin 40 = .ok (.putfield 33, 3) := by decide +kernel
theorem dX3_begin_43 : decode cX3_begin 43 = .ok (.aload_n 0, 1) := by decide +kernel
theorem dX3_begin_44 : decode cX3_begin 44 = .ok (.aload_n 1, 1) := by decide +kernel
theorem dX3_begin_45 : decode cX3_begin 45 = .ok (.getfield 71, 3) := by decide +kernel
theorem dX3_begin_48 : decode cX3_begin 48 = .ok (.putfield 36, 3) := by decide +kernel
theorem dX3_begin_51 : decode cX3_begin 51 = .ok (.aload_n 0, 1) := by decide +kernel
theorem dX3_begin_52 : decode cX3_begin 52 = .ok (.iconst 0, 1) := by decide +kernel
theorem dX3_begin_53 : decode cX3_begin 53 = .ok (.putfield 30, 3) := by decide +kernel
theorem dX3_begin_56 : decode cX3_begin 56 = .ok (.aload_n 0, 1) := by decide +kernel
theorem dX3_begin_57 : decode cX3_begin 57 = .ok (.iconst 0, 1) := by decide +kernel
theorem dX3_begin_58 : decode cX3_begin 58 = .ok (.putfield 42, 3) := by decide +kernel
theorem dX3_begin_61 : decode cX3_begin 61 = .ok (.return_, 1) := by decide +kernel
theorem dX3_holdWay_0 : decode cX3_holdWay 0 = .ok (.aload_n 0, 1) := by decide +kernel
theorem dX3_holdWay_1 : decode cX3_holdWay 1 = .ok (.iconst 1, 1) := by decide +kernel
theorem dX3_holdWay_2 : decode cX3_holdWay 2 = .ok (.putfield 42, 3) := by decide +kernel
theorem dX3_holdWay_5 : decode cX3_holdWay 5 = .ok (.aload_n 0, 1) := by decide +kernel
theorem dX3_holdWay_6 : decode cX3_holdWay 6 = .ok (.iload_n 1, 1) := by decide +kernel
theorem dX3_holdWay_7 : decode cX3_holdWay 7 = .ok (.putfield 46, 3) := by decide +kernel
theorem dX3_holdWay_10 : decode cX3_holdWay 10 = .ok (.aload_n 0, 1) := by decide +kernel
theorem dX3_holdWay_11 : decode cX3_holdWay 11 = .ok (.iload_n 2, 1) := by decide +kernel
theorem dX3_holdWay_12 : decode cX3_holdWay 12 = .ok (.putfield 49, 3) := by decide +kernel
theorem dX3_holdWay_15 : decode cX3_holdWay 15 = .ok (.return_, 1) := by decide +kernel
theorem dX3_openAt_0 : decode cX3_openAt 0 = .ok (.aload_n 0, 1) := by decide +kernel
theorem dX3_openAt_1 : decode cX3_openAt 1 = .ok (.iload_n 1, 1) := by decide +kernel
theorem dX3_openAt_2 : decode cX3_openAt 2 = .ok (.putfield 27, 3) := by decide +kernel
theorem dX3_openAt_5 : decode cX3_openAt 5 = .ok (.aload_n 0, 1) := by decide +kernel
theorem dX3_openAt_6 : decode cX3_openAt 6 = .ok (.iconst 0, 1) := by decide +kernel
theorem dX3_openAt_7 : decode cX3_openAt 7 = .ok (.putfield 36, 3) := by decide +kernel
theorem dX3_openAt_10 : decode cX3_openAt 10 = .ok (.return_, 1) := by decide +kernel
theorem dX3_hasLanded_0 : decode cX3_hasLanded 0 = .ok (.aload_n 0, 1) := by decide +kernel
theorem dX3_hasLanded_1 : decode cX3_hasLanded 1 = .ok (.getfield 27, 3) := by decide +kernel
theorem dX3_hasLanded_4 : decode cX3_hasLanded 4 = .ok (.ifCond .gt 7, 3) := by decide +kernel
theorem dX3_hasLanded_7 : decode cX3_hasLanded 7 = .ok (.iconst 1, 1) := by decide +kernel
theorem dX3_hasLanded_8 : decode cX3_hasLanded 8 = .ok (.goto 4, 3) := by decide +kernel
theorem dX3_hasLanded_11 : decode cX3_hasLanded 11 = .ok (.iconst 0, 1) := by decide +kernel
theorem dX3_hasLanded_12 : decode cX3_hasLanded 12 = .ok (.ireturn, 1) := by decide +kernel
theorem dX3_land_0 : decode cX3_land 0 = .ok (.aload_n 0, 1) := by decide +kernel
theorem dX3_land_1 : decode cX3_land 1 = .ok (.sipush 400, 3) := by decide +kernel
theorem dX3_land_4 : decode cX3_land 4 = .ok (.invokevirtual 72, 3) := by decide +kernel
theorem dX3_land_7 : decode cX3_land 7 = .ok (.return_, 1) := by decide +kernel
theorem dX3_offFrom_0 : decode cX3_offFrom 0 = .ok (.aload_n 0, 1) := by decide +kernel
theorem dX3_offFrom_1 : decode cX3_offFrom 1 = .ok (.aload_n 1, 1) := by decide +kernel
theorem dX3_offFrom_2 : decode cX3_offFrom 2 = .ok (.iload_n 2, 1) := by decide +kernel
theorem dX3_offFrom_3 : decode cX3_offFrom 3 = .ok (.iload_n 3, 1) := by decide +kernel
theorem dX3_offFrom_4 : decode cX3_offFrom 4 = .ok (.iconst 1, 1) := by decide +kernel
theorem dX3_offFrom_5 : decode cX3_offFrom 5 = .ok (.invokevirtual 76, 3) := by decide +kernel
theorem dX3_offFrom_8 : decode cX3_offFrom 8 = .ok (.aload_n 0, 1) := by decide +kernel
theorem dX3_offFrom_9 : decode cX3_offFrom 9 = .ok (.sipush 400, 3) := by decide +kernel
theorem dX3_offFrom_12 : decode cX3_offFrom 12 = .ok (.invokevirtual 72, 3) := by decide +kernel
theorem dX3_offFrom_15 : decode cX3_offFrom 15 = .ok (.aload_n 0, 1) := by decide +kernel
theorem dX3_offFrom_16 : decode cX3_offFrom 16 = .ok (.invokevirtual 80, 3) := by decide +kernel
theorem dX3_offFrom_19 : decode cX3_offFrom 19 = .ok (.ireturn, 1) := by decide +kernel
theorem dX3_goOn_0 : decode cX3_goOn 0 = .ok (.iconst 0, 1) := by decide +kernel
theorem dX3_goOn_1 : decode cX3_goOn 1 = .ok (.istore_n 2, 1) := by decide +kernel
theorem dX3_goOn_2 : decode cX3_goOn 2 = .ok (.iload_n 2, 1) := by decide +kernel
theorem dX3_goOn_3 : decode cX3_goOn 3 = .ok (.iload_n 1, 1) := by decide +kernel
theorem dX3_goOn_4 : decode cX3_goOn 4 = .ok (.if_icmp .ge 149, 3) := by decide +kernel
theorem dX3_goOn_7 : decode cX3_goOn 7 = .ok (.aload_n 0, 1) := by decide +kernel
theorem dX3_goOn_8 : decode cX3_goOn 8 = .ok (.getfield 27, 3) := by decide +kernel
theorem dX3_goOn_11 : decode cX3_goOn 11 = .ok (.ifCond .le 142, 3) := by decide +kernel
theorem dX3_goOn_14 : decode cX3_goOn 14 = .ok (.iconst 0, 1) := by decide +kernel
theorem dX3_goOn_15 : decode cX3_goOn 15 = .ok (.aload_n 0, 1) := by decide +kernel
theorem dX3_goOn_16 : decode cX3_goOn 16 = .ok (.getfield 27, 3) := by decide +kernel
theorem dX3_goOn_19 : decode cX3_goOn 19 = .ok (.sipush 300, 3) := by decide +kernel
theorem dX3_goOn_22 : decode cX3_goOn 22 = .ok (.idiv, 1) := by decide +kernel
theorem dX3_goOn_23 : decode cX3_goOn 23 = .ok (.bipush 9, 2) := by decide +kernel
theorem dX3_goOn_25 : decode cX3_goOn 25 = .ok (.invokestatic 56, 3) := by decide +kernel
theorem dX3_goOn_28 : decode cX3_goOn 28 = .ok (.invokestatic 62, 3) := by decide +kernel
theorem dX3_goOn_31 : decode cX3_goOn 31 = .ok (.istore_n 3, 1) := by decide +kernel
theorem dX3_goOn_32 : decode cX3_goOn 32 = .ok (.aload_n 0, 1) := by decide +kernel
theorem dX3_goOn_33 : decode cX3_goOn 33 = .ok (.getfield 30, 3) := by decide +kernel
theorem dX3_goOn_36 : decode cX3_goOn 36 = .ok (.aload_n 0, 1) := by decide +kernel
theorem dX3_goOn_37 : decode cX3_goOn 37 = .ok (.getfield 36, 3) := by decide +kernel
theorem dX3_goOn_40 : decode cX3_goOn 40 = .ok (.if_icmp .ge 28, 3) := by decide +kernel
theorem dX3_goOn_43 : decode cX3_goOn 43 = .ok (.aload_n 0, 1) := by decide +kernel
theorem dX3_goOn_44 : decode cX3_goOn 44 = .ok (.aload_n 0, 1) := by decide +kernel
theorem dX3_goOn_45 : decode cX3_goOn 45 = .ok (.getfield 52, 3) := by decide +kernel
theorem dX3_goOn_48 : decode cX3_goOn 48 = .ok (.getfield 84, 3) := by decide +kernel
theorem dX3_goOn_51 : decode cX3_goOn 51 = .ok (.iload_n 3, 1) := by decide +kernel
theorem dX3_goOn_52 : decode cX3_goOn 52 = .ok (.iaload, 1) := by decide +kernel
theorem dX3_goOn_53 : decode cX3_goOn 53 = .ok (.aload_n 0, 1) := by decide +kernel
theorem dX3_goOn_54 : decode cX3_goOn 54 = .ok (.getfield 52, 3) := by decide +kernel
theorem dX3_goOn_57 : decode cX3_goOn 57 = .ok (.getfield 88, 3) := by decide +kernel
theorem dX3_goOn_60 : decode cX3_goOn 60 = .ok (.iload_n 3, 1) := by decide +kernel
theorem dX3_goOn_61 : decode cX3_goOn 61 = .ok (.iaload, 1) := by decide +kernel
theorem dX3_goOn_62 : decode cX3_goOn 62 = .ok (.invokevirtual 91, 3) := by decide +kernel
theorem dX3_goOn_65 : decode cX3_goOn 65 = .ok (.goto 38, 3) := by decide +kernel
theorem dX3_goOn_68 : decode cX3_goOn 68 = .ok (.aload_n 0, 1) := by decide +kernel
theorem dX3_goOn_69 : decode cX3_goOn 69 = .ok (.aload_n 0, 1) := by decide +kernel
theorem dX3_goOn_70 : decode cX3_goOn 70 = .ok (.getfield 52, 3) := by decide +kernel
theorem dX3_goOn_73 : decode cX3_goOn 73 = .ok (.getfield 84, 3) := by decide +kernel
theorem dX3_goOn_76 : decode cX3_goOn 76 = .ok (.iload_n 3, 1) := by decide +kernel
theorem dX3_goOn_77 : decode cX3_goOn 77 = .ok (.iaload, 1) := by decide +kernel
theorem dX3_goOn_78 : decode cX3_goOn 78 = .ok (.iload_n 3, 1) := by decide +kernel
theorem dX3_goOn_79 : decode cX3_goOn 79 = .ok (.ifCond .ne 10, 3) := by decide +kernel
theorem dX3_goOn_82 : decode cX3_goOn 82 = .ok (.aload_n 0, 1) := by decide +kernel
theorem dX3_goOn_83 : decode cX3_goOn 83 = .ok (.invokevirtual 95, 3) := by decide +kernel
theorem dX3_goOn_86 : decode cX3_goOn 86 = .ok (.goto 4, 3) := by decide +kernel
theorem dX3_goOn_89 : decode cX3_goOn 89 = .ok (.iconst 0, 1) := by decide +kernel
theorem dX3_goOn_90 : decode cX3_goOn 90 = .ok (.iadd, 1) := by decide +kernel
theorem dX3_goOn_91 : decode cX3_goOn 91 = .ok (.aload_n 0, 1) := by decide +kernel
theorem dX3_goOn_92 : decode cX3_goOn 92 = .ok (.getfield 52, 3) := by decide +kernel
theorem dX3_goOn_95 : decode cX3_goOn 95 = .ok (.getfield 88, 3) := by decide +kernel
theorem dX3_goOn_98 : decode cX3_goOn 98 = .ok (.iload_n 3, 1) := by decide +kernel
theorem dX3_goOn_99 : decode cX3_goOn 99 = .ok (.iaload, 1) := by decide +kernel
theorem dX3_goOn_100 : decode cX3_goOn 100 = .ok (.invokevirtual 98, 3) := by decide +kernel
theorem dX3_goOn_103 : decode cX3_goOn 103 = .ok (.aload_n 0, 1) := by decide +kernel
theorem dX3_goOn_104 : decode cX3_goOn 104 = .ok (.dup, 1) := by decide +kernel
theorem dX3_goOn_105 : decode cX3_goOn 105 = .ok (.getfield 30, 3) := by decide +kernel
theorem dX3_goOn_108 : decode cX3_goOn 108 = .ok (.iconst 1, 1) := by decide +kernel
theorem dX3_goOn_109 : decode cX3_goOn 109 = .ok (.iadd, 1) := by decide +kernel
theorem dX3_goOn_110 : decode cX3_goOn 110 = .ok (.putfield 30, 3) := by decide +kernel
theorem dX3_goOn_113 : decode cX3_goOn 113 = .ok (.aload_n 0, 1) := by decide +kernel
theorem dX3_goOn_114 : decode cX3_goOn 114 = .ok (.aload_n 0, 1) := by decide +kernel
theorem dX3_goOn_115 : decode cX3_goOn 115 = .ok (.getfield 20, 3) := by decide +kernel
theorem dX3_goOn_118 : decode cX3_goOn 118 = .ok (.invokestatic 101, 3) := by decide +kernel
theorem dX3_goOn_121 : decode cX3_goOn 121 = .ok (.putfield 20, 3) := by decide +kernel
theorem dX3_goOn_124 : decode cX3_goOn 124 = .ok (.aload_n 0, 1) := by decide +kernel
theorem dX3_goOn_125 : decode cX3_goOn 125 = .ok (.aload_n 0, 1) := by decide +kernel
theorem dX3_goOn_126 : decode cX3_goOn 126 = .ok (.getfield 24, 3) := by decide +kernel
theorem dX3_goOn_129 : decode cX3_goOn 129 = .ok (.invokestatic 101, 3) := by decide +kernel
theorem dX3_goOn_132 : decode cX3_goOn 132 = .ok (.putfield 24, 3) := by decide +kernel
theorem dX3_goOn_135 : decode cX3_goOn 135 = .ok (.aload_n 0, 1) := by decide +kernel
theorem dX3_goOn_136 : decode cX3_goOn 136 = .ok (.iconst 0, 1) := by decide +kernel
theorem dX3_goOn_137 : decode cX3_goOn 137 = .ok (.aload_n 0, 1) := by decide +kernel
theorem dX3_goOn_138 : decode cX3_goOn 138 = .ok (.getfield 27, 3) := by decide +kernel
theorem dX3_goOn_141 : decode cX3_goOn 141 = .ok (.invokestatic 62, 3) := by decide +kernel
theorem dX3_goOn_144 : decode cX3_goOn 144 = .ok (.putfield 27, 3) := by decide +kernel
theorem dX3_goOn_147 : decode cX3_goOn 147 = .ok (.iinc 2 1, 3) := by decide +kernel
theorem dX3_goOn_150 : decode cX3_goOn 150 = .ok (.goto (-148), 3) := by decide +kernel
theorem dX3_goOn_153 : decode cX3_goOn 153 = .ok (.return_, 1) := by decide +kernel
theorem dX3_plunge_0 : decode cX3_plunge 0 = .ok (.aload_n 0, 1) := by decide +kernel
theorem dX3_plunge_1 : decode cX3_plunge 1 = .ok (.dup, 1) := by decide +kernel
theorem dX3_plunge_2 : decode cX3_plunge 2 = .ok (.getfield 20, 3) := by decide +kernel
theorem dX3_plunge_5 : decode cX3_plunge 5 = .ok (.aload_n 0, 1) := by decide +kernel
theorem dX3_plunge_6 : decode cX3_plunge 6 = .ok (.getfield 52, 3) := by decide +kernel
theorem dX3_plunge_9 : decode cX3_plunge 9 = .ok (.getfield 105, 3) := by decide +kernel
theorem dX3_plunge_12 : decode cX3_plunge 12 = .ok (.iconst 0, 1) := by decide +kernel
theorem dX3_plunge_13 : decode cX3_plunge 13 = .ok (.bipush 10, 2) := by decide +kernel
theorem dX3_plunge_15 : decode cX3_plunge 15 = .ok (.aload_n 0, 1) := by decide +kernel
theorem dX3_plunge_16 : decode cX3_plunge 16 = .ok (.getfield 30, 3) := by decide +kernel
theorem dX3_plunge_19 : decode cX3_plunge 19 = .ok (.isub, 1) := by decide +kernel
theorem dX3_plunge_20 : decode cX3_plunge 20 = .ok (.invokestatic 62, 3) := by decide +kernel
theorem dX3_plunge_23 : decode cX3_plunge 23 = .ok (.imul, 1) := by decide +kernel
theorem dX3_plunge_24 : decode cX3_plunge 24 = .ok (.bipush 10, 2) := by decide +kernel
theorem dX3_plunge_26 : decode cX3_plunge 26 = .ok (.idiv, 1) := by decide +kernel
theorem dX3_plunge_27 : decode cX3_plunge 27 = .ok (.aload_n 0, 1) := by decide +kernel
theorem dX3_plunge_28 : decode cX3_plunge 28 = .ok (.getfield 14, 3) := by decide +kernel
theorem dX3_plunge_31 : decode cX3_plunge 31 = .ok (.iload_n 1, 1) := by decide +kernel
theorem dX3_plunge_32 : decode cX3_plunge 32 = .ok (.invokevirtual 108, 3) := by decide +kernel
theorem dX3_plunge_35 : decode cX3_plunge 35 = .ok (.iconst 2, 1) := by decide +kernel
theorem dX3_plunge_36 : decode cX3_plunge 36 = .ok (.idiv, 1) := by decide +kernel
theorem dX3_plunge_37 : decode cX3_plunge 37 = .ok (.iadd, 1) := by decide +kernel
theorem dX3_plunge_38 : decode cX3_plunge 38 = .ok (.iadd, 1) := by decide +kernel
theorem dX3_plunge_39 : decode cX3_plunge 39 = .ok (.putfield 20, 3) := by decide +kernel
theorem dX3_plunge_42 : decode cX3_plunge 42 = .ok (.aload_n 0, 1) := by decide +kernel
theorem dX3_plunge_43 : decode cX3_plunge 43 = .ok (.dup, 1) := by decide +kernel
theorem dX3_plunge_44 : decode cX3_plunge 44 = .ok (.getfield 24, 3) := by decide +kernel
theorem dX3_plunge_47 : decode cX3_plunge 47 = .ok (.aload_n 0, 1) := by decide +kernel
theorem dX3_plunge_48 : decode cX3_plunge 48 = .ok (.getfield 14, 3) := by decide +kernel
theorem dX3_plunge_51 : decode cX3_plunge 51 = .ok (.iload_n 2, 1) := by decide +kernel
theorem dX3_plunge_52 : decode cX3_plunge 52 = .ok (.invokevirtual 108, 3) := by decide +kernel
theorem dX3_plunge_55 : decode cX3_plunge 55 = .ok (.iconst 2, 1) := by decide +kernel
theorem dX3_plunge_56 : decode cX3_plunge 56 = .ok (.idiv, 1) := by decide +kernel
theorem dX3_plunge_57 : decode cX3_plunge 57 = .ok (.iadd, 1) := by decide +kernel
theorem dX3_plunge_58 : decode cX3_plunge 58 = .ok (.putfield 24, 3) := by decide +kernel
theorem dX3_plunge_61 : decode cX3_plunge 61 = .ok (.aload_n 0, 1) := by decide +kernel
theorem dX3_plunge_62 : decode cX3_plunge 62 = .ok (.dup, 1) := by decide +kernel
theorem dX3_plunge_63 : decode cX3_plunge 63 = .ok (.getfield 27, 3) := by decide +kernel
theorem dX3_plunge_66 : decode cX3_plunge 66 = .ok (.aload_n 0, 1) := by decide +kernel
theorem dX3_plunge_67 : decode cX3_plunge 67 = .ok (.getfield 14, 3) := by decide +kernel
theorem dX3_plunge_70 : decode cX3_plunge 70 = .ok (.getfield 111, 3) := by decide +kernel
theorem dX3_plunge_73 : decode cX3_plunge 73 = .ok (.isub, 1) := by decide +kernel
theorem dX3_plunge_74 : decode cX3_plunge 74 = .ok (.putfield 27, 3) := by decide +kernel
theorem dX3_plunge_77 : decode cX3_plunge 77 = .ok (.return_, 1) := by decide +kernel
theorem dX3_sink_0 : decode cX3_sink 0 = .ok (.aload_n 0, 1) := by decide +kernel
theorem dX3_sink_1 : decode cX3_sink 1 = .ok (.getfield 42, 3) := by decide +kernel
theorem dX3_sink_4 : decode cX3_sink 4 = .ok (.ifCond .eq 10, 3) := by decide +kernel
theorem dX3_sink_7 : decode cX3_sink 7 = .ok (.aload_n 0, 1) := by decide +kernel
theorem dX3_sink_8 : decode cX3_sink 8 = .ok (.getfield 46, 3) := by decide +kernel
theorem dX3_sink_11 : decode cX3_sink 11 = .ok (.goto 20, 3) := by decide +kernel
theorem dX3_sink_14 : decode cX3_sink 14 = .ok (.aload_n 0, 1) := by decide +kernel
theorem dX3_sink_15 : decode cX3_sink 15 = .ok (.getfield 14, 3) := by decide +kernel
theorem dX3_sink_18 : decode cX3_sink 18 = .ok (.aload_n 0, 1) := by decide +kernel
theorem dX3_sink_19 : decode cX3_sink 19 = .ok (.getfield 20, 3) := by decide +kernel
theorem dX3_sink_22 : decode cX3_sink 22 = .ok (.aload_n 0, 1) := by decide +kernel
theorem dX3_sink_23 : decode cX3_sink 23 = .ok (.getfield 24, 3) := by decide +kernel
theorem dX3_sink_26 : decode cX3_sink 26 = .ok (.iload_n 1, 1) := by decide +kernel
theorem dX3_sink_27 : decode cX3_sink 27 = .ok (.iload_n 2, 1) := by decide +kernel
theorem dX3_sink_28 : decode cX3_sink 28 = .ok (.invokevirtual 114, 3) := by decide +kernel
theorem dX3_sink_31 : decode cX3_sink 31 = .ok (.istore_n 3, 1) := by decide +kernel
theorem dX3_sink_32 : decode cX3_sink 32 = .ok (.aload_n 0, 1) := by decide +kernel
theorem dX3_sink_33 : decode cX3_sink 33 = .ok (.getfield 42, 3) := by decide +kernel
theorem dX3_sink_36 : decode cX3_sink 36 = .ok (.ifCond .eq 10, 3) := by decide +kernel
theorem dX3_sink_39 : decode cX3_sink 39 = .ok (.aload_n 0, 1) := by decide +kernel
theorem dX3_sink_40 : decode cX3_sink 40 = .ok (.getfield 49, 3) := by decide +kernel
theorem dX3_sink_43 : decode cX3_sink 43 = .ok (.goto 20, 3) := by decide +kernel
theorem dX3_sink_46 : decode cX3_sink 46 = .ok (.aload_n 0, 1) := by decide +kernel
theorem dX3_sink_47 : decode cX3_sink 47 = .ok (.getfield 14, 3) := by decide +kernel
theorem dX3_sink_50 : decode cX3_sink 50 = .ok (.aload_n 0, 1) := by decide +kernel
theorem dX3_sink_51 : decode cX3_sink 51 = .ok (.getfield 20, 3) := by decide +kernel
theorem dX3_sink_54 : decode cX3_sink 54 = .ok (.aload_n 0, 1) := by decide +kernel
theorem dX3_sink_55 : decode cX3_sink 55 = .ok (.getfield 24, 3) := by decide +kernel
theorem dX3_sink_58 : decode cX3_sink 58 = .ok (.iload_n 1, 1) := by decide +kernel
theorem dX3_sink_59 : decode cX3_sink 59 = .ok (.iload_n 2, 1) := by decide +kernel
theorem dX3_sink_60 : decode cX3_sink 60 = .ok (.invokevirtual 118, 3) := by decide +kernel
theorem dX3_sink_63 : decode cX3_sink 63 = .ok (.istore 4, 2) := by decide +kernel
theorem dX3_sink_65 : decode cX3_sink 65 = .ok (.aload_n 0, 1) := by decide +kernel
theorem dX3_sink_66 : decode cX3_sink 66 = .ok (.dup, 1) := by decide +kernel
theorem dX3_sink_67 : decode cX3_sink 67 = .ok (.getfield 20, 3) := by decide +kernel
theorem dX3_sink_70 : decode cX3_sink 70 = .ok (.iload_n 3, 1) := by decide +kernel
theorem dX3_sink_71 : decode cX3_sink 71 = .ok (.aload_n 0, 1) := by decide +kernel
theorem dX3_sink_72 : decode cX3_sink 72 = .ok (.getfield 14, 3) := by decide +kernel
theorem dX3_sink_75 : decode cX3_sink 75 = .ok (.iload_n 1, 1) := by decide +kernel
theorem dX3_sink_76 : decode cX3_sink 76 = .ok (.invokevirtual 108, 3) := by decide +kernel
theorem dX3_sink_79 : decode cX3_sink 79 = .ok (.iadd, 1) := by decide +kernel
theorem dX3_sink_80 : decode cX3_sink 80 = .ok (.iadd, 1) := by decide +kernel
theorem dX3_sink_81 : decode cX3_sink 81 = .ok (.putfield 20, 3) := by decide +kernel
theorem dX3_sink_84 : decode cX3_sink 84 = .ok (.aload_n 0, 1) := by decide +kernel
theorem dX3_sink_85 : decode cX3_sink 85 = .ok (.dup, 1) := by decide +kernel
theorem dX3_sink_86 : decode cX3_sink 86 = .ok (.getfield 24, 3) := by decide +kernel
theorem dX3_sink_89 : decode cX3_sink 89 = .ok (.iload 4, 2) := by decide +kernel
theorem dX3_sink_91 : decode cX3_sink 91 = .ok (.aload_n 0, 1) := by decide +kernel
theorem dX3_sink_92 : decode cX3_sink 92 = .ok (.getfield 14, 3) := by decide +kernel
theorem dX3_sink_95 : decode cX3_sink 95 = .ok (.iload_n 2, 1) := by decide +kernel
theorem dX3_sink_96 : decode cX3_sink 96 = .ok (.invokevirtual 108, 3) := by decide +kernel
theorem dX3_sink_99 : decode cX3_sink 99 = .ok (.iadd, 1) := by decide +kernel
theorem dX3_sink_100 : decode cX3_sink 100 = .ok (.iadd, 1) := by decide +kernel
theorem dX3_sink_101 : decode cX3_sink 101 = .ok (.putfield 24, 3) := by decide +kernel
theorem dX3_sink_104 : decode cX3_sink 104 = .ok (.aload_n 0, 1) := by decide +kernel
theorem dX3_sink_105 : decode cX3_sink 105 = .ok (.dup, 1) := by decide +kernel
theorem dX3_sink_106 : decode cX3_sink 106 = .ok (.getfield 27, 3) := by decide +kernel
theorem dX3_sink_109 : decode cX3_sink 109 = .ok (.aload_n 0, 1) := by decide +kernel
theorem dX3_sink_110 : decode cX3_sink 110 = .ok (.getfield 14, 3) := by decide +kernel
theorem dX3_sink_113 : decode cX3_sink 113 = .ok (.getfield 121, 3) := by decide +kernel
theorem dX3_sink_116 : decode cX3_sink 116 = .ok (.isub, 1) := by decide +kernel
theorem dX3_sink_117 : decode cX3_sink 117 = .ok (.putfield 27, 3) := by decide +kernel
theorem dX3_sink_120 : decode cX3_sink 120 = .ok (.return_, 1) := by decide +kernel
theorem dX3_puff_0 : decode cX3_puff 0 = .ok (.aload_n 0, 1) := by decide +kernel
theorem dX3_puff_1 : decode cX3_puff 1 = .ok (.getfield 33, 3) := by decide +kernel
theorem dX3_puff_4 : decode cX3_puff 4 = .ok (.ifCond .gt 5, 3) := by decide +kernel
theorem dX3_puff_7 : decode cX3_puff 7 = .ok (.iconst 0, 1) := by decide +kernel
theorem dX3_puff_8 : decode cX3_puff 8 = .ok (.ireturn, 1) := by decide +kernel
theorem dX3_puff_9 : decode cX3_puff 9 = .ok (.aload_n 0, 1) := by decide +kernel
theorem dX3_puff_10 : decode cX3_puff 10 = .ok (.aload_n 0, 1) := by decide +kernel
theorem dX3_puff_11 : decode cX3_puff 11 = .ok (.getfield 39, 3) := by decide +kernel
theorem dX3_puff_14 : decode cX3_puff 14 = .ok (.ldc 124, 2) := by decide +kernel
theorem dX3_puff_16 : decode cX3_puff 16 = .ok (.imul, 1) := by decide +kernel
theorem dX3_puff_17 : decode cX3_puff 17 = .ok (.sipush 12345, 3) := by decide +kernel
theorem dX3_puff_20 : decode cX3_puff 20 = .ok (.iadd, 1) := by decide +kernel
theorem dX3_puff_21 : decode cX3_puff 21 = .ok (.putfield 39, 3) := by decide +kernel
theorem dX3_puff_24 : decode cX3_puff 24 = .ok (.aload_n 0, 1) := by decide +kernel
theorem dX3_puff_25 : decode cX3_puff 25 = .ok (.getfield 39, 3) := by decide +kernel
theorem dX3_puff_28 : decode cX3_puff 28 = .ok (.ldc 127, 2) := by decide +kernel
theorem dX3_puff_30 : decode cX3_puff 30 = .ok (.iand, 1) := by decide +kernel
theorem dX3_puff_31 : decode cX3_puff 31 = .ok (.ldc 128, 2) := by decide +kernel
theorem dX3_puff_33 : decode cX3_puff 33 = .ok (.idiv, 1) := by decide +kernel
theorem dX3_puff_34 : decode cX3_puff 34 = .ok (.iconst 2, 1) := by decide +kernel
theorem dX3_puff_35 : decode cX3_puff 35 = .ok (.aload_n 0, 1) := by decide +kernel
theorem dX3_puff_36 : decode cX3_puff 36 = .ok (.getfield 33, 3) := by decide +kernel
theorem dX3_puff_39 : decode cX3_puff 39 = .ok (.imul, 1) := by decide +kernel
theorem dX3_puff_40 : decode cX3_puff 40 = .ok (.iconst 1, 1) := by decide +kernel
theorem dX3_puff_41 : decode cX3_puff 41 = .ok (.iadd, 1) := by decide +kernel
theorem dX3_puff_42 : decode cX3_puff 42 = .ok (.irem, 1) := by decide +kernel
theorem dX3_puff_43 : decode cX3_puff 43 = .ok (.aload_n 0, 1) := by decide +kernel
theorem dX3_puff_44 : decode cX3_puff 44 = .ok (.getfield 33, 3) := by decide +kernel
theorem dX3_puff_47 : decode cX3_puff 47 = .ok (.isub, 1) := by decide +kernel
theorem dX3_puff_48 : decode cX3_puff 48 = .ok (.ireturn, 1) := by decide +kernel
theorem dX3_off_0 : decode cX3_off 0 = .ok (.aload_n 0, 1) := by decide +kernel
theorem dX3_off_1 : decode cX3_off 1 = .ok (.getfield 20, 3) := by decide +kernel
theorem dX3_off_4 : decode cX3_off 4 = .ok (.invokestatic 129, 3) := by decide +kernel
theorem dX3_off_7 : decode cX3_off 7 = .ok (.aload_n 0, 1) := by decide +kernel
theorem dX3_off_8 : decode cX3_off 8 = .ok (.getfield 24, 3) := by decide +kernel
theorem dX3_off_11 : decode cX3_off 11 = .ok (.invokestatic 129, 3) := by decide +kernel
theorem dX3_off_14 : decode cX3_off 14 = .ok (.iadd, 1) := by decide +kernel
theorem dX3_off_15 : decode cX3_off 15 = .ok (.ireturn, 1) := by decide +kernel
theorem dX3_apartFrom_0 : decode cX3_apartFrom 0 = .ok (.aload_n 0, 1) := by decide +kernel
theorem dX3_apartFrom_1 : decode cX3_apartFrom 1 = .ok (.getfield 20, 3) := by decide +kernel
theorem dX3_apartFrom_4 : decode cX3_apartFrom 4 = .ok (.aload_n 1, 1) := by decide +kernel
theorem dX3_apartFrom_5 : decode cX3_apartFrom 5 = .ok (.getfield 20, 3) := by decide +kernel
theorem dX3_apartFrom_8 : decode cX3_apartFrom 8 = .ok (.isub, 1) := by decide +kernel
theorem dX3_apartFrom_9 : decode cX3_apartFrom 9 = .ok (.invokestatic 129, 3) := by decide +kernel
theorem dX3_apartFrom_12 : decode cX3_apartFrom 12 = .ok (.aload_n 0, 1) := by decide +kernel
theorem dX3_apartFrom_13 : decode cX3_apartFrom 13 = .ok (.getfield 24, 3) := by decide +kernel
theorem dX3_apartFrom_16 : decode cX3_apartFrom 16 = .ok (.aload_n 1, 1) := by decide +kernel
theorem dX3_apartFrom_17 : decode cX3_apartFrom 17 = .ok (.getfield 24, 3) := by decide +kernel
theorem dX3_apartFrom_20 : decode cX3_apartFrom 20 = .ok (.isub, 1) := by decide +kernel
theorem dX3_apartFrom_21 : decode cX3_apartFrom 21 = .ok (.invokestatic 129, 3) := by decide +kernel
theorem dX3_apartFrom_24 : decode cX3_apartFrom 24 = .ok (.iadd, 1) := by decide +kernel
theorem dX3_apartFrom_25 : decode cX3_apartFrom 25 = .ok (.aload_n 0, 1) := by decide +kernel
theorem dX3_apartFrom_26 : decode cX3_apartFrom 26 = .ok (.getfield 27, 3) := by decide +kernel
theorem dX3_apartFrom_29 : decode cX3_apartFrom 29 = .ok (.aload_n 1, 1) := by decide +kernel
theorem dX3_apartFrom_30 : decode cX3_apartFrom 30 = .ok (.getfield 27, 3) := by decide +kernel
theorem dX3_apartFrom_33 : decode cX3_apartFrom 33 = .ok (.isub, 1) := by decide +kernel
theorem dX3_apartFrom_34 : decode cX3_apartFrom 34 = .ok (.invokestatic 129, 3) := by decide +kernel
theorem dX3_apartFrom_37 : decode cX3_apartFrom 37 = .ok (.iadd, 1) := by decide +kernel
theorem dX3_apartFrom_38 : decode cX3_apartFrom 38 = .ok (.ireturn, 1) := by decide +kernel
theorem dX4_init_0 : decode cX4_init 0 = .ok (.aload_n 0, 1) := by decide +kernel
theorem dX4_init_1 : decode cX4_init 1 = .ok (.invokespecial 1, 3) := by decide +kernel
theorem dX4_init_4 : decode cX4_init 4 = .ok (.aload_n 0, 1) := by decide +kernel
theorem dX4_init_5 : decode cX4_init 5 = .ok (.iconst 0, 1) := by decide +kernel
theorem dX4_init_6 : decode cX4_init 6 = .ok (.putfield 7, 3) := by decide +kernel
theorem dX4_init_9 : decode cX4_init 9 = .ok (.aload_n 0, 1) := by decide +kernel
theorem dX4_init_10 : decode cX4_init 10 = .ok (.bipush 120, 2) := by decide +kernel
theorem dX4_init_12 : decode cX4_init 12 = .ok (.putfield 13, 3) := by decide +kernel
theorem dX4_init_15 : decode cX4_init 15 = .ok (.aload_n 0, 1) := by decide +kernel
theorem dX4_init_16 : decode cX4_init 16 = .ok (.bipush 16, 2) := by decide +kernel
theorem dX4_init_18 : decode cX4_init 18 = .ok (.putfield 16, 3) := by decide +kernel
theorem dX4_init_21 : decode cX4_init 21 = .ok (.aload_n 0, 1) := by decide +kernel
theorem dX4_init_22 : decode cX4_init 22 = .ok (.bipush 40, 2) := by decide +kernel
theorem dX4_init_24 : decode cX4_init 24 = .ok (.putfield 19, 3) := by decide +kernel
theorem dX4_init_27 : decode cX4_init 27 = .ok (.aload_n 0, 1) := by decide +kernel
theorem dX4_init_28 : decode cX4_init 28 = .ok (.bipush 10, 2) := by decide +kernel
theorem dX4_init_30 : decode cX4_init 30 = .ok (.putfield 22, 3) := by decide +kernel
theorem dX4_init_33 : decode cX4_init 33 = .ok (.aload_n 0, 1) := by decide +kernel
theorem dX4_init_34 : decode cX4_init 34 = .ok (.iload_n 1, 1) := by decide +kernel
theorem dX4_init_35 : decode cX4_init 35 = .ok (.putfield 25, 3) := by decide +kernel
theorem dX4_init_38 : decode cX4_init 38 = .ok (.aload_n 0, 1) := by decide +kernel
theorem dX4_init_39 : decode cX4_init 39 = .ok (.iload_n 2, 1) := by decide +kernel
theorem dX4_init_40 : decode cX4_init 40 = .ok (.putfield 28, 3) := by decide +kernel
theorem dX4_init_43 : decode cX4_init 43 = .ok (.aload_n 0, 1) := by decide +kernel
theorem dX4_init_44 : decode cX4_init 44 = .ok (.iload_n 3, 1) := by decide +kernel
theorem dX4_init_45 : decode cX4_init 45 = .ok (.putfield 31, 3) := by decide +kernel
theorem dX4_init_48 : decode cX4_init 48 = .ok (.return_, 1) := by decide +kernel
theorem dX4_ofKind_0 : decode cX4_ofKind 0 = .ok (.iload_n 0, 1) := by decide +kernel
theorem dX4_ofKind_1 : decode cX4_ofKind 1 = .ok (.tableswitch 120 1 7 #[43, 54, 65, 76, 87, 98, 109], 43) := by decide +kernel
theorem dX4_ofKind_44 : decode cX4_ofKind 44 = .ok (.new 34, 3) := by decide +kernel
theorem dX4_ofKind_47 : decode cX4_ofKind 47 = .ok (.dup, 1) := by decide +kernel
theorem dX4_ofKind_48 : decode cX4_ofKind 48 = .ok (.iload_n 1, 1) := by decide +kernel
theorem dX4_ofKind_49 : decode cX4_ofKind 49 = .ok (.iload_n 2, 1) := by decide +kernel
theorem dX4_ofKind_50 : decode cX4_ofKind 50 = .ok (.iload_n 3, 1) := by decide +kernel
theorem dX4_ofKind_51 : decode cX4_ofKind 51 = .ok (.invokespecial 36, 3) := by decide +kernel
theorem dX4_ofKind_54 : decode cX4_ofKind 54 = .ok (.areturn, 1) := by decide +kernel
theorem dX4_ofKind_55 : decode cX4_ofKind 55 = .ok (.new 39, 3) := by decide +kernel
theorem dX4_ofKind_58 : decode cX4_ofKind 58 = .ok (.dup, 1) := by decide +kernel
theorem dX4_ofKind_59 : decode cX4_ofKind 59 = .ok (.iload_n 1, 1) := by decide +kernel
theorem dX4_ofKind_60 : decode cX4_ofKind 60 = .ok (.iload_n 2, 1) := by decide +kernel
theorem dX4_ofKind_61 : decode cX4_ofKind 61 = .ok (.iload_n 3, 1) := by decide +kernel
theorem dX4_ofKind_62 : decode cX4_ofKind 62 = .ok (.invokespecial 41, 3) := by decide +kernel
theorem dX4_ofKind_65 : decode cX4_ofKind 65 = .ok (.areturn, 1) := by decide +kernel
theorem dX4_ofKind_66 : decode cX4_ofKind 66 = .ok (.new 42, 3) := by decide +kernel
theorem dX4_ofKind_69 : decode cX4_ofKind 69 = .ok (.dup, 1) := by decide +kernel
theorem dX4_ofKind_70 : decode cX4_ofKind 70 = .ok (.iload_n 1, 1) := by decide +kernel
theorem dX4_ofKind_71 : decode cX4_ofKind 71 = .ok (.iload_n 2, 1) := by decide +kernel
theorem dX4_ofKind_72 : decode cX4_ofKind 72 = .ok (.iload_n 3, 1) := by decide +kernel
theorem dX4_ofKind_73 : decode cX4_ofKind 73 = .ok (.invokespecial 44, 3) := by decide +kernel
theorem dX4_ofKind_76 : decode cX4_ofKind 76 = .ok (.areturn, 1) := by decide +kernel
theorem dX4_ofKind_77 : decode cX4_ofKind 77 = .ok (.new 45, 3) := by decide +kernel
theorem dX4_ofKind_80 : decode cX4_ofKind 80 = .ok (.dup, 1) := by decide +kernel
theorem dX4_ofKind_81 : decode cX4_ofKind 81 = .ok (.iload_n 1, 1) := by decide +kernel
theorem dX4_ofKind_82 : decode cX4_ofKind 82 = .ok (.iload_n 2, 1) := by decide +kernel
theorem dX4_ofKind_83 : decode cX4_ofKind 83 = .ok (.iload_n 3, 1) := by decide +kernel
theorem dX4_ofKind_84 : decode cX4_ofKind 84 = .ok (.invokespecial 47, 3) := by decide +kernel
theorem dX4_ofKind_87 : decode cX4_ofKind 87 = .ok (.areturn, 1) := by decide +kernel
theorem dX4_ofKind_88 : decode cX4_ofKind 88 = .ok (.new 48, 3) := by decide +kernel
theorem dX4_ofKind_91 : decode cX4_ofKind 91 = .ok (.dup, 1) := by decide +kernel
theorem dX4_ofKind_92 : decode cX4_ofKind 92 = .ok (.iload_n 1, 1) := by decide +kernel
theorem dX4_ofKind_93 : decode cX4_ofKind 93 = .ok (.iload_n 2, 1) := by decide +kernel
theorem dX4_ofKind_94 : decode cX4_ofKind 94 = .ok (.iload_n 3, 1) := by decide +kernel
theorem dX4_ofKind_95 : decode cX4_ofKind 95 = .ok (.invokespecial 50, 3) := by decide +kernel
theorem dX4_ofKind_98 : decode cX4_ofKind 98 = .ok (.areturn, 1) := by decide +kernel
theorem dX4_ofKind_99 : decode cX4_ofKind 99 = .ok (.new 51, 3) := by decide +kernel
theorem dX4_ofKind_102 : decode cX4_ofKind 102 = .ok (.dup, 1) := by decide +kernel
theorem dX4_ofKind_103 : decode cX4_ofKind 103 = .ok (.iload_n 1, 1) := by decide +kernel
theorem dX4_ofKind_104 : decode cX4_ofKind 104 = .ok (.iload_n 2, 1) := by decide +kernel
theorem dX4_ofKind_105 : decode cX4_ofKind 105 = .ok (.iload_n 3, 1) := by decide +kernel
theorem dX4_ofKind_106 : decode cX4_ofKind 106 = .ok (.invokespecial 53, 3) := by decide +kernel
theorem dX4_ofKind_109 : decode cX4_ofKind 109 = .ok (.areturn, 1) := by decide +kernel
theorem dX4_ofKind_110 : decode cX4_ofKind 110 = .ok (.new 54, 3) := by decide +kernel
theorem dX4_ofKind_113 : decode cX4_ofKind 113 = .ok (.dup, 1) := by decide +kernel
theorem dX4_ofKind_114 : decode cX4_ofKind 114 = .ok (.iload_n 1, 1) := by decide +kernel
theorem dX4_ofKind_115 : decode cX4_ofKind 115 = .ok (.iload_n 2, 1) := by decide +kernel
theorem dX4_ofKind_116 : decode cX4_ofKind 116 = .ok (.iload_n 3, 1) := by decide +kernel
theorem dX4_ofKind_117 : decode cX4_ofKind 117 = .ok (.invokespecial 56, 3) := by decide +kernel
theorem dX4_ofKind_120 : decode cX4_ofKind 120 = .ok (.areturn, 1) := by decide +kernel
theorem dX4_ofKind_121 : decode cX4_ofKind 121 = .ok (.new 8, 3) := by decide +kernel
theorem dX4_ofKind_124 : decode cX4_ofKind 124 = .ok (.dup, 1) := by decide +kernel
theorem dX4_ofKind_125 : decode cX4_ofKind 125 = .ok (.iload_n 1, 1) := by decide +kernel
theorem dX4_ofKind_126 : decode cX4_ofKind 126 = .ok (.iload_n 2, 1) := by decide +kernel
theorem dX4_ofKind_127 : decode cX4_ofKind 127 = .ok (.iload_n 3, 1) := by decide +kernel
theorem dX4_ofKind_128 : decode cX4_ofKind 128 = .ok (.invokespecial 57, 3) := by decide +kernel
theorem dX4_ofKind_131 : decode cX4_ofKind 131 = .ok (.areturn, 1) := by decide +kernel
theorem dX4_driftOf_0 : decode cX4_driftOf 0 = .ok (.iload_n 1, 1) := by decide +kernel
theorem dX4_driftOf_1 : decode cX4_driftOf 1 = .ok (.ireturn, 1) := by decide +kernel
theorem dX4_isToSteer_0 : decode cX4_isToSteer 0 = .ok (.iconst 1, 1) := by decide +kernel
theorem dX4_isToSteer_1 : decode cX4_isToSteer 1 = .ok (.ireturn, 1) := by decide +kernel
theorem dX4_steersAlongX_0 : decode cX4_steersAlongX 0 = .ok (.iload_n 1, 1) := by decide +kernel
theorem dX4_steersAlongX_1 : decode cX4_steersAlongX 1 = .ok (.invokestatic 58, 3) := by decide +kernel
theorem dX4_steersAlongX_4 : decode cX4_steersAlongX 4 = .ok (.iload_n 2, 1) := by decide +kernel
theorem dX4_steersAlongX_5 : decode cX4_steersAlongX 5 = .ok (.invokestatic 58, 3) := by decide +kernel
theorem dX4_steersAlongX_8 : decode cX4_steersAlongX 8 = .ok (.if_icmp .lt 7, 3) := by decide +kernel
theorem dX4_steersAlongX_11 : decode cX4_steersAlongX 11 = .ok (.iconst 1, 1) := by decide +kernel
theorem dX4_steersAlongX_12 : decode cX4_steersAlongX 12 = .ok (.goto 4, 3) := by decide +kernel
theorem dX4_steersAlongX_15 : decode cX4_steersAlongX 15 = .ok (.iconst 0, 1) := by decide +kernel
theorem dX4_steersAlongX_16 : decode cX4_steersAlongX 16 = .ok (.ireturn, 1) := by decide +kernel
theorem dX4_stepAlong_0 : decode cX4_stepAlong 0 = .ok (.aload_n 0, 1) := by decide +kernel
theorem dX4_stepAlong_1 : decode cX4_stepAlong 1 = .ok (.getfield 19, 3) := by decide +kernel
theorem dX4_stepAlong_4 : decode cX4_stepAlong 4 = .ok (.iload_n 1, 1) := by decide +kernel
theorem dX4_stepAlong_5 : decode cX4_stepAlong 5 = .ok (.invokestatic 58, 3) := by decide +kernel
theorem dX4_stepAlong_8 : decode cX4_stepAlong 8 = .ok (.invokestatic 64, 3) := by decide +kernel
theorem dX4_stepAlong_11 : decode cX4_stepAlong 11 = .ok (.istore_n 3, 1) := by decide +kernel
theorem dX4_stepAlong_12 : decode cX4_stepAlong 12 = .ok (.iload_n 1, 1) := by decide +kernel
theorem dX4_stepAlong_13 : decode cX4_stepAlong 13 = .ok (.ifCond .le 8, 3) := by decide +kernel
theorem dX4_stepAlong_16 : decode cX4_stepAlong 16 = .ok (.iload_n 3, 1) := by decide +kernel
theorem dX4_stepAlong_17 : decode cX4_stepAlong 17 = .ok (.ineg, 1) := by decide +kernel
theorem dX4_stepAlong_18 : decode cX4_stepAlong 18 = .ok (.goto 4, 3) := by decide +kernel
theorem dX4_stepAlong_21 : decode cX4_stepAlong 21 = .ok (.iload_n 3, 1) := by decide +kernel
theorem dX4_stepAlong_22 : decode cX4_stepAlong 22 = .ok (.ireturn, 1) := by decide +kernel
theorem dX4_steerEast_0 : decode cX4_steerEast 0 = .ok (.aload_n 0, 1) := by decide +kernel
theorem dX4_steerEast_1 : decode cX4_steerEast 1 = .ok (.iload_n 1, 1) := by decide +kernel
theorem dX4_steerEast_2 : decode cX4_steerEast 2 = .ok (.iload_n 2, 1) := by decide +kernel
theorem dX4_steerEast_3 : decode cX4_steerEast 3 = .ok (.invokevirtual 68, 3) := by decide +kernel
theorem dX4_steerEast_6 : decode cX4_steerEast 6 = .ok (.ifCond .eq 24, 3) := by decide +kernel
theorem dX4_steerEast_9 : decode cX4_steerEast 9 = .ok (.aload_n 0, 1) := by decide +kernel
theorem dX4_steerEast_10 : decode cX4_steerEast 10 = .ok (.iload_n 1, 1) := by decide +kernel
theorem dX4_steerEast_11 : decode cX4_steerEast 11 = .ok (.iload_n 2, 1) := by decide +kernel
theorem dX4_steerEast_12 : decode cX4_steerEast 12 = .ok (.iload_n 3, 1) := by decide +kernel
theorem dX4_steerEast_13 : decode cX4_steerEast 13 = .ok (.iload 4, 2) := by decide +kernel
theorem dX4_steerEast_15 : decode cX4_steerEast 15 = .ok (.invokevirtual 72, 3) := by decide +kernel
theorem dX4_steerEast_18 : decode cX4_steerEast 18 = .ok (.ifCond .eq 12, 3) := by decide +kernel
theorem dX4_steerEast_21 : decode cX4_steerEast 21 = .ok (.aload_n 0, 1) := by decide +kernel
theorem dX4_steerEast_22 : decode cX4_steerEast 22 = .ok (.iload_n 1, 1) := by decide +kernel
theorem dX4_steerEast_23 : decode cX4_steerEast 23 = .ok (.iload_n 3, 1) := by decide +kernel
theorem dX4_steerEast_24 : decode cX4_steerEast 24 = .ok (.invokevirtual 76, 3) := by decide +kernel
theorem dX4_steerEast_27 : decode cX4_steerEast 27 = .ok (.goto 4, 3) := by decide +kernel
theorem dX4_steerEast_30 : decode cX4_steerEast 30 = .ok (.iconst 0, 1) := by decide +kernel
theorem dX4_steerEast_31 : decode cX4_steerEast 31 = .ok (.ireturn, 1) := by decide +kernel
theorem dX4_steerNorth_0 : decode cX4_steerNorth 0 = .ok (.aload_n 0, 1) := by decide +kernel
theorem dX4_steerNorth_1 : decode cX4_steerNorth 1 = .ok (.iload_n 1, 1) := by decide +kernel
theorem dX4_steerNorth_2 : decode cX4_steerNorth 2 = .ok (.iload_n 2, 1) := by decide +kernel
theorem dX4_steerNorth_3 : decode cX4_steerNorth 3 = .ok (.invokevirtual 68, 3) := by decide +kernel
theorem dX4_steerNorth_6 : decode cX4_steerNorth 6 = .ok (.ifCond .eq 25, 3) := by decide +kernel
theorem dX4_steerNorth_9 : decode cX4_steerNorth 9 = .ok (.aload_n 0, 1) := by decide +kernel
theorem dX4_steerNorth_10 : decode cX4_steerNorth 10 = .ok (.iload_n 1, 1) := by decide +kernel
theorem dX4_steerNorth_11 : decode cX4_steerNorth 11 = .ok (.iload_n 2, 1) := by decide +kernel
theorem dX4_steerNorth_12 : decode cX4_steerNorth 12 = .ok (.iload_n 3, 1) := by decide +kernel
theorem dX4_steerNorth_13 : decode cX4_steerNorth 13 = .ok (.iload 4, 2) := by decide +kernel
theorem dX4_steerNorth_15 : decode cX4_steerNorth 15 = .ok (.invokevirtual 72, 3) := by decide +kernel
theorem dX4_steerNorth_18 : decode cX4_steerNorth 18 = .ok (.ifCond .ne 13, 3) := by decide +kernel
theorem dX4_steerNorth_21 : decode cX4_steerNorth 21 = .ok (.aload_n 0, 1) := by decide +kernel
theorem dX4_steerNorth_22 : decode cX4_steerNorth 22 = .ok (.iload_n 2, 1) := by decide +kernel
theorem dX4_steerNorth_23 : decode cX4_steerNorth 23 = .ok (.iload 4, 2) := by decide +kernel
theorem dX4_steerNorth_25 : decode cX4_steerNorth 25 = .ok (.invokevirtual 76, 3) := by decide +kernel
theorem dX4_steerNorth_28 : decode cX4_steerNorth 28 = .ok (.goto 4, 3) := by decide +kernel
theorem dX4_steerNorth_31 : decode cX4_steerNorth 31 = .ok (.iconst 0, 1) := by decide +kernel
theorem dX4_steerNorth_32 : decode cX4_steerNorth 32 = .ok (.ireturn, 1) := by decide +kernel
theorem dX4_fail_0 : decode cX4_fail 0 = .ok (.aload_n 0, 1) := by decide +kernel
theorem dX4_fail_1 : decode cX4_fail 1 = .ok (.getfield 28, 3) := by decide +kernel
theorem dX4_fail_4 : decode cX4_fail 4 = .ok (.ifCond .eq 13, 3) := by decide +kernel
theorem dX4_fail_7 : decode cX4_fail 7 = .ok (.new 79, 3) := by decide +kernel
theorem dX4_fail_10 : decode cX4_fail 10 = .ok (.dup, 1) := by decide +kernel
theorem dX4_fail_11 : decode cX4_fail 11 = .ok (.ldc 81, 2) := by decide +kernel
theorem dX4_fail_13 : decode cX4_fail 13 = .ok (.invokespecial 83, 3) := by decide +kernel
theorem dX4_fail_16 : decode cX4_fail 16 = .ok (.athrow, 1) := by decide +kernel
theorem dX4_fail_17 : decode cX4_fail 17 = .ok (.return_, 1) := by decide +kernel
theorem dX5_init_0 : decode cX5_init 0 = .ok (.aload_n 0, 1) := by decide +kernel
theorem dX5_init_1 : decode cX5_init 1 = .ok (.iload_n 1, 1) := by decide +kernel
theorem dX5_init_2 : decode cX5_init 2 = .ok (.iload_n 2, 1) := by decide +kernel
theorem dX5_init_3 : decode cX5_init 3 = .ok (.iload_n 3, 1) := by decide +kernel
theorem dX5_init_4 : decode cX5_init 4 = .ok (.invokespecial 1, 3) := by decide +kernel
theorem dX5_init_7 : decode cX5_init 7 = .ok (.aload_n 0, 1) := by decide +kernel
theorem dX5_init_8 : decode cX5_init 8 = .ok (.iconst 3, 1) := by decide +kernel
theorem dX5_init_9 : decode cX5_init 9 = .ok (.putfield 7, 3) := by decide +kernel
theorem dX5_init_12 : decode cX5_init 12 = .ok (.aload_n 0, 1) := by decide +kernel
theorem dX5_init_13 : decode cX5_init 13 = .ok (.dup, 1) := by decide +kernel
theorem dX5_init_14 : decode cX5_init 14 = .ok (.getfield 13, 3) := by decide +kernel
theorem dX5_init_17 : decode cX5_init 17 = .ok (.bipush 25, 2) := by decide +kernel
theorem dX5_init_19 : decode cX5_init 19 = .ok (.iadd, 1) := by decide +kernel
theorem dX5_init_20 : decode cX5_init 20 = .ok (.putfield 13, 3) := by decide +kernel
theorem dX5_init_23 : decode cX5_init 23 = .ok (.aload_n 0, 1) := by decide +kernel
theorem dX5_init_24 : decode cX5_init 24 = .ok (.dup, 1) := by decide +kernel
theorem dX5_init_25 : decode cX5_init 25 = .ok (.getfield 16, 3) := by decide +kernel
theorem dX5_init_28 : decode cX5_init 28 = .ok (.iconst 5, 1) := by decide +kernel
theorem dX5_init_29 : decode cX5_init 29 = .ok (.iadd, 1) := by decide +kernel
theorem dX5_init_30 : decode cX5_init 30 = .ok (.putfield 16, 3) := by decide +kernel
theorem dX5_init_33 : decode cX5_init 33 = .ok (.aload_n 0, 1) := by decide +kernel
theorem dX5_init_34 : decode cX5_init 34 = .ok (.dup, 1) := by decide +kernel
theorem dX5_init_35 : decode cX5_init 35 = .ok (.getfield 19, 3) := by decide +kernel
theorem dX5_init_38 : decode cX5_init 38 = .ok (.iconst 4, 1) := by decide +kernel
theorem dX5_init_39 : decode cX5_init 39 = .ok (.iadd, 1) := by decide +kernel
theorem dX5_init_40 : decode cX5_init 40 = .ok (.putfield 19, 3) := by decide +kernel
theorem dX5_init_43 : decode cX5_init 43 = .ok (.aload_n 0, 1) := by decide +kernel
theorem dX5_init_44 : decode cX5_init 44 = .ok (.dup, 1) := by decide +kernel
theorem dX5_init_45 : decode cX5_init 45 = .ok (.getfield 22, 3) := by decide +kernel
theorem dX5_init_48 : decode cX5_init 48 = .ok (.iconst 2, 1) := by decide +kernel
theorem dX5_init_49 : decode cX5_init 49 = .ok (.imul, 1) := by decide +kernel
theorem dX5_init_50 : decode cX5_init 50 = .ok (.putfield 22, 3) := by decide +kernel
theorem dX5_init_53 : decode cX5_init 53 = .ok (.return_, 1) := by decide +kernel
theorem dX5_driftOf_0 : decode cX5_driftOf 0 = .ok (.aload_n 0, 1) := by decide +kernel
theorem dX5_driftOf_1 : decode cX5_driftOf 1 = .ok (.iload_n 1, 1) := by decide +kernel
theorem dX5_driftOf_2 : decode cX5_driftOf 2 = .ok (.invokespecial 25, 3) := by decide +kernel
theorem dX5_driftOf_5 : decode cX5_driftOf 5 = .ok (.iconst 4, 1) := by decide +kernel
theorem dX5_driftOf_6 : decode cX5_driftOf 6 = .ok (.imul, 1) := by decide +kernel
theorem dX5_driftOf_7 : decode cX5_driftOf 7 = .ok (.iconst 5, 1) := by decide +kernel
theorem dX5_driftOf_8 : decode cX5_driftOf 8 = .ok (.idiv, 1) := by decide +kernel
theorem dX5_driftOf_9 : decode cX5_driftOf 9 = .ok (.ireturn, 1) := by decide +kernel
theorem dX6_init_0 : decode cX6_init 0 = .ok (.aload_n 0, 1) := by decide +kernel
theorem dX6_init_1 : decode cX6_init 1 = .ok (.iload_n 1, 1) := by decide +kernel
theorem dX6_init_2 : decode cX6_init 2 = .ok (.iload_n 2, 1) := by decide +kernel
theorem dX6_init_3 : decode cX6_init 3 = .ok (.iload_n 3, 1) := by decide +kernel
theorem dX6_init_4 : decode cX6_init 4 = .ok (.invokespecial 1, 3) := by decide +kernel
theorem dX6_init_7 : decode cX6_init 7 = .ok (.aload_n 0, 1) := by decide +kernel
theorem dX6_init_8 : decode cX6_init 8 = .ok (.iconst 4, 1) := by decide +kernel
theorem dX6_init_9 : decode cX6_init 9 = .ok (.putfield 7, 3) := by decide +kernel
theorem dX6_init_12 : decode cX6_init 12 = .ok (.aload_n 0, 1) := by decide +kernel
theorem dX6_init_13 : decode cX6_init 13 = .ok (.dup, 1) := by decide +kernel
theorem dX6_init_14 : decode cX6_init 14 = .ok (.getfield 13, 3) := by decide +kernel
theorem dX6_init_17 : decode cX6_init 17 = .ok (.iload_n 2, 1) := by decide +kernel
theorem dX6_init_18 : decode cX6_init 18 = .ok (.iadd, 1) := by decide +kernel
theorem dX6_init_19 : decode cX6_init 19 = .ok (.putfield 13, 3) := by decide +kernel
theorem dX6_init_22 : decode cX6_init 22 = .ok (.aload_n 0, 1) := by decide +kernel
theorem dX6_init_23 : decode cX6_init 23 = .ok (.dup, 1) := by decide +kernel
theorem dX6_init_24 : decode cX6_init 24 = .ok (.getfield 16, 3) := by decide +kernel
theorem dX6_init_27 : decode cX6_init 27 = .ok (.iconst 2, 1) := by decide +kernel
theorem dX6_init_28 : decode cX6_init 28 = .ok (.idiv, 1) := by decide +kernel
theorem dX6_init_29 : decode cX6_init 29 = .ok (.putfield 16, 3) := by decide +kernel
theorem dX6_init_32 : decode cX6_init 32 = .ok (.aload_n 0, 1) := by decide +kernel
theorem dX6_init_33 : decode cX6_init 33 = .ok (.dup, 1) := by decide +kernel
theorem dX6_init_34 : decode cX6_init 34 = .ok (.getfield 19, 3) := by decide +kernel
theorem dX6_init_37 : decode cX6_init 37 = .ok (.iload_n 3, 1) := by decide +kernel
theorem dX6_init_38 : decode cX6_init 38 = .ok (.iadd, 1) := by decide +kernel
theorem dX6_init_39 : decode cX6_init 39 = .ok (.putfield 19, 3) := by decide +kernel
theorem dX6_init_42 : decode cX6_init 42 = .ok (.return_, 1) := by decide +kernel
theorem dX6_isToSteer_0 : decode cX6_isToSteer 0 = .ok (.iload_n 1, 1) := by decide +kernel
theorem dX6_isToSteer_1 : decode cX6_isToSteer 1 = .ok (.invokestatic 22, 3) := by decide +kernel
theorem dX6_isToSteer_4 : decode cX6_isToSteer 4 = .ok (.bipush 100, 2) := by decide +kernel
theorem dX6_isToSteer_6 : decode cX6_isToSteer 6 = .ok (.aload_n 0, 1) := by decide +kernel
theorem dX6_isToSteer_7 : decode cX6_isToSteer 7 = .ok (.getfield 28, 3) := by decide +kernel
theorem dX6_isToSteer_10 : decode cX6_isToSteer 10 = .ok (.imul, 1) := by decide +kernel
theorem dX6_isToSteer_11 : decode cX6_isToSteer 11 = .ok (.if_icmp .gt 17, 3) := by decide +kernel
theorem dX6_isToSteer_14 : decode cX6_isToSteer 14 = .ok (.iload_n 2, 1) := by decide +kernel
theorem dX6_isToSteer_15 : decode cX6_isToSteer 15 = .ok (.invokestatic 22, 3) := by decide +kernel
theorem dX6_isToSteer_18 : decode cX6_isToSteer 18 = .ok (.bipush 100, 2) := by decide +kernel
theorem dX6_isToSteer_20 : decode cX6_isToSteer 20 = .ok (.aload_n 0, 1) := by decide +kernel
theorem dX6_isToSteer_21 : decode cX6_isToSteer 21 = .ok (.getfield 28, 3) := by decide +kernel
theorem dX6_isToSteer_24 : decode cX6_isToSteer 24 = .ok (.imul, 1) := by decide +kernel
theorem dX6_isToSteer_25 : decode cX6_isToSteer 25 = .ok (.if_icmp .le 7, 3) := by decide +kernel
theorem dX6_isToSteer_28 : decode cX6_isToSteer 28 = .ok (.iconst 1, 1) := by decide +kernel
theorem dX6_isToSteer_29 : decode cX6_isToSteer 29 = .ok (.goto 4, 3) := by decide +kernel
theorem dX6_isToSteer_32 : decode cX6_isToSteer 32 = .ok (.iconst 0, 1) := by decide +kernel
theorem dX6_isToSteer_33 : decode cX6_isToSteer 33 = .ok (.ireturn, 1) := by decide +kernel
theorem dX7_init_0 : decode cX7_init 0 = .ok (.aload_n 0, 1) := by decide +kernel
theorem dX7_init_1 : decode cX7_init 1 = .ok (.iload_n 1, 1) := by decide +kernel
theorem dX7_init_2 : decode cX7_init 2 = .ok (.iload_n 2, 1) := by decide +kernel
theorem dX7_init_3 : decode cX7_init 3 = .ok (.iload_n 3, 1) := by decide +kernel
theorem dX7_init_4 : decode cX7_init 4 = .ok (.invokespecial 1, 3) := by decide +kernel
theorem dX7_init_7 : decode cX7_init 7 = .ok (.aload_n 0, 1) := by decide +kernel
theorem dX7_init_8 : decode cX7_init 8 = .ok (.iconst 2, 1) := by decide +kernel
theorem dX7_init_9 : decode cX7_init 9 = .ok (.putfield 7, 3) := by decide +kernel
theorem dX7_init_12 : decode cX7_init 12 = .ok (.aload_n 0, 1) := by decide +kernel
theorem dX7_init_13 : decode cX7_init 13 = .ok (.dup, 1) := by decide +kernel
theorem dX7_init_14 : decode cX7_init 14 = .ok (.getfield 13, 3) := by decide +kernel
theorem dX7_init_17 : decode cX7_init 17 = .ok (.bipush 20, 2) := by decide +kernel
theorem dX7_init_19 : decode cX7_init 19 = .ok (.isub, 1) := by decide +kernel
theorem dX7_init_20 : decode cX7_init 20 = .ok (.putfield 13, 3) := by decide +kernel
theorem dX7_init_23 : decode cX7_init 23 = .ok (.aload_n 0, 1) := by decide +kernel
theorem dX7_init_24 : decode cX7_init 24 = .ok (.dup, 1) := by decide +kernel
theorem dX7_init_25 : decode cX7_init 25 = .ok (.getfield 16, 3) := by decide +kernel
theorem dX7_init_28 : decode cX7_init 28 = .ok (.iconst 3, 1) := by decide +kernel
theorem dX7_init_29 : decode cX7_init 29 = .ok (.isub, 1) := by decide +kernel
theorem dX7_init_30 : decode cX7_init 30 = .ok (.putfield 16, 3) := by decide +kernel
theorem dX7_init_33 : decode cX7_init 33 = .ok (.aload_n 0, 1) := by decide +kernel
theorem dX7_init_34 : decode cX7_init 34 = .ok (.dup, 1) := by decide +kernel
theorem dX7_init_35 : decode cX7_init 35 = .ok (.getfield 19, 3) := by decide +kernel
theorem dX7_init_38 : decode cX7_init 38 = .ok (.bipush 6, 2) := by decide +kernel
theorem dX7_init_40 : decode cX7_init 40 = .ok (.isub, 1) := by decide +kernel
theorem dX7_init_41 : decode cX7_init 41 = .ok (.putfield 19, 3) := by decide +kernel
theorem dX7_init_44 : decode cX7_init 44 = .ok (.aload_n 0, 1) := by decide +kernel
theorem dX7_init_45 : decode cX7_init 45 = .ok (.dup, 1) := by decide +kernel
theorem dX7_init_46 : decode cX7_init 46 = .ok (.getfield 22, 3) := by decide +kernel
theorem dX7_init_49 : decode cX7_init 49 = .ok (.iload_n 2, 1) := by decide +kernel
theorem dX7_init_50 : decode cX7_init 50 = .ok (.iadd, 1) := by decide +kernel
theorem dX7_init_51 : decode cX7_init 51 = .ok (.putfield 22, 3) := by decide +kernel
theorem dX7_init_54 : decode cX7_init 54 = .ok (.return_, 1) := by decide +kernel
theorem dX7_driftOf_0 : decode cX7_driftOf 0 = .ok (.aload_n 0, 1) := by decide +kernel
theorem dX7_driftOf_1 : decode cX7_driftOf 1 = .ok (.iload_n 1, 1) := by decide +kernel
theorem dX7_driftOf_2 : decode cX7_driftOf 2 = .ok (.invokespecial 25, 3) := by decide +kernel
theorem dX7_driftOf_5 : decode cX7_driftOf 5 = .ok (.iconst 5, 1) := by decide +kernel
theorem dX7_driftOf_6 : decode cX7_driftOf 6 = .ok (.imul, 1) := by decide +kernel
theorem dX7_driftOf_7 : decode cX7_driftOf 7 = .ok (.iconst 4, 1) := by decide +kernel
theorem dX7_driftOf_8 : decode cX7_driftOf 8 = .ok (.idiv, 1) := by decide +kernel
theorem dX7_driftOf_9 : decode cX7_driftOf 9 = .ok (.ireturn, 1) := by decide +kernel
theorem dX8_init_0 : decode cX8_init 0 = .ok (.aload_n 0, 1) := by decide +kernel
theorem dX8_init_1 : decode cX8_init 1 = .ok (.iload_n 1, 1) := by decide +kernel
theorem dX8_init_2 : decode cX8_init 2 = .ok (.iload_n 2, 1) := by decide +kernel
theorem dX8_init_3 : decode cX8_init 3 = .ok (.iload_n 3, 1) := by decide +kernel
theorem dX8_init_4 : decode cX8_init 4 = .ok (.invokespecial 1, 3) := by decide +kernel
theorem dX8_init_7 : decode cX8_init 7 = .ok (.aload_n 0, 1) := by decide +kernel
theorem dX8_init_8 : decode cX8_init 8 = .ok (.iconst 1, 1) := by decide +kernel
theorem dX8_init_9 : decode cX8_init 9 = .ok (.putfield 7, 3) := by decide +kernel
theorem dX8_init_12 : decode cX8_init 12 = .ok (.aload_n 0, 1) := by decide +kernel
theorem dX8_init_13 : decode cX8_init 13 = .ok (.dup, 1) := by decide +kernel
theorem dX8_init_14 : decode cX8_init 14 = .ok (.getfield 13, 3) := by decide +kernel
theorem dX8_init_17 : decode cX8_init 17 = .ok (.iconst 4, 1) := by decide +kernel
theorem dX8_init_18 : decode cX8_init 18 = .ok (.iadd, 1) := by decide +kernel
theorem dX8_init_19 : decode cX8_init 19 = .ok (.putfield 13, 3) := by decide +kernel
theorem dX8_init_22 : decode cX8_init 22 = .ok (.aload_n 0, 1) := by decide +kernel
theorem dX8_init_23 : decode cX8_init 23 = .ok (.iconst 0, 1) := by decide +kernel
theorem dX8_init_24 : decode cX8_init 24 = .ok (.putfield 16, 3) := by decide +kernel
theorem dX8_init_27 : decode cX8_init 27 = .ok (.aload_n 0, 1) := by decide +kernel
theorem dX8_init_28 : decode cX8_init 28 = .ok (.dup, 1) := by decide +kernel
theorem dX8_init_29 : decode cX8_init 29 = .ok (.getfield 19, 3) := by decide +kernel
theorem dX8_init_32 : decode cX8_init 32 = .ok (.bipush 9, 2) := by decide +kernel
theorem dX8_init_34 : decode cX8_init 34 = .ok (.isub, 1) := by decide +kernel
theorem dX8_init_35 : decode cX8_init 35 = .ok (.putfield 19, 3) := by decide +kernel
theorem dX8_init_38 : decode cX8_init 38 = .ok (.return_, 1) := by decide +kernel
theorem dX8_isToSteer_0 : decode cX8_isToSteer 0 = .ok (.iconst 0, 1) := by decide +kernel
theorem dX8_isToSteer_1 : decode cX8_isToSteer 1 = .ok (.ireturn, 1) := by decide +kernel
theorem dX8_fail_0 : decode cX8_fail 0 = .ok (.return_, 1) := by decide +kernel
theorem dX9_init_0 : decode cX9_init 0 = .ok (.aload_n 0, 1) := by decide +kernel
theorem dX9_init_1 : decode cX9_init 1 = .ok (.invokespecial 3, 3) := by decide +kernel
theorem dX9_init_4 : decode cX9_init 4 = .ok (.aload_n 0, 1) := by decide +kernel
theorem dX9_init_5 : decode cX9_init 5 = .ok (.aconst_null, 1) := by decide +kernel
theorem dX9_init_6 : decode cX9_init 6 = .ok (.putfield 9, 3) := by decide +kernel
theorem dX9_init_9 : decode cX9_init 9 = .ok (.aload_n 0, 1) := by decide +kernel
theorem dX9_init_10 : decode cX9_init 10 = .ok (.iconst 0, 1) := by decide +kernel
theorem dX9_init_11 : decode cX9_init 11 = .ok (.putfield 15, 3) := by decide +kernel
theorem dX9_init_14 : decode cX9_init 14 = .ok (.aload_n 0, 1) := by decide +kernel
theorem dX9_init_15 : decode cX9_init 15 = .ok (.iconst 0, 1) := by decide +kernel
theorem dX9_init_16 : decode cX9_init 16 = .ok (.putfield 19, 3) := by decide +kernel
theorem dX9_init_19 : decode cX9_init 19 = .ok (.aload_n 0, 1) := by decide +kernel
theorem dX9_init_20 : decode cX9_init 20 = .ok (.iconst 0, 1) := by decide +kernel
theorem dX9_init_21 : decode cX9_init 21 = .ok (.putfield 23, 3) := by decide +kernel
theorem dX9_init_24 : decode cX9_init 24 = .ok (.aload_n 0, 1) := by decide +kernel
theorem dX9_init_25 : decode cX9_init 25 = .ok (.bipush 100, 2) := by decide +kernel
theorem dX9_init_27 : decode cX9_init 27 = .ok (.newarray .int, 2) := by decide +kernel
theorem dX9_init_29 : decode cX9_init 29 = .ok (.putfield 26, 3) := by decide +kernel
theorem dX9_init_32 : decode cX9_init 32 = .ok (.return_, 1) := by decide +kernel
theorem dX9_isEmpty_0 : decode cX9_isEmpty 0 = .ok (.aload_n 0, 1) := by decide +kernel
theorem dX9_isEmpty_1 : decode cX9_isEmpty 1 = .ok (.getfield 9, 3) := by decide +kernel
theorem dX9_isEmpty_4 : decode cX9_isEmpty 4 = .ok (.ifnonnull 14, 3) := by decide +kernel
theorem dX9_isEmpty_7 : decode cX9_isEmpty 7 = .ok (.aload_n 0, 1) := by decide +kernel
theorem dX9_isEmpty_8 : decode cX9_isEmpty 8 = .ok (.getfield 15, 3) := by decide +kernel
theorem dX9_isEmpty_11 : decode cX9_isEmpty 11 = .ok (.ifCond .ne 7, 3) := by decide +kernel
theorem dX9_isEmpty_14 : decode cX9_isEmpty 14 = .ok (.iconst 1, 1) := by decide +kernel
theorem dX9_isEmpty_15 : decode cX9_isEmpty 15 = .ok (.goto 4, 3) := by decide +kernel
theorem dX9_isEmpty_18 : decode cX9_isEmpty 18 = .ok (.iconst 0, 1) := by decide +kernel
theorem dX9_isEmpty_19 : decode cX9_isEmpty 19 = .ok (.ireturn, 1) := by decide +kernel
theorem dX9_empty_0 : decode cX9_empty 0 = .ok (.aload_n 0, 1) := by decide +kernel
theorem dX9_empty_1 : decode cX9_empty 1 = .ok (.aconst_null, 1) := by decide +kernel
theorem dX9_empty_2 : decode cX9_empty 2 = .ok (.putfield 9, 3) := by decide +kernel
theorem dX9_empty_5 : decode cX9_empty 5 = .ok (.aload_n 0, 1) := by decide +kernel
theorem dX9_empty_6 : decode cX9_empty 6 = .ok (.iconst 0, 1) := by decide +kernel
theorem dX9_empty_7 : decode cX9_empty 7 = .ok (.putfield 15, 3) := by decide +kernel
theorem dX9_empty_10 : decode cX9_empty 10 = .ok (.aload_n 0, 1) := by decide +kernel
theorem dX9_empty_11 : decode cX9_empty 11 = .ok (.iconst 0, 1) := by decide +kernel
theorem dX9_empty_12 : decode cX9_empty 12 = .ok (.putfield 23, 3) := by decide +kernel
theorem dX9_empty_15 : decode cX9_empty 15 = .ok (.return_, 1) := by decide +kernel
theorem dX9_hold_0 : decode cX9_hold 0 = .ok (.aload_n 0, 1) := by decide +kernel
theorem dX9_hold_1 : decode cX9_hold 1 = .ok (.invokevirtual 30, 3) := by decide +kernel
theorem dX9_hold_4 : decode cX9_hold 4 = .ok (.aload_n 0, 1) := by decide +kernel
theorem dX9_hold_5 : decode cX9_hold 5 = .ok (.aload_n 1, 1) := by decide +kernel
theorem dX9_hold_6 : decode cX9_hold 6 = .ok (.putfield 9, 3) := by decide +kernel
theorem dX9_hold_9 : decode cX9_hold 9 = .ok (.return_, 1) := by decide +kernel
theorem dX9_holdRow_0 : decode cX9_holdRow 0 = .ok (.aload_n 0, 1) := by decide +kernel
theorem dX9_holdRow_1 : decode cX9_holdRow 1 = .ok (.invokevirtual 30, 3) := by decide +kernel
theorem dX9_holdRow_4 : decode cX9_holdRow 4 = .ok (.aload_n 0, 1) := by decide +kernel
theorem dX9_holdRow_5 : decode cX9_holdRow 5 = .ok (.iconst 1, 1) := by decide +kernel
theorem dX9_holdRow_6 : decode cX9_holdRow 6 = .ok (.putfield 15, 3) := by decide +kernel
theorem dX9_holdRow_9 : decode cX9_holdRow 9 = .ok (.aload_n 0, 1) := by decide +kernel
theorem dX9_holdRow_10 : decode cX9_holdRow 10 = .ok (.iload_n 1, 1) := by decide +kernel
theorem dX9_holdRow_11 : decode cX9_holdRow 11 = .ok (.putfield 19, 3) := by decide +kernel
theorem dX9_holdRow_14 : decode cX9_holdRow 14 = .ok (.aload_n 0, 1) := by decide +kernel
theorem dX9_holdRow_15 : decode cX9_holdRow 15 = .ok (.iconst 0, 1) := by decide +kernel
theorem dX9_holdRow_16 : decode cX9_holdRow 16 = .ok (.iload_n 2, 1) := by decide +kernel
theorem dX9_holdRow_17 : decode cX9_holdRow 17 = .ok (.bipush 100, 2) := by decide +kernel
theorem dX9_holdRow_19 : decode cX9_holdRow 19 = .ok (.invokestatic 33, 3) := by decide +kernel
theorem dX9_holdRow_22 : decode cX9_holdRow 22 = .ok (.invokestatic 39, 3) := by decide +kernel
theorem dX9_holdRow_25 : decode cX9_holdRow 25 = .ok (.putfield 23, 3) := by decide +kernel
theorem dX9_holdRow_28 : decode cX9_holdRow 28 = .ok (.iconst 0, 1) := by decide +kernel
theorem dX9_holdRow_29 : decode cX9_holdRow 29 = .ok (.istore_n 3, 1) := by decide +kernel
theorem dX9_holdRow_30 : decode cX9_holdRow 30 = .ok (.iload_n 3, 1) := by decide +kernel
theorem dX9_holdRow_31 : decode cX9_holdRow 31 = .ok (.aload_n 0, 1) := by decide +kernel
theorem dX9_holdRow_32 : decode cX9_holdRow 32 = .ok (.getfield 23, 3) := by decide +kernel
theorem dX9_holdRow_35 : decode cX9_holdRow 35 = .ok (.if_icmp .ge 16, 3) := by decide +kernel
theorem dX9_holdRow_38 : decode cX9_holdRow 38 = .ok (.aload_n 0, 1) := by decide +kernel
theorem dX9_holdRow_39 : decode cX9_holdRow 39 = .ok (.getfield 26, 3) := by decide +kernel
theorem dX9_holdRow_42 : decode cX9_holdRow 42 = .ok (.iload_n 3, 1) := by decide +kernel
theorem dX9_holdRow_43 : decode cX9_holdRow 43 = .ok (.iconst 0, 1) := by decide +kernel
theorem dX9_holdRow_44 : decode cX9_holdRow 44 = .ok (.iastore, 1) := by decide +kernel
theorem dX9_holdRow_45 : decode cX9_holdRow 45 = .ok (.iinc 3 1, 3) := by decide +kernel
theorem dX9_holdRow_48 : decode cX9_holdRow 48 = .ok (.goto (-18), 3) := by decide +kernel
theorem dX9_holdRow_51 : decode cX9_holdRow 51 = .ok (.return_, 1) := by decide +kernel
theorem dX9_hasPlaces_0 : decode cX9_hasPlaces 0 = .ok (.iload_n 1, 1) := by decide +kernel
theorem dX9_hasPlaces_1 : decode cX9_hasPlaces 1 = .ok (.ifCond .lt 29, 3) := by decide +kernel
theorem dX9_hasPlaces_4 : decode cX9_hasPlaces 4 = .ok (.iload_n 2, 1) := by decide +kernel
theorem dX9_hasPlaces_5 : decode cX9_hasPlaces 5 = .ok (.ifCond .lt 25, 3) := by decide +kernel
theorem dX9_hasPlaces_8 : decode cX9_hasPlaces 8 = .ok (.iload_n 2, 1) := by decide +kernel
theorem dX9_hasPlaces_9 : decode cX9_hasPlaces 9 = .ok (.aload_n 0, 1) := by decide +kernel
theorem dX9_hasPlaces_10 : decode cX9_hasPlaces 10 = .ok (.getfield 23, 3) := by decide +kernel
theorem dX9_hasPlaces_13 : decode cX9_hasPlaces 13 = .ok (.if_icmp .gt 17, 3) := by decide +kernel
theorem dX9_hasPlaces_16 : decode cX9_hasPlaces 16 = .ok (.iload_n 1, 1) := by decide +kernel
theorem dX9_hasPlaces_17 : decode cX9_hasPlaces 17 = .ok (.aload_n 0, 1) := by decide +kernel
theorem dX9_hasPlaces_18 : decode cX9_hasPlaces 18 = .ok (.getfield 23, 3) := by decide +kernel
theorem dX9_hasPlaces_21 : decode cX9_hasPlaces 21 = .ok (.iload_n 2, 1) := by decide +kernel
theorem dX9_hasPlaces_22 : decode cX9_hasPlaces 22 = .ok (.isub, 1) := by decide +kernel
theorem dX9_hasPlaces_23 : decode cX9_hasPlaces 23 = .ok (.if_icmp .gt 7, 3) := by decide +kernel
theorem dX9_hasPlaces_26 : decode cX9_hasPlaces 26 = .ok (.iconst 1, 1) := by decide +kernel
theorem dX9_hasPlaces_27 : decode cX9_hasPlaces 27 = .ok (.goto 4, 3) := by decide +kernel
theorem dX9_hasPlaces_30 : decode cX9_hasPlaces 30 = .ok (.iconst 0, 1) := by decide +kernel
theorem dX9_hasPlaces_31 : decode cX9_hasPlaces 31 = .ok (.ireturn, 1) := by decide +kernel
theorem dX9_store_0 : decode cX9_store 0 = .ok (.aload_n 0, 1) := by decide +kernel
theorem dX9_store_1 : decode cX9_store 1 = .ok (.iload_n 1, 1) := by decide +kernel
theorem dX9_store_2 : decode cX9_store 2 = .ok (.iconst 1, 1) := by decide +kernel
theorem dX9_store_3 : decode cX9_store 3 = .ok (.invokevirtual 42, 3) := by decide +kernel
theorem dX9_store_6 : decode cX9_store 6 = .ok (.ifCond .eq 35, 3) := by decide +kernel
theorem dX9_store_9 : decode cX9_store 9 = .ok (.aload_n 0, 1) := by decide +kernel
theorem dX9_store_10 : decode cX9_store 10 = .ok (.getfield 26, 3) := by decide +kernel
theorem dX9_store_13 : decode cX9_store 13 = .ok (.iload_n 1, 1) := by decide +kernel
theorem dX9_store_14 : decode cX9_store 14 = .ok (.aload_n 0, 1) := by decide +kernel
theorem dX9_store_15 : decode cX9_store 15 = .ok (.getfield 19, 3) := by decide +kernel
theorem dX9_store_18 : decode cX9_store 18 = .ok (.ifCond .ne 8, 3) := by decide +kernel
theorem dX9_store_21 : decode cX9_store 21 = .ok (.iload_n 2, 1) := by decide +kernel
theorem dX9_store_22 : decode cX9_store 22 = .ok (.i2b, 1) := by decide +kernel
theorem dX9_store_23 : decode cX9_store 23 = .ok (.goto 17, 3) := by decide +kernel
theorem dX9_store_26 : decode cX9_store 26 = .ok (.aload_n 0, 1) := by decide +kernel
theorem dX9_store_27 : decode cX9_store 27 = .ok (.getfield 19, 3) := by decide +kernel
theorem dX9_store_30 : decode cX9_store 30 = .ok (.iconst 1, 1) := by decide +kernel
theorem dX9_store_31 : decode cX9_store 31 = .ok (.if_icmp .ne 8, 3) := by decide +kernel
theorem dX9_store_34 : decode cX9_store 34 = .ok (.iload_n 2, 1) := by decide +kernel
theorem dX9_store_35 : decode cX9_store 35 = .ok (.i2s, 1) := by decide +kernel
theorem dX9_store_36 : decode cX9_store 36 = .ok (.goto 4, 3) := by decide +kernel
theorem dX9_store_39 : decode cX9_store 39 = .ok (.iload_n 2, 1) := by decide +kernel
theorem dX9_store_40 : decode cX9_store 40 = .ok (.iastore, 1) := by decide +kernel
theorem dX9_store_41 : decode cX9_store 41 = .ok (.return_, 1) := by decide +kernel
theorem dX9_valueAt_0 : decode cX9_valueAt 0 = .ok (.aload_n 0, 1) := by decide +kernel
theorem dX9_valueAt_1 : decode cX9_valueAt 1 = .ok (.iload_n 1, 1) := by decide +kernel
theorem dX9_valueAt_2 : decode cX9_valueAt 2 = .ok (.iconst 1, 1) := by decide +kernel
theorem dX9_valueAt_3 : decode cX9_valueAt 3 = .ok (.invokevirtual 42, 3) := by decide +kernel
theorem dX9_valueAt_6 : decode cX9_valueAt 6 = .ok (.ifCond .eq 12, 3) := by decide +kernel
theorem dX9_valueAt_9 : decode cX9_valueAt 9 = .ok (.aload_n 0, 1) := by decide +kernel
theorem dX9_valueAt_10 : decode cX9_valueAt 10 = .ok (.getfield 26, 3) := by decide +kernel
theorem dX9_valueAt_13 : decode cX9_valueAt 13 = .ok (.iload_n 1, 1) := by decide +kernel
theorem dX9_valueAt_14 : decode cX9_valueAt 14 = .ok (.iaload, 1) := by decide +kernel
theorem dX9_valueAt_15 : decode cX9_valueAt 15 = .ok (.goto 4, 3) := by decide +kernel
theorem dX9_valueAt_18 : decode cX9_valueAt 18 = .ok (.iconst (-1), 1) := by decide +kernel
theorem dX9_valueAt_19 : decode cX9_valueAt 19 = .ok (.ireturn, 1) := by decide +kernel
theorem dX9_leastOfSort_0 : decode cX9_leastOfSort 0 = .ok (.aload_n 0, 1) := by decide +kernel
theorem dX9_leastOfSort_1 : decode cX9_leastOfSort 1 = .ok (.getfield 19, 3) := by decide +kernel
theorem dX9_leastOfSort_4 : decode cX9_leastOfSort 4 = .ok (.ifCond .ne 8, 3) := by decide +kernel
theorem dX9_leastOfSort_7 : decode cX9_leastOfSort 7 = .ok (.bipush (-128), 2) := by decide +kernel
theorem dX9_leastOfSort_9 : decode cX9_leastOfSort 9 = .ok (.goto 19, 3) := by decide +kernel
theorem dX9_leastOfSort_12 : decode cX9_leastOfSort 12 = .ok (.aload_n 0, 1) := by decide +kernel
theorem dX9_leastOfSort_13 : decode cX9_leastOfSort 13 = .ok (.getfield 19, 3) := by decide +kernel
theorem dX9_leastOfSort_16 : decode cX9_leastOfSort 16 = .ok (.iconst 1, 1) := by decide +kernel
theorem dX9_leastOfSort_17 : decode cX9_leastOfSort 17 = .ok (.if_icmp .ne 9, 3) := by decide +kernel
theorem dX9_leastOfSort_20 : decode cX9_leastOfSort 20 = .ok (.sipush (-32768), 3) := by decide +kernel
theorem dX9_leastOfSort_23 : decode cX9_leastOfSort 23 = .ok (.goto 5, 3) := by decide +kernel
theorem dX9_leastOfSort_26 : decode cX9_leastOfSort 26 = .ok (.ldc 48, 2) := by decide +kernel
theorem dX9_leastOfSort_28 : decode cX9_leastOfSort 28 = .ok (.ireturn, 1) := by decide +kernel
theorem dX10_init_0 : decode cX10_init 0 = .ok (.aload_n 0, 1) := by decide +kernel
theorem dX10_init_1 : decode cX10_init 1 = .ok (.iload_n 1, 1) := by decide +kernel
theorem dX10_init_2 : decode cX10_init 2 = .ok (.iload_n 2, 1) := by decide +kernel
theorem dX10_init_3 : decode cX10_init 3 = .ok (.iload_n 3, 1) := by decide +kernel
theorem dX10_init_4 : decode cX10_init 4 = .ok (.invokespecial 1, 3) := by decide +kernel
theorem dX10_init_7 : decode cX10_init 7 = .ok (.aload_n 0, 1) := by decide +kernel
theorem dX10_init_8 : decode cX10_init 8 = .ok (.bipush 7, 2) := by decide +kernel
theorem dX10_init_10 : decode cX10_init 10 = .ok (.putfield 7, 3) := by decide +kernel
theorem dX10_init_13 : decode cX10_init 13 = .ok (.aload_n 0, 1) := by decide +kernel
theorem dX10_init_14 : decode cX10_init 14 = .ok (.dup, 1) := by decide +kernel
theorem dX10_init_15 : decode cX10_init 15 = .ok (.getfield 13, 3) := by decide +kernel
theorem dX10_init_18 : decode cX10_init 18 = .ok (.bipush 10, 2) := by decide +kernel
theorem dX10_init_20 : decode cX10_init 20 = .ok (.iadd, 1) := by decide +kernel
theorem dX10_init_21 : decode cX10_init 21 = .ok (.putfield 13, 3) := by decide +kernel
theorem dX10_init_24 : decode cX10_init 24 = .ok (.aload_n 0, 1) := by decide +kernel
theorem dX10_init_25 : decode cX10_init 25 = .ok (.iconst 0, 1) := by decide +kernel
theorem dX10_init_26 : decode cX10_init 26 = .ok (.putfield 16, 3) := by decide +kernel
theorem dX10_init_29 : decode cX10_init 29 = .ok (.aload_n 0, 1) := by decide +kernel
theorem dX10_init_30 : decode cX10_init 30 = .ok (.dup, 1) := by decide +kernel
theorem dX10_init_31 : decode cX10_init 31 = .ok (.getfield 19, 3) := by decide +kernel
theorem dX10_init_34 : decode cX10_init 34 = .ok (.bipush 50, 2) := by decide +kernel
theorem dX10_init_36 : decode cX10_init 36 = .ok (.iadd, 1) := by decide +kernel
theorem dX10_init_37 : decode cX10_init 37 = .ok (.putfield 19, 3) := by decide +kernel
theorem dX10_init_40 : decode cX10_init 40 = .ok (.return_, 1) := by decide +kernel
theorem dX10_driftOf_0 : decode cX10_driftOf 0 = .ok (.aload_n 0, 1) := by decide +kernel
theorem dX10_driftOf_1 : decode cX10_driftOf 1 = .ok (.iload_n 1, 1) := by decide +kernel
theorem dX10_driftOf_2 : decode cX10_driftOf 2 = .ok (.invokespecial 22, 3) := by decide +kernel
theorem dX10_driftOf_5 : decode cX10_driftOf 5 = .ok (.iconst 2, 1) := by decide +kernel
theorem dX10_driftOf_6 : decode cX10_driftOf 6 = .ok (.idiv, 1) := by decide +kernel
theorem dX10_driftOf_7 : decode cX10_driftOf 7 = .ok (.ireturn, 1) := by decide +kernel
theorem dX10_isToSteer_0 : decode cX10_isToSteer 0 = .ok (.iconst 0, 1) := by decide +kernel
theorem dX10_isToSteer_1 : decode cX10_isToSteer 1 = .ok (.ireturn, 1) := by decide +kernel
theorem dX10_fail_0 : decode cX10_fail 0 = .ok (.aload_n 0, 1) := by decide +kernel
theorem dX10_fail_1 : decode cX10_fail 1 = .ok (.getfield 26, 3) := by decide +kernel
theorem dX10_fail_4 : decode cX10_fail 4 = .ok (.ifCond .eq 13, 3) := by decide +kernel
theorem dX10_fail_7 : decode cX10_fail 7 = .ok (.new 29, 3) := by decide +kernel
theorem dX10_fail_10 : decode cX10_fail 10 = .ok (.dup, 1) := by decide +kernel
theorem dX10_fail_11 : decode cX10_fail 11 = .ok (.ldc 31, 2) := by decide +kernel
theorem dX10_fail_13 : decode cX10_fail 13 = .ok (.invokespecial 33, 3) := by decide +kernel
theorem dX10_fail_16 : decode cX10_fail 16 = .ok (.athrow, 1) := by decide +kernel
theorem dX10_fail_17 : decode cX10_fail 17 = .ok (.return_, 1) := by decide +kernel
theorem dX11_init_0 : decode cX11_init 0 = .ok (.aload_n 0, 1) := by decide +kernel
theorem dX11_init_1 : decode cX11_init 1 = .ok (.invokespecial 1, 3) := by decide +kernel
theorem dX11_init_4 : decode cX11_init 4 = .ok (.aload_n 0, 1) := by decide +kernel
theorem dX11_init_5 : decode cX11_init 5 = .ok (.new 7, 3) := by decide +kernel
theorem dX11_init_8 : decode cX11_init 8 = .ok (.dup, 1) := by decide +kernel
theorem dX11_init_9 : decode cX11_init 9 = .ok (.invokespecial 9, 3) := by decide +kernel
theorem dX11_init_12 : decode cX11_init 12 = .ok (.putfield 10, 3) := by decide +kernel
theorem dX11_init_15 : decode cX11_init 15 = .ok (.aload_n 0, 1) := by decide +kernel
theorem dX11_init_16 : decode cX11_init 16 = .ok (.new 7, 3) := by decide +kernel
theorem dX11_init_19 : decode cX11_init 19 = .ok (.dup, 1) := by decide +kernel
theorem dX11_init_20 : decode cX11_init 20 = .ok (.invokespecial 9, 3) := by decide +kernel
theorem dX11_init_23 : decode cX11_init 23 = .ok (.putfield 16, 3) := by decide +kernel
theorem dX11_init_26 : decode cX11_init 26 = .ok (.aload_n 0, 1) := by decide +kernel
theorem dX11_init_27 : decode cX11_init 27 = .ok (.new 7, 3) := by decide +kernel
theorem dX11_init_30 : decode cX11_init 30 = .ok (.dup, 1) := by decide +kernel
theorem dX11_init_31 : decode cX11_init 31 = .ok (.invokespecial 9, 3) := by decide +kernel
theorem dX11_init_34 : decode cX11_init 34 = .ok (.putfield 19, 3) := by decide +kernel
theorem dX11_init_37 : decode cX11_init 37 = .ok (.aload_n 0, 1) := by decide +kernel
theorem dX11_init_38 : decode cX11_init 38 = .ok (.iconst 0, 1) := by decide +kernel
theorem dX11_init_39 : decode cX11_init 39 = .ok (.putfield 22, 3) := by decide +kernel
theorem dX11_init_42 : decode cX11_init 42 = .ok (.aload_n 0, 1) := by decide +kernel
theorem dX11_init_43 : decode cX11_init 43 = .ok (.new 26, 3) := by decide +kernel
theorem dX11_init_46 : decode cX11_init 46 = .ok (.dup, 1) := by decide +kernel
theorem dX11_init_47 : decode cX11_init 47 = .ok (.aload_n 0, 1) := by decide +kernel
theorem dX11_init_48 : decode cX11_init 48 = .ok (.getfield 10, 3) := by decide +kernel
theorem dX11_init_51 : decode cX11_init 51 = .ok (.invokespecial 28, 3) := by decide +kernel
theorem dX11_init_54 : decode cX11_init 54 = .ok (.putfield 31, 3) := by decide +kernel
theorem dX11_init_57 : decode cX11_init 57 = .ok (.aload_n 0, 1) := by decide +kernel
theorem dX11_init_58 : decode cX11_init 58 = .ok (.new 26, 3) := by decide +kernel
theorem dX11_init_61 : decode cX11_init 61 = .ok (.dup, 1) := by decide +kernel
theorem dX11_init_62 : decode cX11_init 62 = .ok (.aload_n 0, 1) := by decide +kernel
theorem dX11_init_63 : decode cX11_init 63 = .ok (.getfield 10, 3) := by decide +kernel
theorem dX11_init_66 : decode cX11_init 66 = .ok (.invokespecial 28, 3) := by decide +kernel
theorem dX11_init_69 : decode cX11_init 69 = .ok (.putfield 35, 3) := by decide +kernel
theorem dX11_init_72 : decode cX11_init 72 = .ok (.aload_n 0, 1) := by decide +kernel
theorem dX11_init_73 : decode cX11_init 73 = .ok (.bipush 8, 2) := by decide +kernel
theorem dX11_init_75 : decode cX11_init 75 = .ok (.anewarray 38, 3) := by decide +kernel
theorem dX11_init_78 : decode cX11_init 78 = .ok (.putfield 40, 3) := by decide +kernel
theorem dX11_init_81 : decode cX11_init 81 = .ok (.aload_n 0, 1) := by decide +kernel
theorem dX11_init_82 : decode cX11_init 82 = .ok (.bipush 25, 2) := by decide +kernel
theorem dX11_init_84 : decode cX11_init 84 = .ok (.newarray .int, 2) := by decide +kernel
theorem dX11_init_86 : decode cX11_init 86 = .ok (.putfield 44, 3) := by decide +kernel
theorem dX11_init_89 : decode cX11_init 89 = .ok (.aload_n 0, 1) := by decide +kernel
theorem dX11_init_90 : decode cX11_init 90 = .ok (.iconst 5, 1) := by decide +kernel
theorem dX11_init_91 : decode cX11_init 91 = .ok (.newarray .int, 2) := by decide +kernel
theorem dX11_init_93 : decode cX11_init 93 = .ok (.putfield 48, 3) := by decide +kernel
theorem dX11_init_96 : decode cX11_init 96 = .ok (.aload_n 0, 1) := by decide +kernel
theorem dX11_init_97 : decode cX11_init 97 = .ok (.iconst 5, 1) := by decide +kernel
theorem dX11_init_98 : decode cX11_init 98 = .ok (.newarray .int, 2) := by decide +kernel
theorem dX11_init_100 : decode cX11_init 100 = .ok (.putfield 51, 3) := by decide +kernel
theorem dX11_init_103 : decode cX11_init 103 = .ok (.aload_n 0, 1) := by decide +kernel
theorem dX11_init_104 : decode cX11_init 104 = .ok (.iconst 5, 1) := by decide +kernel
theorem dX11_init_105 : decode cX11_init 105 = .ok (.newarray .int, 2) := by decide +kernel
theorem dX11_init_107 : decode cX11_init 107 = .ok (.putfield 54, 3) := by decide +kernel
theorem dX11_init_110 : decode cX11_init 110 = .ok (.iconst 0, 1) := by decide +kernel
theorem dX11_init_111 : decode cX11_init 111 = .ok (.istore_n 1, 1) := by decide +kernel
theorem dX11_init_112 : decode cX11_init 112 = .ok (.iload_n 1, 1) := by decide +kernel
theorem dX11_init_113 : decode cX11_init 113 = .ok (.bipush 8, 2) := by decide +kernel
theorem dX11_init_115 : decode cX11_init 115 = .ok (.if_icmp .ge 22, 3) := by decide +kernel
theorem dX11_init_118 : decode cX11_init 118 = .ok (.aload_n 0, 1) := by decide +kernel
theorem dX11_init_119 : decode cX11_init 119 = .ok (.getfield 40, 3) := by decide +kernel
theorem dX11_init_122 : decode cX11_init 122 = .ok (.iload_n 1, 1) := by decide +kernel
theorem dX11_init_123 : decode cX11_init 123 = .ok (.new 38, 3) := by decide +kernel
theorem dX11_init_126 : decode cX11_init 126 = .ok (.dup, 1) := by decide +kernel
theorem dX11_init_127 : decode cX11_init 127 = .ok (.invokespecial 57, 3) := by decide +kernel
theorem dX11_init_130 : decode cX11_init 130 = .ok (.aastore, 1) := by decide +kernel
theorem dX11_init_131 : decode cX11_init 131 = .ok (.iinc 1 1, 3) := by decide +kernel
theorem dX11_init_134 : decode cX11_init 134 = .ok (.goto (-22), 3) := by decide +kernel
theorem dX11_init_137 : decode cX11_init 137 = .ok (.return_, 1) := by decide +kernel
theorem dX11_air_0 : decode cX11_air 0 = .ok (.aload_n 0, 1) := by decide +kernel
theorem dX11_air_1 : decode cX11_air 1 = .ok (.iload_n 1, 1) := by decide +kernel
theorem dX11_air_2 : decode cX11_air 2 = .ok (.invokevirtual 58, 3) := by decide +kernel
theorem dX11_air_5 : decode cX11_air 5 = .ok (.astore_n 2, 1) := by decide +kernel
theorem dX11_air_6 : decode cX11_air 6 = .ok (.aload_n 2, 1) := by decide +kernel
theorem dX11_air_7 : decode cX11_air 7 = .ok (.ifnonnull 5, 3) := by decide +kernel
theorem dX11_air_10 : decode cX11_air 10 = .ok (.iconst (-1), 1) := by decide +kernel
theorem dX11_air_11 : decode cX11_air 11 = .ok (.ireturn, 1) := by decide +kernel
theorem dX11_air_12 : decode cX11_air 12 = .ok (.aload_n 2, 1) := by decide +kernel
theorem dX11_air_13 : decode cX11_air 13 = .ok (.invokestatic 62, 3) := by decide +kernel
theorem dX11_air_16 : decode cX11_air 16 = .ok (.istore_n 3, 1) := by decide +kernel
theorem dX11_air_17 : decode cX11_air 17 = .ok (.iload_n 3, 1) := by decide +kernel
theorem dX11_air_18 : decode cX11_air 18 = .ok (.ifCond .eq 5, 3) := by decide +kernel
theorem dX11_air_21 : decode cX11_air 21 = .ok (.iload_n 3, 1) := by decide +kernel
theorem dX11_air_22 : decode cX11_air 22 = .ok (.ireturn, 1) := by decide +kernel
theorem dX11_air_23 : decode cX11_air 23 = .ok (.aload_n 0, 1) := by decide +kernel
theorem dX11_air_24 : decode cX11_air 24 = .ok (.getfield 16, 3) := by decide +kernel
theorem dX11_air_27 : decode cX11_air 27 = .ok (.aload_n 0, 1) := by decide +kernel
theorem dX11_air_28 : decode cX11_air 28 = .ok (.getfield 10, 3) := by decide +kernel
theorem dX11_air_31 : decode cX11_air 31 = .ok (.invokevirtual 66, 3) := by decide +kernel
theorem dX11_air_34 : decode cX11_air 34 = .ok (.aload_n 0, 1) := by decide +kernel
theorem dX11_air_35 : decode cX11_air 35 = .ok (.getfield 16, 3) := by decide +kernel
theorem dX11_air_38 : decode cX11_air 38 = .ok (.aload_n 2, 1) := by decide +kernel
theorem dX11_air_39 : decode cX11_air 39 = .ok (.invokevirtual 69, 3) := by decide +kernel
theorem dX11_air_42 : decode cX11_air 42 = .ok (.istore 4, 2) := by decide +kernel
theorem dX11_air_44 : decode cX11_air 44 = .ok (.iload 4, 2) := by decide +kernel
theorem dX11_air_46 : decode cX11_air 46 = .ok (.ifCond .le 14, 3) := by decide +kernel
theorem dX11_air_49 : decode cX11_air 49 = .ok (.aload_n 0, 1) := by decide +kernel
theorem dX11_air_50 : decode cX11_air 50 = .ok (.getfield 10, 3) := by decide +kernel
theorem dX11_air_53 : decode cX11_air 53 = .ok (.aload_n 0, 1) := by decide +kernel
theorem dX11_air_54 : decode cX11_air 54 = .ok (.getfield 16, 3) := by decide +kernel
theorem dX11_air_57 : decode cX11_air 57 = .ok (.invokevirtual 66, 3) := by decide +kernel
theorem dX11_air_60 : decode cX11_air 60 = .ok (.iload 4, 2) := by decide +kernel
theorem dX11_air_62 : decode cX11_air 62 = .ok (.ireturn, 1) := by decide +kernel
theorem dX11_wind_0 : decode cX11_wind 0 = .ok (.iload_n 1, 1) := by decide +kernel
theorem dX11_wind_1 : decode cX11_wind 1 = .ok (.invokestatic 72, 3) := by decide +kernel
theorem dX11_wind_4 : decode cX11_wind 4 = .ok (.ifCond .ne 6, 3) := by decide +kernel
theorem dX11_wind_7 : decode cX11_wind 7 = .ok (.ldc 76, 2) := by decide +kernel
theorem dX11_wind_9 : decode cX11_wind 9 = .ok (.ireturn, 1) := by decide +kernel
theorem dX11_wind_10 : decode cX11_wind 10 = .ok (.iload_n 2, 1) := by decide +kernel
theorem dX11_wind_11 : decode cX11_wind 11 = .ok (.ifCond .eq 15, 3) := by decide +kernel
theorem dX11_wind_14 : decode cX11_wind 14 = .ok (.aload_n 0, 1) := by decide +kernel
theorem dX11_wind_15 : decode cX11_wind 15 = .ok (.getfield 10, 3) := by decide +kernel
theorem dX11_wind_18 : decode cX11_wind 18 = .ok (.getfield 77, 3) := by decide +kernel
theorem dX11_wind_21 : decode cX11_wind 21 = .ok (.iload_n 1, 1) := by decide +kernel
theorem dX11_wind_22 : decode cX11_wind 22 = .ok (.iaload, 1) := by decide +kernel
theorem dX11_wind_23 : decode cX11_wind 23 = .ok (.goto 12, 3) := by decide +kernel
theorem dX11_wind_26 : decode cX11_wind 26 = .ok (.aload_n 0, 1) := by decide +kernel
theorem dX11_wind_27 : decode cX11_wind 27 = .ok (.getfield 10, 3) := by decide +kernel
theorem dX11_wind_30 : decode cX11_wind 30 = .ok (.getfield 80, 3) := by decide +kernel
theorem dX11_wind_33 : decode cX11_wind 33 = .ok (.iload_n 1, 1) := by decide +kernel
theorem dX11_wind_34 : decode cX11_wind 34 = .ok (.iaload, 1) := by decide +kernel
theorem dX11_wind_35 : decode cX11_wind 35 = .ok (.ireturn, 1) := by decide +kernel
theorem dX11_set_0 : decode cX11_set 0 = .ok (.iconst (-1), 1) := by decide +kernel
theorem dX11_set_1 : decode cX11_set 1 = .ok (.istore_n 3, 1) := by decide +kernel
theorem dX11_set_2 : decode cX11_set 2 = .ok (.iload_n 1, 1) := by decide +kernel
theorem dX11_set_3 : decode cX11_set 3 = .ok (.ifCond .ne 32, 3) := by decide +kernel
theorem dX11_set_6 : decode cX11_set 6 = .ok (.iconst 0, 1) := by decide +kernel
theorem dX11_set_7 : decode cX11_set 7 = .ok (.iload_n 2, 1) := by decide +kernel
theorem dX11_set_8 : decode cX11_set 8 = .ok (.bipush 30, 2) := by decide +kernel
theorem dX11_set_10 : decode cX11_set 10 = .ok (.invokestatic 83, 3) := by decide +kernel
theorem dX11_set_13 : decode cX11_set 13 = .ok (.ifCond .eq 22, 3) := by decide +kernel
theorem dX11_set_16 : decode cX11_set 16 = .ok (.aload_n 0, 1) := by decide +kernel
theorem dX11_set_17 : decode cX11_set 17 = .ok (.getfield 10, 3) := by decide +kernel
theorem dX11_set_20 : decode cX11_set 20 = .ok (.getfield 87, 3) := by decide +kernel
theorem dX11_set_23 : decode cX11_set 23 = .ok (.istore_n 3, 1) := by decide +kernel
theorem dX11_set_24 : decode cX11_set 24 = .ok (.aload_n 0, 1) := by decide +kernel
theorem dX11_set_25 : decode cX11_set 25 = .ok (.getfield 10, 3) := by decide +kernel
theorem dX11_set_28 : decode cX11_set 28 = .ok (.iload_n 2, 1) := by decide +kernel
theorem dX11_set_29 : decode cX11_set 29 = .ok (.putfield 87, 3) := by decide +kernel
theorem dX11_set_32 : decode cX11_set 32 = .ok (.goto 72, 3) := by decide +kernel
theorem dX11_set_35 : decode cX11_set 35 = .ok (.iload_n 1, 1) := by decide +kernel
theorem dX11_set_36 : decode cX11_set 36 = .ok (.iconst 1, 1) := by decide +kernel
theorem dX11_set_37 : decode cX11_set 37 = .ok (.if_icmp .ne 33, 3) := by decide +kernel
theorem dX11_set_40 : decode cX11_set 40 = .ok (.iconst 0, 1) := by decide +kernel
theorem dX11_set_41 : decode cX11_set 41 = .ok (.iload_n 2, 1) := by decide +kernel
theorem dX11_set_42 : decode cX11_set 42 = .ok (.sipush 900, 3) := by decide +kernel
theorem dX11_set_45 : decode cX11_set 45 = .ok (.invokestatic 83, 3) := by decide +kernel
theorem dX11_set_48 : decode cX11_set 48 = .ok (.ifCond .eq 22, 3) := by decide +kernel
theorem dX11_set_51 : decode cX11_set 51 = .ok (.aload_n 0, 1) := by decide +kernel
theorem dX11_set_52 : decode cX11_set 52 = .ok (.getfield 10, 3) := by decide +kernel
theorem dX11_set_55 : decode cX11_set 55 = .ok (.getfield 91, 3) := by decide +kernel
theorem dX11_set_58 : decode cX11_set 58 = .ok (.istore_n 3, 1) := by decide +kernel
theorem dX11_set_59 : decode cX11_set 59 = .ok (.aload_n 0, 1) := by decide +kernel
theorem dX11_set_60 : decode cX11_set 60 = .ok (.getfield 10, 3) := by decide +kernel
theorem dX11_set_63 : decode cX11_set 63 = .ok (.iload_n 2, 1) := by decide +kernel
theorem dX11_set_64 : decode cX11_set 64 = .ok (.putfield 91, 3) := by decide +kernel
theorem dX11_set_67 : decode cX11_set 67 = .ok (.goto 37, 3) := by decide +kernel
theorem dX11_set_70 : decode cX11_set 70 = .ok (.iload_n 1, 1) := by decide +kernel
theorem dX11_set_71 : decode cX11_set 71 = .ok (.iconst 2, 1) := by decide +kernel
theorem dX11_set_72 : decode cX11_set 72 = .ok (.if_icmp .ne 32, 3) := by decide +kernel
theorem dX11_set_75 : decode cX11_set 75 = .ok (.sipush 300, 3) := by decide +kernel
theorem dX11_set_78 : decode cX11_set 78 = .ok (.iload_n 2, 1) := by decide +kernel
theorem dX11_set_79 : decode cX11_set 79 = .ok (.sipush 3000, 3) := by decide +kernel
theorem dX11_set_82 : decode cX11_set 82 = .ok (.invokestatic 83, 3) := by decide +kernel
theorem dX11_set_85 : decode cX11_set 85 = .ok (.ifCond .eq 19, 3) := by decide +kernel
theorem dX11_set_88 : decode cX11_set 88 = .ok (.aload_n 0, 1) := by decide +kernel
theorem dX11_set_89 : decode cX11_set 89 = .ok (.getfield 10, 3) := by decide +kernel
theorem dX11_set_92 : decode cX11_set 92 = .ok (.getfield 94, 3) := by decide +kernel
theorem dX11_set_95 : decode cX11_set 95 = .ok (.istore_n 3, 1) := by decide +kernel
theorem dX11_set_96 : decode cX11_set 96 = .ok (.aload_n 0, 1) := by decide +kernel
theorem dX11_set_97 : decode cX11_set 97 = .ok (.getfield 10, 3) := by decide +kernel
theorem dX11_set_100 : decode cX11_set 100 = .ok (.iload_n 2, 1) := by decide +kernel
theorem dX11_set_101 : decode cX11_set 101 = .ok (.putfield 94, 3) := by decide +kernel
theorem dX11_set_104 : decode cX11_set 104 = .ok (.iload_n 3, 1) := by decide +kernel
theorem dX11_set_105 : decode cX11_set 105 = .ok (.ireturn, 1) := by decide +kernel
theorem dX11_faller_0 : decode cX11_faller 0 = .ok (.aload_n 0, 1) := by decide +kernel
theorem dX11_faller_1 : decode cX11_faller 1 = .ok (.getfield 10, 3) := by decide +kernel
theorem dX11_faller_4 : decode cX11_faller 4 = .ok (.iload_n 1, 1) := by decide +kernel
theorem dX11_faller_5 : decode cX11_faller 5 = .ok (.invokevirtual 97, 3) := by decide +kernel
theorem dX11_faller_8 : decode cX11_faller 8 = .ok (.astore_n 3, 1) := by decide +kernel
theorem dX11_faller_9 : decode cX11_faller 9 = .ok (.aload_n 3, 1) := by decide +kernel
theorem dX11_faller_10 : decode cX11_faller 10 = .ok (.ifnonnull 5, 3) := by decide +kernel
theorem dX11_faller_13 : decode cX11_faller 13 = .ok (.iconst (-1), 1) := by decide +kernel
theorem dX11_faller_14 : decode cX11_faller 14 = .ok (.ireturn, 1) := by decide +kernel
theorem dX11_faller_15 : decode cX11_faller 15 = .ok (.iload_n 2, 1) := by decide +kernel
theorem dX11_faller_16 : decode cX11_faller 16 = .ok (.tableswitch 70 0 5 #[40, 45, 50, 55, 60, 65], 40) := by decide +kernel
theorem dX11_faller_56 : decode cX11_faller 56 = .ok (.aload_n 3, 1) := by decide +kernel
theorem dX11_faller_57 : decode cX11_faller 57 = .ok (.getfield 101, 3) := by decide +kernel
theorem dX11_faller_60 : decode cX11_faller 60 = .ok (.ireturn, 1) := by decide +kernel
theorem dX11_faller_61 : decode cX11_faller 61 = .ok (.aload_n 3, 1) := by decide +kernel
theorem dX11_faller_62 : decode cX11_faller 62 = .ok (.getfield 106, 3) := by decide +kernel
theorem dX11_faller_65 : decode cX11_faller 65 = .ok (.ireturn, 1) := by decide +kernel
theorem dX11_faller_66 : decode cX11_faller 66 = .ok (.aload_n 3, 1) := by decide +kernel
theorem dX11_faller_67 : decode cX11_faller 67 = .ok (.getfield 109, 3) := by decide +kernel
theorem dX11_faller_70 : decode cX11_faller 70 = .ok (.ireturn, 1) := by decide +kernel
theorem dX11_faller_71 : decode cX11_faller 71 = .ok (.aload_n 3, 1) := by decide +kernel
theorem dX11_faller_72 : decode cX11_faller 72 = .ok (.getfield 112, 3) := by decide +kernel
theorem dX11_faller_75 : decode cX11_faller 75 = .ok (.ireturn, 1) := by decide +kernel
theorem dX11_faller_76 : decode cX11_faller 76 = .ok (.aload_n 3, 1) := by decide +kernel
theorem dX11_faller_77 : decode cX11_faller 77 = .ok (.getfield 115, 3) := by decide +kernel
theorem dX11_faller_80 : decode cX11_faller 80 = .ok (.ireturn, 1) := by decide +kernel
theorem dX11_faller_81 : decode cX11_faller 81 = .ok (.aload_n 3, 1) := by decide +kernel
theorem dX11_faller_82 : decode cX11_faller 82 = .ok (.getfield 118, 3) := by decide +kernel
theorem dX11_faller_85 : decode cX11_faller 85 = .ok (.ireturn, 1) := by decide +kernel
theorem dX11_faller_86 : decode cX11_faller 86 = .ok (.iconst (-1), 1) := by decide +kernel
theorem dX11_faller_87 : decode cX11_faller 87 = .ok (.ireturn, 1) := by decide +kernel
theorem dX11_drift_0 : decode cX11_drift 0 = .ok (.aload_n 0, 1) := by decide +kernel
theorem dX11_drift_1 : decode cX11_drift 1 = .ok (.getfield 10, 3) := by decide +kernel
theorem dX11_drift_4 : decode cX11_drift 4 = .ok (.iload_n 1, 1) := by decide +kernel
theorem dX11_drift_5 : decode cX11_drift 5 = .ok (.invokevirtual 97, 3) := by decide +kernel
theorem dX11_drift_8 : decode cX11_drift 8 = .ok (.astore_n 3, 1) := by decide +kernel
theorem dX11_drift_9 : decode cX11_drift 9 = .ok (.aload_n 3, 1) := by decide +kernel
theorem dX11_drift_10 : decode cX11_drift 10 = .ok (.ifnull 14, 3) := by decide +kernel
theorem dX11_drift_13 : decode cX11_drift 13 = .ok (.bipush (-120), 2) := by decide +kernel
theorem dX11_drift_15 : decode cX11_drift 15 = .ok (.iload_n 2, 1) := by decide +kernel
theorem dX11_drift_16 : decode cX11_drift 16 = .ok (.bipush 120, 2) := by decide +kernel
theorem dX11_drift_18 : decode cX11_drift 18 = .ok (.invokestatic 83, 3) := by decide +kernel
theorem dX11_drift_21 : decode cX11_drift 21 = .ok (.ifCond .ne 6, 3) := by decide +kernel
theorem dX11_drift_24 : decode cX11_drift 24 = .ok (.ldc 76, 2) := by decide +kernel
theorem dX11_drift_26 : decode cX11_drift 26 = .ok (.ireturn, 1) := by decide +kernel
theorem dX11_drift_27 : decode cX11_drift 27 = .ok (.aload_n 3, 1) := by decide +kernel
theorem dX11_drift_28 : decode cX11_drift 28 = .ok (.iload_n 2, 1) := by decide +kernel
theorem dX11_drift_29 : decode cX11_drift 29 = .ok (.invokevirtual 121, 3) := by decide +kernel
theorem dX11_drift_32 : decode cX11_drift 32 = .ok (.ireturn, 1) := by decide +kernel
theorem dX11_steers_0 : decode cX11_steers 0 = .ok (.aload_n 0, 1) := by decide +kernel
theorem dX11_steers_1 : decode cX11_steers 1 = .ok (.getfield 10, 3) := by decide +kernel
theorem dX11_steers_4 : decode cX11_steers 4 = .ok (.iload_n 1, 1) := by decide +kernel
theorem dX11_steers_5 : decode cX11_steers 5 = .ok (.invokevirtual 97, 3) := by decide +kernel
theorem dX11_steers_8 : decode cX11_steers 8 = .ok (.astore 6, 2) := by decide +kernel
theorem dX11_steers_10 : decode cX11_steers 10 = .ok (.aload 6, 2) := by decide +kernel
theorem dX11_steers_12 : decode cX11_steers 12 = .ok (.ifnull 19, 3) := by decide +kernel
theorem dX11_steers_15 : decode cX11_steers 15 = .ok (.iload_n 2, 1) := by decide +kernel
theorem dX11_steers_16 : decode cX11_steers 16 = .ok (.iload_n 3, 1) := by decide +kernel
theorem dX11_steers_17 : decode cX11_steers 17 = .ok (.invokestatic 125, 3) := by decide +kernel
theorem dX11_steers_20 : decode cX11_steers 20 = .ok (.ifCond .eq 11, 3) := by decide +kernel
theorem dX11_steers_23 : decode cX11_steers 23 = .ok (.iload 4, 2) := by decide +kernel
theorem dX11_steers_25 : decode cX11_steers 25 = .ok (.invokestatic 72, 3) := by decide +kernel
theorem dX11_steers_28 : decode cX11_steers 28 = .ok (.ifCond .ne 6, 3) := by decide +kernel
theorem dX11_steers_31 : decode cX11_steers 31 = .ok (.ldc 76, 2) := by decide +kernel
theorem dX11_steers_33 : decode cX11_steers 33 = .ok (.ireturn, 1) := by decide +kernel
theorem dX11_steers_34 : decode cX11_steers 34 = .ok (.aload_n 0, 1) := by decide +kernel
theorem dX11_steers_35 : decode cX11_steers 35 = .ok (.getfield 10, 3) := by decide +kernel
theorem dX11_steers_38 : decode cX11_steers 38 = .ok (.getfield 80, 3) := by decide +kernel
theorem dX11_steers_41 : decode cX11_steers 41 = .ok (.iload 4, 2) := by decide +kernel
theorem dX11_steers_43 : decode cX11_steers 43 = .ok (.iaload, 1) := by decide +kernel
theorem dX11_steers_44 : decode cX11_steers 44 = .ok (.istore 7, 2) := by decide +kernel
theorem dX11_steers_46 : decode cX11_steers 46 = .ok (.aload_n 0, 1) := by decide +kernel
theorem dX11_steers_47 : decode cX11_steers 47 = .ok (.getfield 10, 3) := by decide +kernel
theorem dX11_steers_50 : decode cX11_steers 50 = .ok (.getfield 77, 3) := by decide +kernel
theorem dX11_steers_53 : decode cX11_steers 53 = .ok (.iload 4, 2) := by decide +kernel
theorem dX11_steers_55 : decode cX11_steers 55 = .ok (.iaload, 1) := by decide +kernel
theorem dX11_steers_56 : decode cX11_steers 56 = .ok (.istore 8, 2) := by decide +kernel
theorem dX11_steers_58 : decode cX11_steers 58 = .ok (.iload 5, 2) := by decide +kernel
theorem dX11_steers_60 : decode cX11_steers 60 = .ok (.ifCond .eq 17, 3) := by decide +kernel
theorem dX11_steers_63 : decode cX11_steers 63 = .ok (.aload 6, 2) := by decide +kernel
theorem dX11_steers_65 : decode cX11_steers 65 = .ok (.iload_n 2, 1) := by decide +kernel
theorem dX11_steers_66 : decode cX11_steers 66 = .ok (.iload_n 3, 1) := by decide +kernel
theorem dX11_steers_67 : decode cX11_steers 67 = .ok (.iload 7, 2) := by decide +kernel
theorem dX11_steers_69 : decode cX11_steers 69 = .ok (.iload 8, 2) := by decide +kernel
theorem dX11_steers_71 : decode cX11_steers 71 = .ok (.invokevirtual 129, 3) := by decide +kernel
theorem dX11_steers_74 : decode cX11_steers 74 = .ok (.goto 14, 3) := by decide +kernel
theorem dX11_steers_77 : decode cX11_steers 77 = .ok (.aload 6, 2) := by decide +kernel
theorem dX11_steers_79 : decode cX11_steers 79 = .ok (.iload_n 2, 1) := by decide +kernel
theorem dX11_steers_80 : decode cX11_steers 80 = .ok (.iload_n 3, 1) := by decide +kernel
theorem dX11_steers_81 : decode cX11_steers 81 = .ok (.iload 7, 2) := by decide +kernel
theorem dX11_steers_83 : decode cX11_steers 83 = .ok (.iload 8, 2) := by decide +kernel
theorem dX11_steers_85 : decode cX11_steers 85 = .ok (.invokevirtual 133, 3) := by decide +kernel
theorem dX11_steers_88 : decode cX11_steers 88 = .ok (.ireturn, 1) := by decide +kernel
theorem dX11_barred_0 : decode cX11_barred 0 = .ok (.iload_n 1, 1) := by decide +kernel
theorem dX11_barred_1 : decode cX11_barred 1 = .ok (.iload_n 2, 1) := by decide +kernel
theorem dX11_barred_2 : decode cX11_barred 2 = .ok (.invokestatic 125, 3) := by decide +kernel
theorem dX11_barred_5 : decode cX11_barred 5 = .ok (.ifCond .ne 5, 3) := by decide +kernel
theorem dX11_barred_8 : decode cX11_barred 8 = .ok (.iconst (-1), 1) := by decide +kernel
theorem dX11_barred_9 : decode cX11_barred 9 = .ok (.ireturn, 1) := by decide +kernel
theorem dX11_barred_10 : decode cX11_barred 10 = .ok (.aload_n 0, 1) := by decide +kernel
theorem dX11_barred_11 : decode cX11_barred 11 = .ok (.getfield 10, 3) := by decide +kernel
theorem dX11_barred_14 : decode cX11_barred 14 = .ok (.iload_n 1, 1) := by decide +kernel
theorem dX11_barred_15 : decode cX11_barred 15 = .ok (.iload_n 2, 1) := by decide +kernel
theorem dX11_barred_16 : decode cX11_barred 16 = .ok (.invokevirtual 136, 3) := by decide +kernel
theorem dX11_barred_19 : decode cX11_barred 19 = .ok (.ifCond .eq 7, 3) := by decide +kernel
theorem dX11_barred_22 : decode cX11_barred 22 = .ok (.iconst 1, 1) := by decide +kernel
theorem dX11_barred_23 : decode cX11_barred 23 = .ok (.goto 4, 3) := by decide +kernel
theorem dX11_barred_26 : decode cX11_barred 26 = .ok (.iconst 0, 1) := by decide +kernel
theorem dX11_barred_27 : decode cX11_barred 27 = .ok (.ireturn, 1) := by decide +kernel
theorem dX11_fall_0 : decode cX11_fall 0 = .ok (.aload_n 0, 1) := by decide +kernel
theorem dX11_fall_1 : decode cX11_fall 1 = .ok (.iload_n 1, 1) := by decide +kernel
theorem dX11_fall_2 : decode cX11_fall 2 = .ok (.iload_n 2, 1) := by decide +kernel
theorem dX11_fall_3 : decode cX11_fall 3 = .ok (.iload_n 3, 1) := by decide +kernel
theorem dX11_fall_4 : decode cX11_fall 4 = .ok (.iconst 1, 1) := by decide +kernel
theorem dX11_fall_5 : decode cX11_fall 5 = .ok (.iload 4, 2) := by decide +kernel
theorem dX11_fall_7 : decode cX11_fall 7 = .ok (.invokevirtual 139, 3) := by decide +kernel
theorem dX11_fall_10 : decode cX11_fall 10 = .ok (.ireturn, 1) := by decide +kernel
theorem dX11_fallBy_0 : decode cX11_fallBy 0 = .ok (.aload_n 0, 1) := by decide +kernel
theorem dX11_fallBy_1 : decode cX11_fallBy 1 = .ok (.iload_n 1, 1) := by decide +kernel
theorem dX11_fallBy_2 : decode cX11_fallBy 2 = .ok (.iload_n 2, 1) := by decide +kernel
theorem dX11_fallBy_3 : decode cX11_fallBy 3 = .ok (.iload_n 3, 1) := by decide +kernel
theorem dX11_fallBy_4 : decode cX11_fallBy 4 = .ok (.iload 4, 2) := by decide +kernel
theorem dX11_fallBy_6 : decode cX11_fallBy 6 = .ok (.iload 5, 2) := by decide +kernel
theorem dX11_fallBy_8 : decode cX11_fallBy 8 = .ok (.invokevirtual 139, 3) := by decide +kernel
theorem dX11_fallBy_11 : decode cX11_fallBy 11 = .ok (.ireturn, 1) := by decide +kernel
theorem dX11_at_0 : decode cX11_at 0 = .ok (.aload_n 0, 1) := by decide +kernel
theorem dX11_at_1 : decode cX11_at 1 = .ok (.getfield 10, 3) := by decide +kernel
theorem dX11_at_4 : decode cX11_at 4 = .ok (.iload_n 1, 1) := by decide +kernel
theorem dX11_at_5 : decode cX11_at 5 = .ok (.invokevirtual 97, 3) := by decide +kernel
theorem dX11_at_8 : decode cX11_at 8 = .ok (.astore 6, 2) := by decide +kernel
theorem dX11_at_10 : decode cX11_at 10 = .ok (.aload 6, 2) := by decide +kernel
theorem dX11_at_12 : decode cX11_at 12 = .ok (.ifnull 33, 3) := by decide +kernel
theorem dX11_at_15 : decode cX11_at 15 = .ok (.iload_n 2, 1) := by decide +kernel
theorem dX11_at_16 : decode cX11_at 16 = .ok (.iload_n 3, 1) := by decide +kernel
theorem dX11_at_17 : decode cX11_at 17 = .ok (.invokestatic 125, 3) := by decide +kernel
theorem dX11_at_20 : decode cX11_at 20 = .ok (.ifCond .eq 25, 3) := by decide +kernel
theorem dX11_at_23 : decode cX11_at 23 = .ok (.iconst 0, 1) := by decide +kernel
theorem dX11_at_24 : decode cX11_at 24 = .ok (.iload 4, 2) := by decide +kernel
theorem dX11_at_26 : decode cX11_at 26 = .ok (.sipush 400, 3) := by decide +kernel
theorem dX11_at_29 : decode cX11_at 29 = .ok (.invokestatic 83, 3) := by decide +kernel
theorem dX11_at_32 : decode cX11_at 32 = .ok (.ifCond .eq 13, 3) := by decide +kernel
theorem dX11_at_35 : decode cX11_at 35 = .ok (.iconst 0, 1) := by decide +kernel
theorem dX11_at_36 : decode cX11_at 36 = .ok (.iload 5, 2) := by decide +kernel
theorem dX11_at_38 : decode cX11_at 38 = .ok (.iconst 2, 1) := by decide +kernel
theorem dX11_at_39 : decode cX11_at 39 = .ok (.invokestatic 83, 3) := by decide +kernel
theorem dX11_at_42 : decode cX11_at 42 = .ok (.ifCond .ne 6, 3) := by decide +kernel
theorem dX11_at_45 : decode cX11_at 45 = .ok (.ldc 76, 2) := by decide +kernel
theorem dX11_at_47 : decode cX11_at 47 = .ok (.ireturn, 1) := by decide +kernel
theorem dX11_at_48 : decode cX11_at 48 = .ok (.aload_n 0, 1) := by decide +kernel
theorem dX11_at_49 : decode cX11_at 49 = .ok (.getfield 31, 3) := by decide +kernel
theorem dX11_at_52 : decode cX11_at 52 = .ok (.aload 6, 2) := by decide +kernel
theorem dX11_at_54 : decode cX11_at 54 = .ok (.iload_n 2, 1) := by decide +kernel
theorem dX11_at_55 : decode cX11_at 55 = .ok (.iload_n 3, 1) := by decide +kernel
theorem dX11_at_56 : decode cX11_at 56 = .ok (.iconst 1, 1) := by decide +kernel
theorem dX11_at_57 : decode cX11_at 57 = .ok (.invokevirtual 143, 3) := by decide +kernel
theorem dX11_at_60 : decode cX11_at 60 = .ok (.aload_n 0, 1) := by decide +kernel
theorem dX11_at_61 : decode cX11_at 61 = .ok (.getfield 31, 3) := by decide +kernel
theorem dX11_at_64 : decode cX11_at 64 = .ok (.iload 4, 2) := by decide +kernel
theorem dX11_at_66 : decode cX11_at 66 = .ok (.invokevirtual 147, 3) := by decide +kernel
theorem dX11_at_69 : decode cX11_at 69 = .ok (.iload 5, 2) := by decide +kernel
theorem dX11_at_71 : decode cX11_at 71 = .ok (.ifCond .ne 13, 3) := by decide +kernel
theorem dX11_at_74 : decode cX11_at 74 = .ok (.aload_n 0, 1) := by decide +kernel
theorem dX11_at_75 : decode cX11_at 75 = .ok (.getfield 31, 3) := by decide +kernel
theorem dX11_at_78 : decode cX11_at 78 = .ok (.getfield 151, 3) := by decide +kernel
theorem dX11_at_81 : decode cX11_at 81 = .ok (.goto 26, 3) := by decide +kernel
theorem dX11_at_84 : decode cX11_at 84 = .ok (.iload 5, 2) := by decide +kernel
theorem dX11_at_86 : decode cX11_at 86 = .ok (.iconst 1, 1) := by decide +kernel
theorem dX11_at_87 : decode cX11_at 87 = .ok (.if_icmp .ne 13, 3) := by decide +kernel
theorem dX11_at_90 : decode cX11_at 90 = .ok (.aload_n 0, 1) := by decide +kernel
theorem dX11_at_91 : decode cX11_at 91 = .ok (.getfield 31, 3) := by decide +kernel
theorem dX11_at_94 : decode cX11_at 94 = .ok (.getfield 154, 3) := by decide +kernel
theorem dX11_at_97 : decode cX11_at 97 = .ok (.goto 10, 3) := by decide +kernel
theorem dX11_at_100 : decode cX11_at 100 = .ok (.aload_n 0, 1) := by decide +kernel
theorem dX11_at_101 : decode cX11_at 101 = .ok (.getfield 31, 3) := by decide +kernel
theorem dX11_at_104 : decode cX11_at 104 = .ok (.getfield 157, 3) := by decide +kernel
theorem dX11_at_107 : decode cX11_at 107 = .ok (.ireturn, 1) := by decide +kernel
theorem dX11_mean_0 : decode cX11_mean 0 = .ok (.aload_n 0, 1) := by decide +kernel
theorem dX11_mean_1 : decode cX11_mean 1 = .ok (.getfield 10, 3) := by decide +kernel
theorem dX11_mean_4 : decode cX11_mean 4 = .ok (.iload_n 1, 1) := by decide +kernel
theorem dX11_mean_5 : decode cX11_mean 5 = .ok (.invokevirtual 97, 3) := by decide +kernel
theorem dX11_mean_8 : decode cX11_mean 8 = .ok (.astore 5, 2) := by decide +kernel
theorem dX11_mean_10 : decode cX11_mean 10 = .ok (.aload 5, 2) := by decide +kernel
theorem dX11_mean_12 : decode cX11_mean 12 = .ok (.ifnull 11, 3) := by decide +kernel
theorem dX11_mean_15 : decode cX11_mean 15 = .ok (.iload_n 2, 1) := by decide +kernel
theorem dX11_mean_16 : decode cX11_mean 16 = .ok (.iload_n 3, 1) := by decide +kernel
theorem dX11_mean_17 : decode cX11_mean 17 = .ok (.invokestatic 125, 3) := by decide +kernel
theorem dX11_mean_20 : decode cX11_mean 20 = .ok (.ifCond .ne 6, 3) := by decide +kernel
theorem dX11_mean_23 : decode cX11_mean 23 = .ok (.ldc 76, 2) := by decide +kernel
theorem dX11_mean_25 : decode cX11_mean 25 = .ok (.ireturn, 1) := by decide +kernel
theorem dX11_mean_26 : decode cX11_mean 26 = .ok (.aload_n 0, 1) := by decide +kernel
theorem dX11_mean_27 : decode cX11_mean 27 = .ok (.getfield 31, 3) := by decide +kernel
theorem dX11_mean_30 : decode cX11_mean 30 = .ok (.aload 5, 2) := by decide +kernel
theorem dX11_mean_32 : decode cX11_mean 32 = .ok (.iload_n 2, 1) := by decide +kernel
theorem dX11_mean_33 : decode cX11_mean 33 = .ok (.iload_n 3, 1) := by decide +kernel
theorem dX11_mean_34 : decode cX11_mean 34 = .ok (.iconst 1, 1) := by decide +kernel
theorem dX11_mean_35 : decode cX11_mean 35 = .ok (.invokevirtual 143, 3) := by decide +kernel
theorem dX11_mean_38 : decode cX11_mean 38 = .ok (.aload_n 0, 1) := by decide +kernel
theorem dX11_mean_39 : decode cX11_mean 39 = .ok (.getfield 31, 3) := by decide +kernel
theorem dX11_mean_42 : decode cX11_mean 42 = .ok (.iconst 0, 1) := by decide +kernel
theorem dX11_mean_43 : decode cX11_mean 43 = .ok (.iconst 0, 1) := by decide +kernel
theorem dX11_mean_44 : decode cX11_mean 44 = .ok (.invokevirtual 160, 3) := by decide +kernel
theorem dX11_mean_47 : decode cX11_mean 47 = .ok (.aload_n 0, 1) := by decide +kernel
theorem dX11_mean_48 : decode cX11_mean 48 = .ok (.getfield 31, 3) := by decide +kernel
theorem dX11_mean_51 : decode cX11_mean 51 = .ok (.aload 5, 2) := by decide +kernel
theorem dX11_mean_53 : decode cX11_mean 53 = .ok (.getfield 109, 3) := by decide +kernel
theorem dX11_mean_56 : decode cX11_mean 56 = .ok (.invokevirtual 147, 3) := by decide +kernel
theorem dX11_mean_59 : decode cX11_mean 59 = .ok (.iload 4, 2) := by decide +kernel
theorem dX11_mean_61 : decode cX11_mean 61 = .ok (.ifCond .eq 13, 3) := by decide +kernel
theorem dX11_mean_64 : decode cX11_mean 64 = .ok (.aload_n 0, 1) := by decide +kernel
theorem dX11_mean_65 : decode cX11_mean 65 = .ok (.getfield 31, 3) := by decide +kernel
theorem dX11_mean_68 : decode cX11_mean 68 = .ok (.getfield 154, 3) := by decide +kernel
theorem dX11_mean_71 : decode cX11_mean 71 = .ok (.goto 10, 3) := by decide +kernel
theorem dX11_mean_74 : decode cX11_mean 74 = .ok (.aload_n 0, 1) := by decide +kernel
theorem dX11_mean_75 : decode cX11_mean 75 = .ok (.getfield 31, 3) := by decide +kernel
theorem dX11_mean_78 : decode cX11_mean 78 = .ok (.getfield 151, 3) := by decide +kernel
theorem dX11_mean_81 : decode cX11_mean 81 = .ok (.istore 6, 2) := by decide +kernel
theorem dX11_mean_83 : decode cX11_mean 83 = .ok (.aload_n 0, 1) := by decide +kernel
theorem dX11_mean_84 : decode cX11_mean 84 = .ok (.getfield 31, 3) := by decide +kernel
theorem dX11_mean_87 : decode cX11_mean 87 = .ok (.getfield 164, 3) := by decide +kernel
theorem dX11_mean_90 : decode cX11_mean 90 = .ok (.istore 7, 2) := by decide +kernel
theorem dX11_mean_92 : decode cX11_mean 92 = .ok (.aload_n 0, 1) := by decide +kernel
theorem dX11_mean_93 : decode cX11_mean 93 = .ok (.getfield 31, 3) := by decide +kernel
theorem dX11_mean_96 : decode cX11_mean 96 = .ok (.invokevirtual 167, 3) := by decide +kernel
theorem dX11_mean_99 : decode cX11_mean 99 = .ok (.aload_n 0, 1) := by decide +kernel
theorem dX11_mean_100 : decode cX11_mean 100 = .ok (.getfield 31, 3) := by decide +kernel
theorem dX11_mean_103 : decode cX11_mean 103 = .ok (.getfield 164, 3) := by decide +kernel
theorem dX11_mean_106 : decode cX11_mean 106 = .ok (.iload 7, 2) := by decide +kernel
theorem dX11_mean_108 : decode cX11_mean 108 = .ok (.isub, 1) := by decide +kernel
theorem dX11_mean_109 : decode cX11_mean 109 = .ok (.istore 8, 2) := by decide +kernel
theorem dX11_mean_111 : decode cX11_mean 111 = .ok (.iload 8, 2) := by decide +kernel
theorem dX11_mean_113 : decode cX11_mean 113 = .ok (.ifCond .gt 5, 3) := by decide +kernel
theorem dX11_mean_116 : decode cX11_mean 116 = .ok (.iconst 0, 1) := by decide +kernel
theorem dX11_mean_117 : decode cX11_mean 117 = .ok (.ireturn, 1) := by decide +kernel
theorem dX11_mean_118 : decode cX11_mean 118 = .ok (.iload 4, 2) := by decide +kernel
theorem dX11_mean_120 : decode cX11_mean 120 = .ok (.ifCond .eq 13, 3) := by decide +kernel
theorem dX11_mean_123 : decode cX11_mean 123 = .ok (.aload_n 0, 1) := by decide +kernel
theorem dX11_mean_124 : decode cX11_mean 124 = .ok (.getfield 31, 3) := by decide +kernel
theorem dX11_mean_127 : decode cX11_mean 127 = .ok (.getfield 154, 3) := by decide +kernel
theorem dX11_mean_130 : decode cX11_mean 130 = .ok (.goto 10, 3) := by decide +kernel
theorem dX11_mean_133 : decode cX11_mean 133 = .ok (.aload_n 0, 1) := by decide +kernel
theorem dX11_mean_134 : decode cX11_mean 134 = .ok (.getfield 31, 3) := by decide +kernel
theorem dX11_mean_137 : decode cX11_mean 137 = .ok (.getfield 151, 3) := by decide +kernel
theorem dX11_mean_140 : decode cX11_mean 140 = .ok (.iload 6, 2) := by decide +kernel
theorem dX11_mean_142 : decode cX11_mean 142 = .ok (.isub, 1) := by decide +kernel
theorem dX11_mean_143 : decode cX11_mean 143 = .ok (.iload 8, 2) := by decide +kernel
theorem dX11_mean_145 : decode cX11_mean 145 = .ok (.idiv, 1) := by decide +kernel
theorem dX11_mean_146 : decode cX11_mean 146 = .ok (.ireturn, 1) := by decide +kernel
theorem dX11_exit_0 : decode cX11_exit 0 = .ok (.aload_n 0, 1) := by decide +kernel
theorem dX11_exit_1 : decode cX11_exit 1 = .ok (.getfield 10, 3) := by decide +kernel
theorem dX11_exit_4 : decode cX11_exit 4 = .ok (.iload_n 1, 1) := by decide +kernel
theorem dX11_exit_5 : decode cX11_exit 5 = .ok (.invokevirtual 97, 3) := by decide +kernel
theorem dX11_exit_8 : decode cX11_exit 8 = .ok (.astore_n 3, 1) := by decide +kernel
theorem dX11_exit_9 : decode cX11_exit 9 = .ok (.aload_n 3, 1) := by decide +kernel
theorem dX11_exit_10 : decode cX11_exit 10 = .ok (.ifnull 12, 3) := by decide +kernel
theorem dX11_exit_13 : decode cX11_exit 13 = .ok (.iconst 0, 1) := by decide +kernel
theorem dX11_exit_14 : decode cX11_exit 14 = .ok (.iload_n 2, 1) := by decide +kernel
theorem dX11_exit_15 : decode cX11_exit 15 = .ok (.iconst 2, 1) := by decide +kernel
theorem dX11_exit_16 : decode cX11_exit 16 = .ok (.invokestatic 83, 3) := by decide +kernel
theorem dX11_exit_19 : decode cX11_exit 19 = .ok (.ifCond .ne 6, 3) := by decide +kernel
theorem dX11_exit_22 : decode cX11_exit 22 = .ok (.ldc 76, 2) := by decide +kernel
theorem dX11_exit_24 : decode cX11_exit 24 = .ok (.ireturn, 1) := by decide +kernel
theorem dX11_exit_25 : decode cX11_exit 25 = .ok (.ldc 172, 2) := by decide +kernel
theorem dX11_exit_27 : decode cX11_exit 27 = .ok (.istore 4, 2) := by decide +kernel
theorem dX11_exit_29 : decode cX11_exit 29 = .ok (.iconst 0, 1) := by decide +kernel
theorem dX11_exit_30 : decode cX11_exit 30 = .ok (.istore 5, 2) := by decide +kernel
theorem dX11_exit_32 : decode cX11_exit 32 = .ok (.iconst 0, 1) := by decide +kernel
theorem dX11_exit_33 : decode cX11_exit 33 = .ok (.istore 6, 2) := by decide +kernel
theorem dX11_exit_35 : decode cX11_exit 35 = .ok (.sipush (-10000), 3) := by decide +kernel
theorem dX11_exit_38 : decode cX11_exit 38 = .ok (.istore 7, 2) := by decide +kernel
theorem dX11_exit_40 : decode cX11_exit 40 = .ok (.iload 7, 2) := by decide +kernel
theorem dX11_exit_42 : decode cX11_exit 42 = .ok (.sipush 10000, 3) := by decide +kernel
theorem dX11_exit_45 : decode cX11_exit 45 = .ok (.if_icmp .gt 67, 3) := by decide +kernel
theorem dX11_exit_48 : decode cX11_exit 48 = .ok (.sipush (-10000), 3) := by decide +kernel
theorem dX11_exit_51 : decode cX11_exit 51 = .ok (.istore 8, 2) := by decide +kernel
theorem dX11_exit_53 : decode cX11_exit 53 = .ok (.iload 8, 2) := by decide +kernel
theorem dX11_exit_55 : decode cX11_exit 55 = .ok (.sipush 10000, 3) := by decide +kernel
theorem dX11_exit_58 : decode cX11_exit 58 = .ok (.if_icmp .gt 45, 3) := by decide +kernel
theorem dX11_exit_61 : decode cX11_exit 61 = .ok (.aload_n 0, 1) := by decide +kernel
theorem dX11_exit_62 : decode cX11_exit 62 = .ok (.getfield 31, 3) := by decide +kernel
theorem dX11_exit_65 : decode cX11_exit 65 = .ok (.aload_n 3, 1) := by decide +kernel
theorem dX11_exit_66 : decode cX11_exit 66 = .ok (.iload 7, 2) := by decide +kernel
theorem dX11_exit_68 : decode cX11_exit 68 = .ok (.iload 8, 2) := by decide +kernel
theorem dX11_exit_70 : decode cX11_exit 70 = .ok (.invokevirtual 173, 3) := by decide +kernel
theorem dX11_exit_73 : decode cX11_exit 73 = .ok (.istore 9, 2) := by decide +kernel
theorem dX11_exit_75 : decode cX11_exit 75 = .ok (.iload 9, 2) := by decide +kernel
theorem dX11_exit_77 : decode cX11_exit 77 = .ok (.iload 4, 2) := by decide +kernel
theorem dX11_exit_79 : decode cX11_exit 79 = .ok (.if_icmp .ge 15, 3) := by decide +kernel
theorem dX11_exit_82 : decode cX11_exit 82 = .ok (.iload 9, 2) := by decide +kernel
theorem dX11_exit_84 : decode cX11_exit 84 = .ok (.istore 4, 2) := by decide +kernel
theorem dX11_exit_86 : decode cX11_exit 86 = .ok (.iload 7, 2) := by decide +kernel
theorem dX11_exit_88 : decode cX11_exit 88 = .ok (.istore 5, 2) := by decide +kernel
theorem dX11_exit_90 : decode cX11_exit 90 = .ok (.iload 8, 2) := by decide +kernel
theorem dX11_exit_92 : decode cX11_exit 92 = .ok (.istore 6, 2) := by decide +kernel
theorem dX11_exit_94 : decode cX11_exit 94 = .ok (.iinc 8 1000, 6) := by decide +kernel
theorem dX11_exit_100 : decode cX11_exit 100 = .ok (.goto (-47), 3) := by decide +kernel
theorem dX11_exit_103 : decode cX11_exit 103 = .ok (.iinc 7 1000, 6) := by decide +kernel
theorem dX11_exit_109 : decode cX11_exit 109 = .ok (.goto (-69), 3) := by decide +kernel
theorem dX11_exit_112 : decode cX11_exit 112 = .ok (.iload_n 2, 1) := by decide +kernel
theorem dX11_exit_113 : decode cX11_exit 113 = .ok (.ifCond .ne 8, 3) := by decide +kernel
theorem dX11_exit_116 : decode cX11_exit 116 = .ok (.iload 5, 2) := by decide +kernel
theorem dX11_exit_118 : decode cX11_exit 118 = .ok (.goto 15, 3) := by decide +kernel
theorem dX11_exit_121 : decode cX11_exit 121 = .ok (.iload_n 2, 1) := by decide +kernel
theorem dX11_exit_122 : decode cX11_exit 122 = .ok (.iconst 1, 1) := by decide +kernel
theorem dX11_exit_123 : decode cX11_exit 123 = .ok (.if_icmp .ne 8, 3) := by decide +kernel
theorem dX11_exit_126 : decode cX11_exit 126 = .ok (.iload 6, 2) := by decide +kernel
theorem dX11_exit_128 : decode cX11_exit 128 = .ok (.goto 5, 3) := by decide +kernel
theorem dX11_exit_131 : decode cX11_exit 131 = .ok (.iload 4, 2) := by decide +kernel
theorem dX11_exit_133 : decode cX11_exit 133 = .ok (.ireturn, 1) := by decide +kernel
theorem dX11_load_0 : decode cX11_load 0 = .ok (.aload_n 0, 1) := by decide +kernel
theorem dX11_load_1 : decode cX11_load 1 = .ok (.iload_n 1, 1) := by decide +kernel
theorem dX11_load_2 : decode cX11_load 2 = .ok (.invokevirtual 58, 3) := by decide +kernel
theorem dX11_load_5 : decode cX11_load 5 = .ok (.astore 6, 2) := by decide +kernel
theorem dX11_load_7 : decode cX11_load 7 = .ok (.aload 6, 2) := by decide +kernel
theorem dX11_load_9 : decode cX11_load 9 = .ok (.ifnull 30, 3) := by decide +kernel
theorem dX11_load_12 : decode cX11_load 12 = .ok (.iload_n 2, 1) := by decide +kernel
theorem dX11_load_13 : decode cX11_load 13 = .ok (.iload_n 3, 1) := by decide +kernel
theorem dX11_load_14 : decode cX11_load 14 = .ok (.invokestatic 125, 3) := by decide +kernel
theorem dX11_load_17 : decode cX11_load 17 = .ok (.ifCond .eq 22, 3) := by decide +kernel
theorem dX11_load_20 : decode cX11_load 20 = .ok (.iload 4, 2) := by decide +kernel
theorem dX11_load_22 : decode cX11_load 22 = .ok (.invokestatic 177, 3) := by decide +kernel
theorem dX11_load_25 : decode cX11_load 25 = .ok (.ifCond .eq 14, 3) := by decide +kernel
theorem dX11_load_28 : decode cX11_load 28 = .ok (.iconst 0, 1) := by decide +kernel
theorem dX11_load_29 : decode cX11_load 29 = .ok (.iload 5, 2) := by decide +kernel
theorem dX11_load_31 : decode cX11_load 31 = .ok (.ldc 180, 2) := by decide +kernel
theorem dX11_load_33 : decode cX11_load 33 = .ok (.invokestatic 83, 3) := by decide +kernel
theorem dX11_load_36 : decode cX11_load 36 = .ok (.ifCond .ne 5, 3) := by decide +kernel
theorem dX11_load_39 : decode cX11_load 39 = .ok (.iconst (-1), 1) := by decide +kernel
theorem dX11_load_40 : decode cX11_load 40 = .ok (.ireturn, 1) := by decide +kernel
theorem dX11_load_41 : decode cX11_load 41 = .ok (.aload_n 0, 1) := by decide +kernel
theorem dX11_load_42 : decode cX11_load 42 = .ok (.aload 6, 2) := by decide +kernel
theorem dX11_load_44 : decode cX11_load 44 = .ok (.invokevirtual 181, 3) := by decide +kernel
theorem dX11_load_47 : decode cX11_load 47 = .ok (.istore 7, 2) := by decide +kernel
theorem dX11_load_49 : decode cX11_load 49 = .ok (.iload 7, 2) := by decide +kernel
theorem dX11_load_51 : decode cX11_load 51 = .ok (.ifCond .eq 6, 3) := by decide +kernel
theorem dX11_load_54 : decode cX11_load 54 = .ok (.iload 7, 2) := by decide +kernel
theorem dX11_load_56 : decode cX11_load 56 = .ok (.ireturn, 1) := by decide +kernel
theorem dX11_load_57 : decode cX11_load 57 = .ok (.aload_n 0, 1) := by decide +kernel
theorem dX11_load_58 : decode cX11_load 58 = .ok (.aload 6, 2) := by decide +kernel
theorem dX11_load_60 : decode cX11_load 60 = .ok (.iload_n 2, 1) := by decide +kernel
theorem dX11_load_61 : decode cX11_load 61 = .ok (.iload_n 3, 1) := by decide +kernel
theorem dX11_load_62 : decode cX11_load 62 = .ok (.iload 4, 2) := by decide +kernel
theorem dX11_load_64 : decode cX11_load 64 = .ok (.iload 5, 2) := by decide +kernel
theorem dX11_load_66 : decode cX11_load 66 = .ok (.invokevirtual 184, 3) := by decide +kernel
theorem dX11_load_69 : decode cX11_load 69 = .ok (.ireturn, 1) := by decide +kernel
theorem dX11_bestLoad_0 : decode cX11_bestLoad 0 = .ok (.aload_n 0, 1) := by decide +kernel
theorem dX11_bestLoad_1 : decode cX11_bestLoad 1 = .ok (.iload_n 1, 1) := by decide +kernel
theorem dX11_bestLoad_2 : decode cX11_bestLoad 2 = .ok (.invokevirtual 58, 3) := by decide +kernel
theorem dX11_bestLoad_5 : decode cX11_bestLoad 5 = .ok (.astore 5, 2) := by decide +kernel
theorem dX11_bestLoad_7 : decode cX11_bestLoad 7 = .ok (.aload 5, 2) := by decide +kernel
theorem dX11_bestLoad_9 : decode cX11_bestLoad 9 = .ok (.ifnull 31, 3) := by decide +kernel
theorem dX11_bestLoad_12 : decode cX11_bestLoad 12 = .ok (.iconst 0, 1) := by decide +kernel
theorem dX11_bestLoad_13 : decode cX11_bestLoad 13 = .ok (.iload_n 2, 1) := by decide +kernel
theorem dX11_bestLoad_14 : decode cX11_bestLoad 14 = .ok (.invokestatic 125, 3) := by decide +kernel
theorem dX11_bestLoad_17 : decode cX11_bestLoad 17 = .ok (.ifCond .eq 23, 3) := by decide +kernel
theorem dX11_bestLoad_20 : decode cX11_bestLoad 20 = .ok (.iconst 0, 1) := by decide +kernel
theorem dX11_bestLoad_21 : decode cX11_bestLoad 21 = .ok (.iload_n 3, 1) := by decide +kernel
theorem dX11_bestLoad_22 : decode cX11_bestLoad 22 = .ok (.ldc 180, 2) := by decide +kernel
theorem dX11_bestLoad_24 : decode cX11_bestLoad 24 = .ok (.invokestatic 83, 3) := by decide +kernel
theorem dX11_bestLoad_27 : decode cX11_bestLoad 27 = .ok (.ifCond .eq 13, 3) := by decide +kernel
theorem dX11_bestLoad_30 : decode cX11_bestLoad 30 = .ok (.iconst 0, 1) := by decide +kernel
theorem dX11_bestLoad_31 : decode cX11_bestLoad 31 = .ok (.iload 4, 2) := by decide +kernel
theorem dX11_bestLoad_33 : decode cX11_bestLoad 33 = .ok (.iconst 2, 1) := by decide +kernel
theorem dX11_bestLoad_34 : decode cX11_bestLoad 34 = .ok (.invokestatic 83, 3) := by decide +kernel
theorem dX11_bestLoad_37 : decode cX11_bestLoad 37 = .ok (.ifCond .ne 6, 3) := by decide +kernel
theorem dX11_bestLoad_40 : decode cX11_bestLoad 40 = .ok (.ldc 76, 2) := by decide +kernel
theorem dX11_bestLoad_42 : decode cX11_bestLoad 42 = .ok (.ireturn, 1) := by decide +kernel
theorem dX11_bestLoad_43 : decode cX11_bestLoad 43 = .ok (.aload_n 0, 1) := by decide +kernel
theorem dX11_bestLoad_44 : decode cX11_bestLoad 44 = .ok (.aload 5, 2) := by decide +kernel
theorem dX11_bestLoad_46 : decode cX11_bestLoad 46 = .ok (.invokevirtual 181, 3) := by decide +kernel
theorem dX11_bestLoad_49 : decode cX11_bestLoad 49 = .ok (.istore 6, 2) := by decide +kernel
theorem dX11_bestLoad_51 : decode cX11_bestLoad 51 = .ok (.iload 6, 2) := by decide +kernel
theorem dX11_bestLoad_53 : decode cX11_bestLoad 53 = .ok (.ifCond .eq 9, 3) := by decide +kernel
theorem dX11_bestLoad_56 : decode cX11_bestLoad 56 = .ok (.ldc 188, 2) := by decide +kernel
theorem dX11_bestLoad_58 : decode cX11_bestLoad 58 = .ok (.iload 6, 2) := by decide +kernel
theorem dX11_bestLoad_60 : decode cX11_bestLoad 60 = .ok (.iadd, 1) := by decide +kernel
theorem dX11_bestLoad_61 : decode cX11_bestLoad 61 = .ok (.ireturn, 1) := by decide +kernel
theorem dX11_bestLoad_62 : decode cX11_bestLoad 62 = .ok (.iconst (-1), 1) := by decide +kernel
theorem dX11_bestLoad_63 : decode cX11_bestLoad 63 = .ok (.istore 7, 2) := by decide +kernel
theorem dX11_bestLoad_65 : decode cX11_bestLoad 65 = .ok (.iconst 0, 1) := by decide +kernel
theorem dX11_bestLoad_66 : decode cX11_bestLoad 66 = .ok (.istore 8, 2) := by decide +kernel
theorem dX11_bestLoad_68 : decode cX11_bestLoad 68 = .ok (.iconst 0, 1) := by decide +kernel
theorem dX11_bestLoad_69 : decode cX11_bestLoad 69 = .ok (.istore 9, 2) := by decide +kernel
theorem dX11_bestLoad_71 : decode cX11_bestLoad 71 = .ok (.iconst 1, 1) := by decide +kernel
theorem dX11_bestLoad_72 : decode cX11_bestLoad 72 = .ok (.istore 10, 2) := by decide +kernel
theorem dX11_bestLoad_74 : decode cX11_bestLoad 74 = .ok (.iload 10, 2) := by decide +kernel
theorem dX11_bestLoad_76 : decode cX11_bestLoad 76 = .ok (.bipush 10, 2) := by decide +kernel
theorem dX11_bestLoad_78 : decode cX11_bestLoad 78 = .ok (.if_icmp .gt 84, 3) := by decide +kernel
theorem dX11_bestLoad_81 : decode cX11_bestLoad 81 = .ok (.iload 7, 2) := by decide +kernel
theorem dX11_bestLoad_83 : decode cX11_bestLoad 83 = .ok (.aload 5, 2) := by decide +kernel
theorem dX11_bestLoad_85 : decode cX11_bestLoad 85 = .ok (.getfield 189, 3) := by decide +kernel
theorem dX11_bestLoad_88 : decode cX11_bestLoad 88 = .ok (.if_icmp .ge 74, 3) := by decide +kernel
theorem dX11_bestLoad_91 : decode cX11_bestLoad 91 = .ok (.sipush (-10000), 3) := by decide +kernel
theorem dX11_bestLoad_94 : decode cX11_bestLoad 94 = .ok (.istore 11, 2) := by decide +kernel
theorem dX11_bestLoad_96 : decode cX11_bestLoad 96 = .ok (.iload 11, 2) := by decide +kernel
theorem dX11_bestLoad_98 : decode cX11_bestLoad 98 = .ok (.sipush 10000, 3) := by decide +kernel
theorem dX11_bestLoad_101 : decode cX11_bestLoad 101 = .ok (.if_icmp .gt 55, 3) := by decide +kernel
theorem dX11_bestLoad_104 : decode cX11_bestLoad 104 = .ok (.iload 7, 2) := by decide +kernel
theorem dX11_bestLoad_106 : decode cX11_bestLoad 106 = .ok (.aload 5, 2) := by decide +kernel
theorem dX11_bestLoad_108 : decode cX11_bestLoad 108 = .ok (.getfield 189, 3) := by decide +kernel
theorem dX11_bestLoad_111 : decode cX11_bestLoad 111 = .ok (.if_icmp .ge 45, 3) := by decide +kernel
theorem dX11_bestLoad_114 : decode cX11_bestLoad 114 = .ok (.aload_n 0, 1) := by decide +kernel
theorem dX11_bestLoad_115 : decode cX11_bestLoad 115 = .ok (.aload 5, 2) := by decide +kernel
theorem dX11_bestLoad_117 : decode cX11_bestLoad 117 = .ok (.iload 11, 2) := by decide +kernel
theorem dX11_bestLoad_119 : decode cX11_bestLoad 119 = .ok (.iload_n 2, 1) := by decide +kernel
theorem dX11_bestLoad_120 : decode cX11_bestLoad 120 = .ok (.iload 10, 2) := by decide +kernel
theorem dX11_bestLoad_122 : decode cX11_bestLoad 122 = .ok (.iload_n 3, 1) := by decide +kernel
theorem dX11_bestLoad_123 : decode cX11_bestLoad 123 = .ok (.invokevirtual 184, 3) := by decide +kernel
theorem dX11_bestLoad_126 : decode cX11_bestLoad 126 = .ok (.istore 12, 2) := by decide +kernel
theorem dX11_bestLoad_128 : decode cX11_bestLoad 128 = .ok (.iload 12, 2) := by decide +kernel
theorem dX11_bestLoad_130 : decode cX11_bestLoad 130 = .ok (.iload 7, 2) := by decide +kernel
theorem dX11_bestLoad_132 : decode cX11_bestLoad 132 = .ok (.if_icmp .le 15, 3) := by decide +kernel
theorem dX11_bestLoad_135 : decode cX11_bestLoad 135 = .ok (.iload 12, 2) := by decide +kernel
theorem dX11_bestLoad_137 : decode cX11_bestLoad 137 = .ok (.istore 7, 2) := by decide +kernel
theorem dX11_bestLoad_139 : decode cX11_bestLoad 139 = .ok (.iload 11, 2) := by decide +kernel
theorem dX11_bestLoad_141 : decode cX11_bestLoad 141 = .ok (.istore 8, 2) := by decide +kernel
theorem dX11_bestLoad_143 : decode cX11_bestLoad 143 = .ok (.iload 10, 2) := by decide +kernel
theorem dX11_bestLoad_145 : decode cX11_bestLoad 145 = .ok (.istore 9, 2) := by decide +kernel
theorem dX11_bestLoad_147 : decode cX11_bestLoad 147 = .ok (.iinc 11 1000, 6) := by decide +kernel
theorem dX11_bestLoad_153 : decode cX11_bestLoad 153 = .ok (.goto (-57), 3) := by decide +kernel
theorem dX11_bestLoad_156 : decode cX11_bestLoad 156 = .ok (.iinc 10 1, 3) := by decide +kernel
theorem dX11_bestLoad_159 : decode cX11_bestLoad 159 = .ok (.goto (-85), 3) := by decide +kernel
theorem dX11_bestLoad_162 : decode cX11_bestLoad 162 = .ok (.iload 4, 2) := by decide +kernel
theorem dX11_bestLoad_164 : decode cX11_bestLoad 164 = .ok (.ifCond .ne 8, 3) := by decide +kernel
theorem dX11_bestLoad_167 : decode cX11_bestLoad 167 = .ok (.iload 8, 2) := by decide +kernel
theorem dX11_bestLoad_169 : decode cX11_bestLoad 169 = .ok (.goto 16, 3) := by decide +kernel
theorem dX11_bestLoad_172 : decode cX11_bestLoad 172 = .ok (.iload 4, 2) := by decide +kernel
theorem dX11_bestLoad_174 : decode cX11_bestLoad 174 = .ok (.iconst 1, 1) := by decide +kernel
theorem dX11_bestLoad_175 : decode cX11_bestLoad 175 = .ok (.if_icmp .ne 8, 3) := by decide +kernel
theorem dX11_bestLoad_178 : decode cX11_bestLoad 178 = .ok (.iload 9, 2) := by decide +kernel
theorem dX11_bestLoad_180 : decode cX11_bestLoad 180 = .ok (.goto 5, 3) := by decide +kernel
theorem dX11_bestLoad_183 : decode cX11_bestLoad 183 = .ok (.iload 7, 2) := by decide +kernel
theorem dX11_bestLoad_185 : decode cX11_bestLoad 185 = .ok (.ireturn, 1) := by decide +kernel
theorem dX11_order_0 : decode cX11_order 0 = .ok (.aload_n 0, 1) := by decide +kernel
theorem dX11_order_1 : decode cX11_order 1 = .ok (.iload_n 1, 1) := by decide +kernel
theorem dX11_order_2 : decode cX11_order 2 = .ok (.invokevirtual 58, 3) := by decide +kernel
theorem dX11_order_5 : decode cX11_order 5 = .ok (.astore 6, 2) := by decide +kernel
theorem dX11_order_7 : decode cX11_order 7 = .ok (.aload 6, 2) := by decide +kernel
theorem dX11_order_9 : decode cX11_order 9 = .ok (.ifnull 29, 3) := by decide +kernel
theorem dX11_order_12 : decode cX11_order 12 = .ok (.iload_n 2, 1) := by decide +kernel
theorem dX11_order_13 : decode cX11_order 13 = .ok (.iload_n 3, 1) := by decide +kernel
theorem dX11_order_14 : decode cX11_order 14 = .ok (.invokestatic 125, 3) := by decide +kernel
theorem dX11_order_17 : decode cX11_order 17 = .ok (.ifCond .eq 21, 3) := by decide +kernel
theorem dX11_order_20 : decode cX11_order 20 = .ok (.iload 4, 2) := by decide +kernel
theorem dX11_order_22 : decode cX11_order 22 = .ok (.invokestatic 177, 3) := by decide +kernel
theorem dX11_order_25 : decode cX11_order 25 = .ok (.ifCond .eq 13, 3) := by decide +kernel
theorem dX11_order_28 : decode cX11_order 28 = .ok (.iconst 0, 1) := by decide +kernel
theorem dX11_order_29 : decode cX11_order 29 = .ok (.iload 5, 2) := by decide +kernel
theorem dX11_order_31 : decode cX11_order 31 = .ok (.iconst 1, 1) := by decide +kernel
theorem dX11_order_32 : decode cX11_order 32 = .ok (.invokestatic 83, 3) := by decide +kernel
theorem dX11_order_35 : decode cX11_order 35 = .ok (.ifCond .ne 5, 3) := by decide +kernel
theorem dX11_order_38 : decode cX11_order 38 = .ok (.iconst (-1), 1) := by decide +kernel
theorem dX11_order_39 : decode cX11_order 39 = .ok (.ireturn, 1) := by decide +kernel
theorem dX11_order_40 : decode cX11_order 40 = .ok (.aload_n 0, 1) := by decide +kernel
theorem dX11_order_41 : decode cX11_order 41 = .ok (.aload 6, 2) := by decide +kernel
theorem dX11_order_43 : decode cX11_order 43 = .ok (.invokevirtual 181, 3) := by decide +kernel
theorem dX11_order_46 : decode cX11_order 46 = .ok (.istore 7, 2) := by decide +kernel
theorem dX11_order_48 : decode cX11_order 48 = .ok (.iload 7, 2) := by decide +kernel
theorem dX11_order_50 : decode cX11_order 50 = .ok (.ifCond .eq 6, 3) := by decide +kernel
theorem dX11_order_53 : decode cX11_order 53 = .ok (.iload 7, 2) := by decide +kernel
theorem dX11_order_55 : decode cX11_order 55 = .ok (.ireturn, 1) := by decide +kernel
theorem dX11_order_56 : decode cX11_order 56 = .ok (.aload_n 0, 1) := by decide +kernel
theorem dX11_order_57 : decode cX11_order 57 = .ok (.aload 6, 2) := by decide +kernel
theorem dX11_order_59 : decode cX11_order 59 = .ok (.iload_n 2, 1) := by decide +kernel
theorem dX11_order_60 : decode cX11_order 60 = .ok (.iload_n 3, 1) := by decide +kernel
theorem dX11_order_61 : decode cX11_order 61 = .ok (.iload 4, 2) := by decide +kernel
theorem dX11_order_63 : decode cX11_order 63 = .ok (.invokevirtual 192, 3) := by decide +kernel
theorem dX11_order_66 : decode cX11_order 66 = .ok (.aload 6, 2) := by decide +kernel
theorem dX11_order_68 : decode cX11_order 68 = .ok (.getfield 189, 3) := by decide +kernel
theorem dX11_order_71 : decode cX11_order 71 = .ok (.iconst 5, 1) := by decide +kernel
theorem dX11_order_72 : decode cX11_order 72 = .ok (.invokestatic 196, 3) := by decide +kernel
theorem dX11_order_75 : decode cX11_order 75 = .ok (.istore 8, 2) := by decide +kernel
theorem dX11_order_77 : decode cX11_order 77 = .ok (.iconst 0, 1) := by decide +kernel
theorem dX11_order_78 : decode cX11_order 78 = .ok (.istore 9, 2) := by decide +kernel
theorem dX11_order_80 : decode cX11_order 80 = .ok (.iload 9, 2) := by decide +kernel
theorem dX11_order_82 : decode cX11_order 82 = .ok (.iconst 5, 1) := by decide +kernel
theorem dX11_order_83 : decode cX11_order 83 = .ok (.if_icmp .ge 18, 3) := by decide +kernel
theorem dX11_order_86 : decode cX11_order 86 = .ok (.aload_n 0, 1) := by decide +kernel
theorem dX11_order_87 : decode cX11_order 87 = .ok (.getfield 48, 3) := by decide +kernel
theorem dX11_order_90 : decode cX11_order 90 = .ok (.iload 9, 2) := by decide +kernel
theorem dX11_order_92 : decode cX11_order 92 = .ok (.iload 9, 2) := by decide +kernel
theorem dX11_order_94 : decode cX11_order 94 = .ok (.iastore, 1) := by decide +kernel
theorem dX11_order_95 : decode cX11_order 95 = .ok (.iinc 9 1, 3) := by decide +kernel
theorem dX11_order_98 : decode cX11_order 98 = .ok (.goto (-18), 3) := by decide +kernel
theorem dX11_order_101 : decode cX11_order 101 = .ok (.ldc 172, 2) := by decide +kernel
theorem dX11_order_103 : decode cX11_order 103 = .ok (.istore 9, 2) := by decide +kernel
theorem dX11_order_105 : decode cX11_order 105 = .ok (.iconst 0, 1) := by decide +kernel
theorem dX11_order_106 : decode cX11_order 106 = .ok (.istore 10, 2) := by decide +kernel
theorem dX11_order_108 : decode cX11_order 108 = .ok (.iconst 1, 1) := by decide +kernel
theorem dX11_order_109 : decode cX11_order 109 = .ok (.istore 11, 2) := by decide +kernel
theorem dX11_order_111 : decode cX11_order 111 = .ok (.iconst 0, 1) := by decide +kernel
theorem dX11_order_112 : decode cX11_order 112 = .ok (.istore 12, 2) := by decide +kernel
theorem dX11_order_114 : decode cX11_order 114 = .ok (.iload 12, 2) := by decide +kernel
theorem dX11_order_116 : decode cX11_order 116 = .ok (.bipush 120, 2) := by decide +kernel
theorem dX11_order_118 : decode cX11_order 118 = .ok (.if_icmp .ge 49, 3) := by decide +kernel
theorem dX11_order_121 : decode cX11_order 121 = .ok (.iload 11, 2) := by decide +kernel
theorem dX11_order_123 : decode cX11_order 123 = .ok (.ifCond .eq 44, 3) := by decide +kernel
theorem dX11_order_126 : decode cX11_order 126 = .ok (.aload_n 0, 1) := by decide +kernel
theorem dX11_order_127 : decode cX11_order 127 = .ok (.iload 8, 2) := by decide +kernel
theorem dX11_order_129 : decode cX11_order 129 = .ok (.invokevirtual 202, 3) := by decide +kernel
theorem dX11_order_132 : decode cX11_order 132 = .ok (.istore 13, 2) := by decide +kernel
theorem dX11_order_134 : decode cX11_order 134 = .ok (.iload 13, 2) := by decide +kernel
theorem dX11_order_136 : decode cX11_order 136 = .ok (.iload 9, 2) := by decide +kernel
theorem dX11_order_138 : decode cX11_order 138 = .ok (.if_icmp .ge 15, 3) := by decide +kernel
theorem dX11_order_141 : decode cX11_order 141 = .ok (.iload 13, 2) := by decide +kernel
theorem dX11_order_143 : decode cX11_order 143 = .ok (.istore 9, 2) := by decide +kernel
theorem dX11_order_145 : decode cX11_order 145 = .ok (.aload_n 0, 1) := by decide +kernel
theorem dX11_order_146 : decode cX11_order 146 = .ok (.iload 8, 2) := by decide +kernel
theorem dX11_order_148 : decode cX11_order 148 = .ok (.invokevirtual 205, 3) := by decide +kernel
theorem dX11_order_151 : decode cX11_order 151 = .ok (.istore 10, 2) := by decide +kernel
theorem dX11_order_153 : decode cX11_order 153 = .ok (.aload_n 0, 1) := by decide +kernel
theorem dX11_order_154 : decode cX11_order 154 = .ok (.iload 8, 2) := by decide +kernel
theorem dX11_order_156 : decode cX11_order 156 = .ok (.invokevirtual 208, 3) := by decide +kernel
theorem dX11_order_159 : decode cX11_order 159 = .ok (.istore 11, 2) := by decide +kernel
theorem dX11_order_161 : decode cX11_order 161 = .ok (.iinc 12 1, 3) := by decide +kernel
theorem dX11_order_164 : decode cX11_order 164 = .ok (.goto (-50), 3) := by decide +kernel
theorem dX11_order_167 : decode cX11_order 167 = .ok (.iload 5, 2) := by decide +kernel
theorem dX11_order_169 : decode cX11_order 169 = .ok (.ifCond .ne 8, 3) := by decide +kernel
theorem dX11_order_172 : decode cX11_order 172 = .ok (.iload 10, 2) := by decide +kernel
theorem dX11_order_174 : decode cX11_order 174 = .ok (.goto 5, 3) := by decide +kernel
theorem dX11_order_177 : decode cX11_order 177 = .ok (.iload 9, 2) := by decide +kernel
theorem dX11_order_179 : decode cX11_order 179 = .ok (.ireturn, 1) := by decide +kernel
theorem dX11_cone_0 : decode cX11_cone 0 = .ok (.aload_n 0, 1) := by decide +kernel
theorem dX11_cone_1 : decode cX11_cone 1 = .ok (.getfield 10, 3) := by decide +kernel
theorem dX11_cone_4 : decode cX11_cone 4 = .ok (.iload_n 1, 1) := by decide +kernel
theorem dX11_cone_5 : decode cX11_cone 5 = .ok (.invokevirtual 97, 3) := by decide +kernel
theorem dX11_cone_8 : decode cX11_cone 8 = .ok (.astore 4, 2) := by decide +kernel
theorem dX11_cone_10 : decode cX11_cone 10 = .ok (.aload 4, 2) := by decide +kernel
theorem dX11_cone_12 : decode cX11_cone 12 = .ok (.ifnull 24, 3) := by decide +kernel
theorem dX11_cone_15 : decode cX11_cone 15 = .ok (.iconst 1, 1) := by decide +kernel
theorem dX11_cone_16 : decode cX11_cone 16 = .ok (.iload_n 2, 1) := by decide +kernel
theorem dX11_cone_17 : decode cX11_cone 17 = .ok (.sipush 3000, 3) := by decide +kernel
theorem dX11_cone_20 : decode cX11_cone 20 = .ok (.invokestatic 83, 3) := by decide +kernel
theorem dX11_cone_23 : decode cX11_cone 23 = .ok (.ifCond .eq 13, 3) := by decide +kernel
theorem dX11_cone_26 : decode cX11_cone 26 = .ok (.iconst 0, 1) := by decide +kernel
theorem dX11_cone_27 : decode cX11_cone 27 = .ok (.iload_n 3, 1) := by decide +kernel
theorem dX11_cone_28 : decode cX11_cone 28 = .ok (.ldc 180, 2) := by decide +kernel
theorem dX11_cone_30 : decode cX11_cone 30 = .ok (.invokestatic 83, 3) := by decide +kernel
theorem dX11_cone_33 : decode cX11_cone 33 = .ok (.ifCond .ne 5, 3) := by decide +kernel
theorem dX11_cone_36 : decode cX11_cone 36 = .ok (.iconst (-1), 1) := by decide +kernel
theorem dX11_cone_37 : decode cX11_cone 37 = .ok (.ireturn, 1) := by decide +kernel
theorem dX11_cone_38 : decode cX11_cone 38 = .ok (.iconst 0, 1) := by decide +kernel
theorem dX11_cone_39 : decode cX11_cone 39 = .ok (.istore 5, 2) := by decide +kernel
theorem dX11_cone_41 : decode cX11_cone 41 = .ok (.sipush (-5000), 3) := by decide +kernel
theorem dX11_cone_44 : decode cX11_cone 44 = .ok (.istore 6, 2) := by decide +kernel
theorem dX11_cone_46 : decode cX11_cone 46 = .ok (.iload 6, 2) := by decide +kernel
theorem dX11_cone_48 : decode cX11_cone 48 = .ok (.sipush 5000, 3) := by decide +kernel
theorem dX11_cone_51 : decode cX11_cone 51 = .ok (.if_icmp .gt 77, 3) := by decide +kernel
theorem dX11_cone_54 : decode cX11_cone 54 = .ok (.sipush (-5000), 3) := by decide +kernel
theorem dX11_cone_57 : decode cX11_cone 57 = .ok (.istore 7, 2) := by decide +kernel
theorem dX11_cone_59 : decode cX11_cone 59 = .ok (.iload 7, 2) := by decide +kernel
theorem dX11_cone_61 : decode cX11_cone 61 = .ok (.sipush 5000, 3) := by decide +kernel
theorem dX11_cone_64 : decode cX11_cone 64 = .ok (.if_icmp .gt 55, 3) := by decide +kernel
theorem dX11_cone_67 : decode cX11_cone 67 = .ok (.aload_n 0, 1) := by decide +kernel
theorem dX11_cone_68 : decode cX11_cone 68 = .ok (.getfield 31, 3) := by decide +kernel
theorem dX11_cone_71 : decode cX11_cone 71 = .ok (.aload 4, 2) := by decide +kernel
theorem dX11_cone_73 : decode cX11_cone 73 = .ok (.iload 6, 2) := by decide +kernel
theorem dX11_cone_75 : decode cX11_cone 75 = .ok (.iload 7, 2) := by decide +kernel
theorem dX11_cone_77 : decode cX11_cone 77 = .ok (.iconst 1, 1) := by decide +kernel
theorem dX11_cone_78 : decode cX11_cone 78 = .ok (.invokevirtual 143, 3) := by decide +kernel
theorem dX11_cone_81 : decode cX11_cone 81 = .ok (.aload_n 0, 1) := by decide +kernel
theorem dX11_cone_82 : decode cX11_cone 82 = .ok (.getfield 31, 3) := by decide +kernel
theorem dX11_cone_85 : decode cX11_cone 85 = .ok (.iload_n 2, 1) := by decide +kernel
theorem dX11_cone_86 : decode cX11_cone 86 = .ok (.invokevirtual 211, 3) := by decide +kernel
theorem dX11_cone_89 : decode cX11_cone 89 = .ok (.aload_n 0, 1) := by decide +kernel
theorem dX11_cone_90 : decode cX11_cone 90 = .ok (.getfield 31, 3) := by decide +kernel
theorem dX11_cone_93 : decode cX11_cone 93 = .ok (.invokevirtual 167, 3) := by decide +kernel
theorem dX11_cone_96 : decode cX11_cone 96 = .ok (.aload_n 0, 1) := by decide +kernel
theorem dX11_cone_97 : decode cX11_cone 97 = .ok (.getfield 31, 3) := by decide +kernel
theorem dX11_cone_100 : decode cX11_cone 100 = .ok (.invokevirtual 214, 3) := by decide +kernel
theorem dX11_cone_103 : decode cX11_cone 103 = .ok (.iload_n 3, 1) := by decide +kernel
theorem dX11_cone_104 : decode cX11_cone 104 = .ok (.if_icmp .gt 6, 3) := by decide +kernel
theorem dX11_cone_107 : decode cX11_cone 107 = .ok (.iinc 5 1, 3) := by decide +kernel
theorem dX11_cone_110 : decode cX11_cone 110 = .ok (.iinc 7 500, 6) := by decide +kernel
theorem dX11_cone_116 : decode cX11_cone 116 = .ok (.goto (-57), 3) := by decide +kernel
theorem dX11_cone_119 : decode cX11_cone 119 = .ok (.iinc 6 500, 6) := by decide +kernel
theorem dX11_cone_125 : decode cX11_cone 125 = .ok (.goto (-79), 3) := by decide +kernel
theorem dX11_cone_128 : decode cX11_cone 128 = .ok (.iload 5, 2) := by decide +kernel
theorem dX11_cone_130 : decode cX11_cone 130 = .ok (.ireturn, 1) := by decide +kernel
theorem dX11_steering_0 : decode cX11_steering 0 = .ok (.aload_n 0, 1) := by decide +kernel
theorem dX11_steering_1 : decode cX11_steering 1 = .ok (.getfield 10, 3) := by decide +kernel
theorem dX11_steering_4 : decode cX11_steering 4 = .ok (.iload_n 1, 1) := by decide +kernel
theorem dX11_steering_5 : decode cX11_steering 5 = .ok (.invokevirtual 97, 3) := by decide +kernel
theorem dX11_steering_8 : decode cX11_steering 8 = .ok (.astore 5, 2) := by decide +kernel
theorem dX11_steering_10 : decode cX11_steering 10 = .ok (.aload 5, 2) := by decide +kernel
theorem dX11_steering_12 : decode cX11_steering 12 = .ok (.ifnull 21, 3) := by decide +kernel
theorem dX11_steering_15 : decode cX11_steering 15 = .ok (.iload_n 2, 1) := by decide +kernel
theorem dX11_steering_16 : decode cX11_steering 16 = .ok (.iload_n 3, 1) := by decide +kernel
theorem dX11_steering_17 : decode cX11_steering 17 = .ok (.invokestatic 125, 3) := by decide +kernel
theorem dX11_steering_20 : decode cX11_steering 20 = .ok (.ifCond .eq 13, 3) := by decide +kernel
theorem dX11_steering_23 : decode cX11_steering 23 = .ok (.iconst 0, 1) := by decide +kernel
theorem dX11_steering_24 : decode cX11_steering 24 = .ok (.iload 4, 2) := by decide +kernel
theorem dX11_steering_26 : decode cX11_steering 26 = .ok (.iconst 1, 1) := by decide +kernel
theorem dX11_steering_27 : decode cX11_steering 27 = .ok (.invokestatic 83, 3) := by decide +kernel
theorem dX11_steering_30 : decode cX11_steering 30 = .ok (.ifCond .ne 5, 3) := by decide +kernel
theorem dX11_steering_33 : decode cX11_steering 33 = .ok (.iconst (-1), 1) := by decide +kernel
theorem dX11_steering_34 : decode cX11_steering 34 = .ok (.ireturn, 1) := by decide +kernel
theorem dX11_steering_35 : decode cX11_steering 35 = .ok (.ldc 172, 2) := by decide +kernel
theorem dX11_steering_37 : decode cX11_steering 37 = .ok (.istore 6, 2) := by decide +kernel
theorem dX11_steering_39 : decode cX11_steering 39 = .ok (.iconst 0, 1) := by decide +kernel
theorem dX11_steering_40 : decode cX11_steering 40 = .ok (.istore 7, 2) := by decide +kernel
theorem dX11_steering_42 : decode cX11_steering 42 = .ok (.iconst 0, 1) := by decide +kernel
theorem dX11_steering_43 : decode cX11_steering 43 = .ok (.istore 8, 2) := by decide +kernel
theorem dX11_steering_45 : decode cX11_steering 45 = .ok (.iload 8, 2) := by decide +kernel
theorem dX11_steering_47 : decode cX11_steering 47 = .ok (.bipush 8, 2) := by decide +kernel
theorem dX11_steering_49 : decode cX11_steering 49 = .ok (.if_icmp .gt 81, 3) := by decide +kernel
theorem dX11_steering_52 : decode cX11_steering 52 = .ok (.aload_n 0, 1) := by decide +kernel
theorem dX11_steering_53 : decode cX11_steering 53 = .ok (.getfield 31, 3) := by decide +kernel
theorem dX11_steering_56 : decode cX11_steering 56 = .ok (.aload 5, 2) := by decide +kernel
theorem dX11_steering_58 : decode cX11_steering 58 = .ok (.iload_n 2, 1) := by decide +kernel
theorem dX11_steering_59 : decode cX11_steering 59 = .ok (.iload_n 3, 1) := by decide +kernel
theorem dX11_steering_60 : decode cX11_steering 60 = .ok (.iconst 1, 1) := by decide +kernel
theorem dX11_steering_61 : decode cX11_steering 61 = .ok (.invokevirtual 143, 3) := by decide +kernel
theorem dX11_steering_64 : decode cX11_steering 64 = .ok (.aload_n 0, 1) := by decide +kernel
theorem dX11_steering_65 : decode cX11_steering 65 = .ok (.getfield 31, 3) := by decide +kernel
theorem dX11_steering_68 : decode cX11_steering 68 = .ok (.iload 8, 2) := by decide +kernel
theorem dX11_steering_70 : decode cX11_steering 70 = .ok (.invokestatic 218, 3) := by decide +kernel
theorem dX11_steering_73 : decode cX11_steering 73 = .ok (.aload 5, 2) := by decide +kernel
theorem dX11_steering_75 : decode cX11_steering 75 = .ok (.getfield 118, 3) := by decide +kernel
theorem dX11_steering_78 : decode cX11_steering 78 = .ok (.imul, 1) := by decide +kernel
theorem dX11_steering_79 : decode cX11_steering 79 = .ok (.iload 8, 2) := by decide +kernel
theorem dX11_steering_81 : decode cX11_steering 81 = .ok (.invokestatic 221, 3) := by decide +kernel
theorem dX11_steering_84 : decode cX11_steering 84 = .ok (.aload 5, 2) := by decide +kernel
theorem dX11_steering_86 : decode cX11_steering 86 = .ok (.getfield 118, 3) := by decide +kernel
theorem dX11_steering_89 : decode cX11_steering 89 = .ok (.imul, 1) := by decide +kernel
theorem dX11_steering_90 : decode cX11_steering 90 = .ok (.invokevirtual 160, 3) := by decide +kernel
theorem dX11_steering_93 : decode cX11_steering 93 = .ok (.aload_n 0, 1) := by decide +kernel
theorem dX11_steering_94 : decode cX11_steering 94 = .ok (.getfield 31, 3) := by decide +kernel
theorem dX11_steering_97 : decode cX11_steering 97 = .ok (.invokevirtual 167, 3) := by decide +kernel
theorem dX11_steering_100 : decode cX11_steering 100 = .ok (.aload_n 0, 1) := by decide +kernel
theorem dX11_steering_101 : decode cX11_steering 101 = .ok (.getfield 31, 3) := by decide +kernel
theorem dX11_steering_104 : decode cX11_steering 104 = .ok (.invokevirtual 214, 3) := by decide +kernel
theorem dX11_steering_107 : decode cX11_steering 107 = .ok (.istore 9, 2) := by decide +kernel
theorem dX11_steering_109 : decode cX11_steering 109 = .ok (.iload 9, 2) := by decide +kernel
theorem dX11_steering_111 : decode cX11_steering 111 = .ok (.iload 6, 2) := by decide +kernel
theorem dX11_steering_113 : decode cX11_steering 113 = .ok (.if_icmp .ge 11, 3) := by decide +kernel
theorem dX11_steering_116 : decode cX11_steering 116 = .ok (.iload 9, 2) := by decide +kernel
theorem dX11_steering_118 : decode cX11_steering 118 = .ok (.istore 6, 2) := by decide +kernel
theorem dX11_steering_120 : decode cX11_steering 120 = .ok (.iload 8, 2) := by decide +kernel
theorem dX11_steering_122 : decode cX11_steering 122 = .ok (.istore 7, 2) := by decide +kernel
theorem dX11_steering_124 : decode cX11_steering 124 = .ok (.iinc 8 1, 3) := by decide +kernel
theorem dX11_steering_127 : decode cX11_steering 127 = .ok (.goto (-82), 3) := by decide +kernel
theorem dX11_steering_130 : decode cX11_steering 130 = .ok (.iload 4, 2) := by decide +kernel
theorem dX11_steering_132 : decode cX11_steering 132 = .ok (.ifCond .ne 8, 3) := by decide +kernel
theorem dX11_steering_135 : decode cX11_steering 135 = .ok (.iload 7, 2) := by decide +kernel
theorem dX11_steering_137 : decode cX11_steering 137 = .ok (.goto 5, 3) := by decide +kernel
theorem dX11_steering_140 : decode cX11_steering 140 = .ok (.iload 6, 2) := by decide +kernel
theorem dX11_steering_142 : decode cX11_steering 142 = .ok (.ireturn, 1) := by decide +kernel
theorem dX11_last_0 : decode cX11_last 0 = .ok (.aload_n 0, 1) := by decide +kernel
theorem dX11_last_1 : decode cX11_last 1 = .ok (.getfield 10, 3) := by decide +kernel
theorem dX11_last_4 : decode cX11_last 4 = .ok (.iload_n 1, 1) := by decide +kernel
theorem dX11_last_5 : decode cX11_last 5 = .ok (.invokevirtual 97, 3) := by decide +kernel
theorem dX11_last_8 : decode cX11_last 8 = .ok (.astore_n 2, 1) := by decide +kernel
theorem dX11_last_9 : decode cX11_last 9 = .ok (.aload_n 2, 1) := by decide +kernel
theorem dX11_last_10 : decode cX11_last 10 = .ok (.ifnonnull 5, 3) := by decide +kernel
theorem dX11_last_13 : decode cX11_last 13 = .ok (.iconst (-1), 1) := by decide +kernel
theorem dX11_last_14 : decode cX11_last 14 = .ok (.ireturn, 1) := by decide +kernel
theorem dX11_last_15 : decode cX11_last 15 = .ok (.bipush (-4), 2) := by decide +kernel
theorem dX11_last_17 : decode cX11_last 17 = .ok (.istore_n 3, 1) := by decide +kernel
theorem dX11_last_18 : decode cX11_last 18 = .ok (.iconst 0, 1) := by decide +kernel
theorem dX11_last_19 : decode cX11_last 19 = .ok (.istore 4, 2) := by decide +kernel
theorem dX11_last_21 : decode cX11_last 21 = .ok (.iload 4, 2) := by decide +kernel
theorem dX11_last_23 : decode cX11_last 23 = .ok (.bipush 20, 2) := by decide +kernel
theorem dX11_last_25 : decode cX11_last 25 = .ok (.if_icmp .gt 33, 3) := by decide +kernel
theorem dX11_last_28 : decode cX11_last 28 = .ok (.aload_n 0, 1) := by decide +kernel
theorem dX11_last_29 : decode cX11_last 29 = .ok (.getfield 10, 3) := by decide +kernel
theorem dX11_last_32 : decode cX11_last 32 = .ok (.getfield 94, 3) := by decide +kernel
theorem dX11_last_35 : decode cX11_last 35 = .ok (.iload 4, 2) := by decide +kernel
theorem dX11_last_37 : decode cX11_last 37 = .ok (.aload_n 2, 1) := by decide +kernel
theorem dX11_last_38 : decode cX11_last 38 = .ok (.getfield 112, 3) := by decide +kernel
theorem dX11_last_41 : decode cX11_last 41 = .ok (.imul, 1) := by decide +kernel
theorem dX11_last_42 : decode cX11_last 42 = .ok (.isub, 1) := by decide +kernel
theorem dX11_last_43 : decode cX11_last 43 = .ok (.sipush 200, 3) := by decide +kernel
theorem dX11_last_46 : decode cX11_last 46 = .ok (.if_icmp .lt 6, 3) := by decide +kernel
theorem dX11_last_49 : decode cX11_last 49 = .ok (.iload 4, 2) := by decide +kernel
theorem dX11_last_51 : decode cX11_last 51 = .ok (.istore_n 3, 1) := by decide +kernel
theorem dX11_last_52 : decode cX11_last 52 = .ok (.iinc 4 1, 3) := by decide +kernel
theorem dX11_last_55 : decode cX11_last 55 = .ok (.goto (-34), 3) := by decide +kernel
theorem dX11_last_58 : decode cX11_last 58 = .ok (.iload_n 3, 1) := by decide +kernel
theorem dX11_last_59 : decode cX11_last 59 = .ok (.ireturn, 1) := by decide +kernel
theorem dX11_safe_0 : decode cX11_safe 0 = .ok (.iload_n 1, 1) := by decide +kernel
theorem dX11_safe_1 : decode cX11_safe 1 = .ok (.iload_n 2, 1) := by decide +kernel
theorem dX11_safe_2 : decode cX11_safe 2 = .ok (.invokestatic 125, 3) := by decide +kernel
theorem dX11_safe_5 : decode cX11_safe 5 = .ok (.ifCond .eq 12, 3) := by decide +kernel
theorem dX11_safe_8 : decode cX11_safe 8 = .ok (.iconst 0, 1) := by decide +kernel
theorem dX11_safe_9 : decode cX11_safe 9 = .ok (.iload_n 3, 1) := by decide +kernel
theorem dX11_safe_10 : decode cX11_safe 10 = .ok (.iconst 1, 1) := by decide +kernel
theorem dX11_safe_11 : decode cX11_safe 11 = .ok (.invokestatic 83, 3) := by decide +kernel
theorem dX11_safe_14 : decode cX11_safe 14 = .ok (.ifCond .ne 6, 3) := by decide +kernel
theorem dX11_safe_17 : decode cX11_safe 17 = .ok (.ldc 76, 2) := by decide +kernel
theorem dX11_safe_19 : decode cX11_safe 19 = .ok (.ireturn, 1) := by decide +kernel
theorem dX11_safe_20 : decode cX11_safe 20 = .ok (.ldc 172, 2) := by decide +kernel
theorem dX11_safe_22 : decode cX11_safe 22 = .ok (.istore 4, 2) := by decide +kernel
theorem dX11_safe_24 : decode cX11_safe 24 = .ok (.ldc 224, 2) := by decide +kernel
theorem dX11_safe_26 : decode cX11_safe 26 = .ok (.istore 5, 2) := by decide +kernel
theorem dX11_safe_28 : decode cX11_safe 28 = .ok (.sipush (-3000), 3) := by decide +kernel
theorem dX11_safe_31 : decode cX11_safe 31 = .ok (.istore 6, 2) := by decide +kernel
theorem dX11_safe_33 : decode cX11_safe 33 = .ok (.iload 6, 2) := by decide +kernel
theorem dX11_safe_35 : decode cX11_safe 35 = .ok (.sipush 3000, 3) := by decide +kernel
theorem dX11_safe_38 : decode cX11_safe 38 = .ok (.if_icmp .gt 95, 3) := by decide +kernel
theorem dX11_safe_41 : decode cX11_safe 41 = .ok (.sipush (-3000), 3) := by decide +kernel
theorem dX11_safe_44 : decode cX11_safe 44 = .ok (.istore 7, 2) := by decide +kernel
theorem dX11_safe_46 : decode cX11_safe 46 = .ok (.iload 7, 2) := by decide +kernel
theorem dX11_safe_48 : decode cX11_safe 48 = .ok (.sipush 3000, 3) := by decide +kernel
theorem dX11_safe_51 : decode cX11_safe 51 = .ok (.if_icmp .gt 76, 3) := by decide +kernel
theorem dX11_safe_54 : decode cX11_safe 54 = .ok (.iload 6, 2) := by decide +kernel
theorem dX11_safe_56 : decode cX11_safe 56 = .ok (.bipush 10, 2) := by decide +kernel
theorem dX11_safe_58 : decode cX11_safe 58 = .ok (.imul, 1) := by decide +kernel
theorem dX11_safe_59 : decode cX11_safe 59 = .ok (.iload_n 1, 1) := by decide +kernel
theorem dX11_safe_60 : decode cX11_safe 60 = .ok (.isub, 1) := by decide +kernel
theorem dX11_safe_61 : decode cX11_safe 61 = .ok (.invokestatic 225, 3) := by decide +kernel
theorem dX11_safe_64 : decode cX11_safe 64 = .ok (.iload 7, 2) := by decide +kernel
theorem dX11_safe_66 : decode cX11_safe 66 = .ok (.bipush 10, 2) := by decide +kernel
theorem dX11_safe_68 : decode cX11_safe 68 = .ok (.imul, 1) := by decide +kernel
theorem dX11_safe_69 : decode cX11_safe 69 = .ok (.iload_n 2, 1) := by decide +kernel
theorem dX11_safe_70 : decode cX11_safe 70 = .ok (.isub, 1) := by decide +kernel
theorem dX11_safe_71 : decode cX11_safe 71 = .ok (.invokestatic 225, 3) := by decide +kernel
theorem dX11_safe_74 : decode cX11_safe 74 = .ok (.iadd, 1) := by decide +kernel
theorem dX11_safe_75 : decode cX11_safe 75 = .ok (.istore 8, 2) := by decide +kernel
theorem dX11_safe_77 : decode cX11_safe 77 = .ok (.iload 8, 2) := by decide +kernel
theorem dX11_safe_79 : decode cX11_safe 79 = .ok (.iload 4, 2) := by decide +kernel
theorem dX11_safe_81 : decode cX11_safe 81 = .ok (.if_icmp .ge 40, 3) := by decide +kernel
theorem dX11_safe_84 : decode cX11_safe 84 = .ok (.aload_n 0, 1) := by decide +kernel
theorem dX11_safe_85 : decode cX11_safe 85 = .ok (.getfield 10, 3) := by decide +kernel
theorem dX11_safe_88 : decode cX11_safe 88 = .ok (.iload 6, 2) := by decide +kernel
theorem dX11_safe_90 : decode cX11_safe 90 = .ok (.bipush 10, 2) := by decide +kernel
theorem dX11_safe_92 : decode cX11_safe 92 = .ok (.imul, 1) := by decide +kernel
theorem dX11_safe_93 : decode cX11_safe 93 = .ok (.iload 7, 2) := by decide +kernel
theorem dX11_safe_95 : decode cX11_safe 95 = .ok (.bipush 10, 2) := by decide +kernel
theorem dX11_safe_97 : decode cX11_safe 97 = .ok (.imul, 1) := by decide +kernel
theorem dX11_safe_98 : decode cX11_safe 98 = .ok (.invokevirtual 136, 3) := by decide +kernel
theorem dX11_safe_101 : decode cX11_safe 101 = .ok (.ifCond .ne 20, 3) := by decide +kernel
theorem dX11_safe_104 : decode cX11_safe 104 = .ok (.iload 8, 2) := by decide +kernel
theorem dX11_safe_106 : decode cX11_safe 106 = .ok (.istore 4, 2) := by decide +kernel
theorem dX11_safe_108 : decode cX11_safe 108 = .ok (.iload_n 3, 1) := by decide +kernel
theorem dX11_safe_109 : decode cX11_safe 109 = .ok (.ifCond .ne 8, 3) := by decide +kernel
theorem dX11_safe_112 : decode cX11_safe 112 = .ok (.iload 6, 2) := by decide +kernel
theorem dX11_safe_114 : decode cX11_safe 114 = .ok (.goto 5, 3) := by decide +kernel
theorem dX11_safe_117 : decode cX11_safe 117 = .ok (.iload 7, 2) := by decide +kernel
theorem dX11_safe_119 : decode cX11_safe 119 = .ok (.istore 5, 2) := by decide +kernel
theorem dX11_safe_121 : decode cX11_safe 121 = .ok (.iinc 7 100, 3) := by decide +kernel
theorem dX11_safe_124 : decode cX11_safe 124 = .ok (.goto (-78), 3) := by decide +kernel
theorem dX11_safe_127 : decode cX11_safe 127 = .ok (.iinc 6 100, 3) := by decide +kernel
theorem dX11_safe_130 : decode cX11_safe 130 = .ok (.goto (-97), 3) := by decide +kernel
theorem dX11_safe_133 : decode cX11_safe 133 = .ok (.iload 5, 2) := by decide +kernel
theorem dX11_safe_135 : decode cX11_safe 135 = .ok (.ireturn, 1) := by decide +kernel
theorem dX11_within_0 : decode cX11_within 0 = .ok (.aload_n 0, 1) := by decide +kernel
theorem dX11_within_1 : decode cX11_within 1 = .ok (.getfield 10, 3) := by decide +kernel
theorem dX11_within_4 : decode cX11_within 4 = .ok (.iload_n 1, 1) := by decide +kernel
theorem dX11_within_5 : decode cX11_within 5 = .ok (.invokevirtual 97, 3) := by decide +kernel
theorem dX11_within_8 : decode cX11_within 8 = .ok (.astore 7, 2) := by decide +kernel
theorem dX11_within_10 : decode cX11_within 10 = .ok (.aload 7, 2) := by decide +kernel
theorem dX11_within_12 : decode cX11_within 12 = .ok (.ifnull 33, 3) := by decide +kernel
theorem dX11_within_15 : decode cX11_within 15 = .ok (.iload_n 2, 1) := by decide +kernel
theorem dX11_within_16 : decode cX11_within 16 = .ok (.iload_n 3, 1) := by decide +kernel
theorem dX11_within_17 : decode cX11_within 17 = .ok (.invokestatic 125, 3) := by decide +kernel
theorem dX11_within_20 : decode cX11_within 20 = .ok (.ifCond .eq 25, 3) := by decide +kernel
theorem dX11_within_23 : decode cX11_within 23 = .ok (.iconst 0, 1) := by decide +kernel
theorem dX11_within_24 : decode cX11_within 24 = .ok (.iload 4, 2) := by decide +kernel
theorem dX11_within_26 : decode cX11_within 26 = .ok (.ldc 180, 2) := by decide +kernel
theorem dX11_within_28 : decode cX11_within 28 = .ok (.invokestatic 83, 3) := by decide +kernel
theorem dX11_within_31 : decode cX11_within 31 = .ok (.ifCond .eq 14, 3) := by decide +kernel
theorem dX11_within_34 : decode cX11_within 34 = .ok (.iconst 1, 1) := by decide +kernel
theorem dX11_within_35 : decode cX11_within 35 = .ok (.iload 5, 2) := by decide +kernel
theorem dX11_within_37 : decode cX11_within 37 = .ok (.bipush 20, 2) := by decide +kernel
theorem dX11_within_39 : decode cX11_within 39 = .ok (.invokestatic 83, 3) := by decide +kernel
theorem dX11_within_42 : decode cX11_within 42 = .ok (.ifCond .ne 5, 3) := by decide +kernel
theorem dX11_within_45 : decode cX11_within 45 = .ok (.iconst (-1), 1) := by decide +kernel
theorem dX11_within_46 : decode cX11_within 46 = .ok (.ireturn, 1) := by decide +kernel
theorem dX11_within_47 : decode cX11_within 47 = .ok (.aload_n 0, 1) := by decide +kernel
theorem dX11_within_48 : decode cX11_within 48 = .ok (.aload 7, 2) := by decide +kernel
theorem dX11_within_50 : decode cX11_within 50 = .ok (.iload_n 2, 1) := by decide +kernel
theorem dX11_within_51 : decode cX11_within 51 = .ok (.iload_n 3, 1) := by decide +kernel
theorem dX11_within_52 : decode cX11_within 52 = .ok (.iload 4, 2) := by decide +kernel
theorem dX11_within_54 : decode cX11_within 54 = .ok (.iload 5, 2) := by decide +kernel
theorem dX11_within_56 : decode cX11_within 56 = .ok (.iload 6, 2) := by decide +kernel
theorem dX11_within_58 : decode cX11_within 58 = .ok (.aload_n 0, 1) := by decide +kernel
theorem dX11_within_59 : decode cX11_within 59 = .ok (.getfield 10, 3) := by decide +kernel
theorem dX11_within_62 : decode cX11_within 62 = .ok (.getfield 87, 3) := by decide +kernel
theorem dX11_within_65 : decode cX11_within 65 = .ok (.invokevirtual 228, 3) := by decide +kernel
theorem dX11_within_68 : decode cX11_within 68 = .ok (.ireturn, 1) := by decide +kernel
theorem dX11_stop_0 : decode cX11_stop 0 = .ok (.aload_n 0, 1) := by decide +kernel
theorem dX11_stop_1 : decode cX11_stop 1 = .ok (.getfield 10, 3) := by decide +kernel
theorem dX11_stop_4 : decode cX11_stop 4 = .ok (.iload_n 1, 1) := by decide +kernel
theorem dX11_stop_5 : decode cX11_stop 5 = .ok (.invokevirtual 97, 3) := by decide +kernel
theorem dX11_stop_8 : decode cX11_stop 8 = .ok (.astore 7, 2) := by decide +kernel
theorem dX11_stop_10 : decode cX11_stop 10 = .ok (.aload 7, 2) := by decide +kernel
theorem dX11_stop_12 : decode cX11_stop 12 = .ok (.ifnull 33, 3) := by decide +kernel
theorem dX11_stop_15 : decode cX11_stop 15 = .ok (.iload_n 2, 1) := by decide +kernel
theorem dX11_stop_16 : decode cX11_stop 16 = .ok (.iload_n 3, 1) := by decide +kernel
theorem dX11_stop_17 : decode cX11_stop 17 = .ok (.invokestatic 125, 3) := by decide +kernel
theorem dX11_stop_20 : decode cX11_stop 20 = .ok (.ifCond .eq 25, 3) := by decide +kernel
theorem dX11_stop_23 : decode cX11_stop 23 = .ok (.iconst 0, 1) := by decide +kernel
theorem dX11_stop_24 : decode cX11_stop 24 = .ok (.iload 4, 2) := by decide +kernel
theorem dX11_stop_26 : decode cX11_stop 26 = .ok (.ldc 180, 2) := by decide +kernel
theorem dX11_stop_28 : decode cX11_stop 28 = .ok (.invokestatic 83, 3) := by decide +kernel
theorem dX11_stop_31 : decode cX11_stop 31 = .ok (.ifCond .eq 14, 3) := by decide +kernel
theorem dX11_stop_34 : decode cX11_stop 34 = .ok (.iconst 1, 1) := by decide +kernel
theorem dX11_stop_35 : decode cX11_stop 35 = .ok (.iload 5, 2) := by decide +kernel
theorem dX11_stop_37 : decode cX11_stop 37 = .ok (.bipush 20, 2) := by decide +kernel
theorem dX11_stop_39 : decode cX11_stop 39 = .ok (.invokestatic 83, 3) := by decide +kernel
theorem dX11_stop_42 : decode cX11_stop 42 = .ok (.ifCond .ne 5, 3) := by decide +kernel
theorem dX11_stop_45 : decode cX11_stop 45 = .ok (.iconst (-1), 1) := by decide +kernel
theorem dX11_stop_46 : decode cX11_stop 46 = .ok (.ireturn, 1) := by decide +kernel
theorem dX11_stop_47 : decode cX11_stop 47 = .ok (.iconst 0, 1) := by decide +kernel
theorem dX11_stop_48 : decode cX11_stop 48 = .ok (.istore 8, 2) := by decide +kernel
theorem dX11_stop_50 : decode cX11_stop 50 = .ok (.iload 8, 2) := by decide +kernel
theorem dX11_stop_52 : decode cX11_stop 52 = .ok (.bipush 30, 2) := by decide +kernel
theorem dX11_stop_54 : decode cX11_stop 54 = .ok (.if_icmp .gt 35, 3) := by decide +kernel
theorem dX11_stop_57 : decode cX11_stop 57 = .ok (.iconst 2, 1) := by decide +kernel
theorem dX11_stop_58 : decode cX11_stop 58 = .ok (.aload_n 0, 1) := by decide +kernel
theorem dX11_stop_59 : decode cX11_stop 59 = .ok (.aload 7, 2) := by decide +kernel
theorem dX11_stop_61 : decode cX11_stop 61 = .ok (.iload_n 2, 1) := by decide +kernel
theorem dX11_stop_62 : decode cX11_stop 62 = .ok (.iload_n 3, 1) := by decide +kernel
theorem dX11_stop_63 : decode cX11_stop 63 = .ok (.iload 4, 2) := by decide +kernel
theorem dX11_stop_65 : decode cX11_stop 65 = .ok (.iload 5, 2) := by decide +kernel
theorem dX11_stop_67 : decode cX11_stop 67 = .ok (.iload 6, 2) := by decide +kernel
theorem dX11_stop_69 : decode cX11_stop 69 = .ok (.iload 8, 2) := by decide +kernel
theorem dX11_stop_71 : decode cX11_stop 71 = .ok (.invokevirtual 228, 3) := by decide +kernel
theorem dX11_stop_74 : decode cX11_stop 74 = .ok (.imul, 1) := by decide +kernel
theorem dX11_stop_75 : decode cX11_stop 75 = .ok (.iload 5, 2) := by decide +kernel
theorem dX11_stop_77 : decode cX11_stop 77 = .ok (.if_icmp .ge 6, 3) := by decide +kernel
theorem dX11_stop_80 : decode cX11_stop 80 = .ok (.iload 8, 2) := by decide +kernel
theorem dX11_stop_82 : decode cX11_stop 82 = .ok (.ireturn, 1) := by decide +kernel
theorem dX11_stop_83 : decode cX11_stop 83 = .ok (.iinc 8 1, 3) := by decide +kernel
theorem dX11_stop_86 : decode cX11_stop 86 = .ok (.goto (-36), 3) := by decide +kernel
theorem dX11_stop_89 : decode cX11_stop 89 = .ok (.bipush (-4), 2) := by decide +kernel
theorem dX11_stop_91 : decode cX11_stop 91 = .ok (.ireturn, 1) := by decide +kernel
theorem dX11_knew_0 : decode cX11_knew 0 = .ok (.aload_n 0, 1) := by decide +kernel
theorem dX11_knew_1 : decode cX11_knew 1 = .ok (.getfield 10, 3) := by decide +kernel
theorem dX11_knew_4 : decode cX11_knew 4 = .ok (.iload_n 1, 1) := by decide +kernel
theorem dX11_knew_5 : decode cX11_knew 5 = .ok (.invokevirtual 97, 3) := by decide +kernel
theorem dX11_knew_8 : decode cX11_knew 8 = .ok (.astore 5, 2) := by decide +kernel
theorem dX11_knew_10 : decode cX11_knew 10 = .ok (.aload_n 0, 1) := by decide +kernel
theorem dX11_knew_11 : decode cX11_knew 11 = .ok (.getfield 10, 3) := by decide +kernel
theorem dX11_knew_14 : decode cX11_knew 14 = .ok (.iload_n 2, 1) := by decide +kernel
theorem dX11_knew_15 : decode cX11_knew 15 = .ok (.invokevirtual 97, 3) := by decide +kernel
theorem dX11_knew_18 : decode cX11_knew 18 = .ok (.astore 6, 2) := by decide +kernel
theorem dX11_knew_20 : decode cX11_knew 20 = .ok (.aload 5, 2) := by decide +kernel
theorem dX11_knew_22 : decode cX11_knew 22 = .ok (.ifnull 22, 3) := by decide +kernel
theorem dX11_knew_25 : decode cX11_knew 25 = .ok (.aload 6, 2) := by decide +kernel
theorem dX11_knew_27 : decode cX11_knew 27 = .ok (.ifnull 17, 3) := by decide +kernel
theorem dX11_knew_30 : decode cX11_knew 30 = .ok (.iload_n 1, 1) := by decide +kernel
theorem dX11_knew_31 : decode cX11_knew 31 = .ok (.iload_n 2, 1) := by decide +kernel
theorem dX11_knew_32 : decode cX11_knew 32 = .ok (.if_icmp .eq 12, 3) := by decide +kernel
theorem dX11_knew_35 : decode cX11_knew 35 = .ok (.iload_n 3, 1) := by decide +kernel
theorem dX11_knew_36 : decode cX11_knew 36 = .ok (.iload 4, 2) := by decide +kernel
theorem dX11_knew_38 : decode cX11_knew 38 = .ok (.invokestatic 125, 3) := by decide +kernel
theorem dX11_knew_41 : decode cX11_knew 41 = .ok (.ifCond .ne 6, 3) := by decide +kernel
theorem dX11_knew_44 : decode cX11_knew 44 = .ok (.ldc 76, 2) := by decide +kernel
theorem dX11_knew_46 : decode cX11_knew 46 = .ok (.ireturn, 1) := by decide +kernel
theorem dX11_knew_47 : decode cX11_knew 47 = .ok (.aload_n 0, 1) := by decide +kernel
theorem dX11_knew_48 : decode cX11_knew 48 = .ok (.getfield 31, 3) := by decide +kernel
theorem dX11_knew_51 : decode cX11_knew 51 = .ok (.aload 5, 2) := by decide +kernel
theorem dX11_knew_53 : decode cX11_knew 53 = .ok (.iload_n 3, 1) := by decide +kernel
theorem dX11_knew_54 : decode cX11_knew 54 = .ok (.iload 4, 2) := by decide +kernel
theorem dX11_knew_56 : decode cX11_knew 56 = .ok (.invokevirtual 173, 3) := by decide +kernel
theorem dX11_knew_59 : decode cX11_knew 59 = .ok (.istore 7, 2) := by decide +kernel
theorem dX11_knew_61 : decode cX11_knew 61 = .ok (.aload_n 0, 1) := by decide +kernel
theorem dX11_knew_62 : decode cX11_knew 62 = .ok (.getfield 31, 3) := by decide +kernel
theorem dX11_knew_65 : decode cX11_knew 65 = .ok (.aload 6, 2) := by decide +kernel
theorem dX11_knew_67 : decode cX11_knew 67 = .ok (.iload_n 3, 1) := by decide +kernel
theorem dX11_knew_68 : decode cX11_knew 68 = .ok (.iload 4, 2) := by decide +kernel
theorem dX11_knew_70 : decode cX11_knew 70 = .ok (.invokevirtual 173, 3) := by decide +kernel
theorem dX11_knew_73 : decode cX11_knew 73 = .ok (.pop, 1) := by decide +kernel
theorem dX11_knew_74 : decode cX11_knew 74 = .ok (.iload_n 3, 1) := by decide +kernel
theorem dX11_knew_75 : decode cX11_knew 75 = .ok (.aload_n 0, 1) := by decide +kernel
theorem dX11_knew_76 : decode cX11_knew 76 = .ok (.getfield 31, 3) := by decide +kernel
theorem dX11_knew_79 : decode cX11_knew 79 = .ok (.getfield 151, 3) := by decide +kernel
theorem dX11_knew_82 : decode cX11_knew 82 = .ok (.isub, 1) := by decide +kernel
theorem dX11_knew_83 : decode cX11_knew 83 = .ok (.invokestatic 232, 3) := by decide +kernel
theorem dX11_knew_86 : decode cX11_knew 86 = .ok (.istore 8, 2) := by decide +kernel
theorem dX11_knew_88 : decode cX11_knew 88 = .ok (.iload 4, 2) := by decide +kernel
theorem dX11_knew_90 : decode cX11_knew 90 = .ok (.aload_n 0, 1) := by decide +kernel
theorem dX11_knew_91 : decode cX11_knew 91 = .ok (.getfield 31, 3) := by decide +kernel
theorem dX11_knew_94 : decode cX11_knew 94 = .ok (.getfield 154, 3) := by decide +kernel
theorem dX11_knew_97 : decode cX11_knew 97 = .ok (.isub, 1) := by decide +kernel
theorem dX11_knew_98 : decode cX11_knew 98 = .ok (.invokestatic 232, 3) := by decide +kernel
theorem dX11_knew_101 : decode cX11_knew 101 = .ok (.istore 9, 2) := by decide +kernel
theorem dX11_knew_103 : decode cX11_knew 103 = .ok (.iload 7, 2) := by decide +kernel
theorem dX11_knew_105 : decode cX11_knew 105 = .ok (.aload_n 0, 1) := by decide +kernel
theorem dX11_knew_106 : decode cX11_knew 106 = .ok (.getfield 31, 3) := by decide +kernel
theorem dX11_knew_109 : decode cX11_knew 109 = .ok (.aload 5, 2) := by decide +kernel
theorem dX11_knew_111 : decode cX11_knew 111 = .ok (.iload 8, 2) := by decide +kernel
theorem dX11_knew_113 : decode cX11_knew 113 = .ok (.iload 9, 2) := by decide +kernel
theorem dX11_knew_115 : decode cX11_knew 115 = .ok (.invokevirtual 173, 3) := by decide +kernel
theorem dX11_knew_118 : decode cX11_knew 118 = .ok (.isub, 1) := by decide +kernel
theorem dX11_knew_119 : decode cX11_knew 119 = .ok (.ireturn, 1) := by decide +kernel
theorem dX11_two_0 : decode cX11_two 0 = .ok (.aload_n 0, 1) := by decide +kernel
theorem dX11_two_1 : decode cX11_two 1 = .ok (.getfield 10, 3) := by decide +kernel
theorem dX11_two_4 : decode cX11_two 4 = .ok (.iload_n 1, 1) := by decide +kernel
theorem dX11_two_5 : decode cX11_two 5 = .ok (.invokevirtual 97, 3) := by decide +kernel
theorem dX11_two_8 : decode cX11_two 8 = .ok (.astore 6, 2) := by decide +kernel
theorem dX11_two_10 : decode cX11_two 10 = .ok (.aload_n 0, 1) := by decide +kernel
theorem dX11_two_11 : decode cX11_two 11 = .ok (.getfield 10, 3) := by decide +kernel
theorem dX11_two_14 : decode cX11_two 14 = .ok (.iload_n 2, 1) := by decide +kernel
theorem dX11_two_15 : decode cX11_two 15 = .ok (.invokevirtual 97, 3) := by decide +kernel
theorem dX11_two_18 : decode cX11_two 18 = .ok (.astore 7, 2) := by decide +kernel
theorem dX11_two_20 : decode cX11_two 20 = .ok (.aload 6, 2) := by decide +kernel
theorem dX11_two_22 : decode cX11_two 22 = .ok (.ifnull 30, 3) := by decide +kernel
theorem dX11_two_25 : decode cX11_two 25 = .ok (.aload 7, 2) := by decide +kernel
theorem dX11_two_27 : decode cX11_two 27 = .ok (.ifnull 25, 3) := by decide +kernel
theorem dX11_two_30 : decode cX11_two 30 = .ok (.iload_n 1, 1) := by decide +kernel
theorem dX11_two_31 : decode cX11_two 31 = .ok (.iload_n 2, 1) := by decide +kernel
theorem dX11_two_32 : decode cX11_two 32 = .ok (.if_icmp .eq 20, 3) := by decide +kernel
theorem dX11_two_35 : decode cX11_two 35 = .ok (.iload_n 3, 1) := by decide +kernel
theorem dX11_two_36 : decode cX11_two 36 = .ok (.invokestatic 177, 3) := by decide +kernel
theorem dX11_two_39 : decode cX11_two 39 = .ok (.ifCond .eq 13, 3) := by decide +kernel
theorem dX11_two_42 : decode cX11_two 42 = .ok (.iload 4, 2) := by decide +kernel
theorem dX11_two_44 : decode cX11_two 44 = .ok (.iload 5, 2) := by decide +kernel
theorem dX11_two_46 : decode cX11_two 46 = .ok (.invokestatic 125, 3) := by decide +kernel
theorem dX11_two_49 : decode cX11_two 49 = .ok (.ifCond .ne 5, 3) := by decide +kernel
theorem dX11_two_52 : decode cX11_two 52 = .ok (.iconst (-1), 1) := by decide +kernel
theorem dX11_two_53 : decode cX11_two 53 = .ok (.ireturn, 1) := by decide +kernel
theorem dX11_two_54 : decode cX11_two 54 = .ok (.aload_n 0, 1) := by decide +kernel
theorem dX11_two_55 : decode cX11_two 55 = .ok (.getfield 31, 3) := by decide +kernel
theorem dX11_two_58 : decode cX11_two 58 = .ok (.aload 6, 2) := by decide +kernel
theorem dX11_two_60 : decode cX11_two 60 = .ok (.iload 4, 2) := by decide +kernel
theorem dX11_two_62 : decode cX11_two 62 = .ok (.iload 5, 2) := by decide +kernel
theorem dX11_two_64 : decode cX11_two 64 = .ok (.iconst 1, 1) := by decide +kernel
theorem dX11_two_65 : decode cX11_two 65 = .ok (.invokevirtual 143, 3) := by decide +kernel
theorem dX11_two_68 : decode cX11_two 68 = .ok (.aload_n 0, 1) := by decide +kernel
theorem dX11_two_69 : decode cX11_two 69 = .ok (.getfield 31, 3) := by decide +kernel
theorem dX11_two_72 : decode cX11_two 72 = .ok (.iload_n 3, 1) := by decide +kernel
theorem dX11_two_73 : decode cX11_two 73 = .ok (.invokevirtual 147, 3) := by decide +kernel
theorem dX11_two_76 : decode cX11_two 76 = .ok (.aload_n 0, 1) := by decide +kernel
theorem dX11_two_77 : decode cX11_two 77 = .ok (.getfield 35, 3) := by decide +kernel
theorem dX11_two_80 : decode cX11_two 80 = .ok (.aload 7, 2) := by decide +kernel
theorem dX11_two_82 : decode cX11_two 82 = .ok (.iload 4, 2) := by decide +kernel
theorem dX11_two_84 : decode cX11_two 84 = .ok (.aload_n 0, 1) := by decide +kernel
theorem dX11_two_85 : decode cX11_two 85 = .ok (.getfield 10, 3) := by decide +kernel
theorem dX11_two_88 : decode cX11_two 88 = .ok (.getfield 91, 3) := by decide +kernel
theorem dX11_two_91 : decode cX11_two 91 = .ok (.iload_n 3, 1) := by decide +kernel
theorem dX11_two_92 : decode cX11_two 92 = .ok (.imul, 1) := by decide +kernel
theorem dX11_two_93 : decode cX11_two 93 = .ok (.iadd, 1) := by decide +kernel
theorem dX11_two_94 : decode cX11_two 94 = .ok (.invokestatic 232, 3) := by decide +kernel
theorem dX11_two_97 : decode cX11_two 97 = .ok (.iload 5, 2) := by decide +kernel
theorem dX11_two_99 : decode cX11_two 99 = .ok (.iconst 1, 1) := by decide +kernel
theorem dX11_two_100 : decode cX11_two 100 = .ok (.invokevirtual 143, 3) := by decide +kernel
theorem dX11_two_103 : decode cX11_two 103 = .ok (.bipush (-4), 2) := by decide +kernel
theorem dX11_two_105 : decode cX11_two 105 = .ok (.istore 8, 2) := by decide +kernel
theorem dX11_two_107 : decode cX11_two 107 = .ok (.iconst 0, 1) := by decide +kernel
theorem dX11_two_108 : decode cX11_two 108 = .ok (.istore 9, 2) := by decide +kernel
theorem dX11_two_110 : decode cX11_two 110 = .ok (.iload 9, 2) := by decide +kernel
theorem dX11_two_112 : decode cX11_two 112 = .ok (.sipush 400, 3) := by decide +kernel
theorem dX11_two_115 : decode cX11_two 115 = .ok (.if_icmp .ge 76, 3) := by decide +kernel
theorem dX11_two_118 : decode cX11_two 118 = .ok (.aload_n 0, 1) := by decide +kernel
theorem dX11_two_119 : decode cX11_two 119 = .ok (.getfield 31, 3) := by decide +kernel
theorem dX11_two_122 : decode cX11_two 122 = .ok (.invokevirtual 235, 3) := by decide +kernel
theorem dX11_two_125 : decode cX11_two 125 = .ok (.ifCond .ne 66, 3) := by decide +kernel
theorem dX11_two_128 : decode cX11_two 128 = .ok (.aload_n 0, 1) := by decide +kernel
theorem dX11_two_129 : decode cX11_two 129 = .ok (.getfield 35, 3) := by decide +kernel
theorem dX11_two_132 : decode cX11_two 132 = .ok (.invokevirtual 235, 3) := by decide +kernel
theorem dX11_two_135 : decode cX11_two 135 = .ok (.ifCond .ne 56, 3) := by decide +kernel
theorem dX11_two_138 : decode cX11_two 138 = .ok (.aload_n 0, 1) := by decide +kernel
theorem dX11_two_139 : decode cX11_two 139 = .ok (.getfield 31, 3) := by decide +kernel
theorem dX11_two_142 : decode cX11_two 142 = .ok (.aload_n 0, 1) := by decide +kernel
theorem dX11_two_143 : decode cX11_two 143 = .ok (.getfield 35, 3) := by decide +kernel
theorem dX11_two_146 : decode cX11_two 146 = .ok (.invokevirtual 239, 3) := by decide +kernel
theorem dX11_two_149 : decode cX11_two 149 = .ok (.istore 10, 2) := by decide +kernel
theorem dX11_two_151 : decode cX11_two 151 = .ok (.iload 8, 2) := by decide +kernel
theorem dX11_two_153 : decode cX11_two 153 = .ok (.bipush (-4), 2) := by decide +kernel
theorem dX11_two_155 : decode cX11_two 155 = .ok (.if_icmp .eq 10, 3) := by decide +kernel
theorem dX11_two_158 : decode cX11_two 158 = .ok (.iload 10, 2) := by decide +kernel
theorem dX11_two_160 : decode cX11_two 160 = .ok (.iload 8, 2) := by decide +kernel
theorem dX11_two_162 : decode cX11_two 162 = .ok (.if_icmp .ge 7, 3) := by decide +kernel
theorem dX11_two_165 : decode cX11_two 165 = .ok (.iload 10, 2) := by decide +kernel
theorem dX11_two_167 : decode cX11_two 167 = .ok (.istore 8, 2) := by decide +kernel
theorem dX11_two_169 : decode cX11_two 169 = .ok (.aload_n 0, 1) := by decide +kernel
theorem dX11_two_170 : decode cX11_two 170 = .ok (.getfield 31, 3) := by decide +kernel
theorem dX11_two_173 : decode cX11_two 173 = .ok (.iconst 1, 1) := by decide +kernel
theorem dX11_two_174 : decode cX11_two 174 = .ok (.invokevirtual 147, 3) := by decide +kernel
theorem dX11_two_177 : decode cX11_two 177 = .ok (.aload_n 0, 1) := by decide +kernel
theorem dX11_two_178 : decode cX11_two 178 = .ok (.getfield 35, 3) := by decide +kernel
theorem dX11_two_181 : decode cX11_two 181 = .ok (.iconst 1, 1) := by decide +kernel
theorem dX11_two_182 : decode cX11_two 182 = .ok (.invokevirtual 147, 3) := by decide +kernel
theorem dX11_two_185 : decode cX11_two 185 = .ok (.iinc 9 1, 3) := by decide +kernel
theorem dX11_two_188 : decode cX11_two 188 = .ok (.goto (-78), 3) := by decide +kernel
theorem dX11_two_191 : decode cX11_two 191 = .ok (.iload 8, 2) := by decide +kernel
theorem dX11_two_193 : decode cX11_two 193 = .ok (.ireturn, 1) := by decide +kernel
theorem dX11_habits_0 : decode cX11_habits 0 = .ok (.iload_n 1, 1) := by decide +kernel
theorem dX11_habits_1 : decode cX11_habits 1 = .ok (.bipush 100, 2) := by decide +kernel
theorem dX11_habits_3 : decode cX11_habits 3 = .ok (.idiv, 1) := by decide +kernel
theorem dX11_habits_4 : decode cX11_habits 4 = .ok (.istore 7, 2) := by decide +kernel
theorem dX11_habits_6 : decode cX11_habits 6 = .ok (.iload_n 1, 1) := by decide +kernel
theorem dX11_habits_7 : decode cX11_habits 7 = .ok (.bipush 100, 2) := by decide +kernel
theorem dX11_habits_9 : decode cX11_habits 9 = .ok (.irem, 1) := by decide +kernel
theorem dX11_habits_10 : decode cX11_habits 10 = .ok (.istore 8, 2) := by decide +kernel
theorem dX11_habits_12 : decode cX11_habits 12 = .ok (.iload_n 1, 1) := by decide +kernel
theorem dX11_habits_13 : decode cX11_habits 13 = .ok (.ifCond .lt 17, 3) := by decide +kernel
theorem dX11_habits_16 : decode cX11_habits 16 = .ok (.iload 7, 2) := by decide +kernel
theorem dX11_habits_18 : decode cX11_habits 18 = .ok (.bipush 9, 2) := by decide +kernel
theorem dX11_habits_20 : decode cX11_habits 20 = .ok (.if_icmp .gt 10, 3) := by decide +kernel
theorem dX11_habits_23 : decode cX11_habits 23 = .ok (.iload 8, 2) := by decide +kernel
theorem dX11_habits_25 : decode cX11_habits 25 = .ok (.bipush 20, 2) := by decide +kernel
theorem dX11_habits_27 : decode cX11_habits 27 = .ok (.if_icmp .le 5, 3) := by decide +kernel
theorem dX11_habits_30 : decode cX11_habits 30 = .ok (.iconst (-1), 1) := by decide +kernel
theorem dX11_habits_31 : decode cX11_habits 31 = .ok (.ireturn, 1) := by decide +kernel
theorem dX11_habits_32 : decode cX11_habits 32 = .ok (.iload_n 2, 1) := by decide +kernel
theorem dX11_habits_33 : decode cX11_habits 33 = .ok (.iload_n 3, 1) := by decide +kernel
theorem dX11_habits_34 : decode cX11_habits 34 = .ok (.invokestatic 125, 3) := by decide +kernel
theorem dX11_habits_37 : decode cX11_habits 37 = .ok (.ifCond .eq 25, 3) := by decide +kernel
theorem dX11_habits_40 : decode cX11_habits 40 = .ok (.iload 4, 2) := by decide +kernel
theorem dX11_habits_42 : decode cX11_habits 42 = .ok (.iload 5, 2) := by decide +kernel
theorem dX11_habits_44 : decode cX11_habits 44 = .ok (.invokestatic 125, 3) := by decide +kernel
theorem dX11_habits_47 : decode cX11_habits 47 = .ok (.ifCond .eq 15, 3) := by decide +kernel
theorem dX11_habits_50 : decode cX11_habits 50 = .ok (.iconst 0, 1) := by decide +kernel
theorem dX11_habits_51 : decode cX11_habits 51 = .ok (.iload 6, 2) := by decide +kernel
theorem dX11_habits_53 : decode cX11_habits 53 = .ok (.sipush 9999, 3) := by decide +kernel
theorem dX11_habits_56 : decode cX11_habits 56 = .ok (.invokestatic 83, 3) := by decide +kernel
theorem dX11_habits_59 : decode cX11_habits 59 = .ok (.ifCond .ne 5, 3) := by decide +kernel
theorem dX11_habits_62 : decode cX11_habits 62 = .ok (.iconst (-1), 1) := by decide +kernel
theorem dX11_habits_63 : decode cX11_habits 63 = .ok (.ireturn, 1) := by decide +kernel
theorem dX11_habits_64 : decode cX11_habits 64 = .ok (.iconst 0, 1) := by decide +kernel
theorem dX11_habits_65 : decode cX11_habits 65 = .ok (.istore 9, 2) := by decide +kernel
theorem dX11_habits_67 : decode cX11_habits 67 = .ok (.iconst 0, 1) := by decide +kernel
theorem dX11_habits_68 : decode cX11_habits 68 = .ok (.istore 10, 2) := by decide +kernel
theorem dX11_habits_70 : decode cX11_habits 70 = .ok (.iload 10, 2) := by decide +kernel
theorem dX11_habits_72 : decode cX11_habits 72 = .ok (.bipush 8, 2) := by decide +kernel
theorem dX11_habits_74 : decode cX11_habits 74 = .ok (.if_icmp .ge 74, 3) := by decide +kernel
theorem dX11_habits_77 : decode cX11_habits 77 = .ok (.aload_n 0, 1) := by decide +kernel
theorem dX11_habits_78 : decode cX11_habits 78 = .ok (.getfield 31, 3) := by decide +kernel
theorem dX11_habits_81 : decode cX11_habits 81 = .ok (.iload 10, 2) := by decide +kernel
theorem dX11_habits_83 : decode cX11_habits 83 = .ok (.iconst 0, 1) := by decide +kernel
theorem dX11_habits_84 : decode cX11_habits 84 = .ok (.iload 7, 2) := by decide +kernel
theorem dX11_habits_86 : decode cX11_habits 86 = .ok (.iload 8, 2) := by decide +kernel
theorem dX11_habits_88 : decode cX11_habits 88 = .ok (.invokestatic 243, 3) := by decide +kernel
theorem dX11_habits_91 : decode cX11_habits 91 = .ok (.iload_n 2, 1) := by decide +kernel
theorem dX11_habits_92 : decode cX11_habits 92 = .ok (.iload_n 3, 1) := by decide +kernel
theorem dX11_habits_93 : decode cX11_habits 93 = .ok (.invokevirtual 173, 3) := by decide +kernel
theorem dX11_habits_96 : decode cX11_habits 96 = .ok (.pop, 1) := by decide +kernel
theorem dX11_habits_97 : decode cX11_habits 97 = .ok (.aload_n 0, 1) := by decide +kernel
theorem dX11_habits_98 : decode cX11_habits 98 = .ok (.getfield 31, 3) := by decide +kernel
theorem dX11_habits_101 : decode cX11_habits 101 = .ok (.getfield 151, 3) := by decide +kernel
theorem dX11_habits_104 : decode cX11_habits 104 = .ok (.iload 4, 2) := by decide +kernel
theorem dX11_habits_106 : decode cX11_habits 106 = .ok (.isub, 1) := by decide +kernel
theorem dX11_habits_107 : decode cX11_habits 107 = .ok (.invokestatic 225, 3) := by decide +kernel
theorem dX11_habits_110 : decode cX11_habits 110 = .ok (.iload 6, 2) := by decide +kernel
theorem dX11_habits_112 : decode cX11_habits 112 = .ok (.if_icmp .gt 30, 3) := by decide +kernel
theorem dX11_habits_115 : decode cX11_habits 115 = .ok (.aload_n 0, 1) := by decide +kernel
theorem dX11_habits_116 : decode cX11_habits 116 = .ok (.getfield 31, 3) := by decide +kernel
theorem dX11_habits_119 : decode cX11_habits 119 = .ok (.getfield 154, 3) := by decide +kernel
theorem dX11_habits_122 : decode cX11_habits 122 = .ok (.iload 5, 2) := by decide +kernel
theorem dX11_habits_124 : decode cX11_habits 124 = .ok (.isub, 1) := by decide +kernel
theorem dX11_habits_125 : decode cX11_habits 125 = .ok (.invokestatic 225, 3) := by decide +kernel
theorem dX11_habits_128 : decode cX11_habits 128 = .ok (.iload 6, 2) := by decide +kernel
theorem dX11_habits_130 : decode cX11_habits 130 = .ok (.if_icmp .gt 12, 3) := by decide +kernel
theorem dX11_habits_133 : decode cX11_habits 133 = .ok (.iload 9, 2) := by decide +kernel
theorem dX11_habits_135 : decode cX11_habits 135 = .ok (.iconst 1, 1) := by decide +kernel
theorem dX11_habits_136 : decode cX11_habits 136 = .ok (.iload 10, 2) := by decide +kernel
theorem dX11_habits_138 : decode cX11_habits 138 = .ok (.ishl, 1) := by decide +kernel
theorem dX11_habits_139 : decode cX11_habits 139 = .ok (.ior, 1) := by decide +kernel
theorem dX11_habits_140 : decode cX11_habits 140 = .ok (.istore 9, 2) := by decide +kernel
theorem dX11_habits_142 : decode cX11_habits 142 = .ok (.iinc 10 1, 3) := by decide +kernel
theorem dX11_habits_145 : decode cX11_habits 145 = .ok (.goto (-75), 3) := by decide +kernel
theorem dX11_habits_148 : decode cX11_habits 148 = .ok (.iload 9, 2) := by decide +kernel
theorem dX11_habits_150 : decode cX11_habits 150 = .ok (.ireturn, 1) := by decide +kernel
theorem dX11_crates_0 : decode cX11_crates 0 = .ok (.iconst 1, 1) := by decide +kernel
theorem dX11_crates_1 : decode cX11_crates 1 = .ok (.iload_n 1, 1) := by decide +kernel
theorem dX11_crates_2 : decode cX11_crates 2 = .ok (.iconst 5, 1) := by decide +kernel
theorem dX11_crates_3 : decode cX11_crates 3 = .ok (.invokestatic 83, 3) := by decide +kernel
theorem dX11_crates_6 : decode cX11_crates 6 = .ok (.ifCond .eq 11, 3) := by decide +kernel
theorem dX11_crates_9 : decode cX11_crates 9 = .ok (.iload_n 2, 1) := by decide +kernel
theorem dX11_crates_10 : decode cX11_crates 10 = .ok (.iload_n 3, 1) := by decide +kernel
theorem dX11_crates_11 : decode cX11_crates 11 = .ok (.invokestatic 125, 3) := by decide +kernel
theorem dX11_crates_14 : decode cX11_crates 14 = .ok (.ifCond .ne 5, 3) := by decide +kernel
theorem dX11_crates_17 : decode cX11_crates 17 = .ok (.iconst (-1), 1) := by decide +kernel
theorem dX11_crates_18 : decode cX11_crates 18 = .ok (.ireturn, 1) := by decide +kernel
theorem dX11_crates_19 : decode cX11_crates 19 = .ok (.new 247, 3) := by decide +kernel
theorem dX11_crates_22 : decode cX11_crates 22 = .ok (.dup, 1) := by decide +kernel
theorem dX11_crates_23 : decode cX11_crates 23 = .ok (.iconst 0, 1) := by decide +kernel
theorem dX11_crates_24 : decode cX11_crates 24 = .ok (.iconst 0, 1) := by decide +kernel
theorem dX11_crates_25 : decode cX11_crates 25 = .ok (.iconst 0, 1) := by decide +kernel
theorem dX11_crates_26 : decode cX11_crates 26 = .ok (.invokespecial 249, 3) := by decide +kernel
theorem dX11_crates_29 : decode cX11_crates 29 = .ok (.astore 5, 2) := by decide +kernel
theorem dX11_crates_31 : decode cX11_crates 31 = .ok (.iconst 0, 1) := by decide +kernel
theorem dX11_crates_32 : decode cX11_crates 32 = .ok (.istore 6, 2) := by decide +kernel
theorem dX11_crates_34 : decode cX11_crates 34 = .ok (.iconst 0, 1) := by decide +kernel
theorem dX11_crates_35 : decode cX11_crates 35 = .ok (.istore 7, 2) := by decide +kernel
theorem dX11_crates_37 : decode cX11_crates 37 = .ok (.iload 7, 2) := by decide +kernel
theorem dX11_crates_39 : decode cX11_crates 39 = .ok (.iload_n 1, 1) := by decide +kernel
theorem dX11_crates_40 : decode cX11_crates 40 = .ok (.if_icmp .ge 124, 3) := by decide +kernel
theorem dX11_crates_43 : decode cX11_crates 43 = .ok (.aload_n 0, 1) := by decide +kernel
theorem dX11_crates_44 : decode cX11_crates 44 = .ok (.getfield 31, 3) := by decide +kernel
theorem dX11_crates_47 : decode cX11_crates 47 = .ok (.aload 5, 2) := by decide +kernel
theorem dX11_crates_49 : decode cX11_crates 49 = .ok (.iload_n 2, 1) := by decide +kernel
theorem dX11_crates_50 : decode cX11_crates 50 = .ok (.iload_n 3, 1) := by decide +kernel
theorem dX11_crates_51 : decode cX11_crates 51 = .ok (.iload 4, 2) := by decide +kernel
theorem dX11_crates_53 : decode cX11_crates 53 = .ok (.iload 7, 2) := by decide +kernel
theorem dX11_crates_55 : decode cX11_crates 55 = .ok (.iadd, 1) := by decide +kernel
theorem dX11_crates_56 : decode cX11_crates 56 = .ok (.invokevirtual 143, 3) := by decide +kernel
theorem dX11_crates_59 : decode cX11_crates 59 = .ok (.aload_n 0, 1) := by decide +kernel
theorem dX11_crates_60 : decode cX11_crates 60 = .ok (.getfield 31, 3) := by decide +kernel
theorem dX11_crates_63 : decode cX11_crates 63 = .ok (.invokevirtual 167, 3) := by decide +kernel
theorem dX11_crates_66 : decode cX11_crates 66 = .ok (.aload_n 0, 1) := by decide +kernel
theorem dX11_crates_67 : decode cX11_crates 67 = .ok (.getfield 51, 3) := by decide +kernel
theorem dX11_crates_70 : decode cX11_crates 70 = .ok (.iload 7, 2) := by decide +kernel
theorem dX11_crates_72 : decode cX11_crates 72 = .ok (.aload_n 0, 1) := by decide +kernel
theorem dX11_crates_73 : decode cX11_crates 73 = .ok (.getfield 31, 3) := by decide +kernel
theorem dX11_crates_76 : decode cX11_crates 76 = .ok (.getfield 151, 3) := by decide +kernel
theorem dX11_crates_79 : decode cX11_crates 79 = .ok (.iastore, 1) := by decide +kernel
theorem dX11_crates_80 : decode cX11_crates 80 = .ok (.aload_n 0, 1) := by decide +kernel
theorem dX11_crates_81 : decode cX11_crates 81 = .ok (.getfield 54, 3) := by decide +kernel
theorem dX11_crates_84 : decode cX11_crates 84 = .ok (.iload 7, 2) := by decide +kernel
theorem dX11_crates_86 : decode cX11_crates 86 = .ok (.aload_n 0, 1) := by decide +kernel
theorem dX11_crates_87 : decode cX11_crates 87 = .ok (.getfield 31, 3) := by decide +kernel
theorem dX11_crates_90 : decode cX11_crates 90 = .ok (.getfield 154, 3) := by decide +kernel
theorem dX11_crates_93 : decode cX11_crates 93 = .ok (.iastore, 1) := by decide +kernel
theorem dX11_crates_94 : decode cX11_crates 94 = .ok (.iconst 0, 1) := by decide +kernel
theorem dX11_crates_95 : decode cX11_crates 95 = .ok (.istore 8, 2) := by decide +kernel
theorem dX11_crates_97 : decode cX11_crates 97 = .ok (.iload 8, 2) := by decide +kernel
theorem dX11_crates_99 : decode cX11_crates 99 = .ok (.iload 7, 2) := by decide +kernel
theorem dX11_crates_101 : decode cX11_crates 101 = .ok (.if_icmp .ge 57, 3) := by decide +kernel
theorem dX11_crates_104 : decode cX11_crates 104 = .ok (.aload_n 0, 1) := by decide +kernel
theorem dX11_crates_105 : decode cX11_crates 105 = .ok (.getfield 51, 3) := by decide +kernel
theorem dX11_crates_108 : decode cX11_crates 108 = .ok (.iload 7, 2) := by decide +kernel
theorem dX11_crates_110 : decode cX11_crates 110 = .ok (.iaload, 1) := by decide +kernel
theorem dX11_crates_111 : decode cX11_crates 111 = .ok (.aload_n 0, 1) := by decide +kernel
theorem dX11_crates_112 : decode cX11_crates 112 = .ok (.getfield 51, 3) := by decide +kernel
theorem dX11_crates_115 : decode cX11_crates 115 = .ok (.iload 8, 2) := by decide +kernel
theorem dX11_crates_117 : decode cX11_crates 117 = .ok (.iaload, 1) := by decide +kernel
theorem dX11_crates_118 : decode cX11_crates 118 = .ok (.isub, 1) := by decide +kernel
theorem dX11_crates_119 : decode cX11_crates 119 = .ok (.invokestatic 225, 3) := by decide +kernel
theorem dX11_crates_122 : decode cX11_crates 122 = .ok (.aload_n 0, 1) := by decide +kernel
theorem dX11_crates_123 : decode cX11_crates 123 = .ok (.getfield 54, 3) := by decide +kernel
theorem dX11_crates_126 : decode cX11_crates 126 = .ok (.iload 7, 2) := by decide +kernel
theorem dX11_crates_128 : decode cX11_crates 128 = .ok (.iaload, 1) := by decide +kernel
theorem dX11_crates_129 : decode cX11_crates 129 = .ok (.aload_n 0, 1) := by decide +kernel
theorem dX11_crates_130 : decode cX11_crates 130 = .ok (.getfield 54, 3) := by decide +kernel
theorem dX11_crates_133 : decode cX11_crates 133 = .ok (.iload 8, 2) := by decide +kernel
theorem dX11_crates_135 : decode cX11_crates 135 = .ok (.iaload, 1) := by decide +kernel
theorem dX11_crates_136 : decode cX11_crates 136 = .ok (.isub, 1) := by decide +kernel
theorem dX11_crates_137 : decode cX11_crates 137 = .ok (.invokestatic 225, 3) := by decide +kernel
theorem dX11_crates_140 : decode cX11_crates 140 = .ok (.iadd, 1) := by decide +kernel
theorem dX11_crates_141 : decode cX11_crates 141 = .ok (.istore 9, 2) := by decide +kernel
theorem dX11_crates_143 : decode cX11_crates 143 = .ok (.iload 6, 2) := by decide +kernel
theorem dX11_crates_145 : decode cX11_crates 145 = .ok (.iload 9, 2) := by decide +kernel
theorem dX11_crates_147 : decode cX11_crates 147 = .ok (.invokestatic 252, 3) := by decide +kernel
theorem dX11_crates_150 : decode cX11_crates 150 = .ok (.istore 6, 2) := by decide +kernel
theorem dX11_crates_152 : decode cX11_crates 152 = .ok (.iinc 8 1, 3) := by decide +kernel
theorem dX11_crates_155 : decode cX11_crates 155 = .ok (.goto (-58), 3) := by decide +kernel
theorem dX11_crates_158 : decode cX11_crates 158 = .ok (.iinc 7 1, 3) := by decide +kernel
theorem dX11_crates_161 : decode cX11_crates 161 = .ok (.goto (-124), 3) := by decide +kernel
theorem dX11_crates_164 : decode cX11_crates 164 = .ok (.iload 6, 2) := by decide +kernel
theorem dX11_crates_166 : decode cX11_crates 166 = .ok (.ireturn, 1) := by decide +kernel
theorem dX11_judge_0 : decode cX11_judge 0 = .ok (.aload_n 0, 1) := by decide +kernel
theorem dX11_judge_1 : decode cX11_judge 1 = .ok (.getfield 10, 3) := by decide +kernel
theorem dX11_judge_4 : decode cX11_judge 4 = .ok (.iload_n 1, 1) := by decide +kernel
theorem dX11_judge_5 : decode cX11_judge 5 = .ok (.invokevirtual 97, 3) := by decide +kernel
theorem dX11_judge_8 : decode cX11_judge 8 = .ok (.astore 4, 2) := by decide +kernel
theorem dX11_judge_10 : decode cX11_judge 10 = .ok (.aload_n 0, 1) := by decide +kernel
theorem dX11_judge_11 : decode cX11_judge 11 = .ok (.iload_n 3, 1) := by decide +kernel
theorem dX11_judge_12 : decode cX11_judge 12 = .ok (.invokevirtual 58, 3) := by decide +kernel
theorem dX11_judge_15 : decode cX11_judge 15 = .ok (.astore 5, 2) := by decide +kernel
theorem dX11_judge_17 : decode cX11_judge 17 = .ok (.aload 4, 2) := by decide +kernel
theorem dX11_judge_19 : decode cX11_judge 19 = .ok (.ifnull 16, 3) := by decide +kernel
theorem dX11_judge_22 : decode cX11_judge 22 = .ok (.aload 5, 2) := by decide +kernel
theorem dX11_judge_24 : decode cX11_judge 24 = .ok (.ifnull 11, 3) := by decide +kernel
theorem dX11_judge_27 : decode cX11_judge 27 = .ok (.iconst 0, 1) := by decide +kernel
theorem dX11_judge_28 : decode cX11_judge 28 = .ok (.iload_n 2, 1) := by decide +kernel
theorem dX11_judge_29 : decode cX11_judge 29 = .ok (.invokestatic 125, 3) := by decide +kernel
theorem dX11_judge_32 : decode cX11_judge 32 = .ok (.ifCond .ne 5, 3) := by decide +kernel
theorem dX11_judge_35 : decode cX11_judge 35 = .ok (.iconst (-1), 1) := by decide +kernel
theorem dX11_judge_36 : decode cX11_judge 36 = .ok (.ireturn, 1) := by decide +kernel
theorem dX11_judge_37 : decode cX11_judge 37 = .ok (.aload 5, 2) := by decide +kernel
theorem dX11_judge_39 : decode cX11_judge 39 = .ok (.invokestatic 255, 3) := by decide +kernel
theorem dX11_judge_42 : decode cX11_judge 42 = .ok (.istore 6, 2) := by decide +kernel
theorem dX11_judge_44 : decode cX11_judge 44 = .ok (.iload 6, 2) := by decide +kernel
theorem dX11_judge_46 : decode cX11_judge 46 = .ok (.ifCond .eq 6, 3) := by decide +kernel
theorem dX11_judge_49 : decode cX11_judge 49 = .ok (.iload 6, 2) := by decide +kernel
theorem dX11_judge_51 : decode cX11_judge 51 = .ok (.ireturn, 1) := by decide +kernel
theorem dX11_judge_52 : decode cX11_judge 52 = .ok (.aload 5, 2) := by decide +kernel
theorem dX11_judge_54 : decode cX11_judge 54 = .ok (.getfield 189, 3) := by decide +kernel
theorem dX11_judge_57 : decode cX11_judge 57 = .ok (.bipush 31, 2) := by decide +kernel
theorem dX11_judge_59 : decode cX11_judge 59 = .ok (.if_icmp .le 6, 3) := by decide +kernel
theorem dX11_judge_62 : decode cX11_judge 62 = .ok (.bipush (-13), 2) := by decide +kernel
theorem dX11_judge_64 : decode cX11_judge 64 = .ok (.ireturn, 1) := by decide +kernel
theorem dX11_judge_65 : decode cX11_judge 65 = .ok (.iconst 0, 1) := by decide +kernel
theorem dX11_judge_66 : decode cX11_judge 66 = .ok (.istore 7, 2) := by decide +kernel
theorem dX11_judge_68 : decode cX11_judge 68 = .ok (.iload 7, 2) := by decide +kernel
theorem dX11_judge_70 : decode cX11_judge 70 = .ok (.aload 5, 2) := by decide +kernel
theorem dX11_judge_72 : decode cX11_judge 72 = .ok (.getfield 189, 3) := by decide +kernel
theorem dX11_judge_75 : decode cX11_judge 75 = .ok (.if_icmp .ge 52, 3) := by decide +kernel
theorem dX11_judge_78 : decode cX11_judge 78 = .ok (.aload 5, 2) := by decide +kernel
theorem dX11_judge_80 : decode cX11_judge 80 = .ok (.iload 7, 2) := by decide +kernel
theorem dX11_judge_82 : decode cX11_judge 82 = .ok (.invokevirtual 258, 3) := by decide +kernel
theorem dX11_judge_85 : decode cX11_judge 85 = .ok (.istore 8, 2) := by decide +kernel
theorem dX11_judge_87 : decode cX11_judge 87 = .ok (.iload 8, 2) := by decide +kernel
theorem dX11_judge_89 : decode cX11_judge 89 = .ok (.aload 5, 2) := by decide +kernel
theorem dX11_judge_91 : decode cX11_judge 91 = .ok (.invokevirtual 261, 3) := by decide +kernel
theorem dX11_judge_94 : decode cX11_judge 94 = .ok (.if_icmp .eq 27, 3) := by decide +kernel
theorem dX11_judge_97 : decode cX11_judge 97 = .ok (.iload 8, 2) := by decide +kernel
theorem dX11_judge_99 : decode cX11_judge 99 = .ok (.aload_n 0, 1) := by decide +kernel
theorem dX11_judge_100 : decode cX11_judge 100 = .ok (.getfield 31, 3) := by decide +kernel
theorem dX11_judge_103 : decode cX11_judge 103 = .ok (.aload 4, 2) := by decide +kernel
theorem dX11_judge_105 : decode cX11_judge 105 = .ok (.iload 7, 2) := by decide +kernel
theorem dX11_judge_107 : decode cX11_judge 107 = .ok (.sipush 1000, 3) := by decide +kernel
theorem dX11_judge_110 : decode cX11_judge 110 = .ok (.imul, 1) := by decide +kernel
theorem dX11_judge_111 : decode cX11_judge 111 = .ok (.iload_n 2, 1) := by decide +kernel
theorem dX11_judge_112 : decode cX11_judge 112 = .ok (.invokevirtual 173, 3) := by decide +kernel
theorem dX11_judge_115 : decode cX11_judge 115 = .ok (.if_icmp .eq 6, 3) := by decide +kernel
theorem dX11_judge_118 : decode cX11_judge 118 = .ok (.iload 7, 2) := by decide +kernel
theorem dX11_judge_120 : decode cX11_judge 120 = .ok (.ireturn, 1) := by decide +kernel
theorem dX11_judge_121 : decode cX11_judge 121 = .ok (.iinc 7 1, 3) := by decide +kernel
theorem dX11_judge_124 : decode cX11_judge 124 = .ok (.goto (-56), 3) := by decide +kernel
theorem dX11_judge_127 : decode cX11_judge 127 = .ok (.bipush (-4), 2) := by decide +kernel
theorem dX11_judge_129 : decode cX11_judge 129 = .ok (.ireturn, 1) := by decide +kernel
theorem dX11_image_0 : decode cX11_image 0 = .ok (.aload_n 0, 1) := by decide +kernel
theorem dX11_image_1 : decode cX11_image 1 = .ok (.getfield 19, 3) := by decide +kernel
theorem dX11_image_4 : decode cX11_image 4 = .ok (.aload_n 0, 1) := by decide +kernel
theorem dX11_image_5 : decode cX11_image 5 = .ok (.getfield 10, 3) := by decide +kernel
theorem dX11_image_8 : decode cX11_image 8 = .ok (.invokevirtual 66, 3) := by decide +kernel
theorem dX11_image_11 : decode cX11_image 11 = .ok (.aload_n 0, 1) := by decide +kernel
theorem dX11_image_12 : decode cX11_image 12 = .ok (.iconst 1, 1) := by decide +kernel
theorem dX11_image_13 : decode cX11_image 13 = .ok (.putfield 22, 3) := by decide +kernel
theorem dX11_image_16 : decode cX11_image 16 = .ok (.aload_n 0, 1) := by decide +kernel
theorem dX11_image_17 : decode cX11_image 17 = .ok (.getfield 10, 3) := by decide +kernel
theorem dX11_image_20 : decode cX11_image 20 = .ok (.getfield 264, 3) := by decide +kernel
theorem dX11_image_23 : decode cX11_image 23 = .ok (.ireturn, 1) := by decide +kernel
theorem dX11_restore_0 : decode cX11_restore 0 = .ok (.aload_n 0, 1) := by decide +kernel
theorem dX11_restore_1 : decode cX11_restore 1 = .ok (.getfield 22, 3) := by decide +kernel
theorem dX11_restore_4 : decode cX11_restore 4 = .ok (.ifCond .ne 6, 3) := by decide +kernel
theorem dX11_restore_7 : decode cX11_restore 7 = .ok (.bipush (-3), 2) := by decide +kernel
theorem dX11_restore_9 : decode cX11_restore 9 = .ok (.ireturn, 1) := by decide +kernel
theorem dX11_restore_10 : decode cX11_restore 10 = .ok (.aload_n 0, 1) := by decide +kernel
theorem dX11_restore_11 : decode cX11_restore 11 = .ok (.getfield 10, 3) := by decide +kernel
theorem dX11_restore_14 : decode cX11_restore 14 = .ok (.aload_n 0, 1) := by decide +kernel
theorem dX11_restore_15 : decode cX11_restore 15 = .ok (.getfield 19, 3) := by decide +kernel
theorem dX11_restore_18 : decode cX11_restore 18 = .ok (.invokevirtual 66, 3) := by decide +kernel
theorem dX11_restore_21 : decode cX11_restore 21 = .ok (.aload_n 0, 1) := by decide +kernel
theorem dX11_restore_22 : decode cX11_restore 22 = .ok (.getfield 10, 3) := by decide +kernel
theorem dX11_restore_25 : decode cX11_restore 25 = .ok (.getfield 264, 3) := by decide +kernel
theorem dX11_restore_28 : decode cX11_restore 28 = .ok (.ireturn, 1) := by decide +kernel
theorem dX11_count_0 : decode cX11_count 0 = .ok (.iload_n 1, 1) := by decide +kernel
theorem dX11_count_1 : decode cX11_count 1 = .ok (.tableswitch 87 0 5 #[39, 47, 55, 63, 71, 79], 39) := by decide +kernel
theorem dX11_count_40 : decode cX11_count 40 = .ok (.aload_n 0, 1) := by decide +kernel
theorem dX11_count_41 : decode cX11_count 41 = .ok (.getfield 10, 3) := by decide +kernel
theorem dX11_count_44 : decode cX11_count 44 = .ok (.getfield 264, 3) := by decide +kernel
theorem dX11_count_47 : decode cX11_count 47 = .ok (.ireturn, 1) := by decide +kernel
theorem dX11_count_48 : decode cX11_count 48 = .ok (.aload_n 0, 1) := by decide +kernel
theorem dX11_count_49 : decode cX11_count 49 = .ok (.getfield 10, 3) := by decide +kernel
theorem dX11_count_52 : decode cX11_count 52 = .ok (.getfield 267, 3) := by decide +kernel
theorem dX11_count_55 : decode cX11_count 55 = .ok (.ireturn, 1) := by decide +kernel
theorem dX11_count_56 : decode cX11_count 56 = .ok (.aload_n 0, 1) := by decide +kernel
theorem dX11_count_57 : decode cX11_count 57 = .ok (.getfield 10, 3) := by decide +kernel
theorem dX11_count_60 : decode cX11_count 60 = .ok (.invokevirtual 270, 3) := by decide +kernel
theorem dX11_count_63 : decode cX11_count 63 = .ok (.ireturn, 1) := by decide +kernel
theorem dX11_count_64 : decode cX11_count 64 = .ok (.aload_n 0, 1) := by decide +kernel
theorem dX11_count_65 : decode cX11_count 65 = .ok (.getfield 10, 3) := by decide +kernel
theorem dX11_count_68 : decode cX11_count 68 = .ok (.getfield 87, 3) := by decide +kernel
theorem dX11_count_71 : decode cX11_count 71 = .ok (.ireturn, 1) := by decide +kernel
theorem dX11_count_72 : decode cX11_count 72 = .ok (.aload_n 0, 1) := by decide +kernel
theorem dX11_count_73 : decode cX11_count 73 = .ok (.getfield 10, 3) := by decide +kernel
theorem dX11_count_76 : decode cX11_count 76 = .ok (.getfield 91, 3) := by decide +kernel
theorem dX11_count_79 : decode cX11_count 79 = .ok (.ireturn, 1) := by decide +kernel
theorem dX11_count_80 : decode cX11_count 80 = .ok (.aload_n 0, 1) := by decide +kernel
theorem dX11_count_81 : decode cX11_count 81 = .ok (.getfield 10, 3) := by decide +kernel
theorem dX11_count_84 : decode cX11_count 84 = .ok (.getfield 94, 3) := by decide +kernel
theorem dX11_count_87 : decode cX11_count 87 = .ok (.ireturn, 1) := by decide +kernel
theorem dX11_count_88 : decode cX11_count 88 = .ok (.iconst (-1), 1) := by decide +kernel
theorem dX11_count_89 : decode cX11_count 89 = .ok (.ireturn, 1) := by decide +kernel
theorem dX11_keep_0 : decode cX11_keep 0 = .ok (.aload_n 0, 1) := by decide +kernel
theorem dX11_keep_1 : decode cX11_keep 1 = .ok (.iload_n 1, 1) := by decide +kernel
theorem dX11_keep_2 : decode cX11_keep 2 = .ok (.invokevirtual 58, 3) := by decide +kernel
theorem dX11_keep_5 : decode cX11_keep 5 = .ok (.astore 4, 2) := by decide +kernel
theorem dX11_keep_7 : decode cX11_keep 7 = .ok (.aload 4, 2) := by decide +kernel
theorem dX11_keep_9 : decode cX11_keep 9 = .ok (.ifnull 12, 3) := by decide +kernel
theorem dX11_keep_12 : decode cX11_keep 12 = .ok (.iconst 0, 1) := by decide +kernel
theorem dX11_keep_13 : decode cX11_keep 13 = .ok (.iload_n 2, 1) := by decide +kernel
theorem dX11_keep_14 : decode cX11_keep 14 = .ok (.iconst 1, 1) := by decide +kernel
theorem dX11_keep_15 : decode cX11_keep 15 = .ok (.invokestatic 83, 3) := by decide +kernel
theorem dX11_keep_18 : decode cX11_keep 18 = .ok (.ifCond .ne 5, 3) := by decide +kernel
theorem dX11_keep_21 : decode cX11_keep 21 = .ok (.iconst (-1), 1) := by decide +kernel
theorem dX11_keep_22 : decode cX11_keep 22 = .ok (.ireturn, 1) := by decide +kernel
theorem dX11_keep_23 : decode cX11_keep 23 = .ok (.iload_n 2, 1) := by decide +kernel
theorem dX11_keep_24 : decode cX11_keep 24 = .ok (.ifCond .ne 10, 3) := by decide +kernel
theorem dX11_keep_27 : decode cX11_keep 27 = .ok (.aload 4, 2) := by decide +kernel
theorem dX11_keep_29 : decode cX11_keep 29 = .ok (.invokevirtual 273, 3) := by decide +kernel
theorem dX11_keep_32 : decode cX11_keep 32 = .ok (.iconst 0, 1) := by decide +kernel
theorem dX11_keep_33 : decode cX11_keep 33 = .ok (.ireturn, 1) := by decide +kernel
theorem dX11_keep_34 : decode cX11_keep 34 = .ok (.aload_n 0, 1) := by decide +kernel
theorem dX11_keep_35 : decode cX11_keep 35 = .ok (.getfield 10, 3) := by decide +kernel
theorem dX11_keep_38 : decode cX11_keep 38 = .ok (.iload_n 3, 1) := by decide +kernel
theorem dX11_keep_39 : decode cX11_keep 39 = .ok (.invokevirtual 97, 3) := by decide +kernel
theorem dX11_keep_42 : decode cX11_keep 42 = .ok (.astore 5, 2) := by decide +kernel
theorem dX11_keep_44 : decode cX11_keep 44 = .ok (.aload 5, 2) := by decide +kernel
theorem dX11_keep_46 : decode cX11_keep 46 = .ok (.ifnonnull 5, 3) := by decide +kernel
theorem dX11_keep_49 : decode cX11_keep 49 = .ok (.iconst (-1), 1) := by decide +kernel
theorem dX11_keep_50 : decode cX11_keep 50 = .ok (.ireturn, 1) := by decide +kernel
theorem dX11_keep_51 : decode cX11_keep 51 = .ok (.aload 4, 2) := by decide +kernel
theorem dX11_keep_53 : decode cX11_keep 53 = .ok (.aload 5, 2) := by decide +kernel
theorem dX11_keep_55 : decode cX11_keep 55 = .ok (.invokevirtual 276, 3) := by decide +kernel
theorem dX11_keep_58 : decode cX11_keep 58 = .ok (.iconst 0, 1) := by decide +kernel
theorem dX11_keep_59 : decode cX11_keep 59 = .ok (.ireturn, 1) := by decide +kernel
theorem dX11_row_0 : decode cX11_row 0 = .ok (.aload_n 0, 1) := by decide +kernel
theorem dX11_row_1 : decode cX11_row 1 = .ok (.iload_n 1, 1) := by decide +kernel
theorem dX11_row_2 : decode cX11_row 2 = .ok (.invokevirtual 58, 3) := by decide +kernel
theorem dX11_row_5 : decode cX11_row 5 = .ok (.astore 4, 2) := by decide +kernel
theorem dX11_row_7 : decode cX11_row 7 = .ok (.aload 4, 2) := by decide +kernel
theorem dX11_row_9 : decode cX11_row 9 = .ok (.ifnull 18, 3) := by decide +kernel
theorem dX11_row_12 : decode cX11_row 12 = .ok (.iconst 0, 1) := by decide +kernel
theorem dX11_row_13 : decode cX11_row 13 = .ok (.iload_n 2, 1) := by decide +kernel
theorem dX11_row_14 : decode cX11_row 14 = .ok (.iconst 2, 1) := by decide +kernel
theorem dX11_row_15 : decode cX11_row 15 = .ok (.invokestatic 83, 3) := by decide +kernel
theorem dX11_row_18 : decode cX11_row 18 = .ok (.ifCond .eq 9, 3) := by decide +kernel
theorem dX11_row_21 : decode cX11_row 21 = .ok (.iload_n 3, 1) := by decide +kernel
theorem dX11_row_22 : decode cX11_row 22 = .ok (.bipush 100, 2) := by decide +kernel
theorem dX11_row_24 : decode cX11_row 24 = .ok (.if_icmp .le 5, 3) := by decide +kernel
theorem dX11_row_27 : decode cX11_row 27 = .ok (.iconst (-1), 1) := by decide +kernel
theorem dX11_row_28 : decode cX11_row 28 = .ok (.ireturn, 1) := by decide +kernel
theorem dX11_row_29 : decode cX11_row 29 = .ok (.iload_n 3, 1) := by decide +kernel
theorem dX11_row_30 : decode cX11_row 30 = .ok (.ifCond .ge 6, 3) := by decide +kernel
theorem dX11_row_33 : decode cX11_row 33 = .ok (.bipush (-14), 2) := by decide +kernel
theorem dX11_row_35 : decode cX11_row 35 = .ok (.ireturn, 1) := by decide +kernel
theorem dX11_row_36 : decode cX11_row 36 = .ok (.aload 4, 2) := by decide +kernel
theorem dX11_row_38 : decode cX11_row 38 = .ok (.iload_n 2, 1) := by decide +kernel
theorem dX11_row_39 : decode cX11_row 39 = .ok (.iload_n 3, 1) := by decide +kernel
theorem dX11_row_40 : decode cX11_row 40 = .ok (.invokevirtual 280, 3) := by decide +kernel
theorem dX11_row_43 : decode cX11_row 43 = .ok (.iconst 0, 1) := by decide +kernel
theorem dX11_row_44 : decode cX11_row 44 = .ok (.ireturn, 1) := by decide +kernel
theorem dX11_put_0 : decode cX11_put 0 = .ok (.aload_n 0, 1) := by decide +kernel
theorem dX11_put_1 : decode cX11_put 1 = .ok (.iload_n 1, 1) := by decide +kernel
theorem dX11_put_2 : decode cX11_put 2 = .ok (.invokevirtual 58, 3) := by decide +kernel
theorem dX11_put_5 : decode cX11_put 5 = .ok (.astore 4, 2) := by decide +kernel
theorem dX11_put_7 : decode cX11_put 7 = .ok (.aload 4, 2) := by decide +kernel
theorem dX11_put_9 : decode cX11_put 9 = .ok (.ifnonnull 5, 3) := by decide +kernel
theorem dX11_put_12 : decode cX11_put 12 = .ok (.iconst (-1), 1) := by decide +kernel
theorem dX11_put_13 : decode cX11_put 13 = .ok (.ireturn, 1) := by decide +kernel
theorem dX11_put_14 : decode cX11_put 14 = .ok (.aload 4, 2) := by decide +kernel
theorem dX11_put_16 : decode cX11_put 16 = .ok (.invokestatic 255, 3) := by decide +kernel
theorem dX11_put_19 : decode cX11_put 19 = .ok (.istore 5, 2) := by decide +kernel
theorem dX11_put_21 : decode cX11_put 21 = .ok (.iload 5, 2) := by decide +kernel
theorem dX11_put_23 : decode cX11_put 23 = .ok (.ifCond .eq 6, 3) := by decide +kernel
theorem dX11_put_26 : decode cX11_put 26 = .ok (.iload 5, 2) := by decide +kernel
theorem dX11_put_28 : decode cX11_put 28 = .ok (.ireturn, 1) := by decide +kernel
theorem dX11_put_29 : decode cX11_put 29 = .ok (.aload 4, 2) := by decide +kernel
theorem dX11_put_31 : decode cX11_put 31 = .ok (.iload_n 2, 1) := by decide +kernel
theorem dX11_put_32 : decode cX11_put 32 = .ok (.iconst 1, 1) := by decide +kernel
theorem dX11_put_33 : decode cX11_put 33 = .ok (.invokevirtual 283, 3) := by decide +kernel
theorem dX11_put_36 : decode cX11_put 36 = .ok (.ifCond .ne 6, 3) := by decide +kernel
theorem dX11_put_39 : decode cX11_put 39 = .ok (.bipush (-13), 2) := by decide +kernel
theorem dX11_put_41 : decode cX11_put 41 = .ok (.ireturn, 1) := by decide +kernel
theorem dX11_put_42 : decode cX11_put 42 = .ok (.aload 4, 2) := by decide +kernel
theorem dX11_put_44 : decode cX11_put 44 = .ok (.iload_n 2, 1) := by decide +kernel
theorem dX11_put_45 : decode cX11_put 45 = .ok (.iload_n 3, 1) := by decide +kernel
theorem dX11_put_46 : decode cX11_put 46 = .ok (.invokevirtual 286, 3) := by decide +kernel
theorem dX11_put_49 : decode cX11_put 49 = .ok (.iconst 0, 1) := by decide +kernel
theorem dX11_put_50 : decode cX11_put 50 = .ok (.ireturn, 1) := by decide +kernel
theorem dX11_element_0 : decode cX11_element 0 = .ok (.aload_n 0, 1) := by decide +kernel
theorem dX11_element_1 : decode cX11_element 1 = .ok (.iload_n 1, 1) := by decide +kernel
theorem dX11_element_2 : decode cX11_element 2 = .ok (.invokevirtual 58, 3) := by decide +kernel
theorem dX11_element_5 : decode cX11_element 5 = .ok (.astore_n 3, 1) := by decide +kernel
theorem dX11_element_6 : decode cX11_element 6 = .ok (.aload_n 3, 1) := by decide +kernel
theorem dX11_element_7 : decode cX11_element 7 = .ok (.ifnonnull 14, 3) := by decide +kernel
theorem dX11_element_10 : decode cX11_element 10 = .ok (.new 289, 3) := by decide +kernel
theorem dX11_element_13 : decode cX11_element 13 = .ok (.dup, 1) := by decide +kernel
theorem dX11_element_14 : decode cX11_element 14 = .ok (.ldc_w 291, 3) := by decide +kernel
theorem dX11_element_17 : decode cX11_element 17 = .ok (.invokespecial 293, 3) := by decide +kernel
theorem dX11_element_20 : decode cX11_element 20 = .ok (.athrow, 1) := by decide +kernel
theorem dX11_element_21 : decode cX11_element 21 = .ok (.aload_n 3, 1) := by decide +kernel
theorem dX11_element_22 : decode cX11_element 22 = .ok (.getfield 296, 3) := by decide +kernel
theorem dX11_element_25 : decode cX11_element 25 = .ok (.ifCond .ne 14, 3) := by decide +kernel
theorem dX11_element_28 : decode cX11_element 28 = .ok (.new 299, 3) := by decide +kernel
theorem dX11_element_31 : decode cX11_element 31 = .ok (.dup, 1) := by decide +kernel
theorem dX11_element_32 : decode cX11_element 32 = .ok (.ldc_w 301, 3) := by decide +kernel
theorem dX11_element_35 : decode cX11_element 35 = .ok (.invokespecial 303, 3) := by decide +kernel
theorem dX11_element_38 : decode cX11_element 38 = .ok (.athrow, 1) := by decide +kernel
theorem dX11_element_39 : decode cX11_element 39 = .ok (.aload_n 3, 1) := by decide +kernel
theorem dX11_element_40 : decode cX11_element 40 = .ok (.iload_n 2, 1) := by decide +kernel
theorem dX11_element_41 : decode cX11_element 41 = .ok (.iconst 1, 1) := by decide +kernel
theorem dX11_element_42 : decode cX11_element 42 = .ok (.invokevirtual 283, 3) := by decide +kernel
theorem dX11_element_45 : decode cX11_element 45 = .ok (.ifCond .ne 14, 3) := by decide +kernel
theorem dX11_element_48 : decode cX11_element 48 = .ok (.new 299, 3) := by decide +kernel
theorem dX11_element_51 : decode cX11_element 51 = .ok (.dup, 1) := by decide +kernel
theorem dX11_element_52 : decode cX11_element 52 = .ok (.ldc_w 304, 3) := by decide +kernel
theorem dX11_element_55 : decode cX11_element 55 = .ok (.invokespecial 303, 3) := by decide +kernel
theorem dX11_element_58 : decode cX11_element 58 = .ok (.athrow, 1) := by decide +kernel
theorem dX11_element_59 : decode cX11_element 59 = .ok (.aload_n 3, 1) := by decide +kernel
theorem dX11_element_60 : decode cX11_element 60 = .ok (.iload_n 2, 1) := by decide +kernel
theorem dX11_element_61 : decode cX11_element 61 = .ok (.invokevirtual 258, 3) := by decide +kernel
theorem dX11_element_64 : decode cX11_element 64 = .ok (.i2l, 1) := by decide +kernel
theorem dX11_element_65 : decode cX11_element 65 = .ok (.lreturn, 1) := by decide +kernel
theorem dX11_copy_0 : decode cX11_copy 0 = .ok (.aload_n 0, 1) := by decide +kernel
theorem dX11_copy_1 : decode cX11_copy 1 = .ok (.iload_n 1, 1) := by decide +kernel
theorem dX11_copy_2 : decode cX11_copy 2 = .ok (.invokevirtual 58, 3) := by decide +kernel
theorem dX11_copy_5 : decode cX11_copy 5 = .ok (.astore 6, 2) := by decide +kernel
theorem dX11_copy_7 : decode cX11_copy 7 = .ok (.aload_n 0, 1) := by decide +kernel
theorem dX11_copy_8 : decode cX11_copy 8 = .ok (.iload_n 3, 1) := by decide +kernel
theorem dX11_copy_9 : decode cX11_copy 9 = .ok (.invokevirtual 58, 3) := by decide +kernel
theorem dX11_copy_12 : decode cX11_copy 12 = .ok (.astore 7, 2) := by decide +kernel
theorem dX11_copy_14 : decode cX11_copy 14 = .ok (.aload 6, 2) := by decide +kernel
theorem dX11_copy_16 : decode cX11_copy 16 = .ok (.ifnull 8, 3) := by decide +kernel
theorem dX11_copy_19 : decode cX11_copy 19 = .ok (.aload 7, 2) := by decide +kernel
theorem dX11_copy_21 : decode cX11_copy 21 = .ok (.ifnonnull 5, 3) := by decide +kernel
theorem dX11_copy_24 : decode cX11_copy 24 = .ok (.iconst (-1), 1) := by decide +kernel
theorem dX11_copy_25 : decode cX11_copy 25 = .ok (.ireturn, 1) := by decide +kernel
theorem dX11_copy_26 : decode cX11_copy 26 = .ok (.aload 6, 2) := by decide +kernel
theorem dX11_copy_28 : decode cX11_copy 28 = .ok (.invokevirtual 306, 3) := by decide +kernel
theorem dX11_copy_31 : decode cX11_copy 31 = .ok (.ifCond .ne 11, 3) := by decide +kernel
theorem dX11_copy_34 : decode cX11_copy 34 = .ok (.aload 7, 2) := by decide +kernel
theorem dX11_copy_36 : decode cX11_copy 36 = .ok (.invokevirtual 306, 3) := by decide +kernel
theorem dX11_copy_39 : decode cX11_copy 39 = .ok (.ifCond .eq 6, 3) := by decide +kernel
theorem dX11_copy_42 : decode cX11_copy 42 = .ok (.bipush (-11), 2) := by decide +kernel
theorem dX11_copy_44 : decode cX11_copy 44 = .ok (.ireturn, 1) := by decide +kernel
theorem dX11_copy_45 : decode cX11_copy 45 = .ok (.aload 6, 2) := by decide +kernel
theorem dX11_copy_47 : decode cX11_copy 47 = .ok (.getfield 296, 3) := by decide +kernel
theorem dX11_copy_50 : decode cX11_copy 50 = .ok (.ifCond .eq 24, 3) := by decide +kernel
theorem dX11_copy_53 : decode cX11_copy 53 = .ok (.aload 7, 2) := by decide +kernel
theorem dX11_copy_55 : decode cX11_copy 55 = .ok (.getfield 296, 3) := by decide +kernel
theorem dX11_copy_58 : decode cX11_copy 58 = .ok (.ifCond .eq 16, 3) := by decide +kernel
theorem dX11_copy_61 : decode cX11_copy 61 = .ok (.aload 6, 2) := by decide +kernel
theorem dX11_copy_63 : decode cX11_copy 63 = .ok (.getfield 309, 3) := by decide +kernel
theorem dX11_copy_66 : decode cX11_copy 66 = .ok (.aload 7, 2) := by decide +kernel
theorem dX11_copy_68 : decode cX11_copy 68 = .ok (.getfield 309, 3) := by decide +kernel
theorem dX11_copy_71 : decode cX11_copy 71 = .ok (.if_icmp .eq 6, 3) := by decide +kernel
theorem dX11_copy_74 : decode cX11_copy 74 = .ok (.bipush (-12), 2) := by decide +kernel
theorem dX11_copy_76 : decode cX11_copy 76 = .ok (.ireturn, 1) := by decide +kernel
theorem dX11_copy_77 : decode cX11_copy 77 = .ok (.aload 6, 2) := by decide +kernel
theorem dX11_copy_79 : decode cX11_copy 79 = .ok (.iload_n 2, 1) := by decide +kernel
theorem dX11_copy_80 : decode cX11_copy 80 = .ok (.iload 5, 2) := by decide +kernel
theorem dX11_copy_82 : decode cX11_copy 82 = .ok (.invokevirtual 283, 3) := by decide +kernel
theorem dX11_copy_85 : decode cX11_copy 85 = .ok (.ifCond .eq 15, 3) := by decide +kernel
theorem dX11_copy_88 : decode cX11_copy 88 = .ok (.aload 7, 2) := by decide +kernel
theorem dX11_copy_90 : decode cX11_copy 90 = .ok (.iload 4, 2) := by decide +kernel
theorem dX11_copy_92 : decode cX11_copy 92 = .ok (.iload 5, 2) := by decide +kernel
theorem dX11_copy_94 : decode cX11_copy 94 = .ok (.invokevirtual 283, 3) := by decide +kernel
theorem dX11_copy_97 : decode cX11_copy 97 = .ok (.ifCond .ne 6, 3) := by decide +kernel
theorem dX11_copy_100 : decode cX11_copy 100 = .ok (.bipush (-13), 2) := by decide +kernel
theorem dX11_copy_102 : decode cX11_copy 102 = .ok (.ireturn, 1) := by decide +kernel
theorem dX11_copy_103 : decode cX11_copy 103 = .ok (.aload 6, 2) := by decide +kernel
theorem dX11_copy_105 : decode cX11_copy 105 = .ok (.getfield 312, 3) := by decide +kernel
theorem dX11_copy_108 : decode cX11_copy 108 = .ok (.iload_n 2, 1) := by decide +kernel
theorem dX11_copy_109 : decode cX11_copy 109 = .ok (.aload 7, 2) := by decide +kernel
theorem dX11_copy_111 : decode cX11_copy 111 = .ok (.getfield 312, 3) := by decide +kernel
theorem dX11_copy_114 : decode cX11_copy 114 = .ok (.iload 4, 2) := by decide +kernel
theorem dX11_copy_116 : decode cX11_copy 116 = .ok (.iload 5, 2) := by decide +kernel
theorem dX11_copy_118 : decode cX11_copy 118 = .ok (.invokestatic 315, 3) := by decide +kernel
theorem dX11_copy_121 : decode cX11_copy 121 = .ok (.iload 5, 2) := by decide +kernel
theorem dX11_copy_123 : decode cX11_copy 123 = .ok (.ireturn, 1) := by decide +kernel
theorem dX11_care_0 : decode cX11_care 0 = .ok (.aload_n 0, 1) := by decide +kernel
theorem dX11_care_1 : decode cX11_care 1 = .ok (.iload_n 1, 1) := by decide +kernel
theorem dX11_care_2 : decode cX11_care 2 = .ok (.invokevirtual 58, 3) := by decide +kernel
theorem dX11_care_5 : decode cX11_care 5 = .ok (.astore_n 2, 1) := by decide +kernel
theorem dX11_care_6 : decode cX11_care 6 = .ok (.aload_n 2, 1) := by decide +kernel
theorem dX11_care_7 : decode cX11_care 7 = .ok (.ifnonnull 5, 3) := by decide +kernel
theorem dX11_care_10 : decode cX11_care 10 = .ok (.iconst (-1), 1) := by decide +kernel
theorem dX11_care_11 : decode cX11_care 11 = .ok (.ireturn, 1) := by decide +kernel
theorem dX11_care_12 : decode cX11_care 12 = .ok (.aload_n 2, 1) := by decide +kernel
theorem dX11_care_13 : decode cX11_care 13 = .ok (.getfield 321, 3) := by decide +kernel
theorem dX11_care_16 : decode cX11_care 16 = .ok (.astore_n 3, 1) := by decide +kernel
theorem dX11_care_17 : decode cX11_care 17 = .ok (.aload_n 3, 1) := by decide +kernel
theorem dX11_care_18 : decode cX11_care 18 = .ok (.ifnonnull 18, 3) := by decide +kernel
theorem dX11_care_21 : decode cX11_care 21 = .ok (.aload_n 2, 1) := by decide +kernel
theorem dX11_care_22 : decode cX11_care 22 = .ok (.getfield 296, 3) := by decide +kernel
theorem dX11_care_25 : decode cX11_care 25 = .ok (.ifCond .eq 8, 3) := by decide +kernel
theorem dX11_care_28 : decode cX11_care 28 = .ok (.bipush (-12), 2) := by decide +kernel
theorem dX11_care_30 : decode cX11_care 30 = .ok (.goto 5, 3) := by decide +kernel
theorem dX11_care_33 : decode cX11_care 33 = .ok (.bipush (-11), 2) := by decide +kernel
theorem dX11_care_35 : decode cX11_care 35 = .ok (.ireturn, 1) := by decide +kernel
theorem dX11_care_36 : decode cX11_care 36 = .ok (.aload_n 3, 1) := by decide +kernel
theorem dX11_care_37 : decode cX11_care 37 = .ok (.getfield 325, 3) := by decide +kernel
theorem dX11_care_40 : decode cX11_care 40 = .ok (.ireturn, 1) := by decide +kernel
theorem dX11_toss_0 : decode cX11_toss 0 = .ok (.aload_n 0, 1) := by decide +kernel
theorem dX11_toss_1 : decode cX11_toss 1 = .ok (.iload_n 1, 1) := by decide +kernel
theorem dX11_toss_2 : decode cX11_toss 2 = .ok (.invokevirtual 58, 3) := by decide +kernel
theorem dX11_toss_5 : decode cX11_toss 5 = .ok (.astore_n 2, 1) := by decide +kernel
theorem dX11_toss_6 : decode cX11_toss 6 = .ok (.aload_n 2, 1) := by decide +kernel
theorem dX11_toss_7 : decode cX11_toss 7 = .ok (.ifnonnull 5, 3) := by decide +kernel
theorem dX11_toss_10 : decode cX11_toss 10 = .ok (.iconst (-1), 1) := by decide +kernel
theorem dX11_toss_11 : decode cX11_toss 11 = .ok (.ireturn, 1) := by decide +kernel
theorem dX11_toss_12 : decode cX11_toss 12 = .ok (.aload_n 2, 1) := by decide +kernel
theorem dX11_toss_13 : decode cX11_toss 13 = .ok (.getfield 321, 3) := by decide +kernel
theorem dX11_toss_16 : decode cX11_toss 16 = .ok (.astore_n 3, 1) := by decide +kernel
theorem dX11_toss_17 : decode cX11_toss 17 = .ok (.aload_n 3, 1) := by decide +kernel
theorem dX11_toss_18 : decode cX11_toss 18 = .ok (.ifnonnull 18, 3) := by decide +kernel
theorem dX11_toss_21 : decode cX11_toss 21 = .ok (.aload_n 2, 1) := by decide +kernel
theorem dX11_toss_22 : decode cX11_toss 22 = .ok (.getfield 296, 3) := by decide +kernel
theorem dX11_toss_25 : decode cX11_toss 25 = .ok (.ifCond .eq 8, 3) := by decide +kernel
theorem dX11_toss_28 : decode cX11_toss 28 = .ok (.bipush (-12), 2) := by decide +kernel
theorem dX11_toss_30 : decode cX11_toss 30 = .ok (.goto 5, 3) := by decide +kernel
theorem dX11_toss_33 : decode cX11_toss 33 = .ok (.bipush (-11), 2) := by decide +kernel
theorem dX11_toss_35 : decode cX11_toss 35 = .ok (.ireturn, 1) := by decide +kernel
theorem dX11_toss_36 : decode cX11_toss 36 = .ok (.aload_n 3, 1) := by decide +kernel
theorem dX11_toss_37 : decode cX11_toss 37 = .ok (.invokevirtual 328, 3) := by decide +kernel
theorem dX11_toss_40 : decode cX11_toss 40 = .ok (.goto 31, 3) := by decide +kernel
theorem dX11_toss_43 : decode cX11_toss 43 = .ok (.astore 4, 2) := by decide +kernel
theorem dX11_toss_45 : decode cX11_toss 45 = .ok (.aload_n 3, 1) := by decide +kernel
theorem dX11_toss_46 : decode cX11_toss 46 = .ok (.getfield 331, 3) := by decide +kernel
theorem dX11_toss_49 : decode cX11_toss 49 = .ok (.ireturn, 1) := by decide +kernel
theorem dX11_toss_50 : decode cX11_toss 50 = .ok (.astore 4, 2) := by decide +kernel
theorem dX11_toss_52 : decode cX11_toss 52 = .ok (.aload_n 3, 1) := by decide +kernel
theorem dX11_toss_53 : decode cX11_toss 53 = .ok (.getfield 331, 3) := by decide +kernel
theorem dX11_toss_56 : decode cX11_toss 56 = .ok (.bipush 100, 2) := by decide +kernel
theorem dX11_toss_58 : decode cX11_toss 58 = .ok (.iadd, 1) := by decide +kernel
theorem dX11_toss_59 : decode cX11_toss 59 = .ok (.ireturn, 1) := by decide +kernel
theorem dX11_toss_60 : decode cX11_toss 60 = .ok (.astore 4, 2) := by decide +kernel
theorem dX11_toss_62 : decode cX11_toss 62 = .ok (.sipush 200, 3) := by decide +kernel
theorem dX11_toss_65 : decode cX11_toss 65 = .ok (.aload_n 3, 1) := by decide +kernel
theorem dX11_toss_66 : decode cX11_toss 66 = .ok (.getfield 325, 3) := by decide +kernel
theorem dX11_toss_69 : decode cX11_toss 69 = .ok (.iadd, 1) := by decide +kernel
theorem dX11_toss_70 : decode cX11_toss 70 = .ok (.ireturn, 1) := by decide +kernel
theorem dX11_toss_71 : decode cX11_toss 71 = .ok (.bipush (-15), 2) := by decide +kernel
theorem dX11_toss_73 : decode cX11_toss 73 = .ok (.ireturn, 1) := by decide +kernel
theorem dX11_isFrom_0 : decode cX11_isFrom 0 = .ok (.iload_n 0, 1) := by decide +kernel
theorem dX11_isFrom_1 : decode cX11_isFrom 1 = .ok (.iload_n 1, 1) := by decide +kernel
theorem dX11_isFrom_2 : decode cX11_isFrom 2 = .ok (.if_icmp .gt 12, 3) := by decide +kernel
theorem dX11_isFrom_5 : decode cX11_isFrom 5 = .ok (.iload_n 1, 1) := by decide +kernel
theorem dX11_isFrom_6 : decode cX11_isFrom 6 = .ok (.iload_n 2, 1) := by decide +kernel
theorem dX11_isFrom_7 : decode cX11_isFrom 7 = .ok (.if_icmp .gt 7, 3) := by decide +kernel
theorem dX11_isFrom_10 : decode cX11_isFrom 10 = .ok (.iconst 1, 1) := by decide +kernel
theorem dX11_isFrom_11 : decode cX11_isFrom 11 = .ok (.goto 4, 3) := by decide +kernel
theorem dX11_isFrom_14 : decode cX11_isFrom 14 = .ok (.iconst 0, 1) := by decide +kernel
theorem dX11_isFrom_15 : decode cX11_isFrom 15 = .ok (.ireturn, 1) := by decide +kernel
theorem dX11_isPlace_0 : decode cX11_isPlace 0 = .ok (.sipush (-30000), 3) := by decide +kernel
theorem dX11_isPlace_3 : decode cX11_isPlace 3 = .ok (.iload_n 0, 1) := by decide +kernel
theorem dX11_isPlace_4 : decode cX11_isPlace 4 = .ok (.sipush 30000, 3) := by decide +kernel
theorem dX11_isPlace_7 : decode cX11_isPlace 7 = .ok (.invokestatic 83, 3) := by decide +kernel
theorem dX11_isPlace_10 : decode cX11_isPlace 10 = .ok (.ifCond .eq 20, 3) := by decide +kernel
theorem dX11_isPlace_13 : decode cX11_isPlace 13 = .ok (.sipush (-30000), 3) := by decide +kernel
theorem dX11_isPlace_16 : decode cX11_isPlace 16 = .ok (.iload_n 1, 1) := by decide +kernel
theorem dX11_isPlace_17 : decode cX11_isPlace 17 = .ok (.sipush 30000, 3) := by decide +kernel
theorem dX11_isPlace_20 : decode cX11_isPlace 20 = .ok (.invokestatic 83, 3) := by decide +kernel
theorem dX11_isPlace_23 : decode cX11_isPlace 23 = .ok (.ifCond .eq 7, 3) := by decide +kernel
theorem dX11_isPlace_26 : decode cX11_isPlace 26 = .ok (.iconst 1, 1) := by decide +kernel
theorem dX11_isPlace_27 : decode cX11_isPlace 27 = .ok (.goto 4, 3) := by decide +kernel
theorem dX11_isPlace_30 : decode cX11_isPlace 30 = .ok (.iconst 0, 1) := by decide +kernel
theorem dX11_isPlace_31 : decode cX11_isPlace 31 = .ok (.ireturn, 1) := by decide +kernel
theorem dX11_isLayer_0 : decode cX11_isLayer 0 = .ok (.iconst 0, 1) := by decide +kernel
theorem dX11_isLayer_1 : decode cX11_isLayer 1 = .ok (.iload_n 0, 1) := by decide +kernel
theorem dX11_isLayer_2 : decode cX11_isLayer 2 = .ok (.bipush 9, 2) := by decide +kernel
theorem dX11_isLayer_4 : decode cX11_isLayer 4 = .ok (.invokestatic 83, 3) := by decide +kernel
theorem dX11_isLayer_7 : decode cX11_isLayer 7 = .ok (.ireturn, 1) := by decide +kernel
theorem dX11_isGap_0 : decode cX11_isGap 0 = .ok (.iconst 1, 1) := by decide +kernel
theorem dX11_isGap_1 : decode cX11_isGap 1 = .ok (.iload_n 0, 1) := by decide +kernel
theorem dX11_isGap_2 : decode cX11_isGap 2 = .ok (.bipush 20, 2) := by decide +kernel
theorem dX11_isGap_4 : decode cX11_isGap 4 = .ok (.invokestatic 83, 3) := by decide +kernel
theorem dX11_isGap_7 : decode cX11_isGap 7 = .ok (.ireturn, 1) := by decide +kernel
theorem dX11_shelfAt_0 : decode cX11_shelfAt 0 = .ok (.iconst 0, 1) := by decide +kernel
theorem dX11_shelfAt_1 : decode cX11_shelfAt 1 = .ok (.iload_n 1, 1) := by decide +kernel
theorem dX11_shelfAt_2 : decode cX11_shelfAt 2 = .ok (.bipush 7, 2) := by decide +kernel
theorem dX11_shelfAt_4 : decode cX11_shelfAt 4 = .ok (.invokestatic 83, 3) := by decide +kernel
theorem dX11_shelfAt_7 : decode cX11_shelfAt 7 = .ok (.ifCond .eq 12, 3) := by decide +kernel
theorem dX11_shelfAt_10 : decode cX11_shelfAt 10 = .ok (.aload_n 0, 1) := by decide +kernel
theorem dX11_shelfAt_11 : decode cX11_shelfAt 11 = .ok (.getfield 40, 3) := by decide +kernel
theorem dX11_shelfAt_14 : decode cX11_shelfAt 14 = .ok (.iload_n 1, 1) := by decide +kernel
theorem dX11_shelfAt_15 : decode cX11_shelfAt 15 = .ok (.aaload, 1) := by decide +kernel
theorem dX11_shelfAt_16 : decode cX11_shelfAt 16 = .ok (.goto 4, 3) := by decide +kernel
theorem dX11_shelfAt_19 : decode cX11_shelfAt 19 = .ok (.aconst_null, 1) := by decide +kernel
theorem dX11_shelfAt_20 : decode cX11_shelfAt 20 = .ok (.areturn, 1) := by decide +kernel
theorem dX11_refusalOfRow_0 : decode cX11_refusalOfRow 0 = .ok (.aload_n 0, 1) := by decide +kernel
theorem dX11_refusalOfRow_1 : decode cX11_refusalOfRow 1 = .ok (.invokevirtual 306, 3) := by decide +kernel
theorem dX11_refusalOfRow_4 : decode cX11_refusalOfRow 4 = .ok (.ifCond .eq 6, 3) := by decide +kernel
theorem dX11_refusalOfRow_7 : decode cX11_refusalOfRow 7 = .ok (.bipush (-11), 2) := by decide +kernel
theorem dX11_refusalOfRow_9 : decode cX11_refusalOfRow 9 = .ok (.ireturn, 1) := by decide +kernel
theorem dX11_refusalOfRow_10 : decode cX11_refusalOfRow 10 = .ok (.aload_n 0, 1) := by decide +kernel
theorem dX11_refusalOfRow_11 : decode cX11_refusalOfRow 11 = .ok (.getfield 296, 3) := by decide +kernel
theorem dX11_refusalOfRow_14 : decode cX11_refusalOfRow 14 = .ok (.ifCond .eq 7, 3) := by decide +kernel
theorem dX11_refusalOfRow_17 : decode cX11_refusalOfRow 17 = .ok (.iconst 0, 1) := by decide +kernel
theorem dX11_refusalOfRow_18 : decode cX11_refusalOfRow 18 = .ok (.goto 5, 3) := by decide +kernel
theorem dX11_refusalOfRow_21 : decode cX11_refusalOfRow 21 = .ok (.bipush (-12), 2) := by decide +kernel
theorem dX11_refusalOfRow_23 : decode cX11_refusalOfRow 23 = .ok (.ireturn, 1) := by decide +kernel
theorem dX11_refusalOfBytes_0 : decode cX11_refusalOfBytes 0 = .ok (.aload_n 0, 1) := by decide +kernel
theorem dX11_refusalOfBytes_1 : decode cX11_refusalOfBytes 1 = .ok (.invokestatic 255, 3) := by decide +kernel
theorem dX11_refusalOfBytes_4 : decode cX11_refusalOfBytes 4 = .ok (.istore_n 1, 1) := by decide +kernel
theorem dX11_refusalOfBytes_5 : decode cX11_refusalOfBytes 5 = .ok (.iload_n 1, 1) := by decide +kernel
theorem dX11_refusalOfBytes_6 : decode cX11_refusalOfBytes 6 = .ok (.ifCond .ne 13, 3) := by decide +kernel
theorem dX11_refusalOfBytes_9 : decode cX11_refusalOfBytes 9 = .ok (.aload_n 0, 1) := by decide +kernel
theorem dX11_refusalOfBytes_10 : decode cX11_refusalOfBytes 10 = .ok (.getfield 309, 3) := by decide +kernel
theorem dX11_refusalOfBytes_13 : decode cX11_refusalOfBytes 13 = .ok (.ifCond .eq 6, 3) := by decide +kernel
theorem dX11_refusalOfBytes_16 : decode cX11_refusalOfBytes 16 = .ok (.bipush (-12), 2) := by decide +kernel
theorem dX11_refusalOfBytes_18 : decode cX11_refusalOfBytes 18 = .ok (.ireturn, 1) := by decide +kernel
theorem dX11_refusalOfBytes_19 : decode cX11_refusalOfBytes 19 = .ok (.iload_n 1, 1) := by decide +kernel
theorem dX11_refusalOfBytes_20 : decode cX11_refusalOfBytes 20 = .ok (.ireturn, 1) := by decide +kernel
theorem dX11_refusalOfLoad_0 : decode cX11_refusalOfLoad 0 = .ok (.aload_n 1, 1) := by decide +kernel
theorem dX11_refusalOfLoad_1 : decode cX11_refusalOfLoad 1 = .ok (.invokestatic 62, 3) := by decide +kernel
theorem dX11_refusalOfLoad_4 : decode cX11_refusalOfLoad 4 = .ok (.istore_n 2, 1) := by decide +kernel
theorem dX11_refusalOfLoad_5 : decode cX11_refusalOfLoad 5 = .ok (.iload_n 2, 1) := by decide +kernel
theorem dX11_refusalOfLoad_6 : decode cX11_refusalOfLoad 6 = .ok (.ifCond .eq 5, 3) := by decide +kernel
theorem dX11_refusalOfLoad_9 : decode cX11_refusalOfLoad 9 = .ok (.iload_n 2, 1) := by decide +kernel
theorem dX11_refusalOfLoad_10 : decode cX11_refusalOfLoad 10 = .ok (.ireturn, 1) := by decide +kernel
theorem dX11_refusalOfLoad_11 : decode cX11_refusalOfLoad 11 = .ok (.iconst 1, 1) := by decide +kernel
theorem dX11_refusalOfLoad_12 : decode cX11_refusalOfLoad 12 = .ok (.aload_n 1, 1) := by decide +kernel
theorem dX11_refusalOfLoad_13 : decode cX11_refusalOfLoad 13 = .ok (.getfield 189, 3) := by decide +kernel
theorem dX11_refusalOfLoad_16 : decode cX11_refusalOfLoad 16 = .ok (.iconst 5, 1) := by decide +kernel
theorem dX11_refusalOfLoad_17 : decode cX11_refusalOfLoad 17 = .ok (.invokestatic 83, 3) := by decide +kernel
theorem dX11_refusalOfLoad_20 : decode cX11_refusalOfLoad 20 = .ok (.ifCond .ne 6, 3) := by decide +kernel
theorem dX11_refusalOfLoad_23 : decode cX11_refusalOfLoad 23 = .ok (.bipush (-13), 2) := by decide +kernel
theorem dX11_refusalOfLoad_25 : decode cX11_refusalOfLoad 25 = .ok (.ireturn, 1) := by decide +kernel
theorem dX11_refusalOfLoad_26 : decode cX11_refusalOfLoad 26 = .ok (.iconst 0, 1) := by decide +kernel
theorem dX11_refusalOfLoad_27 : decode cX11_refusalOfLoad 27 = .ok (.istore_n 3, 1) := by decide +kernel
theorem dX11_refusalOfLoad_28 : decode cX11_refusalOfLoad 28 = .ok (.iload_n 3, 1) := by decide +kernel
theorem dX11_refusalOfLoad_29 : decode cX11_refusalOfLoad 29 = .ok (.aload_n 1, 1) := by decide +kernel
theorem dX11_refusalOfLoad_30 : decode cX11_refusalOfLoad 30 = .ok (.getfield 189, 3) := by decide +kernel
theorem dX11_refusalOfLoad_33 : decode cX11_refusalOfLoad 33 = .ok (.if_icmp .ge 27, 3) := by decide +kernel
theorem dX11_refusalOfLoad_36 : decode cX11_refusalOfLoad 36 = .ok (.aload_n 0, 1) := by decide +kernel
theorem dX11_refusalOfLoad_37 : decode cX11_refusalOfLoad 37 = .ok (.getfield 10, 3) := by decide +kernel
theorem dX11_refusalOfLoad_40 : decode cX11_refusalOfLoad 40 = .ok (.aload_n 1, 1) := by decide +kernel
theorem dX11_refusalOfLoad_41 : decode cX11_refusalOfLoad 41 = .ok (.iload_n 3, 1) := by decide +kernel
theorem dX11_refusalOfLoad_42 : decode cX11_refusalOfLoad 42 = .ok (.invokevirtual 258, 3) := by decide +kernel
theorem dX11_refusalOfLoad_45 : decode cX11_refusalOfLoad 45 = .ok (.invokevirtual 97, 3) := by decide +kernel
theorem dX11_refusalOfLoad_48 : decode cX11_refusalOfLoad 48 = .ok (.ifnonnull 6, 3) := by decide +kernel
theorem dX11_refusalOfLoad_51 : decode cX11_refusalOfLoad 51 = .ok (.bipush (-13), 2) := by decide +kernel
theorem dX11_refusalOfLoad_53 : decode cX11_refusalOfLoad 53 = .ok (.ireturn, 1) := by decide +kernel
theorem dX11_refusalOfLoad_54 : decode cX11_refusalOfLoad 54 = .ok (.iinc 3 1, 3) := by decide +kernel
theorem dX11_refusalOfLoad_57 : decode cX11_refusalOfLoad 57 = .ok (.goto (-29), 3) := by decide +kernel
theorem dX11_refusalOfLoad_60 : decode cX11_refusalOfLoad 60 = .ok (.iconst 0, 1) := by decide +kernel
theorem dX11_refusalOfLoad_61 : decode cX11_refusalOfLoad 61 = .ok (.ireturn, 1) := by decide +kernel
theorem dX11_landing_0 : decode cX11_landing 0 = .ok (.aload_n 0, 1) := by decide +kernel
theorem dX11_landing_1 : decode cX11_landing 1 = .ok (.getfield 10, 3) := by decide +kernel
theorem dX11_landing_4 : decode cX11_landing 4 = .ok (.iload_n 1, 1) := by decide +kernel
theorem dX11_landing_5 : decode cX11_landing 5 = .ok (.invokevirtual 97, 3) := by decide +kernel
theorem dX11_landing_8 : decode cX11_landing 8 = .ok (.astore 6, 2) := by decide +kernel
theorem dX11_landing_10 : decode cX11_landing 10 = .ok (.aload 6, 2) := by decide +kernel
theorem dX11_landing_12 : decode cX11_landing 12 = .ok (.ifnull 21, 3) := by decide +kernel
theorem dX11_landing_15 : decode cX11_landing 15 = .ok (.iload_n 2, 1) := by decide +kernel
theorem dX11_landing_16 : decode cX11_landing 16 = .ok (.iload_n 3, 1) := by decide +kernel
theorem dX11_landing_17 : decode cX11_landing 17 = .ok (.invokestatic 125, 3) := by decide +kernel
theorem dX11_landing_20 : decode cX11_landing 20 = .ok (.ifCond .eq 13, 3) := by decide +kernel
theorem dX11_landing_23 : decode cX11_landing 23 = .ok (.iconst 0, 1) := by decide +kernel
theorem dX11_landing_24 : decode cX11_landing 24 = .ok (.iload 5, 2) := by decide +kernel
theorem dX11_landing_26 : decode cX11_landing 26 = .ok (.iconst 4, 1) := by decide +kernel
theorem dX11_landing_27 : decode cX11_landing 27 = .ok (.invokestatic 83, 3) := by decide +kernel
theorem dX11_landing_30 : decode cX11_landing 30 = .ok (.ifCond .ne 6, 3) := by decide +kernel
theorem dX11_landing_33 : decode cX11_landing 33 = .ok (.ldc 76, 2) := by decide +kernel
theorem dX11_landing_35 : decode cX11_landing 35 = .ok (.ireturn, 1) := by decide +kernel
theorem dX11_landing_36 : decode cX11_landing 36 = .ok (.aload_n 0, 1) := by decide +kernel
theorem dX11_landing_37 : decode cX11_landing 37 = .ok (.getfield 31, 3) := by decide +kernel
theorem dX11_landing_40 : decode cX11_landing 40 = .ok (.aload 6, 2) := by decide +kernel
theorem dX11_landing_42 : decode cX11_landing 42 = .ok (.iload_n 2, 1) := by decide +kernel
theorem dX11_landing_43 : decode cX11_landing 43 = .ok (.iload_n 3, 1) := by decide +kernel
theorem dX11_landing_44 : decode cX11_landing 44 = .ok (.iload 4, 2) := by decide +kernel
theorem dX11_landing_46 : decode cX11_landing 46 = .ok (.invokevirtual 143, 3) := by decide +kernel
theorem dX11_landing_49 : decode cX11_landing 49 = .ok (.aload_n 0, 1) := by decide +kernel
theorem dX11_landing_50 : decode cX11_landing 50 = .ok (.getfield 31, 3) := by decide +kernel
theorem dX11_landing_53 : decode cX11_landing 53 = .ok (.invokevirtual 167, 3) := by decide +kernel
theorem dX11_landing_56 : decode cX11_landing 56 = .ok (.iload 5, 2) := by decide +kernel
theorem dX11_landing_58 : decode cX11_landing 58 = .ok (.tableswitch 62 0 3 #[30, 38, 46, 54], 30) := by decide +kernel
theorem dX11_landing_88 : decode cX11_landing 88 = .ok (.aload_n 0, 1) := by decide +kernel
theorem dX11_landing_89 : decode cX11_landing 89 = .ok (.getfield 31, 3) := by decide +kernel
theorem dX11_landing_92 : decode cX11_landing 92 = .ok (.getfield 151, 3) := by decide +kernel
theorem dX11_landing_95 : decode cX11_landing 95 = .ok (.ireturn, 1) := by decide +kernel
theorem dX11_landing_96 : decode cX11_landing 96 = .ok (.aload_n 0, 1) := by decide +kernel
theorem dX11_landing_97 : decode cX11_landing 97 = .ok (.getfield 31, 3) := by decide +kernel
theorem dX11_landing_100 : decode cX11_landing 100 = .ok (.getfield 154, 3) := by decide +kernel
theorem dX11_landing_103 : decode cX11_landing 103 = .ok (.ireturn, 1) := by decide +kernel
theorem dX11_landing_104 : decode cX11_landing 104 = .ok (.aload_n 0, 1) := by decide +kernel
theorem dX11_landing_105 : decode cX11_landing 105 = .ok (.getfield 31, 3) := by decide +kernel
theorem dX11_landing_108 : decode cX11_landing 108 = .ok (.getfield 164, 3) := by decide +kernel
theorem dX11_landing_111 : decode cX11_landing 111 = .ok (.ireturn, 1) := by decide +kernel
theorem dX11_landing_112 : decode cX11_landing 112 = .ok (.aload_n 0, 1) := by decide +kernel
theorem dX11_landing_113 : decode cX11_landing 113 = .ok (.getfield 31, 3) := by decide +kernel
theorem dX11_landing_116 : decode cX11_landing 116 = .ok (.invokevirtual 214, 3) := by decide +kernel
theorem dX11_landing_119 : decode cX11_landing 119 = .ok (.ireturn, 1) := by decide +kernel
theorem dX11_landing_120 : decode cX11_landing 120 = .ok (.aload_n 0, 1) := by decide +kernel
theorem dX11_landing_121 : decode cX11_landing 121 = .ok (.getfield 10, 3) := by decide +kernel
theorem dX11_landing_124 : decode cX11_landing 124 = .ok (.aload_n 0, 1) := by decide +kernel
theorem dX11_landing_125 : decode cX11_landing 125 = .ok (.getfield 31, 3) := by decide +kernel
theorem dX11_landing_128 : decode cX11_landing 128 = .ok (.getfield 151, 3) := by decide +kernel
theorem dX11_landing_131 : decode cX11_landing 131 = .ok (.aload_n 0, 1) := by decide +kernel
theorem dX11_landing_132 : decode cX11_landing 132 = .ok (.getfield 31, 3) := by decide +kernel
theorem dX11_landing_135 : decode cX11_landing 135 = .ok (.getfield 154, 3) := by decide +kernel
theorem dX11_landing_138 : decode cX11_landing 138 = .ok (.invokevirtual 136, 3) := by decide +kernel
theorem dX11_landing_141 : decode cX11_landing 141 = .ok (.ifCond .eq 7, 3) := by decide +kernel
theorem dX11_landing_144 : decode cX11_landing 144 = .ok (.iconst 1, 1) := by decide +kernel
theorem dX11_landing_145 : decode cX11_landing 145 = .ok (.goto 4, 3) := by decide +kernel
theorem dX11_landing_148 : decode cX11_landing 148 = .ok (.iconst 0, 1) := by decide +kernel
theorem dX11_landing_149 : decode cX11_landing 149 = .ok (.ireturn, 1) := by decide +kernel
theorem dX11_loadWithin_0 : decode cX11_loadWithin 0 = .ok (.iconst 0, 1) := by decide +kernel
theorem dX11_loadWithin_1 : decode cX11_loadWithin 1 = .ok (.istore 6, 2) := by decide +kernel
theorem dX11_loadWithin_3 : decode cX11_loadWithin 3 = .ok (.iconst 0, 1) := by decide +kernel
theorem dX11_loadWithin_4 : decode cX11_loadWithin 4 = .ok (.istore 7, 2) := by decide +kernel
theorem dX11_loadWithin_6 : decode cX11_loadWithin 6 = .ok (.iload 7, 2) := by decide +kernel
theorem dX11_loadWithin_8 : decode cX11_loadWithin 8 = .ok (.aload_n 1, 1) := by decide +kernel
theorem dX11_loadWithin_9 : decode cX11_loadWithin 9 = .ok (.getfield 189, 3) := by decide +kernel
theorem dX11_loadWithin_12 : decode cX11_loadWithin 12 = .ok (.if_icmp .ge 89, 3) := by decide +kernel
theorem dX11_loadWithin_15 : decode cX11_loadWithin 15 = .ok (.aload_n 0, 1) := by decide +kernel
theorem dX11_loadWithin_16 : decode cX11_loadWithin 16 = .ok (.getfield 10, 3) := by decide +kernel
theorem dX11_loadWithin_19 : decode cX11_loadWithin 19 = .ok (.aload_n 1, 1) := by decide +kernel
theorem dX11_loadWithin_20 : decode cX11_loadWithin 20 = .ok (.iload 7, 2) := by decide +kernel
theorem dX11_loadWithin_22 : decode cX11_loadWithin 22 = .ok (.invokevirtual 258, 3) := by decide +kernel
theorem dX11_loadWithin_25 : decode cX11_loadWithin 25 = .ok (.invokevirtual 97, 3) := by decide +kernel
theorem dX11_loadWithin_28 : decode cX11_loadWithin 28 = .ok (.astore 8, 2) := by decide +kernel
theorem dX11_loadWithin_30 : decode cX11_loadWithin 30 = .ok (.aload 8, 2) := by decide +kernel
theorem dX11_loadWithin_32 : decode cX11_loadWithin 32 = .ok (.ifnull 63, 3) := by decide +kernel
theorem dX11_loadWithin_35 : decode cX11_loadWithin 35 = .ok (.aload_n 0, 1) := by decide +kernel
theorem dX11_loadWithin_36 : decode cX11_loadWithin 36 = .ok (.getfield 31, 3) := by decide +kernel
theorem dX11_loadWithin_39 : decode cX11_loadWithin 39 = .ok (.aload 8, 2) := by decide +kernel
theorem dX11_loadWithin_41 : decode cX11_loadWithin 41 = .ok (.iload_n 2, 1) := by decide +kernel
theorem dX11_loadWithin_42 : decode cX11_loadWithin 42 = .ok (.iload 7, 2) := by decide +kernel
theorem dX11_loadWithin_44 : decode cX11_loadWithin 44 = .ok (.iload 4, 2) := by decide +kernel
theorem dX11_loadWithin_46 : decode cX11_loadWithin 46 = .ok (.imul, 1) := by decide +kernel
theorem dX11_loadWithin_47 : decode cX11_loadWithin 47 = .ok (.aload_n 0, 1) := by decide +kernel
theorem dX11_loadWithin_48 : decode cX11_loadWithin 48 = .ok (.getfield 10, 3) := by decide +kernel
theorem dX11_loadWithin_51 : decode cX11_loadWithin 51 = .ok (.getfield 91, 3) := by decide +kernel
theorem dX11_loadWithin_54 : decode cX11_loadWithin 54 = .ok (.imul, 1) := by decide +kernel
theorem dX11_loadWithin_55 : decode cX11_loadWithin 55 = .ok (.iadd, 1) := by decide +kernel
theorem dX11_loadWithin_56 : decode cX11_loadWithin 56 = .ok (.invokestatic 232, 3) := by decide +kernel
theorem dX11_loadWithin_59 : decode cX11_loadWithin 59 = .ok (.iload_n 3, 1) := by decide +kernel
theorem dX11_loadWithin_60 : decode cX11_loadWithin 60 = .ok (.invokevirtual 173, 3) := by decide +kernel
theorem dX11_loadWithin_63 : decode cX11_loadWithin 63 = .ok (.iload 5, 2) := by decide +kernel
theorem dX11_loadWithin_65 : decode cX11_loadWithin 65 = .ok (.if_icmp .gt 30, 3) := by decide +kernel
theorem dX11_loadWithin_68 : decode cX11_loadWithin 68 = .ok (.aload_n 0, 1) := by decide +kernel
theorem dX11_loadWithin_69 : decode cX11_loadWithin 69 = .ok (.getfield 10, 3) := by decide +kernel
theorem dX11_loadWithin_72 : decode cX11_loadWithin 72 = .ok (.aload_n 0, 1) := by decide +kernel
theorem dX11_loadWithin_73 : decode cX11_loadWithin 73 = .ok (.getfield 31, 3) := by decide +kernel
theorem dX11_loadWithin_76 : decode cX11_loadWithin 76 = .ok (.getfield 151, 3) := by decide +kernel
theorem dX11_loadWithin_79 : decode cX11_loadWithin 79 = .ok (.aload_n 0, 1) := by decide +kernel
theorem dX11_loadWithin_80 : decode cX11_loadWithin 80 = .ok (.getfield 31, 3) := by decide +kernel
theorem dX11_loadWithin_83 : decode cX11_loadWithin 83 = .ok (.getfield 154, 3) := by decide +kernel
theorem dX11_loadWithin_86 : decode cX11_loadWithin 86 = .ok (.invokevirtual 136, 3) := by decide +kernel
theorem dX11_loadWithin_89 : decode cX11_loadWithin 89 = .ok (.ifCond .ne 6, 3) := by decide +kernel
theorem dX11_loadWithin_92 : decode cX11_loadWithin 92 = .ok (.iinc 6 1, 3) := by decide +kernel
theorem dX11_loadWithin_95 : decode cX11_loadWithin 95 = .ok (.iinc 7 1, 3) := by decide +kernel
theorem dX11_loadWithin_98 : decode cX11_loadWithin 98 = .ok (.goto (-92), 3) := by decide +kernel
theorem dX11_loadWithin_101 : decode cX11_loadWithin 101 = .ok (.iload 6, 2) := by decide +kernel
theorem dX11_loadWithin_103 : decode cX11_loadWithin 103 = .ok (.ireturn, 1) := by decide +kernel
theorem dX11_goodBySeeds_0 : decode cX11_goodBySeeds 0 = .ok (.iconst 0, 1) := by decide +kernel
theorem dX11_goodBySeeds_1 : decode cX11_goodBySeeds 1 = .ok (.istore 8, 2) := by decide +kernel
theorem dX11_goodBySeeds_3 : decode cX11_goodBySeeds 3 = .ok (.iconst 0, 1) := by decide +kernel
theorem dX11_goodBySeeds_4 : decode cX11_goodBySeeds 4 = .ok (.istore 9, 2) := by decide +kernel
theorem dX11_goodBySeeds_6 : decode cX11_goodBySeeds 6 = .ok (.iload 9, 2) := by decide +kernel
theorem dX11_goodBySeeds_8 : decode cX11_goodBySeeds 8 = .ok (.iload 5, 2) := by decide +kernel
theorem dX11_goodBySeeds_10 : decode cX11_goodBySeeds 10 = .ok (.if_icmp .ge 55, 3) := by decide +kernel
theorem dX11_goodBySeeds_13 : decode cX11_goodBySeeds 13 = .ok (.aload_n 0, 1) := by decide +kernel
theorem dX11_goodBySeeds_14 : decode cX11_goodBySeeds 14 = .ok (.getfield 31, 3) := by decide +kernel
theorem dX11_goodBySeeds_17 : decode cX11_goodBySeeds 17 = .ok (.aload_n 1, 1) := by decide +kernel
theorem dX11_goodBySeeds_18 : decode cX11_goodBySeeds 18 = .ok (.iload_n 2, 1) := by decide +kernel
theorem dX11_goodBySeeds_19 : decode cX11_goodBySeeds 19 = .ok (.iload_n 3, 1) := by decide +kernel
theorem dX11_goodBySeeds_20 : decode cX11_goodBySeeds 20 = .ok (.iload 6, 2) := by decide +kernel
theorem dX11_goodBySeeds_22 : decode cX11_goodBySeeds 22 = .ok (.iload 9, 2) := by decide +kernel
theorem dX11_goodBySeeds_24 : decode cX11_goodBySeeds 24 = .ok (.iadd, 1) := by decide +kernel
theorem dX11_goodBySeeds_25 : decode cX11_goodBySeeds 25 = .ok (.invokevirtual 143, 3) := by decide +kernel
theorem dX11_goodBySeeds_28 : decode cX11_goodBySeeds 28 = .ok (.aload_n 0, 1) := by decide +kernel
theorem dX11_goodBySeeds_29 : decode cX11_goodBySeeds 29 = .ok (.getfield 31, 3) := by decide +kernel
theorem dX11_goodBySeeds_32 : decode cX11_goodBySeeds 32 = .ok (.iload 7, 2) := by decide +kernel
theorem dX11_goodBySeeds_34 : decode cX11_goodBySeeds 34 = .ok (.putfield 336, 3) := by decide +kernel
theorem dX11_goodBySeeds_37 : decode cX11_goodBySeeds 37 = .ok (.aload_n 0, 1) := by decide +kernel
theorem dX11_goodBySeeds_38 : decode cX11_goodBySeeds 38 = .ok (.getfield 31, 3) := by decide +kernel
theorem dX11_goodBySeeds_41 : decode cX11_goodBySeeds 41 = .ok (.invokevirtual 167, 3) := by decide +kernel
theorem dX11_goodBySeeds_44 : decode cX11_goodBySeeds 44 = .ok (.aload_n 0, 1) := by decide +kernel
theorem dX11_goodBySeeds_45 : decode cX11_goodBySeeds 45 = .ok (.getfield 31, 3) := by decide +kernel
theorem dX11_goodBySeeds_48 : decode cX11_goodBySeeds 48 = .ok (.invokevirtual 214, 3) := by decide +kernel
theorem dX11_goodBySeeds_51 : decode cX11_goodBySeeds 51 = .ok (.iload 4, 2) := by decide +kernel
theorem dX11_goodBySeeds_53 : decode cX11_goodBySeeds 53 = .ok (.if_icmp .gt 6, 3) := by decide +kernel
theorem dX11_goodBySeeds_56 : decode cX11_goodBySeeds 56 = .ok (.iinc 8 1, 3) := by decide +kernel
theorem dX11_goodBySeeds_59 : decode cX11_goodBySeeds 59 = .ok (.iinc 9 1, 3) := by decide +kernel
theorem dX11_goodBySeeds_62 : decode cX11_goodBySeeds 62 = .ok (.goto (-56), 3) := by decide +kernel
theorem dX11_goodBySeeds_65 : decode cX11_goodBySeeds 65 = .ok (.iload 8, 2) := by decide +kernel
theorem dX11_goodBySeeds_67 : decode cX11_goodBySeeds 67 = .ok (.ireturn, 1) := by decide +kernel
theorem dX11_tellOffs_0 : decode cX11_tellOffs 0 = .ok (.aload_n 1, 1) := by decide +kernel
theorem dX11_tellOffs_1 : decode cX11_tellOffs 1 = .ok (.getfield 189, 3) := by decide +kernel
theorem dX11_tellOffs_4 : decode cX11_tellOffs 4 = .ok (.iconst 5, 1) := by decide +kernel
theorem dX11_tellOffs_5 : decode cX11_tellOffs 5 = .ok (.invokestatic 196, 3) := by decide +kernel
theorem dX11_tellOffs_8 : decode cX11_tellOffs 8 = .ok (.istore 5, 2) := by decide +kernel
theorem dX11_tellOffs_10 : decode cX11_tellOffs 10 = .ok (.iconst 0, 1) := by decide +kernel
theorem dX11_tellOffs_11 : decode cX11_tellOffs 11 = .ok (.istore 6, 2) := by decide +kernel
theorem dX11_tellOffs_13 : decode cX11_tellOffs 13 = .ok (.iload 6, 2) := by decide +kernel
theorem dX11_tellOffs_15 : decode cX11_tellOffs 15 = .ok (.iload 5, 2) := by decide +kernel
theorem dX11_tellOffs_17 : decode cX11_tellOffs 17 = .ok (.if_icmp .ge 85, 3) := by decide +kernel
theorem dX11_tellOffs_20 : decode cX11_tellOffs 20 = .ok (.aload_n 0, 1) := by decide +kernel
theorem dX11_tellOffs_21 : decode cX11_tellOffs 21 = .ok (.getfield 10, 3) := by decide +kernel
theorem dX11_tellOffs_24 : decode cX11_tellOffs 24 = .ok (.aload_n 1, 1) := by decide +kernel
theorem dX11_tellOffs_25 : decode cX11_tellOffs 25 = .ok (.iload 6, 2) := by decide +kernel
theorem dX11_tellOffs_27 : decode cX11_tellOffs 27 = .ok (.invokevirtual 258, 3) := by decide +kernel
theorem dX11_tellOffs_30 : decode cX11_tellOffs 30 = .ok (.invokevirtual 97, 3) := by decide +kernel
theorem dX11_tellOffs_33 : decode cX11_tellOffs 33 = .ok (.astore 7, 2) := by decide +kernel
theorem dX11_tellOffs_35 : decode cX11_tellOffs 35 = .ok (.iconst 0, 1) := by decide +kernel
theorem dX11_tellOffs_36 : decode cX11_tellOffs 36 = .ok (.istore 8, 2) := by decide +kernel
theorem dX11_tellOffs_38 : decode cX11_tellOffs 38 = .ok (.iload 8, 2) := by decide +kernel
theorem dX11_tellOffs_40 : decode cX11_tellOffs 40 = .ok (.iload 5, 2) := by decide +kernel
theorem dX11_tellOffs_42 : decode cX11_tellOffs 42 = .ok (.if_icmp .ge 54, 3) := by decide +kernel
theorem dX11_tellOffs_45 : decode cX11_tellOffs 45 = .ok (.aload 7, 2) := by decide +kernel
theorem dX11_tellOffs_47 : decode cX11_tellOffs 47 = .ok (.ifnull 49, 3) := by decide +kernel
theorem dX11_tellOffs_50 : decode cX11_tellOffs 50 = .ok (.aload_n 0, 1) := by decide +kernel
theorem dX11_tellOffs_51 : decode cX11_tellOffs 51 = .ok (.getfield 44, 3) := by decide +kernel
theorem dX11_tellOffs_54 : decode cX11_tellOffs 54 = .ok (.iload 6, 2) := by decide +kernel
theorem dX11_tellOffs_56 : decode cX11_tellOffs 56 = .ok (.iconst 5, 1) := by decide +kernel
theorem dX11_tellOffs_57 : decode cX11_tellOffs 57 = .ok (.imul, 1) := by decide +kernel
theorem dX11_tellOffs_58 : decode cX11_tellOffs 58 = .ok (.iload 8, 2) := by decide +kernel
theorem dX11_tellOffs_60 : decode cX11_tellOffs 60 = .ok (.iadd, 1) := by decide +kernel
theorem dX11_tellOffs_61 : decode cX11_tellOffs 61 = .ok (.aload_n 0, 1) := by decide +kernel
theorem dX11_tellOffs_62 : decode cX11_tellOffs 62 = .ok (.getfield 31, 3) := by decide +kernel
theorem dX11_tellOffs_65 : decode cX11_tellOffs 65 = .ok (.aload 7, 2) := by decide +kernel
theorem dX11_tellOffs_67 : decode cX11_tellOffs 67 = .ok (.iload_n 2, 1) := by decide +kernel
theorem dX11_tellOffs_68 : decode cX11_tellOffs 68 = .ok (.iload 8, 2) := by decide +kernel
theorem dX11_tellOffs_70 : decode cX11_tellOffs 70 = .ok (.iload 4, 2) := by decide +kernel
theorem dX11_tellOffs_72 : decode cX11_tellOffs 72 = .ok (.imul, 1) := by decide +kernel
theorem dX11_tellOffs_73 : decode cX11_tellOffs 73 = .ok (.aload_n 0, 1) := by decide +kernel
theorem dX11_tellOffs_74 : decode cX11_tellOffs 74 = .ok (.getfield 10, 3) := by decide +kernel
theorem dX11_tellOffs_77 : decode cX11_tellOffs 77 = .ok (.getfield 91, 3) := by decide +kernel
theorem dX11_tellOffs_80 : decode cX11_tellOffs 80 = .ok (.imul, 1) := by decide +kernel
theorem dX11_tellOffs_81 : decode cX11_tellOffs 81 = .ok (.iadd, 1) := by decide +kernel
theorem dX11_tellOffs_82 : decode cX11_tellOffs 82 = .ok (.invokestatic 232, 3) := by decide +kernel
theorem dX11_tellOffs_85 : decode cX11_tellOffs 85 = .ok (.iload_n 3, 1) := by decide +kernel
theorem dX11_tellOffs_86 : decode cX11_tellOffs 86 = .ok (.invokevirtual 173, 3) := by decide +kernel
theorem dX11_tellOffs_89 : decode cX11_tellOffs 89 = .ok (.iastore, 1) := by decide +kernel
theorem dX11_tellOffs_90 : decode cX11_tellOffs 90 = .ok (.iinc 8 1, 3) := by decide +kernel
theorem dX11_tellOffs_93 : decode cX11_tellOffs 93 = .ok (.goto (-55), 3) := by decide +kernel
theorem dX11_tellOffs_96 : decode cX11_tellOffs 96 = .ok (.iinc 6 1, 3) := by decide +kernel
theorem dX11_tellOffs_99 : decode cX11_tellOffs 99 = .ok (.goto (-86), 3) := by decide +kernel
theorem dX11_tellOffs_102 : decode cX11_tellOffs 102 = .ok (.return_, 1) := by decide +kernel
theorem dX11_sumOfOrder_0 : decode cX11_sumOfOrder 0 = .ok (.iconst 0, 1) := by decide +kernel
theorem dX11_sumOfOrder_1 : decode cX11_sumOfOrder 1 = .ok (.istore_n 2, 1) := by decide +kernel
theorem dX11_sumOfOrder_2 : decode cX11_sumOfOrder 2 = .ok (.iconst 0, 1) := by decide +kernel
theorem dX11_sumOfOrder_3 : decode cX11_sumOfOrder 3 = .ok (.istore_n 3, 1) := by decide +kernel
theorem dX11_sumOfOrder_4 : decode cX11_sumOfOrder 4 = .ok (.iload_n 3, 1) := by decide +kernel
theorem dX11_sumOfOrder_5 : decode cX11_sumOfOrder 5 = .ok (.iload_n 1, 1) := by decide +kernel
theorem dX11_sumOfOrder_6 : decode cX11_sumOfOrder 6 = .ok (.if_icmp .ge 27, 3) := by decide +kernel
theorem dX11_sumOfOrder_9 : decode cX11_sumOfOrder 9 = .ok (.iload_n 2, 1) := by decide +kernel
theorem dX11_sumOfOrder_10 : decode cX11_sumOfOrder 10 = .ok (.aload_n 0, 1) := by decide +kernel
theorem dX11_sumOfOrder_11 : decode cX11_sumOfOrder 11 = .ok (.getfield 44, 3) := by decide +kernel
theorem dX11_sumOfOrder_14 : decode cX11_sumOfOrder 14 = .ok (.aload_n 0, 1) := by decide +kernel
theorem dX11_sumOfOrder_15 : decode cX11_sumOfOrder 15 = .ok (.getfield 48, 3) := by decide +kernel
theorem dX11_sumOfOrder_18 : decode cX11_sumOfOrder 18 = .ok (.iload_n 3, 1) := by decide +kernel
theorem dX11_sumOfOrder_19 : decode cX11_sumOfOrder 19 = .ok (.iaload, 1) := by decide +kernel
theorem dX11_sumOfOrder_20 : decode cX11_sumOfOrder 20 = .ok (.iconst 5, 1) := by decide +kernel
theorem dX11_sumOfOrder_21 : decode cX11_sumOfOrder 21 = .ok (.imul, 1) := by decide +kernel
theorem dX11_sumOfOrder_22 : decode cX11_sumOfOrder 22 = .ok (.iload_n 3, 1) := by decide +kernel
theorem dX11_sumOfOrder_23 : decode cX11_sumOfOrder 23 = .ok (.iadd, 1) := by decide +kernel
theorem dX11_sumOfOrder_24 : decode cX11_sumOfOrder 24 = .ok (.iaload, 1) := by decide +kernel
theorem dX11_sumOfOrder_25 : decode cX11_sumOfOrder 25 = .ok (.iadd, 1) := by decide +kernel
theorem dX11_sumOfOrder_26 : decode cX11_sumOfOrder 26 = .ok (.istore_n 2, 1) := by decide +kernel
theorem dX11_sumOfOrder_27 : decode cX11_sumOfOrder 27 = .ok (.iinc 3 1, 3) := by decide +kernel
theorem dX11_sumOfOrder_30 : decode cX11_sumOfOrder 30 = .ok (.goto (-26), 3) := by decide +kernel
theorem dX11_sumOfOrder_33 : decode cX11_sumOfOrder 33 = .ok (.iload_n 2, 1) := by decide +kernel
theorem dX11_sumOfOrder_34 : decode cX11_sumOfOrder 34 = .ok (.ireturn, 1) := by decide +kernel
theorem dX11_digitsOfOrder_0 : decode cX11_digitsOfOrder 0 = .ok (.iconst 0, 1) := by decide +kernel
theorem dX11_digitsOfOrder_1 : decode cX11_digitsOfOrder 1 = .ok (.istore_n 2, 1) := by decide +kernel
theorem dX11_digitsOfOrder_2 : decode cX11_digitsOfOrder 2 = .ok (.iconst 1, 1) := by decide +kernel
theorem dX11_digitsOfOrder_3 : decode cX11_digitsOfOrder 3 = .ok (.istore_n 3, 1) := by decide +kernel
theorem dX11_digitsOfOrder_4 : decode cX11_digitsOfOrder 4 = .ok (.iconst 0, 1) := by decide +kernel
theorem dX11_digitsOfOrder_5 : decode cX11_digitsOfOrder 5 = .ok (.istore 4, 2) := by decide +kernel
theorem dX11_digitsOfOrder_7 : decode cX11_digitsOfOrder 7 = .ok (.iload 4, 2) := by decide +kernel
theorem dX11_digitsOfOrder_9 : decode cX11_digitsOfOrder 9 = .ok (.iload_n 1, 1) := by decide +kernel
theorem dX11_digitsOfOrder_10 : decode cX11_digitsOfOrder 10 = .ok (.if_icmp .ge 26, 3) := by decide +kernel
theorem dX11_digitsOfOrder_13 : decode cX11_digitsOfOrder 13 = .ok (.iload_n 2, 1) := by decide +kernel
theorem dX11_digitsOfOrder_14 : decode cX11_digitsOfOrder 14 = .ok (.aload_n 0, 1) := by decide +kernel
theorem dX11_digitsOfOrder_15 : decode cX11_digitsOfOrder 15 = .ok (.getfield 48, 3) := by decide +kernel
theorem dX11_digitsOfOrder_18 : decode cX11_digitsOfOrder 18 = .ok (.iload 4, 2) := by decide +kernel
theorem dX11_digitsOfOrder_20 : decode cX11_digitsOfOrder 20 = .ok (.iaload, 1) := by decide +kernel
theorem dX11_digitsOfOrder_21 : decode cX11_digitsOfOrder 21 = .ok (.iload_n 3, 1) := by decide +kernel
theorem dX11_digitsOfOrder_22 : decode cX11_digitsOfOrder 22 = .ok (.imul, 1) := by decide +kernel
theorem dX11_digitsOfOrder_23 : decode cX11_digitsOfOrder 23 = .ok (.iadd, 1) := by decide +kernel
theorem dX11_digitsOfOrder_24 : decode cX11_digitsOfOrder 24 = .ok (.istore_n 2, 1) := by decide +kernel
theorem dX11_digitsOfOrder_25 : decode cX11_digitsOfOrder 25 = .ok (.iload_n 3, 1) := by decide +kernel
theorem dX11_digitsOfOrder_26 : decode cX11_digitsOfOrder 26 = .ok (.bipush 10, 2) := by decide +kernel
theorem dX11_digitsOfOrder_28 : decode cX11_digitsOfOrder 28 = .ok (.imul, 1) := by decide +kernel
theorem dX11_digitsOfOrder_29 : decode cX11_digitsOfOrder 29 = .ok (.istore_n 3, 1) := by decide +kernel
theorem dX11_digitsOfOrder_30 : decode cX11_digitsOfOrder 30 = .ok (.iinc 4 1, 3) := by decide +kernel
theorem dX11_digitsOfOrder_33 : decode cX11_digitsOfOrder 33 = .ok (.goto (-26), 3) := by decide +kernel
theorem dX11_digitsOfOrder_36 : decode cX11_digitsOfOrder 36 = .ok (.iload_n 2, 1) := by decide +kernel
theorem dX11_digitsOfOrder_37 : decode cX11_digitsOfOrder 37 = .ok (.ireturn, 1) := by decide +kernel
theorem dX11_nextOrder_0 : decode cX11_nextOrder 0 = .ok (.iload_n 1, 1) := by decide +kernel
theorem dX11_nextOrder_1 : decode cX11_nextOrder 1 = .ok (.iconst 2, 1) := by decide +kernel
theorem dX11_nextOrder_2 : decode cX11_nextOrder 2 = .ok (.isub, 1) := by decide +kernel
theorem dX11_nextOrder_3 : decode cX11_nextOrder 3 = .ok (.istore_n 2, 1) := by decide +kernel
theorem dX11_nextOrder_4 : decode cX11_nextOrder 4 = .ok (.iload_n 2, 1) := by decide +kernel
theorem dX11_nextOrder_5 : decode cX11_nextOrder 5 = .ok (.ifCond .lt 26, 3) := by decide +kernel
theorem dX11_nextOrder_8 : decode cX11_nextOrder 8 = .ok (.aload_n 0, 1) := by decide +kernel
theorem dX11_nextOrder_9 : decode cX11_nextOrder 9 = .ok (.getfield 48, 3) := by decide +kernel
theorem dX11_nextOrder_12 : decode cX11_nextOrder 12 = .ok (.iload_n 2, 1) := by decide +kernel
theorem dX11_nextOrder_13 : decode cX11_nextOrder 13 = .ok (.iaload, 1) := by decide +kernel
theorem dX11_nextOrder_14 : decode cX11_nextOrder 14 = .ok (.aload_n 0, 1) := by decide +kernel
theorem dX11_nextOrder_15 : decode cX11_nextOrder 15 = .ok (.getfield 48, 3) := by decide +kernel
theorem dX11_nextOrder_18 : decode cX11_nextOrder 18 = .ok (.iload_n 2, 1) := by decide +kernel
theorem dX11_nextOrder_19 : decode cX11_nextOrder 19 = .ok (.iconst 1, 1) := by decide +kernel
theorem dX11_nextOrder_20 : decode cX11_nextOrder 20 = .ok (.iadd, 1) := by decide +kernel
theorem dX11_nextOrder_21 : decode cX11_nextOrder 21 = .ok (.iaload, 1) := by decide +kernel
theorem dX11_nextOrder_22 : decode cX11_nextOrder 22 = .ok (.if_icmp .le 9, 3) := by decide +kernel
theorem dX11_nextOrder_25 : decode cX11_nextOrder 25 = .ok (.iinc 2 (-1), 3) := by decide +kernel
theorem dX11_nextOrder_28 : decode cX11_nextOrder 28 = .ok (.goto (-24), 3) := by decide +kernel
theorem dX11_nextOrder_31 : decode cX11_nextOrder 31 = .ok (.iload_n 2, 1) := by decide +kernel
theorem dX11_nextOrder_32 : decode cX11_nextOrder 32 = .ok (.ifCond .ge 5, 3) := by decide +kernel
theorem dX11_nextOrder_35 : decode cX11_nextOrder 35 = .ok (.iconst 0, 1) := by decide +kernel
theorem dX11_nextOrder_36 : decode cX11_nextOrder 36 = .ok (.ireturn, 1) := by decide +kernel
theorem dX11_nextOrder_37 : decode cX11_nextOrder 37 = .ok (.iload_n 2, 1) := by decide +kernel
theorem dX11_nextOrder_38 : decode cX11_nextOrder 38 = .ok (.iconst 1, 1) := by decide +kernel
theorem dX11_nextOrder_39 : decode cX11_nextOrder 39 = .ok (.iadd, 1) := by decide +kernel
theorem dX11_nextOrder_40 : decode cX11_nextOrder 40 = .ok (.istore_n 3, 1) := by decide +kernel
theorem dX11_nextOrder_41 : decode cX11_nextOrder 41 = .ok (.iload_n 2, 1) := by decide +kernel
theorem dX11_nextOrder_42 : decode cX11_nextOrder 42 = .ok (.iconst 2, 1) := by decide +kernel
theorem dX11_nextOrder_43 : decode cX11_nextOrder 43 = .ok (.iadd, 1) := by decide +kernel
theorem dX11_nextOrder_44 : decode cX11_nextOrder 44 = .ok (.istore 4, 2) := by decide +kernel
theorem dX11_nextOrder_46 : decode cX11_nextOrder 46 = .ok (.iload 4, 2) := by decide +kernel
theorem dX11_nextOrder_48 : decode cX11_nextOrder 48 = .ok (.iload_n 1, 1) := by decide +kernel
theorem dX11_nextOrder_49 : decode cX11_nextOrder 49 = .ok (.if_icmp .ge 28, 3) := by decide +kernel
theorem dX11_nextOrder_52 : decode cX11_nextOrder 52 = .ok (.aload_n 0, 1) := by decide +kernel
theorem dX11_nextOrder_53 : decode cX11_nextOrder 53 = .ok (.getfield 48, 3) := by decide +kernel
theorem dX11_nextOrder_56 : decode cX11_nextOrder 56 = .ok (.iload 4, 2) := by decide +kernel
theorem dX11_nextOrder_58 : decode cX11_nextOrder 58 = .ok (.iaload, 1) := by decide +kernel
theorem dX11_nextOrder_59 : decode cX11_nextOrder 59 = .ok (.aload_n 0, 1) := by decide +kernel
theorem dX11_nextOrder_60 : decode cX11_nextOrder 60 = .ok (.getfield 48, 3) := by decide +kernel
theorem dX11_nextOrder_63 : decode cX11_nextOrder 63 = .ok (.iload_n 2, 1) := by decide +kernel
theorem dX11_nextOrder_64 : decode cX11_nextOrder 64 = .ok (.iaload, 1) := by decide +kernel
theorem dX11_nextOrder_65 : decode cX11_nextOrder 65 = .ok (.if_icmp .le 6, 3) := by decide +kernel
theorem dX11_nextOrder_68 : decode cX11_nextOrder 68 = .ok (.iload 4, 2) := by decide +kernel
theorem dX11_nextOrder_70 : decode cX11_nextOrder 70 = .ok (.istore_n 3, 1) := by decide +kernel
theorem dX11_nextOrder_71 : decode cX11_nextOrder 71 = .ok (.iinc 4 1, 3) := by decide +kernel
theorem dX11_nextOrder_74 : decode cX11_nextOrder 74 = .ok (.goto (-28), 3) := by decide +kernel
theorem dX11_nextOrder_77 : decode cX11_nextOrder 77 = .ok (.aload_n 0, 1) := by decide +kernel
theorem dX11_nextOrder_78 : decode cX11_nextOrder 78 = .ok (.iload_n 2, 1) := by decide +kernel
theorem dX11_nextOrder_79 : decode cX11_nextOrder 79 = .ok (.iload_n 3, 1) := by decide +kernel
theorem dX11_nextOrder_80 : decode cX11_nextOrder 80 = .ok (.invokevirtual 337, 3) := by decide +kernel
theorem dX11_nextOrder_83 : decode cX11_nextOrder 83 = .ok (.iload_n 2, 1) := by decide +kernel
theorem dX11_nextOrder_84 : decode cX11_nextOrder 84 = .ok (.iconst 1, 1) := by decide +kernel
theorem dX11_nextOrder_85 : decode cX11_nextOrder 85 = .ok (.iadd, 1) := by decide +kernel
theorem dX11_nextOrder_86 : decode cX11_nextOrder 86 = .ok (.istore 4, 2) := by decide +kernel
theorem dX11_nextOrder_88 : decode cX11_nextOrder 88 = .ok (.iload_n 1, 1) := by decide +kernel
theorem dX11_nextOrder_89 : decode cX11_nextOrder 89 = .ok (.iconst 1, 1) := by decide +kernel
theorem dX11_nextOrder_90 : decode cX11_nextOrder 90 = .ok (.isub, 1) := by decide +kernel
theorem dX11_nextOrder_91 : decode cX11_nextOrder 91 = .ok (.istore 5, 2) := by decide +kernel
theorem dX11_nextOrder_93 : decode cX11_nextOrder 93 = .ok (.iload 4, 2) := by decide +kernel
theorem dX11_nextOrder_95 : decode cX11_nextOrder 95 = .ok (.iload 5, 2) := by decide +kernel
theorem dX11_nextOrder_97 : decode cX11_nextOrder 97 = .ok (.if_icmp .ge 20, 3) := by decide +kernel
theorem dX11_nextOrder_100 : decode cX11_nextOrder 100 = .ok (.aload_n 0, 1) := by decide +kernel
theorem dX11_nextOrder_101 : decode cX11_nextOrder 101 = .ok (.iload 4, 2) := by decide +kernel
theorem dX11_nextOrder_103 : decode cX11_nextOrder 103 = .ok (.iload 5, 2) := by decide +kernel
theorem dX11_nextOrder_105 : decode cX11_nextOrder 105 = .ok (.invokevirtual 337, 3) := by decide +kernel
theorem dX11_nextOrder_108 : decode cX11_nextOrder 108 = .ok (.iinc 4 1, 3) := by decide +kernel
theorem dX11_nextOrder_111 : decode cX11_nextOrder 111 = .ok (.iinc 5 (-1), 3) := by decide +kernel
theorem dX11_nextOrder_114 : decode cX11_nextOrder 114 = .ok (.goto (-21), 3) := by decide +kernel
theorem dX11_nextOrder_117 : decode cX11_nextOrder 117 = .ok (.iconst 1, 1) := by decide +kernel
theorem dX11_nextOrder_118 : decode cX11_nextOrder 118 = .ok (.ireturn, 1) := by decide +kernel
theorem dX11_swapPlaces_0 : decode cX11_swapPlaces 0 = .ok (.aload_n 0, 1) := by decide +kernel
theorem dX11_swapPlaces_1 : decode cX11_swapPlaces 1 = .ok (.getfield 48, 3) := by decide +kernel
theorem dX11_swapPlaces_4 : decode cX11_swapPlaces 4 = .ok (.iload_n 1, 1) := by decide +kernel
theorem dX11_swapPlaces_5 : decode cX11_swapPlaces 5 = .ok (.iaload, 1) := by decide +kernel
theorem dX11_swapPlaces_6 : decode cX11_swapPlaces 6 = .ok (.istore_n 3, 1) := by decide +kernel
theorem dX11_swapPlaces_7 : decode cX11_swapPlaces 7 = .ok (.aload_n 0, 1) := by decide +kernel
theorem dX11_swapPlaces_8 : decode cX11_swapPlaces 8 = .ok (.getfield 48, 3) := by decide +kernel
theorem dX11_swapPlaces_11 : decode cX11_swapPlaces 11 = .ok (.iload_n 1, 1) := by decide +kernel
theorem dX11_swapPlaces_12 : decode cX11_swapPlaces 12 = .ok (.aload_n 0, 1) := by decide +kernel
theorem dX11_swapPlaces_13 : decode cX11_swapPlaces 13 = .ok (.getfield 48, 3) := by decide +kernel
theorem dX11_swapPlaces_16 : decode cX11_swapPlaces 16 = .ok (.iload_n 2, 1) := by decide +kernel
theorem dX11_swapPlaces_17 : decode cX11_swapPlaces 17 = .ok (.iaload, 1) := by decide +kernel
theorem dX11_swapPlaces_18 : decode cX11_swapPlaces 18 = .ok (.iastore, 1) := by decide +kernel
theorem dX11_swapPlaces_19 : decode cX11_swapPlaces 19 = .ok (.aload_n 0, 1) := by decide +kernel
theorem dX11_swapPlaces_20 : decode cX11_swapPlaces 20 = .ok (.getfield 48, 3) := by decide +kernel
theorem dX11_swapPlaces_23 : decode cX11_swapPlaces 23 = .ok (.iload_n 2, 1) := by decide +kernel
theorem dX11_swapPlaces_24 : decode cX11_swapPlaces 24 = .ok (.iload_n 3, 1) := by decide +kernel
theorem dX11_swapPlaces_25 : decode cX11_swapPlaces 25 = .ok (.iastore, 1) := by decide +kernel
theorem dX11_swapPlaces_26 : decode cX11_swapPlaces 26 = .ok (.return_, 1) := by decide +kernel
theorem dX11_eastOfWay_0 : decode cX11_eastOfWay 0 = .ok (.iload_n 0, 1) := by decide +kernel
theorem dX11_eastOfWay_1 : decode cX11_eastOfWay 1 = .ok (.tableswitch 51 1 8 #[47, 49, 51, 51, 47, 49, 47, 49], 47) := by decide +kernel
theorem dX11_eastOfWay_48 : decode cX11_eastOfWay 48 = .ok (.iconst 1, 1) := by decide +kernel
theorem dX11_eastOfWay_49 : decode cX11_eastOfWay 49 = .ok (.ireturn, 1) := by decide +kernel
theorem dX11_eastOfWay_50 : decode cX11_eastOfWay 50 = .ok (.iconst (-1), 1) := by decide +kernel
theorem dX11_eastOfWay_51 : decode cX11_eastOfWay 51 = .ok (.ireturn, 1) := by decide +kernel
theorem dX11_eastOfWay_52 : decode cX11_eastOfWay 52 = .ok (.iconst 0, 1) := by decide +kernel
theorem dX11_eastOfWay_53 : decode cX11_eastOfWay 53 = .ok (.ireturn, 1) := by decide +kernel
theorem dX11_northOfWay_0 : decode cX11_northOfWay 0 = .ok (.iload_n 0, 1) := by decide +kernel
theorem dX11_northOfWay_1 : decode cX11_northOfWay 1 = .ok (.tableswitch 43 3 8 #[39, 41, 39, 39, 41, 41], 39) := by decide +kernel
theorem dX11_northOfWay_40 : decode cX11_northOfWay 40 = .ok (.iconst 1, 1) := by decide +kernel
theorem dX11_northOfWay_41 : decode cX11_northOfWay 41 = .ok (.ireturn, 1) := by decide +kernel
theorem dX11_northOfWay_42 : decode cX11_northOfWay 42 = .ok (.iconst (-1), 1) := by decide +kernel
theorem dX11_northOfWay_43 : decode cX11_northOfWay 43 = .ok (.ireturn, 1) := by decide +kernel
theorem dX11_northOfWay_44 : decode cX11_northOfWay 44 = .ok (.iconst 0, 1) := by decide +kernel
theorem dX11_northOfWay_45 : decode cX11_northOfWay 45 = .ok (.ireturn, 1) := by decide +kernel
theorem dJ6_signum_0f7a4_0 : decode cJ6_signum_0f7a4 0 = .ok (.iload_n 0, 1) := by decide +kernel
theorem dJ6_signum_0f7a4_1 : decode cJ6_signum_0f7a4 1 = .ok (.bipush 31, 2) := by decide +kernel
theorem dJ6_signum_0f7a4_3 : decode cJ6_signum_0f7a4 3 = .ok (.ishr, 1) := by decide +kernel
theorem dJ6_signum_0f7a4_4 : decode cJ6_signum_0f7a4 4 = .ok (.iload_n 0, 1) := by decide +kernel
theorem dJ6_signum_0f7a4_5 : decode cJ6_signum_0f7a4 5 = .ok (.ineg, 1) := by decide +kernel
theorem dJ6_signum_0f7a4_6 : decode cJ6_signum_0f7a4 6 = .ok (.bipush 31, 2) := by decide +kernel
theorem dJ6_signum_0f7a4_8 : decode cJ6_signum_0f7a4 8 = .ok (.iushr, 1) := by decide +kernel
theorem dJ6_signum_0f7a4_9 : decode cJ6_signum_0f7a4 9 = .ok (.ior, 1) := by decide +kernel
theorem dJ6_signum_0f7a4_10 : decode cJ6_signum_0f7a4 10 = .ok (.ireturn, 1) := by decide +kernel
theorem dJ9_abs_0f7a4_0 : decode cJ9_abs_0f7a4 0 = .ok (.iload_n 0, 1) := by decide +kernel
theorem dJ9_abs_0f7a4_1 : decode cJ9_abs_0f7a4 1 = .ok (.ifCond .ge 8, 3) := by decide +kernel
theorem dJ9_abs_0f7a4_4 : decode cJ9_abs_0f7a4 4 = .ok (.iload_n 0, 1) := by decide +kernel
theorem dJ9_abs_0f7a4_5 : decode cJ9_abs_0f7a4 5 = .ok (.ineg, 1) := by decide +kernel
theorem dJ9_abs_0f7a4_6 : decode cJ9_abs_0f7a4 6 = .ok (.goto 4, 3) := by decide +kernel
theorem dJ9_abs_0f7a4_9 : decode cJ9_abs_0f7a4 9 = .ok (.iload_n 0, 1) := by decide +kernel
theorem dJ9_abs_0f7a4_10 : decode cJ9_abs_0f7a4 10 = .ok (.ireturn, 1) := by decide +kernel
theorem dJ9_max_7cf53_0 : decode cJ9_max_7cf53 0 = .ok (.iload_n 0, 1) := by decide +kernel
theorem dJ9_max_7cf53_1 : decode cJ9_max_7cf53 1 = .ok (.iload_n 1, 1) := by decide +kernel
theorem dJ9_max_7cf53_2 : decode cJ9_max_7cf53 2 = .ok (.if_icmp .lt 7, 3) := by decide +kernel
theorem dJ9_max_7cf53_5 : decode cJ9_max_7cf53 5 = .ok (.iload_n 0, 1) := by decide +kernel
theorem dJ9_max_7cf53_6 : decode cJ9_max_7cf53 6 = .ok (.goto 4, 3) := by decide +kernel
theorem dJ9_max_7cf53_9 : decode cJ9_max_7cf53 9 = .ok (.iload_n 1, 1) := by decide +kernel
theorem dJ9_max_7cf53_10 : decode cJ9_max_7cf53 10 = .ok (.ireturn, 1) := by decide +kernel
theorem dJ9_min_7cf53_0 : decode cJ9_min_7cf53 0 = .ok (.iload_n 0, 1) := by decide +kernel
theorem dJ9_min_7cf53_1 : decode cJ9_min_7cf53 1 = .ok (.iload_n 1, 1) := by decide +kernel
theorem dJ9_min_7cf53_2 : decode cJ9_min_7cf53 2 = .ok (.if_icmp .gt 7, 3) := by decide +kernel
theorem dJ9_min_7cf53_5 : decode cJ9_min_7cf53 5 = .ok (.iload_n 0, 1) := by decide +kernel
theorem dJ9_min_7cf53_6 : decode cJ9_min_7cf53 6 = .ok (.goto 4, 3) := by decide +kernel
theorem dJ9_min_7cf53_9 : decode cJ9_min_7cf53 9 = .ok (.iload_n 1, 1) := by decide +kernel
theorem dJ9_min_7cf53_10 : decode cJ9_min_7cf53 10 = .ok (.ireturn, 1) := by decide +kernel
theorem dJ0_length_8abf5_0 : decode cJ0_length_8abf5 0 = .ok (.aload_n 0, 1) := by decide +kernel
theorem dJ0_length_8abf5_1 : decode cJ0_length_8abf5 1 = .ok (.getfield 9, 3) := by decide +kernel
theorem dJ0_length_8abf5_4 : decode cJ0_length_8abf5 4 = .ok (.arraylength, 1) := by decide +kernel
theorem dJ0_length_8abf5_5 : decode cJ0_length_8abf5 5 = .ok (.aload_n 0, 1) := by decide +kernel
theorem dJ0_length_8abf5_6 : decode cJ0_length_8abf5 6 = .ok (.invokevirtual 335, 3) := by decide +kernel
theorem dJ0_length_8abf5_9 : decode cJ0_length_8abf5 9 = .ok (.ishr, 1) := by decide +kernel
theorem dJ0_length_8abf5_10 : decode cJ0_length_8abf5 10 = .ok (.ireturn, 1) := by decide +kernel
theorem dJ0_isEmpty_aae02_0 : decode cJ0_isEmpty_aae02 0 = .ok (.aload_n 0, 1) := by decide +kernel
theorem dJ0_isEmpty_aae02_1 : decode cJ0_isEmpty_aae02 1 = .ok (.getfield 9, 3) := by decide +kernel
theorem dJ0_isEmpty_aae02_4 : decode cJ0_isEmpty_aae02 4 = .ok (.arraylength, 1) := by decide +kernel
theorem dJ0_isEmpty_aae02_5 : decode cJ0_isEmpty_aae02 5 = .ok (.ifCond .ne 7, 3) := by decide +kernel
theorem dJ0_isEmpty_aae02_8 : decode cJ0_isEmpty_aae02 8 = .ok (.iconst 1, 1) := by decide +kernel
theorem dJ0_isEmpty_aae02_9 : decode cJ0_isEmpty_aae02 9 = .ok (.goto 4, 3) := by decide +kernel
theorem dJ0_isEmpty_aae02_12 : decode cJ0_isEmpty_aae02 12 = .ok (.iconst 0, 1) := by decide +kernel
theorem dJ0_isEmpty_aae02_13 : decode cJ0_isEmpty_aae02 13 = .ok (.ireturn, 1) := by decide +kernel
theorem dJ0_charAt_5068e_0 : decode cJ0_charAt_5068e 0 = .ok (.aload_n 0, 1) := by decide +kernel
theorem dJ0_charAt_5068e_1 : decode cJ0_charAt_5068e 1 = .ok (.invokevirtual 492, 3) := by decide +kernel
theorem dJ0_charAt_5068e_4 : decode cJ0_charAt_5068e 4 = .ok (.ifCond .eq 12, 3) := by decide +kernel
theorem dJ0_charAt_5068e_7 : decode cJ0_charAt_5068e 7 = .ok (.aload_n 0, 1) := by decide +kernel
theorem dJ0_charAt_5068e_8 : decode cJ0_charAt_5068e 8 = .ok (.getfield 9, 3) := by decide +kernel
theorem dJ0_charAt_5068e_11 : decode cJ0_charAt_5068e 11 = .ok (.iload_n 1, 1) := by decide +kernel
theorem dJ0_charAt_5068e_12 : decode cJ0_charAt_5068e 12 = .ok (.invokestatic 495, 3) := by decide +kernel
theorem dJ0_charAt_5068e_15 : decode cJ0_charAt_5068e 15 = .ok (.ireturn, 1) := by decide +kernel
theorem dJ0_charAt_5068e_16 : decode cJ0_charAt_5068e 16 = .ok (.aload_n 0, 1) := by decide +kernel
theorem dJ0_charAt_5068e_17 : decode cJ0_charAt_5068e 17 = .ok (.getfield 9, 3) := by decide +kernel
theorem dJ0_charAt_5068e_20 : decode cJ0_charAt_5068e 20 = .ok (.iload_n 1, 1) := by decide +kernel
theorem dJ0_charAt_5068e_21 : decode cJ0_charAt_5068e 21 = .ok (.invokestatic 498, 3) := by decide +kernel
theorem dJ0_charAt_5068e_24 : decode cJ0_charAt_5068e 24 = .ok (.ireturn, 1) := by decide +kernel
theorem dJ0_coder_7d493_0 : decode cJ0_coder_7d493 0 = .ok (.getstatic 38, 3) := by decide +kernel
theorem dJ0_coder_7d493_3 : decode cJ0_coder_7d493 3 = .ok (.ifCond .eq 10, 3) := by decide +kernel
theorem dJ0_coder_7d493_6 : decode cJ0_coder_7d493 6 = .ok (.aload_n 0, 1) := by decide +kernel
theorem dJ0_coder_7d493_7 : decode cJ0_coder_7d493 7 = .ok (.getfield 15, 3) := by decide +kernel
theorem dJ0_coder_7d493_10 : decode cJ0_coder_7d493 10 = .ok (.goto 4, 3) := by decide +kernel
theorem dJ0_coder_7d493_13 : decode cJ0_coder_7d493 13 = .ok (.iconst 1, 1) := by decide +kernel
theorem dJ0_coder_7d493_14 : decode cJ0_coder_7d493 14 = .ok (.ireturn, 1) := by decide +kernel
theorem dJ0_isLatin1_aae02_0 : decode cJ0_isLatin1_aae02 0 = .ok (.getstatic 38, 3) := by decide +kernel
theorem dJ0_isLatin1_aae02_3 : decode cJ0_isLatin1_aae02 3 = .ok (.ifCond .eq 14, 3) := by decide +kernel
theorem dJ0_isLatin1_aae02_6 : decode cJ0_isLatin1_aae02 6 = .ok (.aload_n 0, 1) := by decide +kernel
theorem dJ0_isLatin1_aae02_7 : decode cJ0_isLatin1_aae02 7 = .ok (.getfield 15, 3) := by decide +kernel
theorem dJ0_isLatin1_aae02_10 : decode cJ0_isLatin1_aae02 10 = .ok (.ifCond .ne 7, 3) := by decide +kernel
theorem dJ0_isLatin1_aae02_13 : decode cJ0_isLatin1_aae02 13 = .ok (.iconst 1, 1) := by decide +kernel
theorem dJ0_isLatin1_aae02_14 : decode cJ0_isLatin1_aae02 14 = .ok (.goto 4, 3) := by decide +kernel
theorem dJ0_isLatin1_aae02_17 : decode cJ0_isLatin1_aae02 17 = .ok (.iconst 0, 1) := by decide +kernel
theorem dJ0_isLatin1_aae02_18 : decode cJ0_isLatin1_aae02 18 = .ok (.ireturn, 1) := by decide +kernel
theorem dJ0_checkIndex_df160_0 : decode cJ0_checkIndex_df160 0 = .ok (.iload_n 0, 1) := by decide +kernel
theorem dJ0_checkIndex_df160_1 : decode cJ0_checkIndex_df160 1 = .ok (.iload_n 1, 1) := by decide +kernel
theorem dJ0_checkIndex_df160_2 : decode cJ0_checkIndex_df160 2 = .ok (.getstatic 1053, 3) := by decide +kernel
theorem dJ0_checkIndex_df160_5 : decode cJ0_checkIndex_df160 5 = .ok (.invokestatic 1059, 3) := by decide +kernel
theorem dJ0_checkIndex_df160_8 : decode cJ0_checkIndex_df160 8 = .ok (.pop, 1) := by decide +kernel
theorem dJ0_checkIndex_df160_9 : decode cJ0_checkIndex_df160 9 = .ok (.return_, 1) := by decide +kernel
theorem dJ1_charAt_3b067_0 : decode cJ1_charAt_3b067 0 = .ok (.iload_n 1, 1) := by decide +kernel
theorem dJ1_charAt_3b067_1 : decode cJ1_charAt_3b067 1 = .ok (.aload_n 0, 1) := by decide +kernel
theorem dJ1_charAt_3b067_2 : decode cJ1_charAt_3b067 2 = .ok (.arraylength, 1) := by decide +kernel
theorem dJ1_charAt_3b067_3 : decode cJ1_charAt_3b067 3 = .ok (.invokestatic 9, 3) := by decide +kernel
theorem dJ1_charAt_3b067_6 : decode cJ1_charAt_3b067 6 = .ok (.aload_n 0, 1) := by decide +kernel
theorem dJ1_charAt_3b067_7 : decode cJ1_charAt_3b067 7 = .ok (.iload_n 1, 1) := by decide +kernel
theorem dJ1_charAt_3b067_8 : decode cJ1_charAt_3b067 8 = .ok (.baload, 1) := by decide +kernel
theorem dJ1_charAt_3b067_9 : decode cJ1_charAt_3b067 9 = .ok (.sipush 255, 3) := by decide +kernel
theorem dJ1_charAt_3b067_12 : decode cJ1_charAt_3b067 12 = .ok (.iand, 1) := by decide +kernel
theorem dJ1_charAt_3b067_13 : decode cJ1_charAt_3b067 13 = .ok (.i2c, 1) := by decide +kernel
theorem dJ1_charAt_3b067_14 : decode cJ1_charAt_3b067 14 = .ok (.ireturn, 1) := by decide +kernel
theorem dJ2_getChar_3b067_0 : decode cJ2_getChar_3b067 0 = .ok (.getstatic 44, 3) := by decide +kernel
theorem dJ2_getChar_3b067_3 : decode cJ2_getChar_3b067 3 = .ok (.ifCond .ne 25, 3) := by decide +kernel
theorem dJ2_getChar_3b067_6 : decode cJ2_getChar_3b067 6 = .ok (.iload_n 1, 1) := by decide +kernel
theorem dJ2_getChar_3b067_7 : decode cJ2_getChar_3b067 7 = .ok (.ifCond .lt 11, 3) := by decide +kernel
theorem dJ2_getChar_3b067_10 : decode cJ2_getChar_3b067 10 = .ok (.iload_n 1, 1) := by decide +kernel
theorem dJ2_getChar_3b067_11 : decode cJ2_getChar_3b067 11 = .ok (.aload_n 0, 1) := by decide +kernel
theorem dJ2_getChar_3b067_12 : decode cJ2_getChar_3b067 12 = .ok (.invokestatic 48, 3) := by decide +kernel
theorem dJ2_getChar_3b067_15 : decode cJ2_getChar_3b067 15 = .ok (.if_icmp .lt 13, 3) := by decide +kernel
theorem dJ2_getChar_3b067_18 : decode cJ2_getChar_3b067 18 = .ok (.new 52, 3) := by decide +kernel
theorem dJ2_getChar_3b067_21 : decode cJ2_getChar_3b067 21 = .ok (.dup, 1) := by decide +kernel
theorem dJ2_getChar_3b067_22 : decode cJ2_getChar_3b067 22 = .ok (.ldc 54, 2) := by decide +kernel
theorem dJ2_getChar_3b067_24 : decode cJ2_getChar_3b067 24 = .ok (.invokespecial 56, 3) := by decide +kernel
theorem dJ2_getChar_3b067_27 : decode cJ2_getChar_3b067 27 = .ok (.athrow, 1) := by decide +kernel
theorem dJ2_getChar_3b067_28 : decode cJ2_getChar_3b067 28 = .ok (.iload_n 1, 1) := by decide +kernel
theorem dJ2_getChar_3b067_29 : decode cJ2_getChar_3b067 29 = .ok (.iconst 1, 1) := by decide +kernel
theorem dJ2_getChar_3b067_30 : decode cJ2_getChar_3b067 30 = .ok (.ishl, 1) := by decide +kernel
theorem dJ2_getChar_3b067_31 : decode cJ2_getChar_3b067 31 = .ok (.istore_n 1, 1) := by decide +kernel
theorem dJ2_getChar_3b067_32 : decode cJ2_getChar_3b067 32 = .ok (.aload_n 0, 1) := by decide +kernel
theorem dJ2_getChar_3b067_33 : decode cJ2_getChar_3b067 33 = .ok (.iload_n 1, 1) := by decide +kernel
theorem dJ2_getChar_3b067_34 : decode cJ2_getChar_3b067 34 = .ok (.iinc 1 1, 3) := by decide +kernel
theorem dJ2_getChar_3b067_37 : decode cJ2_getChar_3b067 37 = .ok (.baload, 1) := by decide +kernel
theorem dJ2_getChar_3b067_38 : decode cJ2_getChar_3b067 38 = .ok (.sipush 255, 3) := by decide +kernel
theorem dJ2_getChar_3b067_41 : decode cJ2_getChar_3b067 41 = .ok (.iand, 1) := by decide +kernel
theorem dJ2_getChar_3b067_42 : decode cJ2_getChar_3b067 42 = .ok (.getstatic 59, 3) := by decide +kernel
theorem dJ2_getChar_3b067_45 : decode cJ2_getChar_3b067 45 = .ok (.ishl, 1) := by decide +kernel
theorem dJ2_getChar_3b067_46 : decode cJ2_getChar_3b067 46 = .ok (.aload_n 0, 1) := by decide +kernel
theorem dJ2_getChar_3b067_47 : decode cJ2_getChar_3b067 47 = .ok (.iload_n 1, 1) := by decide +kernel
theorem dJ2_getChar_3b067_48 : decode cJ2_getChar_3b067 48 = .ok (.baload, 1) := by decide +kernel
theorem dJ2_getChar_3b067_49 : decode cJ2_getChar_3b067 49 = .ok (.sipush 255, 3) := by decide +kernel
theorem dJ2_getChar_3b067_52 : decode cJ2_getChar_3b067 52 = .ok (.iand, 1) := by decide +kernel
theorem dJ2_getChar_3b067_53 : decode cJ2_getChar_3b067 53 = .ok (.getstatic 63, 3) := by decide +kernel
theorem dJ2_getChar_3b067_56 : decode cJ2_getChar_3b067 56 = .ok (.ishl, 1) := by decide +kernel
theorem dJ2_getChar_3b067_57 : decode cJ2_getChar_3b067 57 = .ok (.ior, 1) := by decide +kernel
theorem dJ2_getChar_3b067_58 : decode cJ2_getChar_3b067 58 = .ok (.i2c, 1) := by decide +kernel
theorem dJ2_getChar_3b067_59 : decode cJ2_getChar_3b067 59 = .ok (.ireturn, 1) := by decide +kernel
theorem dJ2_length_9d52b_0 : decode cJ2_length_9d52b 0 = .ok (.aload_n 0, 1) := by decide +kernel
theorem dJ2_length_9d52b_1 : decode cJ2_length_9d52b 1 = .ok (.arraylength, 1) := by decide +kernel
theorem dJ2_length_9d52b_2 : decode cJ2_length_9d52b 2 = .ok (.iconst 1, 1) := by decide +kernel
theorem dJ2_length_9d52b_3 : decode cJ2_length_9d52b 3 = .ok (.ishr, 1) := by decide +kernel
theorem dJ2_length_9d52b_4 : decode cJ2_length_9d52b 4 = .ok (.ireturn, 1) := by decide +kernel
theorem dJ2_charAt_3b067_0 : decode cJ2_charAt_3b067 0 = .ok (.iload_n 1, 1) := by decide +kernel
theorem dJ2_charAt_3b067_1 : decode cJ2_charAt_3b067 1 = .ok (.aload_n 0, 1) := by decide +kernel
theorem dJ2_charAt_3b067_2 : decode cJ2_charAt_3b067 2 = .ok (.invokestatic 67, 3) := by decide +kernel
theorem dJ2_charAt_3b067_5 : decode cJ2_charAt_3b067 5 = .ok (.aload_n 0, 1) := by decide +kernel
theorem dJ2_charAt_3b067_6 : decode cJ2_charAt_3b067 6 = .ok (.iload_n 1, 1) := by decide +kernel
theorem dJ2_charAt_3b067_7 : decode cJ2_charAt_3b067 7 = .ok (.invokestatic 71, 3) := by decide +kernel
theorem dJ2_charAt_3b067_10 : decode cJ2_charAt_3b067 10 = .ok (.ireturn, 1) := by decide +kernel
theorem dJ2_checkIndex_2214a_0 : decode cJ2_checkIndex_2214a 0 = .ok (.iload_n 0, 1) := by decide +kernel
theorem dJ2_checkIndex_2214a_1 : decode cJ2_checkIndex_2214a 1 = .ok (.aload_n 1, 1) := by decide +kernel
theorem dJ2_checkIndex_2214a_2 : decode cJ2_checkIndex_2214a 2 = .ok (.invokestatic 48, 3) := by decide +kernel
theorem dJ2_checkIndex_2214a_5 : decode cJ2_checkIndex_2214a 5 = .ok (.invokestatic 414, 3) := by decide +kernel
theorem dJ2_checkIndex_2214a_8 : decode cJ2_checkIndex_2214a 8 = .ok (.return_, 1) := by decide +kernel
theorem dJ3_checkIndex_8e157_0 : decode cJ3_checkIndex_8e157 0 = .ok (.iload_n 0, 1) := by decide +kernel
theorem dJ3_checkIndex_8e157_1 : decode cJ3_checkIndex_8e157 1 = .ok (.ifCond .lt 8, 3) := by decide +kernel
theorem dJ3_checkIndex_8e157_4 : decode cJ3_checkIndex_8e157 4 = .ok (.iload_n 0, 1) := by decide +kernel
theorem dJ3_checkIndex_8e157_5 : decode cJ3_checkIndex_8e157 5 = .ok (.iload_n 1, 1) := by decide +kernel
theorem dJ3_checkIndex_8e157_6 : decode cJ3_checkIndex_8e157 6 = .ok (.if_icmp .lt 10, 3) := by decide +kernel
theorem dJ3_checkIndex_8e157_9 : decode cJ3_checkIndex_8e157 9 = .ok (.aload_n 2, 1) := by decide +kernel
theorem dJ3_checkIndex_8e157_10 : decode cJ3_checkIndex_8e157 10 = .ok (.iload_n 0, 1) := by decide +kernel
theorem dJ3_checkIndex_8e157_11 : decode cJ3_checkIndex_8e157 11 = .ok (.iload_n 1, 1) := by decide +kernel
theorem dJ3_checkIndex_8e157_12 : decode cJ3_checkIndex_8e157 12 = .ok (.invokestatic 95, 3) := by decide +kernel
theorem dJ3_checkIndex_8e157_15 : decode cJ3_checkIndex_8e157 15 = .ok (.athrow, 1) := by decide +kernel
theorem dJ3_checkIndex_8e157_16 : decode cJ3_checkIndex_8e157 16 = .ok (.iload_n 0, 1) := by decide +kernel
theorem dJ3_checkIndex_8e157_17 : decode cJ3_checkIndex_8e157 17 = .ok (.ireturn, 1) := by decide +kernel
end
section
theorem dX12_init_0 : decode cX12_init 0 = .ok (.aload_n 0, 1) := by decide +kernel
theorem dX12_init_1 : decode cX12_init 1 = .ok (.invokespecial 1, 3) := by decide +kernel
theorem dX12_init_4 : decode cX12_init 4 = .ok (.aload_n 0, 1) := by decide +kernel
theorem dX12_init_5 : decode cX12_init 5 = .ok (.bipush 73, 2) := by decide +kernel
theorem dX12_init_7 : decode cX12_init 7 = .ok (.newarray .int, 2) := by decide +kernel
theorem dX12_init_9 : decode cX12_init 9 = .ok (.putfield 9, 3) := by decide +kernel
theorem dX12_init_12 : decode cX12_init 12 = .ok (.aload_n 0, 1) := by decide +kernel
theorem dX12_init_13 : decode cX12_init 13 = .ok (.bipush 73, 2) := by decide +kernel
theorem dX12_init_15 : decode cX12_init 15 = .ok (.newarray .int, 2) := by decide +kernel
theorem dX12_init_17 : decode cX12_init 17 = .ok (.putfield 13, 3) := by decide +kernel
theorem dX12_init_20 : decode cX12_init 20 = .ok (.aload_n 0, 1) := by decide +kernel
theorem dX12_init_21 : decode cX12_init 21 = .ok (.bipush 73, 2) := by decide +kernel
theorem dX12_init_23 : decode cX12_init 23 = .ok (.newarray .int, 2) := by decide +kernel
theorem dX12_init_25 : decode cX12_init 25 = .ok (.putfield 16, 3) := by decide +kernel
theorem dX12_init_28 : decode cX12_init 28 = .ok (.aload_n 0, 1) := by decide +kernel
theorem dX12_init_29 : decode cX12_init 29 = .ok (.bipush 8, 2) := by decide +kernel
theorem dX12_init_31 : decode cX12_init 31 = .ok (.newarray .int, 2) := by decide +kernel
theorem dX12_init_33 : decode cX12_init 33 = .ok (.putfield 19, 3) := by decide +kernel
theorem dX12_init_36 : decode cX12_init 36 = .ok (.aload_n 0, 1) := by decide +kernel
theorem dX12_init_37 : decode cX12_init 37 = .ok (.bipush 8, 2) := by decide +kernel
theorem dX12_init_39 : decode cX12_init 39 = .ok (.newarray .int, 2) := by decide +kernel
theorem dX12_init_41 : decode cX12_init 41 = .ok (.putfield 22, 3) := by decide +kernel
theorem dX12_init_44 : decode cX12_init 44 = .ok (.aload_n 0, 1) := by decide +kernel
theorem dX12_init_45 : decode cX12_init 45 = .ok (.bipush 8, 2) := by decide +kernel
theorem dX12_init_47 : decode cX12_init 47 = .ok (.newarray .int, 2) := by decide +kernel
theorem dX12_init_49 : decode cX12_init 49 = .ok (.putfield 25, 3) := by decide +kernel
theorem dX12_init_52 : decode cX12_init 52 = .ok (.aload_n 0, 1) := by decide +kernel
theorem dX12_init_53 : decode cX12_init 53 = .ok (.sipush 800, 3) := by decide +kernel
theorem dX12_init_56 : decode cX12_init 56 = .ok (.newarray .int, 2) := by decide +kernel
theorem dX12_init_58 : decode cX12_init 58 = .ok (.putfield 28, 3) := by decide +kernel
theorem dX12_init_61 : decode cX12_init 61 = .ok (.aload_n 0, 1) := by decide +kernel
theorem dX12_init_62 : decode cX12_init 62 = .ok (.bipush 8, 2) := by decide +kernel
theorem dX12_init_64 : decode cX12_init 64 = .ok (.newarray .int, 2) := by decide +kernel
theorem dX12_init_66 : decode cX12_init 66 = .ok (.putfield 31, 3) := by decide +kernel
theorem dX12_init_69 : decode cX12_init 69 = .ok (.aload_n 0, 1) := by decide +kernel
theorem dX12_init_70 : decode cX12_init 70 = .ok (.bipush 8, 2) := by decide +kernel
theorem dX12_init_72 : decode cX12_init 72 = .ok (.newarray .int, 2) := by decide +kernel
theorem dX12_init_74 : decode cX12_init 74 = .ok (.putfield 34, 3) := by decide +kernel
theorem dX12_init_77 : decode cX12_init 77 = .ok (.aload_n 0, 1) := by decide +kernel
theorem dX12_init_78 : decode cX12_init 78 = .ok (.iconst 4, 1) := by decide +kernel
theorem dX12_init_79 : decode cX12_init 79 = .ok (.newarray .int, 2) := by decide +kernel
theorem dX12_init_81 : decode cX12_init 81 = .ok (.putfield 37, 3) := by decide +kernel
theorem dX12_init_84 : decode cX12_init 84 = .ok (.aload_n 0, 1) := by decide +kernel
theorem dX12_init_85 : decode cX12_init 85 = .ok (.bipush 25, 2) := by decide +kernel
theorem dX12_init_87 : decode cX12_init 87 = .ok (.newarray .int, 2) := by decide +kernel
theorem dX12_init_89 : decode cX12_init 89 = .ok (.putfield 40, 3) := by decide +kernel
theorem dX12_init_92 : decode cX12_init 92 = .ok (.aload_n 0, 1) := by decide +kernel
theorem dX12_init_93 : decode cX12_init 93 = .ok (.iconst 5, 1) := by decide +kernel
theorem dX12_init_94 : decode cX12_init 94 = .ok (.newarray .int, 2) := by decide +kernel
theorem dX12_init_96 : decode cX12_init 96 = .ok (.putfield 43, 3) := by decide +kernel
theorem dX12_init_99 : decode cX12_init 99 = .ok (.aload_n 0, 1) := by decide +kernel
theorem dX12_init_100 : decode cX12_init 100 = .ok (.iconst 5, 1) := by decide +kernel
theorem dX12_init_101 : decode cX12_init 101 = .ok (.newarray .int, 2) := by decide +kernel
theorem dX12_init_103 : decode cX12_init 103 = .ok (.putfield 46, 3) := by decide +kernel
theorem dX12_init_106 : decode cX12_init 106 = .ok (.aload_n 0, 1) := by decide +kernel
theorem dX12_init_107 : decode cX12_init 107 = .ok (.iconst 5, 1) := by decide +kernel
theorem dX12_init_108 : decode cX12_init 108 = .ok (.newarray .int, 2) := by decide +kernel
theorem dX12_init_110 : decode cX12_init 110 = .ok (.putfield 49, 3) := by decide +kernel
theorem dX12_init_113 : decode cX12_init 113 = .ok (.aload_n 0, 1) := by decide +kernel
theorem dX12_init_114 : decode cX12_init 114 = .ok (.getfield 9, 3) := by decide +kernel
theorem dX12_init_117 : decode cX12_init 117 = .ok (.iconst 1, 1) := by decide +kernel
theorem dX12_init_118 : decode cX12_init 118 = .ok (.sipush 400, 3) := by decide +kernel
theorem dX12_init_121 : decode cX12_init 121 = .ok (.iastore, 1) := by decide +kernel
theorem dX12_init_122 : decode cX12_init 122 = .ok (.aload_n 0, 1) := by decide +kernel
theorem dX12_init_123 : decode cX12_init 123 = .ok (.getfield 9, 3) := by decide +kernel
theorem dX12_init_126 : decode cX12_init 126 = .ok (.iconst 2, 1) := by decide +kernel
theorem dX12_init_127 : decode cX12_init 127 = .ok (.sipush 2000, 3) := by decide +kernel
theorem dX12_init_130 : decode cX12_init 130 = .ok (.iastore, 1) := by decide +kernel
theorem dX12_init_131 : decode cX12_init 131 = .ok (.return_, 1) := by decide +kernel
theorem dX12_thrown_0 : decode cX12_thrown 0 = .ok (.aload_n 0, 1) := by decide +kernel
theorem dX12_thrown_1 : decode cX12_thrown 1 = .ok (.getfield 52, 3) := by decide +kernel
theorem dX12_thrown_4 : decode cX12_thrown 4 = .ok (.ireturn, 1) := by decide +kernel
theorem dX12_isIn_0 : decode cX12_isIn 0 = .ok (.lload_n 0, 1) := by decide +kernel
theorem dX12_isIn_1 : decode cX12_isIn 1 = .ok (.lload_n 2, 1) := by decide +kernel
theorem dX12_isIn_2 : decode cX12_isIn 2 = .ok (.lcmp, 1) := by decide +kernel
theorem dX12_isIn_3 : decode cX12_isIn 3 = .ok (.ifCond .lt 14, 3) := by decide +kernel
theorem dX12_isIn_6 : decode cX12_isIn 6 = .ok (.lload_n 0, 1) := by decide +kernel
theorem dX12_isIn_7 : decode cX12_isIn 7 = .ok (.lload 4, 2) := by decide +kernel
theorem dX12_isIn_9 : decode cX12_isIn 9 = .ok (.lcmp, 1) := by decide +kernel
theorem dX12_isIn_10 : decode cX12_isIn 10 = .ok (.ifCond .gt 7, 3) := by decide +kernel
theorem dX12_isIn_13 : decode cX12_isIn 13 = .ok (.iconst 1, 1) := by decide +kernel
theorem dX12_isIn_14 : decode cX12_isIn 14 = .ok (.goto 4, 3) := by decide +kernel
theorem dX12_isIn_17 : decode cX12_isIn 17 = .ok (.iconst 0, 1) := by decide +kernel
theorem dX12_isIn_18 : decode cX12_isIn 18 = .ok (.ireturn, 1) := by decide +kernel
theorem dX12_isFaller_0 : decode cX12_isFaller 0 = .ok (.iload_n 1, 1) := by decide +kernel
theorem dX12_isFaller_1 : decode cX12_isFaller 1 = .ok (.i2l, 1) := by decide +kernel
theorem dX12_isFaller_2 : decode cX12_isFaller 2 = .ok (.lconst 0, 1) := by decide +kernel
theorem dX12_isFaller_3 : decode cX12_isFaller 3 = .ok (.aload_n 0, 1) := by decide +kernel
theorem dX12_isFaller_4 : decode cX12_isFaller 4 = .ok (.getfield 9, 3) := by decide +kernel
theorem dX12_isFaller_7 : decode cX12_isFaller 7 = .ok (.iconst 3, 1) := by decide +kernel
theorem dX12_isFaller_8 : decode cX12_isFaller 8 = .ok (.iaload, 1) := by decide +kernel
theorem dX12_isFaller_9 : decode cX12_isFaller 9 = .ok (.iconst 1, 1) := by decide +kernel
theorem dX12_isFaller_10 : decode cX12_isFaller 10 = .ok (.isub, 1) := by decide +kernel
theorem dX12_isFaller_11 : decode cX12_isFaller 11 = .ok (.i2l, 1) := by decide +kernel
theorem dX12_isFaller_12 : decode cX12_isFaller 12 = .ok (.invokestatic 56, 3) := by decide +kernel
theorem dX12_isFaller_15 : decode cX12_isFaller 15 = .ok (.ireturn, 1) := by decide +kernel
theorem dX12_isShelf_0 : decode cX12_isShelf 0 = .ok (.iload_n 0, 1) := by decide +kernel
theorem dX12_isShelf_1 : decode cX12_isShelf 1 = .ok (.i2l, 1) := by decide +kernel
theorem dX12_isShelf_2 : decode cX12_isShelf 2 = .ok (.lconst 0, 1) := by decide +kernel
theorem dX12_isShelf_3 : decode cX12_isShelf 3 = .ok (.ldc2_w 60, 3) := by decide +kernel
theorem dX12_isShelf_6 : decode cX12_isShelf 6 = .ok (.invokestatic 56, 3) := by decide +kernel
theorem dX12_isShelf_9 : decode cX12_isShelf 9 = .ok (.ireturn, 1) := by decide +kernel
theorem dX12_isEdge_0 : decode cX12_isEdge 0 = .ok (.iload_n 0, 1) := by decide +kernel
theorem dX12_isEdge_1 : decode cX12_isEdge 1 = .ok (.i2l, 1) := by decide +kernel
theorem dX12_isEdge_2 : decode cX12_isEdge 2 = .ok (.ldc2_w 62, 3) := by decide +kernel
theorem dX12_isEdge_5 : decode cX12_isEdge 5 = .ok (.ldc2_w 64, 3) := by decide +kernel
theorem dX12_isEdge_8 : decode cX12_isEdge 8 = .ok (.invokestatic 56, 3) := by decide +kernel
theorem dX12_isEdge_11 : decode cX12_isEdge 11 = .ok (.ireturn, 1) := by decide +kernel
theorem dX12_of_0 : decode cX12_of 0 = .ok (.aload_n 0, 1) := by decide +kernel
theorem dX12_of_1 : decode cX12_of 1 = .ok (.getfield 9, 3) := by decide +kernel
theorem dX12_of_4 : decode cX12_of 4 = .ok (.bipush 25, 2) := by decide +kernel
theorem dX12_of_6 : decode cX12_of 6 = .ok (.iconst 3, 1) := by decide +kernel
theorem dX12_of_7 : decode cX12_of 7 = .ok (.iload_n 1, 1) := by decide +kernel
theorem dX12_of_8 : decode cX12_of 8 = .ok (.imul, 1) := by decide +kernel
theorem dX12_of_9 : decode cX12_of 9 = .ok (.iadd, 1) := by decide +kernel
theorem dX12_of_10 : decode cX12_of 10 = .ok (.iload_n 2, 1) := by decide +kernel
theorem dX12_of_11 : decode cX12_of 11 = .ok (.iadd, 1) := by decide +kernel
theorem dX12_of_12 : decode cX12_of 12 = .ok (.iaload, 1) := by decide +kernel
theorem dX12_of_13 : decode cX12_of 13 = .ok (.ireturn, 1) := by decide +kernel
theorem dX12_amount_0 : decode cX12_amount 0 = .ok (.iload_n 0, 1) := by decide +kernel
theorem dX12_amount_1 : decode cX12_amount 1 = .ok (.ifCond .ge 8, 3) := by decide +kernel
theorem dX12_amount_4 : decode cX12_amount 4 = .ok (.iload_n 0, 1) := by decide +kernel
theorem dX12_amount_5 : decode cX12_amount 5 = .ok (.ineg, 1) := by decide +kernel
theorem dX12_amount_6 : decode cX12_amount 6 = .ok (.goto 4, 3) := by decide +kernel
theorem dX12_amount_9 : decode cX12_amount 9 = .ok (.iload_n 0, 1) := by decide +kernel
theorem dX12_amount_10 : decode cX12_amount 10 = .ok (.ireturn, 1) := by decide +kernel
theorem dX12_lesser_0 : decode cX12_lesser 0 = .ok (.iload_n 0, 1) := by decide +kernel
theorem dX12_lesser_1 : decode cX12_lesser 1 = .ok (.iload_n 1, 1) := by decide +kernel
theorem dX12_lesser_2 : decode cX12_lesser 2 = .ok (.if_icmp .ge 7, 3) := by decide +kernel
theorem dX12_lesser_5 : decode cX12_lesser 5 = .ok (.iload_n 0, 1) := by decide +kernel
theorem dX12_lesser_6 : decode cX12_lesser 6 = .ok (.goto 4, 3) := by decide +kernel
theorem dX12_lesser_9 : decode cX12_lesser 9 = .ok (.iload_n 1, 1) := by decide +kernel
theorem dX12_lesser_10 : decode cX12_lesser 10 = .ok (.ireturn, 1) := by decide +kernel
theorem dX12_held_0 : decode cX12_held 0 = .ok (.iload_n 0, 1) := by decide +kernel
theorem dX12_held_1 : decode cX12_held 1 = .ok (.sipush (-30000), 3) := by decide +kernel
theorem dX12_held_4 : decode cX12_held 4 = .ok (.if_icmp .ge 9, 3) := by decide +kernel
theorem dX12_held_7 : decode cX12_held 7 = .ok (.sipush (-30000), 3) := by decide +kernel
theorem dX12_held_10 : decode cX12_held 10 = .ok (.goto 17, 3) := by decide +kernel
theorem dX12_held_13 : decode cX12_held 13 = .ok (.iload_n 0, 1) := by decide +kernel
theorem dX12_held_14 : decode cX12_held 14 = .ok (.sipush 30000, 3) := by decide +kernel
theorem dX12_held_17 : decode cX12_held 17 = .ok (.if_icmp .le 9, 3) := by decide +kernel
theorem dX12_held_20 : decode cX12_held 20 = .ok (.sipush 30000, 3) := by decide +kernel
theorem dX12_held_23 : decode cX12_held 23 = .ok (.goto 4, 3) := by decide +kernel
theorem dX12_held_26 : decode cX12_held 26 = .ok (.iload_n 0, 1) := by decide +kernel
theorem dX12_held_27 : decode cX12_held 27 = .ok (.ireturn, 1) := by decide +kernel
theorem dX12_here_0 : decode cX12_here 0 = .ok (.aload_n 0, 1) := by decide +kernel
theorem dX12_here_1 : decode cX12_here 1 = .ok (.getfield 66, 3) := by decide +kernel
theorem dX12_here_4 : decode cX12_here 4 = .ok (.aload_n 0, 1) := by decide +kernel
theorem dX12_here_5 : decode cX12_here 5 = .ok (.getfield 69, 3) := by decide +kernel
theorem dX12_here_8 : decode cX12_here 8 = .ok (.if_icmp .ge 20, 3) := by decide +kernel
theorem dX12_here_11 : decode cX12_here 11 = .ok (.aload_n 0, 1) := by decide +kernel
theorem dX12_here_12 : decode cX12_here 12 = .ok (.getfield 28, 3) := by decide +kernel
theorem dX12_here_15 : decode cX12_here 15 = .ok (.aload_n 0, 1) := by decide +kernel
theorem dX12_here_16 : decode cX12_here 16 = .ok (.getfield 72, 3) := by decide +kernel
theorem dX12_here_19 : decode cX12_here 19 = .ok (.aload_n 0, 1) := by decide +kernel
theorem dX12_here_20 : decode cX12_here 20 = .ok (.getfield 66, 3) := by decide +kernel
theorem dX12_here_23 : decode cX12_here 23 = .ok (.iadd, 1) := by decide +kernel
theorem dX12_here_24 : decode cX12_here 24 = .ok (.iaload, 1) := by decide +kernel
theorem dX12_here_25 : decode cX12_here 25 = .ok (.goto 6, 3) := by decide +kernel
theorem dX12_here_28 : decode cX12_here 28 = .ok (.sipush (-1000), 3) := by decide +kernel
theorem dX12_here_31 : decode cX12_here 31 = .ok (.ireturn, 1) := by decide +kernel
theorem dX12_isDigit_0 : decode cX12_isDigit 0 = .ok (.aload_n 0, 1) := by decide +kernel
theorem dX12_isDigit_1 : decode cX12_isDigit 1 = .ok (.invokevirtual 75, 3) := by decide +kernel
theorem dX12_isDigit_4 : decode cX12_isDigit 4 = .ok (.i2l, 1) := by decide +kernel
theorem dX12_isDigit_5 : decode cX12_isDigit 5 = .ok (.ldc2_w 79, 3) := by decide +kernel
theorem dX12_isDigit_8 : decode cX12_isDigit 8 = .ok (.ldc2_w 81, 3) := by decide +kernel
theorem dX12_isDigit_11 : decode cX12_isDigit 11 = .ok (.invokestatic 56, 3) := by decide +kernel
theorem dX12_isDigit_14 : decode cX12_isDigit 14 = .ok (.ireturn, 1) := by decide +kernel
theorem dX12_takes_0 : decode cX12_takes 0 = .ok (.aload_n 0, 1) := by decide +kernel
theorem dX12_takes_1 : decode cX12_takes 1 = .ok (.invokevirtual 75, 3) := by decide +kernel
theorem dX12_takes_4 : decode cX12_takes 4 = .ok (.iload_n 1, 1) := by decide +kernel
theorem dX12_takes_5 : decode cX12_takes 5 = .ok (.if_icmp .eq 5, 3) := by decide +kernel
theorem dX12_takes_8 : decode cX12_takes 8 = .ok (.iconst 0, 1) := by decide +kernel
theorem dX12_takes_9 : decode cX12_takes 9 = .ok (.ireturn, 1) := by decide +kernel
theorem dX12_takes_10 : decode cX12_takes 10 = .ok (.aload_n 0, 1) := by decide +kernel
theorem dX12_takes_11 : decode cX12_takes 11 = .ok (.dup, 1) := by decide +kernel
theorem dX12_takes_12 : decode cX12_takes 12 = .ok (.getfield 66, 3) := by decide +kernel
theorem dX12_takes_15 : decode cX12_takes 15 = .ok (.iconst 1, 1) := by decide +kernel
theorem dX12_takes_16 : decode cX12_takes 16 = .ok (.iadd, 1) := by decide +kernel
theorem dX12_takes_17 : decode cX12_takes 17 = .ok (.putfield 66, 3) := by decide +kernel
theorem dX12_takes_20 : decode cX12_takes 20 = .ok (.iconst 1, 1) := by decide +kernel
theorem dX12_takes_21 : decode cX12_takes 21 = .ok (.ireturn, 1) := by decide +kernel
theorem dX12_readsDigit_0 : decode cX12_readsDigit 0 = .ok (.aload_n 0, 1) := by decide +kernel
theorem dX12_readsDigit_1 : decode cX12_readsDigit 1 = .ok (.invokevirtual 83, 3) := by decide +kernel
theorem dX12_readsDigit_4 : decode cX12_readsDigit 4 = .ok (.ifCond .ne 5, 3) := by decide +kernel
theorem dX12_readsDigit_7 : decode cX12_readsDigit 7 = .ok (.iconst 0, 1) := by decide +kernel
theorem dX12_readsDigit_8 : decode cX12_readsDigit 8 = .ok (.ireturn, 1) := by decide +kernel
theorem dX12_readsDigit_9 : decode cX12_readsDigit 9 = .ok (.aload_n 0, 1) := by decide +kernel
theorem dX12_readsDigit_10 : decode cX12_readsDigit 10 = .ok (.getfield 37, 3) := by decide +kernel
theorem dX12_readsDigit_13 : decode cX12_readsDigit 13 = .ok (.aload_n 0, 1) := by decide +kernel
theorem dX12_readsDigit_14 : decode cX12_readsDigit 14 = .ok (.getfield 87, 3) := by decide +kernel
theorem dX12_readsDigit_17 : decode cX12_readsDigit 17 = .ok (.aload_n 0, 1) := by decide +kernel
theorem dX12_readsDigit_18 : decode cX12_readsDigit 18 = .ok (.invokevirtual 75, 3) := by decide +kernel
theorem dX12_readsDigit_21 : decode cX12_readsDigit 21 = .ok (.bipush 48, 2) := by decide +kernel
theorem dX12_readsDigit_23 : decode cX12_readsDigit 23 = .ok (.isub, 1) := by decide +kernel
theorem dX12_readsDigit_24 : decode cX12_readsDigit 24 = .ok (.iastore, 1) := by decide +kernel
theorem dX12_readsDigit_25 : decode cX12_readsDigit 25 = .ok (.aload_n 0, 1) := by decide +kernel
theorem dX12_readsDigit_26 : decode cX12_readsDigit 26 = .ok (.dup, 1) := by decide +kernel
theorem dX12_readsDigit_27 : decode cX12_readsDigit 27 = .ok (.getfield 87, 3) := by decide +kernel
theorem dX12_readsDigit_30 : decode cX12_readsDigit 30 = .ok (.iconst 1, 1) := by decide +kernel
theorem dX12_readsDigit_31 : decode cX12_readsDigit 31 = .ok (.iadd, 1) := by decide +kernel
theorem dX12_readsDigit_32 : decode cX12_readsDigit 32 = .ok (.putfield 87, 3) := by decide +kernel
theorem dX12_readsDigit_35 : decode cX12_readsDigit 35 = .ok (.aload_n 0, 1) := by decide +kernel
theorem dX12_readsDigit_36 : decode cX12_readsDigit 36 = .ok (.dup, 1) := by decide +kernel
theorem dX12_readsDigit_37 : decode cX12_readsDigit 37 = .ok (.getfield 66, 3) := by decide +kernel
theorem dX12_readsDigit_40 : decode cX12_readsDigit 40 = .ok (.iconst 1, 1) := by decide +kernel
theorem dX12_readsDigit_41 : decode cX12_readsDigit 41 = .ok (.iadd, 1) := by decide +kernel
theorem dX12_readsDigit_42 : decode cX12_readsDigit 42 = .ok (.putfield 66, 3) := by decide +kernel
theorem dX12_readsDigit_45 : decode cX12_readsDigit 45 = .ok (.iconst 1, 1) := by decide +kernel
theorem dX12_readsDigit_46 : decode cX12_readsDigit 46 = .ok (.ireturn, 1) := by decide +kernel
theorem dX12_readsNumber_0 : decode cX12_readsNumber 0 = .ok (.aload_n 0, 1) := by decide +kernel
theorem dX12_readsNumber_1 : decode cX12_readsNumber 1 = .ok (.invokevirtual 90, 3) := by decide +kernel
theorem dX12_readsNumber_4 : decode cX12_readsNumber 4 = .ok (.ifCond .ne 5, 3) := by decide +kernel
theorem dX12_readsNumber_7 : decode cX12_readsNumber 7 = .ok (.iconst 0, 1) := by decide +kernel
theorem dX12_readsNumber_8 : decode cX12_readsNumber 8 = .ok (.ireturn, 1) := by decide +kernel
theorem dX12_readsNumber_9 : decode cX12_readsNumber 9 = .ok (.iconst 1, 1) := by decide +kernel
theorem dX12_readsNumber_10 : decode cX12_readsNumber 10 = .ok (.istore_n 1, 1) := by decide +kernel
theorem dX12_readsNumber_11 : decode cX12_readsNumber 11 = .ok (.iload_n 1, 1) := by decide +kernel
theorem dX12_readsNumber_12 : decode cX12_readsNumber 12 = .ok (.iconst 4, 1) := by decide +kernel
theorem dX12_readsNumber_13 : decode cX12_readsNumber 13 = .ok (.if_icmp .ge 73, 3) := by decide +kernel
theorem dX12_readsNumber_16 : decode cX12_readsNumber 16 = .ok (.aload_n 0, 1) := by decide +kernel
theorem dX12_readsNumber_17 : decode cX12_readsNumber 17 = .ok (.getfield 37, 3) := by decide +kernel
theorem dX12_readsNumber_20 : decode cX12_readsNumber 20 = .ok (.aload_n 0, 1) := by decide +kernel
theorem dX12_readsNumber_21 : decode cX12_readsNumber 21 = .ok (.getfield 87, 3) := by decide +kernel
theorem dX12_readsNumber_24 : decode cX12_readsNumber 24 = .ok (.iconst 1, 1) := by decide +kernel
theorem dX12_readsNumber_25 : decode cX12_readsNumber 25 = .ok (.isub, 1) := by decide +kernel
theorem dX12_readsNumber_26 : decode cX12_readsNumber 26 = .ok (.iaload, 1) := by decide +kernel
theorem dX12_readsNumber_27 : decode cX12_readsNumber 27 = .ok (.ifCond .le 59, 3) := by decide +kernel
theorem dX12_readsNumber_30 : decode cX12_readsNumber 30 = .ok (.aload_n 0, 1) := by decide +kernel
theorem dX12_readsNumber_31 : decode cX12_readsNumber 31 = .ok (.invokevirtual 83, 3) := by decide +kernel
theorem dX12_readsNumber_34 : decode cX12_readsNumber 34 = .ok (.ifCond .eq 52, 3) := by decide +kernel
theorem dX12_readsNumber_37 : decode cX12_readsNumber 37 = .ok (.aload_n 0, 1) := by decide +kernel
theorem dX12_readsNumber_38 : decode cX12_readsNumber 38 = .ok (.getfield 37, 3) := by decide +kernel
theorem dX12_readsNumber_41 : decode cX12_readsNumber 41 = .ok (.aload_n 0, 1) := by decide +kernel
theorem dX12_readsNumber_42 : decode cX12_readsNumber 42 = .ok (.getfield 87, 3) := by decide +kernel
theorem dX12_readsNumber_45 : decode cX12_readsNumber 45 = .ok (.iconst 1, 1) := by decide +kernel
theorem dX12_readsNumber_46 : decode cX12_readsNumber 46 = .ok (.isub, 1) := by decide +kernel
theorem dX12_readsNumber_47 : decode cX12_readsNumber 47 = .ok (.bipush 10, 2) := by decide +kernel
theorem dX12_readsNumber_49 : decode cX12_readsNumber 49 = .ok (.aload_n 0, 1) := by decide +kernel
theorem dX12_readsNumber_50 : decode cX12_readsNumber 50 = .ok (.getfield 37, 3) := by decide +kernel
theorem dX12_readsNumber_53 : decode cX12_readsNumber 53 = .ok (.aload_n 0, 1) := by decide +kernel
theorem dX12_readsNumber_54 : decode cX12_readsNumber 54 = .ok (.getfield 87, 3) := by decide +kernel
theorem dX12_readsNumber_57 : decode cX12_readsNumber 57 = .ok (.iconst 1, 1) := by decide +kernel
theorem dX12_readsNumber_58 : decode cX12_readsNumber 58 = .ok (.isub, 1) := by decide +kernel
theorem dX12_readsNumber_59 : decode cX12_readsNumber 59 = .ok (.iaload, 1) := by decide +kernel
theorem dX12_readsNumber_60 : decode cX12_readsNumber 60 = .ok (.imul, 1) := by decide +kernel
theorem dX12_readsNumber_61 : decode cX12_readsNumber 61 = .ok (.aload_n 0, 1) := by decide +kernel
theorem dX12_readsNumber_62 : decode cX12_readsNumber 62 = .ok (.invokevirtual 75, 3) := by decide +kernel
theorem dX12_readsNumber_65 : decode cX12_readsNumber 65 = .ok (.iadd, 1) := by decide +kernel
theorem dX12_readsNumber_66 : decode cX12_readsNumber 66 = .ok (.bipush 48, 2) := by decide +kernel
theorem dX12_readsNumber_68 : decode cX12_readsNumber 68 = .ok (.isub, 1) := by decide +kernel
theorem dX12_readsNumber_69 : decode cX12_readsNumber 69 = .ok (.iastore, 1) := by decide +kernel
theorem dX12_readsNumber_70 : decode cX12_readsNumber 70 = .ok (.aload_n 0, 1) := by decide +kernel
theorem dX12_readsNumber_71 : decode cX12_readsNumber 71 = .ok (.dup, 1) := by decide +kernel
theorem dX12_readsNumber_72 : decode cX12_readsNumber 72 = .ok (.getfield 66, 3) := by decide +kernel
theorem dX12_readsNumber_75 : decode cX12_readsNumber 75 = .ok (.iconst 1, 1) := by decide +kernel
theorem dX12_readsNumber_76 : decode cX12_readsNumber 76 = .ok (.iadd, 1) := by decide +kernel
theorem dX12_readsNumber_77 : decode cX12_readsNumber 77 = .ok (.putfield 66, 3) := by decide +kernel
theorem dX12_readsNumber_80 : decode cX12_readsNumber 80 = .ok (.iinc 1 1, 3) := by decide +kernel
theorem dX12_readsNumber_83 : decode cX12_readsNumber 83 = .ok (.goto (-72), 3) := by decide +kernel
theorem dX12_readsNumber_86 : decode cX12_readsNumber 86 = .ok (.iconst 1, 1) := by decide +kernel
theorem dX12_readsNumber_87 : decode cX12_readsNumber 87 = .ok (.ireturn, 1) := by decide +kernel
theorem dX12_readsSigned_0 : decode cX12_readsSigned 0 = .ok (.aload_n 0, 1) := by decide +kernel
theorem dX12_readsSigned_1 : decode cX12_readsSigned 1 = .ok (.invokevirtual 75, 3) := by decide +kernel
theorem dX12_readsSigned_4 : decode cX12_readsSigned 4 = .ok (.istore_n 1, 1) := by decide +kernel
theorem dX12_readsSigned_5 : decode cX12_readsSigned 5 = .ok (.iload_n 1, 1) := by decide +kernel
theorem dX12_readsSigned_6 : decode cX12_readsSigned 6 = .ok (.bipush 43, 2) := by decide +kernel
theorem dX12_readsSigned_8 : decode cX12_readsSigned 8 = .ok (.if_icmp .eq 11, 3) := by decide +kernel
theorem dX12_readsSigned_11 : decode cX12_readsSigned 11 = .ok (.iload_n 1, 1) := by decide +kernel
theorem dX12_readsSigned_12 : decode cX12_readsSigned 12 = .ok (.bipush 45, 2) := by decide +kernel
theorem dX12_readsSigned_14 : decode cX12_readsSigned 14 = .ok (.if_icmp .eq 5, 3) := by decide +kernel
theorem dX12_readsSigned_17 : decode cX12_readsSigned 17 = .ok (.iconst 0, 1) := by decide +kernel
theorem dX12_readsSigned_18 : decode cX12_readsSigned 18 = .ok (.ireturn, 1) := by decide +kernel
theorem dX12_readsSigned_19 : decode cX12_readsSigned 19 = .ok (.aload_n 0, 1) := by decide +kernel
theorem dX12_readsSigned_20 : decode cX12_readsSigned 20 = .ok (.dup, 1) := by decide +kernel
theorem dX12_readsSigned_21 : decode cX12_readsSigned 21 = .ok (.getfield 66, 3) := by decide +kernel
theorem dX12_readsSigned_24 : decode cX12_readsSigned 24 = .ok (.iconst 1, 1) := by decide +kernel
theorem dX12_readsSigned_25 : decode cX12_readsSigned 25 = .ok (.iadd, 1) := by decide +kernel
theorem dX12_readsSigned_26 : decode cX12_readsSigned 26 = .ok (.putfield 66, 3) := by decide +kernel
theorem dX12_readsSigned_29 : decode cX12_readsSigned 29 = .ok (.aload_n 0, 1) := by decide +kernel
theorem dX12_readsSigned_30 : decode cX12_readsSigned 30 = .ok (.invokevirtual 93, 3) := by decide +kernel
theorem dX12_readsSigned_33 : decode cX12_readsSigned 33 = .ok (.ifCond .ne 5, 3) := by decide +kernel
theorem dX12_readsSigned_36 : decode cX12_readsSigned 36 = .ok (.iconst 0, 1) := by decide +kernel
theorem dX12_readsSigned_37 : decode cX12_readsSigned 37 = .ok (.ireturn, 1) := by decide +kernel
theorem dX12_readsSigned_38 : decode cX12_readsSigned 38 = .ok (.iload_n 1, 1) := by decide +kernel
theorem dX12_readsSigned_39 : decode cX12_readsSigned 39 = .ok (.bipush 45, 2) := by decide +kernel
theorem dX12_readsSigned_41 : decode cX12_readsSigned 41 = .ok (.if_icmp .ne 26, 3) := by decide +kernel
theorem dX12_readsSigned_44 : decode cX12_readsSigned 44 = .ok (.aload_n 0, 1) := by decide +kernel
theorem dX12_readsSigned_45 : decode cX12_readsSigned 45 = .ok (.getfield 37, 3) := by decide +kernel
theorem dX12_readsSigned_48 : decode cX12_readsSigned 48 = .ok (.aload_n 0, 1) := by decide +kernel
theorem dX12_readsSigned_49 : decode cX12_readsSigned 49 = .ok (.getfield 87, 3) := by decide +kernel
theorem dX12_readsSigned_52 : decode cX12_readsSigned 52 = .ok (.iconst 1, 1) := by decide +kernel
theorem dX12_readsSigned_53 : decode cX12_readsSigned 53 = .ok (.isub, 1) := by decide +kernel
theorem dX12_readsSigned_54 : decode cX12_readsSigned 54 = .ok (.aload_n 0, 1) := by decide +kernel
theorem dX12_readsSigned_55 : decode cX12_readsSigned 55 = .ok (.getfield 37, 3) := by decide +kernel
theorem dX12_readsSigned_58 : decode cX12_readsSigned 58 = .ok (.aload_n 0, 1) := by decide +kernel
theorem dX12_readsSigned_59 : decode cX12_readsSigned 59 = .ok (.getfield 87, 3) := by decide +kernel
theorem dX12_readsSigned_62 : decode cX12_readsSigned 62 = .ok (.iconst 1, 1) := by decide +kernel
theorem dX12_readsSigned_63 : decode cX12_readsSigned 63 = .ok (.isub, 1) := by decide +kernel
theorem dX12_readsSigned_64 : decode cX12_readsSigned 64 = .ok (.iaload, 1) := by decide +kernel
theorem dX12_readsSigned_65 : decode cX12_readsSigned 65 = .ok (.ineg, 1) := by decide +kernel
theorem dX12_readsSigned_66 : decode cX12_readsSigned 66 = .ok (.iastore, 1) := by decide +kernel
theorem dX12_readsSigned_67 : decode cX12_readsSigned 67 = .ok (.iconst 1, 1) := by decide +kernel
theorem dX12_readsSigned_68 : decode cX12_readsSigned 68 = .ok (.ireturn, 1) := by decide +kernel
theorem dX12_readsStatement_0 : decode cX12_readsStatement 0 = .ok (.aload_n 0, 1) := by decide +kernel
theorem dX12_readsStatement_1 : decode cX12_readsStatement 1 = .ok (.invokevirtual 75, 3) := by decide +kernel
theorem dX12_readsStatement_4 : decode cX12_readsStatement 4 = .ok (.istore_n 1, 1) := by decide +kernel
theorem dX12_readsStatement_5 : decode cX12_readsStatement 5 = .ok (.aload_n 0, 1) := by decide +kernel
theorem dX12_readsStatement_6 : decode cX12_readsStatement 6 = .ok (.iconst 0, 1) := by decide +kernel
theorem dX12_readsStatement_7 : decode cX12_readsStatement 7 = .ok (.putfield 87, 3) := by decide +kernel
theorem dX12_readsStatement_10 : decode cX12_readsStatement 10 = .ok (.iload_n 1, 1) := by decide +kernel
theorem dX12_readsStatement_11 : decode cX12_readsStatement 11 = .ok (.bipush 108, 2) := by decide +kernel
theorem dX12_readsStatement_13 : decode cX12_readsStatement 13 = .ok (.if_icmp .eq 29, 3) := by decide +kernel
theorem dX12_readsStatement_16 : decode cX12_readsStatement 16 = .ok (.iload_n 1, 1) := by decide +kernel
theorem dX12_readsStatement_17 : decode cX12_readsStatement 17 = .ok (.bipush 103, 2) := by decide +kernel
theorem dX12_readsStatement_19 : decode cX12_readsStatement 19 = .ok (.if_icmp .eq 23, 3) := by decide +kernel
theorem dX12_readsStatement_22 : decode cX12_readsStatement 22 = .ok (.iload_n 1, 1) := by decide +kernel
theorem dX12_readsStatement_23 : decode cX12_readsStatement 23 = .ok (.bipush 97, 2) := by decide +kernel
theorem dX12_readsStatement_25 : decode cX12_readsStatement 25 = .ok (.if_icmp .eq 17, 3) := by decide +kernel
theorem dX12_readsStatement_28 : decode cX12_readsStatement 28 = .ok (.iload_n 1, 1) := by decide +kernel
theorem dX12_readsStatement_29 : decode cX12_readsStatement 29 = .ok (.bipush 102, 2) := by decide +kernel
theorem dX12_readsStatement_31 : decode cX12_readsStatement 31 = .ok (.if_icmp .eq 11, 3) := by decide +kernel
theorem dX12_readsStatement_34 : decode cX12_readsStatement 34 = .ok (.iload_n 1, 1) := by decide +kernel
theorem dX12_readsStatement_35 : decode cX12_readsStatement 35 = .ok (.bipush 98, 2) := by decide +kernel
theorem dX12_readsStatement_37 : decode cX12_readsStatement 37 = .ok (.if_icmp .eq 5, 3) := by decide +kernel
theorem dX12_readsStatement_40 : decode cX12_readsStatement 40 = .ok (.iconst 0, 1) := by decide +kernel
theorem dX12_readsStatement_41 : decode cX12_readsStatement 41 = .ok (.ireturn, 1) := by decide +kernel
theorem dX12_readsStatement_42 : decode cX12_readsStatement 42 = .ok (.aload_n 0, 1) := by decide +kernel
theorem dX12_readsStatement_43 : decode cX12_readsStatement 43 = .ok (.dup, 1) := by decide +kernel
theorem dX12_readsStatement_44 : decode cX12_readsStatement 44 = .ok (.getfield 66, 3) := by decide +kernel
theorem dX12_readsStatement_47 : decode cX12_readsStatement 47 = .ok (.iconst 1, 1) := by decide +kernel
theorem dX12_readsStatement_48 : decode cX12_readsStatement 48 = .ok (.iadd, 1) := by decide +kernel
theorem dX12_readsStatement_49 : decode cX12_readsStatement 49 = .ok (.putfield 66, 3) := by decide +kernel
theorem dX12_readsStatement_52 : decode cX12_readsStatement 52 = .ok (.iconst 0, 1) := by decide +kernel
theorem dX12_readsStatement_53 : decode cX12_readsStatement 53 = .ok (.istore_n 2, 1) := by decide +kernel
theorem dX12_readsStatement_54 : decode cX12_readsStatement 54 = .ok (.iload_n 1, 1) := by decide +kernel
theorem dX12_readsStatement_55 : decode cX12_readsStatement 55 = .ok (.lookupswitch 150 #[(97, 79), (102, 111), (103, 71), (108, 41)], 41) := by decide +kernel
theorem dX12_readsStatement_96 : decode cX12_readsStatement 96 = .ok (.aload_n 0, 1) := by decide +kernel
theorem dX12_readsStatement_97 : decode cX12_readsStatement 97 = .ok (.invokevirtual 90, 3) := by decide +kernel
theorem dX12_readsStatement_100 : decode cX12_readsStatement 100 = .ok (.ifCond .eq 21, 3) := by decide +kernel
theorem dX12_readsStatement_103 : decode cX12_readsStatement 103 = .ok (.aload_n 0, 1) := by decide +kernel
theorem dX12_readsStatement_104 : decode cX12_readsStatement 104 = .ok (.invokevirtual 96, 3) := by decide +kernel
theorem dX12_readsStatement_107 : decode cX12_readsStatement 107 = .ok (.ifCond .eq 14, 3) := by decide +kernel
theorem dX12_readsStatement_110 : decode cX12_readsStatement 110 = .ok (.aload_n 0, 1) := by decide +kernel
theorem dX12_readsStatement_111 : decode cX12_readsStatement 111 = .ok (.invokevirtual 96, 3) := by decide +kernel
theorem dX12_readsStatement_114 : decode cX12_readsStatement 114 = .ok (.ifCond .eq 7, 3) := by decide +kernel
theorem dX12_readsStatement_117 : decode cX12_readsStatement 117 = .ok (.iconst 1, 1) := by decide +kernel
theorem dX12_readsStatement_118 : decode cX12_readsStatement 118 = .ok (.goto 4, 3) := by decide +kernel
theorem dX12_readsStatement_121 : decode cX12_readsStatement 121 = .ok (.iconst 0, 1) := by decide +kernel
theorem dX12_readsStatement_122 : decode cX12_readsStatement 122 = .ok (.istore_n 2, 1) := by decide +kernel
theorem dX12_readsStatement_123 : decode cX12_readsStatement 123 = .ok (.goto 116, 3) := by decide +kernel
theorem dX12_readsStatement_126 : decode cX12_readsStatement 126 = .ok (.aload_n 0, 1) := by decide +kernel
theorem dX12_readsStatement_127 : decode cX12_readsStatement 127 = .ok (.invokevirtual 93, 3) := by decide +kernel
theorem dX12_readsStatement_130 : decode cX12_readsStatement 130 = .ok (.istore_n 2, 1) := by decide +kernel
theorem dX12_readsStatement_131 : decode cX12_readsStatement 131 = .ok (.goto 108, 3) := by decide +kernel
theorem dX12_readsStatement_134 : decode cX12_readsStatement 134 = .ok (.aload_n 0, 1) := by decide +kernel
theorem dX12_readsStatement_135 : decode cX12_readsStatement 135 = .ok (.invokevirtual 93, 3) := by decide +kernel
theorem dX12_readsStatement_138 : decode cX12_readsStatement 138 = .ok (.ifCond .eq 23, 3) := by decide +kernel
theorem dX12_readsStatement_141 : decode cX12_readsStatement 141 = .ok (.aload_n 0, 1) := by decide +kernel
theorem dX12_readsStatement_142 : decode cX12_readsStatement 142 = .ok (.bipush 32, 2) := by decide +kernel
theorem dX12_readsStatement_144 : decode cX12_readsStatement 144 = .ok (.invokevirtual 99, 3) := by decide +kernel
theorem dX12_readsStatement_147 : decode cX12_readsStatement 147 = .ok (.ifCond .eq 14, 3) := by decide +kernel
theorem dX12_readsStatement_150 : decode cX12_readsStatement 150 = .ok (.aload_n 0, 1) := by decide +kernel
theorem dX12_readsStatement_151 : decode cX12_readsStatement 151 = .ok (.invokevirtual 93, 3) := by decide +kernel
theorem dX12_readsStatement_154 : decode cX12_readsStatement 154 = .ok (.ifCond .eq 7, 3) := by decide +kernel
theorem dX12_readsStatement_157 : decode cX12_readsStatement 157 = .ok (.iconst 1, 1) := by decide +kernel
theorem dX12_readsStatement_158 : decode cX12_readsStatement 158 = .ok (.goto 4, 3) := by decide +kernel
theorem dX12_readsStatement_161 : decode cX12_readsStatement 161 = .ok (.iconst 0, 1) := by decide +kernel
theorem dX12_readsStatement_162 : decode cX12_readsStatement 162 = .ok (.istore_n 2, 1) := by decide +kernel
theorem dX12_readsStatement_163 : decode cX12_readsStatement 163 = .ok (.goto 76, 3) := by decide +kernel
theorem dX12_readsStatement_166 : decode cX12_readsStatement 166 = .ok (.aload_n 0, 1) := by decide +kernel
theorem dX12_readsStatement_167 : decode cX12_readsStatement 167 = .ok (.invokevirtual 90, 3) := by decide +kernel
theorem dX12_readsStatement_170 : decode cX12_readsStatement 170 = .ok (.ifCond .eq 30, 3) := by decide +kernel
theorem dX12_readsStatement_173 : decode cX12_readsStatement 173 = .ok (.aload_n 0, 1) := by decide +kernel
theorem dX12_readsStatement_174 : decode cX12_readsStatement 174 = .ok (.invokevirtual 90, 3) := by decide +kernel
theorem dX12_readsStatement_177 : decode cX12_readsStatement 177 = .ok (.ifCond .eq 23, 3) := by decide +kernel
theorem dX12_readsStatement_180 : decode cX12_readsStatement 180 = .ok (.aload_n 0, 1) := by decide +kernel
theorem dX12_readsStatement_181 : decode cX12_readsStatement 181 = .ok (.bipush 32, 2) := by decide +kernel
theorem dX12_readsStatement_183 : decode cX12_readsStatement 183 = .ok (.invokevirtual 99, 3) := by decide +kernel
theorem dX12_readsStatement_186 : decode cX12_readsStatement 186 = .ok (.ifCond .eq 14, 3) := by decide +kernel
theorem dX12_readsStatement_189 : decode cX12_readsStatement 189 = .ok (.aload_n 0, 1) := by decide +kernel
theorem dX12_readsStatement_190 : decode cX12_readsStatement 190 = .ok (.invokevirtual 93, 3) := by decide +kernel
theorem dX12_readsStatement_193 : decode cX12_readsStatement 193 = .ok (.ifCond .eq 7, 3) := by decide +kernel
theorem dX12_readsStatement_196 : decode cX12_readsStatement 196 = .ok (.iconst 1, 1) := by decide +kernel
theorem dX12_readsStatement_197 : decode cX12_readsStatement 197 = .ok (.goto 4, 3) := by decide +kernel
theorem dX12_readsStatement_200 : decode cX12_readsStatement 200 = .ok (.iconst 0, 1) := by decide +kernel
theorem dX12_readsStatement_201 : decode cX12_readsStatement 201 = .ok (.istore_n 2, 1) := by decide +kernel
theorem dX12_readsStatement_202 : decode cX12_readsStatement 202 = .ok (.goto 37, 3) := by decide +kernel
theorem dX12_readsStatement_205 : decode cX12_readsStatement 205 = .ok (.aload_n 0, 1) := by decide +kernel
theorem dX12_readsStatement_206 : decode cX12_readsStatement 206 = .ok (.invokevirtual 96, 3) := by decide +kernel
theorem dX12_readsStatement_209 : decode cX12_readsStatement 209 = .ok (.ifCond .eq 28, 3) := by decide +kernel
theorem dX12_readsStatement_212 : decode cX12_readsStatement 212 = .ok (.aload_n 0, 1) := by decide +kernel
theorem dX12_readsStatement_213 : decode cX12_readsStatement 213 = .ok (.invokevirtual 96, 3) := by decide +kernel
theorem dX12_readsStatement_216 : decode cX12_readsStatement 216 = .ok (.ifCond .eq 21, 3) := by decide +kernel
theorem dX12_readsStatement_219 : decode cX12_readsStatement 219 = .ok (.aload_n 0, 1) := by decide +kernel
theorem dX12_readsStatement_220 : decode cX12_readsStatement 220 = .ok (.invokevirtual 96, 3) := by decide +kernel
theorem dX12_readsStatement_223 : decode cX12_readsStatement 223 = .ok (.ifCond .eq 14, 3) := by decide +kernel
theorem dX12_readsStatement_226 : decode cX12_readsStatement 226 = .ok (.aload_n 0, 1) := by decide +kernel
theorem dX12_readsStatement_227 : decode cX12_readsStatement 227 = .ok (.invokevirtual 96, 3) := by decide +kernel
theorem dX12_readsStatement_230 : decode cX12_readsStatement 230 = .ok (.ifCond .eq 7, 3) := by decide +kernel
theorem dX12_readsStatement_233 : decode cX12_readsStatement 233 = .ok (.iconst 1, 1) := by decide +kernel
theorem dX12_readsStatement_234 : decode cX12_readsStatement 234 = .ok (.goto 4, 3) := by decide +kernel
theorem dX12_readsStatement_237 : decode cX12_readsStatement 237 = .ok (.iconst 0, 1) := by decide +kernel
theorem dX12_readsStatement_238 : decode cX12_readsStatement 238 = .ok (.istore_n 2, 1) := by decide +kernel
theorem dX12_readsStatement_239 : decode cX12_readsStatement 239 = .ok (.iload_n 2, 1) := by decide +kernel
theorem dX12_readsStatement_240 : decode cX12_readsStatement 240 = .ok (.ifCond .eq 16, 3) := by decide +kernel
theorem dX12_readsStatement_243 : decode cX12_readsStatement 243 = .ok (.aload_n 0, 1) := by decide +kernel
theorem dX12_readsStatement_244 : decode cX12_readsStatement 244 = .ok (.bipush 59, 2) := by decide +kernel
theorem dX12_readsStatement_246 : decode cX12_readsStatement 246 = .ok (.invokevirtual 99, 3) := by decide +kernel
theorem dX12_readsStatement_249 : decode cX12_readsStatement 249 = .ok (.ifCond .eq 7, 3) := by decide +kernel
theorem dX12_readsStatement_252 : decode cX12_readsStatement 252 = .ok (.iconst 1, 1) := by decide +kernel
theorem dX12_readsStatement_253 : decode cX12_readsStatement 253 = .ok (.goto 4, 3) := by decide +kernel
theorem dX12_readsStatement_256 : decode cX12_readsStatement 256 = .ok (.iconst 0, 1) := by decide +kernel
theorem dX12_readsStatement_257 : decode cX12_readsStatement 257 = .ok (.ireturn, 1) := by decide +kernel
theorem dX12_isValue_0 : decode cX12_isValue 0 = .ok (.iload_n 0, 1) := by decide +kernel
theorem dX12_isValue_1 : decode cX12_isValue 1 = .ok (.ifCond .ne 15, 3) := by decide +kernel
theorem dX12_isValue_4 : decode cX12_isValue 4 = .ok (.iload_n 1, 1) := by decide +kernel
theorem dX12_isValue_5 : decode cX12_isValue 5 = .ok (.i2l, 1) := by decide +kernel
theorem dX12_isValue_6 : decode cX12_isValue 6 = .ok (.lconst 0, 1) := by decide +kernel
theorem dX12_isValue_7 : decode cX12_isValue 7 = .ok (.ldc2_w 103, 3) := by decide +kernel
theorem dX12_isValue_10 : decode cX12_isValue 10 = .ok (.invokestatic 56, 3) := by decide +kernel
theorem dX12_isValue_13 : decode cX12_isValue 13 = .ok (.goto 44, 3) := by decide +kernel
theorem dX12_isValue_16 : decode cX12_isValue 16 = .ok (.iload_n 0, 1) := by decide +kernel
theorem dX12_isValue_17 : decode cX12_isValue 17 = .ok (.iconst 1, 1) := by decide +kernel
theorem dX12_isValue_18 : decode cX12_isValue 18 = .ok (.if_icmp .ne 15, 3) := by decide +kernel
theorem dX12_isValue_21 : decode cX12_isValue 21 = .ok (.iload_n 1, 1) := by decide +kernel
theorem dX12_isValue_22 : decode cX12_isValue 22 = .ok (.i2l, 1) := by decide +kernel
theorem dX12_isValue_23 : decode cX12_isValue 23 = .ok (.lconst 0, 1) := by decide +kernel
theorem dX12_isValue_24 : decode cX12_isValue 24 = .ok (.ldc2_w 105, 3) := by decide +kernel
theorem dX12_isValue_27 : decode cX12_isValue 27 = .ok (.invokestatic 56, 3) := by decide +kernel
theorem dX12_isValue_30 : decode cX12_isValue 30 = .ok (.goto 27, 3) := by decide +kernel
theorem dX12_isValue_33 : decode cX12_isValue 33 = .ok (.iload_n 0, 1) := by decide +kernel
theorem dX12_isValue_34 : decode cX12_isValue 34 = .ok (.iconst 2, 1) := by decide +kernel
theorem dX12_isValue_35 : decode cX12_isValue 35 = .ok (.if_icmp .ne 21, 3) := by decide +kernel
theorem dX12_isValue_38 : decode cX12_isValue 38 = .ok (.iload_n 1, 1) := by decide +kernel
theorem dX12_isValue_39 : decode cX12_isValue 39 = .ok (.i2l, 1) := by decide +kernel
theorem dX12_isValue_40 : decode cX12_isValue 40 = .ok (.ldc2_w 107, 3) := by decide +kernel
theorem dX12_isValue_43 : decode cX12_isValue 43 = .ok (.ldc2_w 109, 3) := by decide +kernel
theorem dX12_isValue_46 : decode cX12_isValue 46 = .ok (.invokestatic 56, 3) := by decide +kernel
theorem dX12_isValue_49 : decode cX12_isValue 49 = .ok (.ifCond .eq 7, 3) := by decide +kernel
theorem dX12_isValue_52 : decode cX12_isValue 52 = .ok (.iconst 1, 1) := by decide +kernel
theorem dX12_isValue_53 : decode cX12_isValue 53 = .ok (.goto 4, 3) := by decide +kernel
theorem dX12_isValue_56 : decode cX12_isValue 56 = .ok (.iconst 0, 1) := by decide +kernel
theorem dX12_isValue_57 : decode cX12_isValue 57 = .ok (.ireturn, 1) := by decide +kernel
theorem dX12_comes_0 : decode cX12_comes 0 = .ok (.iload_n 1, 1) := by decide +kernel
theorem dX12_comes_1 : decode cX12_comes 1 = .ok (.lookupswitch 292 #[(97, 152), (102, 208), (103, 129), (108, 43)], 43) := by decide +kernel
theorem dX12_comes_44 : decode cX12_comes 44 = .ok (.aload_n 0, 1) := by decide +kernel
theorem dX12_comes_45 : decode cX12_comes 45 = .ok (.getfield 37, 3) := by decide +kernel
theorem dX12_comes_48 : decode cX12_comes 48 = .ok (.iconst 1, 1) := by decide +kernel
theorem dX12_comes_49 : decode cX12_comes 49 = .ok (.iaload, 1) := by decide +kernel
theorem dX12_comes_50 : decode cX12_comes 50 = .ok (.i2l, 1) := by decide +kernel
theorem dX12_comes_51 : decode cX12_comes 51 = .ok (.ldc2_w 111, 3) := by decide +kernel
theorem dX12_comes_54 : decode cX12_comes 54 = .ok (.ldc2_w 113, 3) := by decide +kernel
theorem dX12_comes_57 : decode cX12_comes 57 = .ok (.invokestatic 56, 3) := by decide +kernel
theorem dX12_comes_60 : decode cX12_comes 60 = .ok (.ifCond .eq 22, 3) := by decide +kernel
theorem dX12_comes_63 : decode cX12_comes 63 = .ok (.aload_n 0, 1) := by decide +kernel
theorem dX12_comes_64 : decode cX12_comes 64 = .ok (.getfield 37, 3) := by decide +kernel
theorem dX12_comes_67 : decode cX12_comes 67 = .ok (.iconst 2, 1) := by decide +kernel
theorem dX12_comes_68 : decode cX12_comes 68 = .ok (.iaload, 1) := by decide +kernel
theorem dX12_comes_69 : decode cX12_comes 69 = .ok (.i2l, 1) := by decide +kernel
theorem dX12_comes_70 : decode cX12_comes 70 = .ok (.ldc2_w 111, 3) := by decide +kernel
theorem dX12_comes_73 : decode cX12_comes 73 = .ok (.ldc2_w 113, 3) := by decide +kernel
theorem dX12_comes_76 : decode cX12_comes 76 = .ok (.invokestatic 56, 3) := by decide +kernel
theorem dX12_comes_79 : decode cX12_comes 79 = .ok (.ifCond .ne 5, 3) := by decide +kernel
theorem dX12_comes_82 : decode cX12_comes 82 = .ok (.iconst 0, 1) := by decide +kernel
theorem dX12_comes_83 : decode cX12_comes 83 = .ok (.ireturn, 1) := by decide +kernel
theorem dX12_comes_84 : decode cX12_comes 84 = .ok (.aload_n 0, 1) := by decide +kernel
theorem dX12_comes_85 : decode cX12_comes 85 = .ok (.getfield 16, 3) := by decide +kernel
theorem dX12_comes_88 : decode cX12_comes 88 = .ok (.iconst 5, 1) := by decide +kernel
theorem dX12_comes_89 : decode cX12_comes 89 = .ok (.iconst 2, 1) := by decide +kernel
theorem dX12_comes_90 : decode cX12_comes 90 = .ok (.aload_n 0, 1) := by decide +kernel
theorem dX12_comes_91 : decode cX12_comes 91 = .ok (.getfield 37, 3) := by decide +kernel
theorem dX12_comes_94 : decode cX12_comes 94 = .ok (.iconst 0, 1) := by decide +kernel
theorem dX12_comes_95 : decode cX12_comes 95 = .ok (.iaload, 1) := by decide +kernel
theorem dX12_comes_96 : decode cX12_comes 96 = .ok (.imul, 1) := by decide +kernel
theorem dX12_comes_97 : decode cX12_comes 97 = .ok (.iadd, 1) := by decide +kernel
theorem dX12_comes_98 : decode cX12_comes 98 = .ok (.aload_n 0, 1) := by decide +kernel
theorem dX12_comes_99 : decode cX12_comes 99 = .ok (.getfield 37, 3) := by decide +kernel
theorem dX12_comes_102 : decode cX12_comes 102 = .ok (.iconst 1, 1) := by decide +kernel
theorem dX12_comes_103 : decode cX12_comes 103 = .ok (.iaload, 1) := by decide +kernel
theorem dX12_comes_104 : decode cX12_comes 104 = .ok (.iastore, 1) := by decide +kernel
theorem dX12_comes_105 : decode cX12_comes 105 = .ok (.aload_n 0, 1) := by decide +kernel
theorem dX12_comes_106 : decode cX12_comes 106 = .ok (.getfield 16, 3) := by decide +kernel
theorem dX12_comes_109 : decode cX12_comes 109 = .ok (.iconst 5, 1) := by decide +kernel
theorem dX12_comes_110 : decode cX12_comes 110 = .ok (.iconst 2, 1) := by decide +kernel
theorem dX12_comes_111 : decode cX12_comes 111 = .ok (.aload_n 0, 1) := by decide +kernel
theorem dX12_comes_112 : decode cX12_comes 112 = .ok (.getfield 37, 3) := by decide +kernel
theorem dX12_comes_115 : decode cX12_comes 115 = .ok (.iconst 0, 1) := by decide +kernel
theorem dX12_comes_116 : decode cX12_comes 116 = .ok (.iaload, 1) := by decide +kernel
theorem dX12_comes_117 : decode cX12_comes 117 = .ok (.imul, 1) := by decide +kernel
theorem dX12_comes_118 : decode cX12_comes 118 = .ok (.iadd, 1) := by decide +kernel
theorem dX12_comes_119 : decode cX12_comes 119 = .ok (.iconst 1, 1) := by decide +kernel
theorem dX12_comes_120 : decode cX12_comes 120 = .ok (.iadd, 1) := by decide +kernel
theorem dX12_comes_121 : decode cX12_comes 121 = .ok (.aload_n 0, 1) := by decide +kernel
theorem dX12_comes_122 : decode cX12_comes 122 = .ok (.getfield 37, 3) := by decide +kernel
theorem dX12_comes_125 : decode cX12_comes 125 = .ok (.iconst 2, 1) := by decide +kernel
theorem dX12_comes_126 : decode cX12_comes 126 = .ok (.iaload, 1) := by decide +kernel
theorem dX12_comes_127 : decode cX12_comes 127 = .ok (.iastore, 1) := by decide +kernel
theorem dX12_comes_128 : decode cX12_comes 128 = .ok (.iconst 1, 1) := by decide +kernel
theorem dX12_comes_129 : decode cX12_comes 129 = .ok (.ireturn, 1) := by decide +kernel
theorem dX12_comes_130 : decode cX12_comes 130 = .ok (.aload_n 0, 1) := by decide +kernel
theorem dX12_comes_131 : decode cX12_comes 131 = .ok (.getfield 16, 3) := by decide +kernel
theorem dX12_comes_134 : decode cX12_comes 134 = .ok (.iconst 0, 1) := by decide +kernel
theorem dX12_comes_135 : decode cX12_comes 135 = .ok (.aload_n 0, 1) := by decide +kernel
theorem dX12_comes_136 : decode cX12_comes 136 = .ok (.getfield 37, 3) := by decide +kernel
theorem dX12_comes_139 : decode cX12_comes 139 = .ok (.iconst 0, 1) := by decide +kernel
theorem dX12_comes_140 : decode cX12_comes 140 = .ok (.iaload, 1) := by decide +kernel
theorem dX12_comes_141 : decode cX12_comes 141 = .ok (.iastore, 1) := by decide +kernel
theorem dX12_comes_142 : decode cX12_comes 142 = .ok (.iconst 0, 1) := by decide +kernel
theorem dX12_comes_143 : decode cX12_comes 143 = .ok (.aload_n 0, 1) := by decide +kernel
theorem dX12_comes_144 : decode cX12_comes 144 = .ok (.getfield 37, 3) := by decide +kernel
theorem dX12_comes_147 : decode cX12_comes 147 = .ok (.iconst 0, 1) := by decide +kernel
theorem dX12_comes_148 : decode cX12_comes 148 = .ok (.iaload, 1) := by decide +kernel
theorem dX12_comes_149 : decode cX12_comes 149 = .ok (.invokestatic 115, 3) := by decide +kernel
theorem dX12_comes_152 : decode cX12_comes 152 = .ok (.ireturn, 1) := by decide +kernel
theorem dX12_comes_153 : decode cX12_comes 153 = .ok (.aload_n 0, 1) := by decide +kernel
theorem dX12_comes_154 : decode cX12_comes 154 = .ok (.getfield 16, 3) := by decide +kernel
theorem dX12_comes_157 : decode cX12_comes 157 = .ok (.iconst 1, 1) := by decide +kernel
theorem dX12_comes_158 : decode cX12_comes 158 = .ok (.aload_n 0, 1) := by decide +kernel
theorem dX12_comes_159 : decode cX12_comes 159 = .ok (.getfield 37, 3) := by decide +kernel
theorem dX12_comes_162 : decode cX12_comes 162 = .ok (.iconst 0, 1) := by decide +kernel
theorem dX12_comes_163 : decode cX12_comes 163 = .ok (.iaload, 1) := by decide +kernel
theorem dX12_comes_164 : decode cX12_comes 164 = .ok (.iastore, 1) := by decide +kernel
theorem dX12_comes_165 : decode cX12_comes 165 = .ok (.aload_n 0, 1) := by decide +kernel
theorem dX12_comes_166 : decode cX12_comes 166 = .ok (.getfield 16, 3) := by decide +kernel
theorem dX12_comes_169 : decode cX12_comes 169 = .ok (.iconst 2, 1) := by decide +kernel
theorem dX12_comes_170 : decode cX12_comes 170 = .ok (.aload_n 0, 1) := by decide +kernel
theorem dX12_comes_171 : decode cX12_comes 171 = .ok (.getfield 37, 3) := by decide +kernel
theorem dX12_comes_174 : decode cX12_comes 174 = .ok (.iconst 1, 1) := by decide +kernel
theorem dX12_comes_175 : decode cX12_comes 175 = .ok (.iaload, 1) := by decide +kernel
theorem dX12_comes_176 : decode cX12_comes 176 = .ok (.iastore, 1) := by decide +kernel
theorem dX12_comes_177 : decode cX12_comes 177 = .ok (.iconst 1, 1) := by decide +kernel
theorem dX12_comes_178 : decode cX12_comes 178 = .ok (.aload_n 0, 1) := by decide +kernel
theorem dX12_comes_179 : decode cX12_comes 179 = .ok (.getfield 37, 3) := by decide +kernel
theorem dX12_comes_182 : decode cX12_comes 182 = .ok (.iconst 0, 1) := by decide +kernel
theorem dX12_comes_183 : decode cX12_comes 183 = .ok (.iaload, 1) := by decide +kernel
theorem dX12_comes_184 : decode cX12_comes 184 = .ok (.invokestatic 115, 3) := by decide +kernel
theorem dX12_comes_187 : decode cX12_comes 187 = .ok (.ifCond .eq 20, 3) := by decide +kernel
theorem dX12_comes_190 : decode cX12_comes 190 = .ok (.iconst 2, 1) := by decide +kernel
theorem dX12_comes_191 : decode cX12_comes 191 = .ok (.aload_n 0, 1) := by decide +kernel
theorem dX12_comes_192 : decode cX12_comes 192 = .ok (.getfield 37, 3) := by decide +kernel
theorem dX12_comes_195 : decode cX12_comes 195 = .ok (.iconst 1, 1) := by decide +kernel
theorem dX12_comes_196 : decode cX12_comes 196 = .ok (.iaload, 1) := by decide +kernel
theorem dX12_comes_197 : decode cX12_comes 197 = .ok (.invokestatic 115, 3) := by decide +kernel
theorem dX12_comes_200 : decode cX12_comes 200 = .ok (.ifCond .eq 7, 3) := by decide +kernel
theorem dX12_comes_203 : decode cX12_comes 203 = .ok (.iconst 1, 1) := by decide +kernel
theorem dX12_comes_204 : decode cX12_comes 204 = .ok (.goto 4, 3) := by decide +kernel
theorem dX12_comes_207 : decode cX12_comes 207 = .ok (.iconst 0, 1) := by decide +kernel
theorem dX12_comes_208 : decode cX12_comes 208 = .ok (.ireturn, 1) := by decide +kernel
theorem dX12_comes_209 : decode cX12_comes 209 = .ok (.aload_n 0, 1) := by decide +kernel
theorem dX12_comes_210 : decode cX12_comes 210 = .ok (.getfield 37, 3) := by decide +kernel
theorem dX12_comes_213 : decode cX12_comes 213 = .ok (.iconst 0, 1) := by decide +kernel
theorem dX12_comes_214 : decode cX12_comes 214 = .ok (.iaload, 1) := by decide +kernel
theorem dX12_comes_215 : decode cX12_comes 215 = .ok (.bipush 7, 2) := by decide +kernel
theorem dX12_comes_217 : decode cX12_comes 217 = .ok (.if_icmp .gt 25, 3) := by decide +kernel
theorem dX12_comes_220 : decode cX12_comes 220 = .ok (.aload_n 0, 1) := by decide +kernel
theorem dX12_comes_221 : decode cX12_comes 221 = .ok (.getfield 37, 3) := by decide +kernel
theorem dX12_comes_224 : decode cX12_comes 224 = .ok (.iconst 2, 1) := by decide +kernel
theorem dX12_comes_225 : decode cX12_comes 225 = .ok (.iaload, 1) := by decide +kernel
theorem dX12_comes_226 : decode cX12_comes 226 = .ok (.bipush 20, 2) := by decide +kernel
theorem dX12_comes_228 : decode cX12_comes 228 = .ok (.if_icmp .gt 14, 3) := by decide +kernel
theorem dX12_comes_231 : decode cX12_comes 231 = .ok (.aload_n 0, 1) := by decide +kernel
theorem dX12_comes_232 : decode cX12_comes 232 = .ok (.getfield 16, 3) := by decide +kernel
theorem dX12_comes_235 : decode cX12_comes 235 = .ok (.iconst 3, 1) := by decide +kernel
theorem dX12_comes_236 : decode cX12_comes 236 = .ok (.iaload, 1) := by decide +kernel
theorem dX12_comes_237 : decode cX12_comes 237 = .ok (.bipush 8, 2) := by decide +kernel
theorem dX12_comes_239 : decode cX12_comes 239 = .ok (.if_icmp .ne 5, 3) := by decide +kernel
theorem dX12_comes_242 : decode cX12_comes 242 = .ok (.iconst 0, 1) := by decide +kernel
theorem dX12_comes_243 : decode cX12_comes 243 = .ok (.ireturn, 1) := by decide +kernel
theorem dX12_comes_244 : decode cX12_comes 244 = .ok (.iconst 0, 1) := by decide +kernel
theorem dX12_comes_245 : decode cX12_comes 245 = .ok (.istore_n 2, 1) := by decide +kernel
theorem dX12_comes_246 : decode cX12_comes 246 = .ok (.iload_n 2, 1) := by decide +kernel
theorem dX12_comes_247 : decode cX12_comes 247 = .ok (.iconst 3, 1) := by decide +kernel
theorem dX12_comes_248 : decode cX12_comes 248 = .ok (.if_icmp .ge 33, 3) := by decide +kernel
theorem dX12_comes_251 : decode cX12_comes 251 = .ok (.aload_n 0, 1) := by decide +kernel
theorem dX12_comes_252 : decode cX12_comes 252 = .ok (.getfield 16, 3) := by decide +kernel
theorem dX12_comes_255 : decode cX12_comes 255 = .ok (.bipush 25, 2) := by decide +kernel
theorem dX12_comes_257 : decode cX12_comes 257 = .ok (.iconst 3, 1) := by decide +kernel
theorem dX12_comes_258 : decode cX12_comes 258 = .ok (.aload_n 0, 1) := by decide +kernel
theorem dX12_comes_259 : decode cX12_comes 259 = .ok (.getfield 16, 3) := by decide +kernel
theorem dX12_comes_262 : decode cX12_comes 262 = .ok (.iconst 3, 1) := by decide +kernel
theorem dX12_comes_263 : decode cX12_comes 263 = .ok (.iaload, 1) := by decide +kernel
theorem dX12_comes_264 : decode cX12_comes 264 = .ok (.imul, 1) := by decide +kernel
theorem dX12_comes_265 : decode cX12_comes 265 = .ok (.iadd, 1) := by decide +kernel
theorem dX12_comes_266 : decode cX12_comes 266 = .ok (.iload_n 2, 1) := by decide +kernel
theorem dX12_comes_267 : decode cX12_comes 267 = .ok (.iadd, 1) := by decide +kernel
theorem dX12_comes_268 : decode cX12_comes 268 = .ok (.aload_n 0, 1) := by decide +kernel
theorem dX12_comes_269 : decode cX12_comes 269 = .ok (.getfield 37, 3) := by decide +kernel
theorem dX12_comes_272 : decode cX12_comes 272 = .ok (.iload_n 2, 1) := by decide +kernel
theorem dX12_comes_273 : decode cX12_comes 273 = .ok (.iaload, 1) := by decide +kernel
theorem dX12_comes_274 : decode cX12_comes 274 = .ok (.iastore, 1) := by decide +kernel
theorem dX12_comes_275 : decode cX12_comes 275 = .ok (.iinc 2 1, 3) := by decide +kernel
theorem dX12_comes_278 : decode cX12_comes 278 = .ok (.goto (-32), 3) := by decide +kernel
theorem dX12_comes_281 : decode cX12_comes 281 = .ok (.aload_n 0, 1) := by decide +kernel
theorem dX12_comes_282 : decode cX12_comes 282 = .ok (.getfield 16, 3) := by decide +kernel
theorem dX12_comes_285 : decode cX12_comes 285 = .ok (.iconst 3, 1) := by decide +kernel
theorem dX12_comes_286 : decode cX12_comes 286 = .ok (.dup2, 1) := by decide +kernel
theorem dX12_comes_287 : decode cX12_comes 287 = .ok (.iaload, 1) := by decide +kernel
theorem dX12_comes_288 : decode cX12_comes 288 = .ok (.iconst 1, 1) := by decide +kernel
theorem dX12_comes_289 : decode cX12_comes 289 = .ok (.iadd, 1) := by decide +kernel
theorem dX12_comes_290 : decode cX12_comes 290 = .ok (.iastore, 1) := by decide +kernel
theorem dX12_comes_291 : decode cX12_comes 291 = .ok (.iconst 1, 1) := by decide +kernel
theorem dX12_comes_292 : decode cX12_comes 292 = .ok (.ireturn, 1) := by decide +kernel
theorem dX12_comes_293 : decode cX12_comes 293 = .ok (.aload_n 0, 1) := by decide +kernel
theorem dX12_comes_294 : decode cX12_comes 294 = .ok (.getfield 16, 3) := by decide +kernel
theorem dX12_comes_297 : decode cX12_comes 297 = .ok (.iconst 4, 1) := by decide +kernel
theorem dX12_comes_298 : decode cX12_comes 298 = .ok (.iaload, 1) := by decide +kernel
theorem dX12_comes_299 : decode cX12_comes 299 = .ok (.bipush 6, 2) := by decide +kernel
theorem dX12_comes_301 : decode cX12_comes 301 = .ok (.if_icmp .ge 7, 3) := by decide +kernel
theorem dX12_comes_304 : decode cX12_comes 304 = .ok (.iconst 1, 1) := by decide +kernel
theorem dX12_comes_305 : decode cX12_comes 305 = .ok (.goto 4, 3) := by decide +kernel
theorem dX12_comes_308 : decode cX12_comes 308 = .ok (.iconst 0, 1) := by decide +kernel
theorem dX12_comes_309 : decode cX12_comes 309 = .ok (.istore_n 2, 1) := by decide +kernel
theorem dX12_comes_310 : decode cX12_comes 310 = .ok (.iconst 0, 1) := by decide +kernel
theorem dX12_comes_311 : decode cX12_comes 311 = .ok (.istore_n 3, 1) := by decide +kernel
theorem dX12_comes_312 : decode cX12_comes 312 = .ok (.iload_n 3, 1) := by decide +kernel
theorem dX12_comes_313 : decode cX12_comes 313 = .ok (.iconst 4, 1) := by decide +kernel
theorem dX12_comes_314 : decode cX12_comes 314 = .ok (.if_icmp .ge 38, 3) := by decide +kernel
theorem dX12_comes_317 : decode cX12_comes 317 = .ok (.iload_n 2, 1) := by decide +kernel
theorem dX12_comes_318 : decode cX12_comes 318 = .ok (.ifCond .eq 26, 3) := by decide +kernel
theorem dX12_comes_321 : decode cX12_comes 321 = .ok (.aload_n 0, 1) := by decide +kernel
theorem dX12_comes_322 : decode cX12_comes 322 = .ok (.getfield 37, 3) := by decide +kernel
theorem dX12_comes_325 : decode cX12_comes 325 = .ok (.iload_n 3, 1) := by decide +kernel
theorem dX12_comes_326 : decode cX12_comes 326 = .ok (.iaload, 1) := by decide +kernel
theorem dX12_comes_327 : decode cX12_comes 327 = .ok (.i2l, 1) := by decide +kernel
theorem dX12_comes_328 : decode cX12_comes 328 = .ok (.ldc2_w 119, 3) := by decide +kernel
theorem dX12_comes_331 : decode cX12_comes 331 = .ok (.ldc2_w 109, 3) := by decide +kernel
theorem dX12_comes_334 : decode cX12_comes 334 = .ok (.invokestatic 56, 3) := by decide +kernel
theorem dX12_comes_337 : decode cX12_comes 337 = .ok (.ifCond .eq 7, 3) := by decide +kernel
theorem dX12_comes_340 : decode cX12_comes 340 = .ok (.iconst 1, 1) := by decide +kernel
theorem dX12_comes_341 : decode cX12_comes 341 = .ok (.goto 4, 3) := by decide +kernel
theorem dX12_comes_344 : decode cX12_comes 344 = .ok (.iconst 0, 1) := by decide +kernel
theorem dX12_comes_345 : decode cX12_comes 345 = .ok (.istore_n 2, 1) := by decide +kernel
theorem dX12_comes_346 : decode cX12_comes 346 = .ok (.iinc 3 1, 3) := by decide +kernel
theorem dX12_comes_349 : decode cX12_comes 349 = .ok (.goto (-37), 3) := by decide +kernel
theorem dX12_comes_352 : decode cX12_comes 352 = .ok (.iload_n 2, 1) := by decide +kernel
theorem dX12_comes_353 : decode cX12_comes 353 = .ok (.ifCond .ne 5, 3) := by decide +kernel
theorem dX12_comes_356 : decode cX12_comes 356 = .ok (.iconst 0, 1) := by decide +kernel
theorem dX12_comes_357 : decode cX12_comes 357 = .ok (.ireturn, 1) := by decide +kernel
theorem dX12_comes_358 : decode cX12_comes 358 = .ok (.bipush 49, 2) := by decide +kernel
theorem dX12_comes_360 : decode cX12_comes 360 = .ok (.iconst 4, 1) := by decide +kernel
theorem dX12_comes_361 : decode cX12_comes 361 = .ok (.aload_n 0, 1) := by decide +kernel
theorem dX12_comes_362 : decode cX12_comes 362 = .ok (.getfield 16, 3) := by decide +kernel
theorem dX12_comes_365 : decode cX12_comes 365 = .ok (.iconst 4, 1) := by decide +kernel
theorem dX12_comes_366 : decode cX12_comes 366 = .ok (.iaload, 1) := by decide +kernel
theorem dX12_comes_367 : decode cX12_comes 367 = .ok (.imul, 1) := by decide +kernel
theorem dX12_comes_368 : decode cX12_comes 368 = .ok (.iadd, 1) := by decide +kernel
theorem dX12_comes_369 : decode cX12_comes 369 = .ok (.istore_n 3, 1) := by decide +kernel
theorem dX12_comes_370 : decode cX12_comes 370 = .ok (.iconst 0, 1) := by decide +kernel
theorem dX12_comes_371 : decode cX12_comes 371 = .ok (.istore 4, 2) := by decide +kernel
theorem dX12_comes_373 : decode cX12_comes 373 = .ok (.iload 4, 2) := by decide +kernel
theorem dX12_comes_375 : decode cX12_comes 375 = .ok (.iconst 2, 1) := by decide +kernel
theorem dX12_comes_376 : decode cX12_comes 376 = .ok (.if_icmp .ge 75, 3) := by decide +kernel
theorem dX12_comes_379 : decode cX12_comes 379 = .ok (.bipush 10, 2) := by decide +kernel
theorem dX12_comes_381 : decode cX12_comes 381 = .ok (.aload_n 0, 1) := by decide +kernel
theorem dX12_comes_382 : decode cX12_comes 382 = .ok (.getfield 37, 3) := by decide +kernel
theorem dX12_comes_385 : decode cX12_comes 385 = .ok (.iload 4, 2) := by decide +kernel
theorem dX12_comes_387 : decode cX12_comes 387 = .ok (.iaload, 1) := by decide +kernel
theorem dX12_comes_388 : decode cX12_comes 388 = .ok (.imul, 1) := by decide +kernel
theorem dX12_comes_389 : decode cX12_comes 389 = .ok (.istore 5, 2) := by decide +kernel
theorem dX12_comes_391 : decode cX12_comes 391 = .ok (.bipush 10, 2) := by decide +kernel
theorem dX12_comes_393 : decode cX12_comes 393 = .ok (.aload_n 0, 1) := by decide +kernel
theorem dX12_comes_394 : decode cX12_comes 394 = .ok (.getfield 37, 3) := by decide +kernel
theorem dX12_comes_397 : decode cX12_comes 397 = .ok (.iload 4, 2) := by decide +kernel
theorem dX12_comes_399 : decode cX12_comes 399 = .ok (.iconst 2, 1) := by decide +kernel
theorem dX12_comes_400 : decode cX12_comes 400 = .ok (.iadd, 1) := by decide +kernel
theorem dX12_comes_401 : decode cX12_comes 401 = .ok (.iaload, 1) := by decide +kernel
theorem dX12_comes_402 : decode cX12_comes 402 = .ok (.imul, 1) := by decide +kernel
theorem dX12_comes_403 : decode cX12_comes 403 = .ok (.istore 6, 2) := by decide +kernel
theorem dX12_comes_405 : decode cX12_comes 405 = .ok (.aload_n 0, 1) := by decide +kernel
theorem dX12_comes_406 : decode cX12_comes 406 = .ok (.getfield 16, 3) := by decide +kernel
theorem dX12_comes_409 : decode cX12_comes 409 = .ok (.iload_n 3, 1) := by decide +kernel
theorem dX12_comes_410 : decode cX12_comes 410 = .ok (.iload 4, 2) := by decide +kernel
theorem dX12_comes_412 : decode cX12_comes 412 = .ok (.iadd, 1) := by decide +kernel
theorem dX12_comes_413 : decode cX12_comes 413 = .ok (.iload 5, 2) := by decide +kernel
theorem dX12_comes_415 : decode cX12_comes 415 = .ok (.iload 6, 2) := by decide +kernel
theorem dX12_comes_417 : decode cX12_comes 417 = .ok (.invokestatic 121, 3) := by decide +kernel
theorem dX12_comes_420 : decode cX12_comes 420 = .ok (.iastore, 1) := by decide +kernel
theorem dX12_comes_421 : decode cX12_comes 421 = .ok (.aload_n 0, 1) := by decide +kernel
theorem dX12_comes_422 : decode cX12_comes 422 = .ok (.getfield 16, 3) := by decide +kernel
theorem dX12_comes_425 : decode cX12_comes 425 = .ok (.iload_n 3, 1) := by decide +kernel
theorem dX12_comes_426 : decode cX12_comes 426 = .ok (.iconst 2, 1) := by decide +kernel
theorem dX12_comes_427 : decode cX12_comes 427 = .ok (.iadd, 1) := by decide +kernel
theorem dX12_comes_428 : decode cX12_comes 428 = .ok (.iload 4, 2) := by decide +kernel
theorem dX12_comes_430 : decode cX12_comes 430 = .ok (.iadd, 1) := by decide +kernel
theorem dX12_comes_431 : decode cX12_comes 431 = .ok (.iload 5, 2) := by decide +kernel
theorem dX12_comes_433 : decode cX12_comes 433 = .ok (.iload 6, 2) := by decide +kernel
theorem dX12_comes_435 : decode cX12_comes 435 = .ok (.iadd, 1) := by decide +kernel
theorem dX12_comes_436 : decode cX12_comes 436 = .ok (.iload 5, 2) := by decide +kernel
theorem dX12_comes_438 : decode cX12_comes 438 = .ok (.iload 6, 2) := by decide +kernel
theorem dX12_comes_440 : decode cX12_comes 440 = .ok (.invokestatic 121, 3) := by decide +kernel
theorem dX12_comes_443 : decode cX12_comes 443 = .ok (.isub, 1) := by decide +kernel
theorem dX12_comes_444 : decode cX12_comes 444 = .ok (.iastore, 1) := by decide +kernel
theorem dX12_comes_445 : decode cX12_comes 445 = .ok (.iinc 4 1, 3) := by decide +kernel
theorem dX12_comes_448 : decode cX12_comes 448 = .ok (.goto (-75), 3) := by decide +kernel
theorem dX12_comes_451 : decode cX12_comes 451 = .ok (.aload_n 0, 1) := by decide +kernel
theorem dX12_comes_452 : decode cX12_comes 452 = .ok (.getfield 16, 3) := by decide +kernel
theorem dX12_comes_455 : decode cX12_comes 455 = .ok (.iconst 4, 1) := by decide +kernel
theorem dX12_comes_456 : decode cX12_comes 456 = .ok (.dup2, 1) := by decide +kernel
theorem dX12_comes_457 : decode cX12_comes 457 = .ok (.iaload, 1) := by decide +kernel
theorem dX12_comes_458 : decode cX12_comes 458 = .ok (.iconst 1, 1) := by decide +kernel
theorem dX12_comes_459 : decode cX12_comes 459 = .ok (.iadd, 1) := by decide +kernel
theorem dX12_comes_460 : decode cX12_comes 460 = .ok (.iastore, 1) := by decide +kernel
theorem dX12_comes_461 : decode cX12_comes 461 = .ok (.iconst 1, 1) := by decide +kernel
theorem dX12_comes_462 : decode cX12_comes 462 = .ok (.ireturn, 1) := by decide +kernel
theorem dX12_wrongRow_0 : decode cX12_wrongRow 0 = .ok (.iload_n 1, 1) := by decide +kernel
theorem dX12_wrongRow_1 : decode cX12_wrongRow 1 = .ok (.invokestatic 125, 3) := by decide +kernel
theorem dX12_wrongRow_4 : decode cX12_wrongRow 4 = .ok (.ifCond .ne 7, 3) := by decide +kernel
theorem dX12_wrongRow_7 : decode cX12_wrongRow 7 = .ok (.iconst (-1), 1) := by decide +kernel
theorem dX12_wrongRow_8 : decode cX12_wrongRow 8 = .ok (.goto 47, 3) := by decide +kernel
theorem dX12_wrongRow_11 : decode cX12_wrongRow 11 = .ok (.aload_n 0, 1) := by decide +kernel
theorem dX12_wrongRow_12 : decode cX12_wrongRow 12 = .ok (.getfield 19, 3) := by decide +kernel
theorem dX12_wrongRow_15 : decode cX12_wrongRow 15 = .ok (.iload_n 1, 1) := by decide +kernel
theorem dX12_wrongRow_16 : decode cX12_wrongRow 16 = .ok (.iaload, 1) := by decide +kernel
theorem dX12_wrongRow_17 : decode cX12_wrongRow 17 = .ok (.ifCond .ne 8, 3) := by decide +kernel
theorem dX12_wrongRow_20 : decode cX12_wrongRow 20 = .ok (.bipush (-11), 2) := by decide +kernel
theorem dX12_wrongRow_22 : decode cX12_wrongRow 22 = .ok (.goto 33, 3) := by decide +kernel
theorem dX12_wrongRow_25 : decode cX12_wrongRow 25 = .ok (.aload_n 0, 1) := by decide +kernel
theorem dX12_wrongRow_26 : decode cX12_wrongRow 26 = .ok (.getfield 19, 3) := by decide +kernel
theorem dX12_wrongRow_29 : decode cX12_wrongRow 29 = .ok (.iload_n 1, 1) := by decide +kernel
theorem dX12_wrongRow_30 : decode cX12_wrongRow 30 = .ok (.iaload, 1) := by decide +kernel
theorem dX12_wrongRow_31 : decode cX12_wrongRow 31 = .ok (.iconst 2, 1) := by decide +kernel
theorem dX12_wrongRow_32 : decode cX12_wrongRow 32 = .ok (.if_icmp .ne 17, 3) := by decide +kernel
theorem dX12_wrongRow_35 : decode cX12_wrongRow 35 = .ok (.iload_n 2, 1) := by decide +kernel
theorem dX12_wrongRow_36 : decode cX12_wrongRow 36 = .ok (.ifCond .lt 18, 3) := by decide +kernel
theorem dX12_wrongRow_39 : decode cX12_wrongRow 39 = .ok (.aload_n 0, 1) := by decide +kernel
theorem dX12_wrongRow_40 : decode cX12_wrongRow 40 = .ok (.getfield 22, 3) := by decide +kernel
theorem dX12_wrongRow_43 : decode cX12_wrongRow 43 = .ok (.iload_n 1, 1) := by decide +kernel
theorem dX12_wrongRow_44 : decode cX12_wrongRow 44 = .ok (.iaload, 1) := by decide +kernel
theorem dX12_wrongRow_45 : decode cX12_wrongRow 45 = .ok (.iload_n 2, 1) := by decide +kernel
theorem dX12_wrongRow_46 : decode cX12_wrongRow 46 = .ok (.if_icmp .eq 8, 3) := by decide +kernel
theorem dX12_wrongRow_49 : decode cX12_wrongRow 49 = .ok (.bipush (-12), 2) := by decide +kernel
theorem dX12_wrongRow_51 : decode cX12_wrongRow 51 = .ok (.goto 4, 3) := by decide +kernel
theorem dX12_wrongRow_54 : decode cX12_wrongRow 54 = .ok (.iconst 0, 1) := by decide +kernel
theorem dX12_wrongRow_55 : decode cX12_wrongRow 55 = .ok (.ireturn, 1) := by decide +kernel
theorem dX12_air_0 : decode cX12_air 0 = .ok (.aload_n 0, 1) := by decide +kernel
theorem dX12_air_1 : decode cX12_air 1 = .ok (.iload_n 1, 1) := by decide +kernel
theorem dX12_air_2 : decode cX12_air 2 = .ok (.iconst 0, 1) := by decide +kernel
theorem dX12_air_3 : decode cX12_air 3 = .ok (.invokevirtual 128, 3) := by decide +kernel
theorem dX12_air_6 : decode cX12_air 6 = .ok (.istore_n 2, 1) := by decide +kernel
theorem dX12_air_7 : decode cX12_air 7 = .ok (.iload_n 2, 1) := by decide +kernel
theorem dX12_air_8 : decode cX12_air 8 = .ok (.ifCond .eq 5, 3) := by decide +kernel
theorem dX12_air_11 : decode cX12_air 11 = .ok (.iload_n 2, 1) := by decide +kernel
theorem dX12_air_12 : decode cX12_air 12 = .ok (.ireturn, 1) := by decide +kernel
theorem dX12_air_13 : decode cX12_air 13 = .ok (.aload_n 0, 1) := by decide +kernel
theorem dX12_air_14 : decode cX12_air 14 = .ok (.bipush 100, 2) := by decide +kernel
theorem dX12_air_16 : decode cX12_air 16 = .ok (.iload_n 1, 1) := by decide +kernel
theorem dX12_air_17 : decode cX12_air 17 = .ok (.imul, 1) := by decide +kernel
theorem dX12_air_18 : decode cX12_air 18 = .ok (.putfield 72, 3) := by decide +kernel
theorem dX12_air_21 : decode cX12_air 21 = .ok (.aload_n 0, 1) := by decide +kernel
theorem dX12_air_22 : decode cX12_air 22 = .ok (.aload_n 0, 1) := by decide +kernel
theorem dX12_air_23 : decode cX12_air 23 = .ok (.getfield 25, 3) := by decide +kernel
theorem dX12_air_26 : decode cX12_air 26 = .ok (.iload_n 1, 1) := by decide +kernel
theorem dX12_air_27 : decode cX12_air 27 = .ok (.iaload, 1) := by decide +kernel
theorem dX12_air_28 : decode cX12_air 28 = .ok (.putfield 69, 3) := by decide +kernel
theorem dX12_air_31 : decode cX12_air 31 = .ok (.aload_n 0, 1) := by decide +kernel
theorem dX12_air_32 : decode cX12_air 32 = .ok (.iconst 0, 1) := by decide +kernel
theorem dX12_air_33 : decode cX12_air 33 = .ok (.putfield 66, 3) := by decide +kernel
theorem dX12_air_36 : decode cX12_air 36 = .ok (.iconst 0, 1) := by decide +kernel
theorem dX12_air_37 : decode cX12_air 37 = .ok (.istore_n 3, 1) := by decide +kernel
theorem dX12_air_38 : decode cX12_air 38 = .ok (.aload_n 0, 1) := by decide +kernel
theorem dX12_air_39 : decode cX12_air 39 = .ok (.invokevirtual 131, 3) := by decide +kernel
theorem dX12_air_42 : decode cX12_air 42 = .ok (.ifCond .ne 12, 3) := by decide +kernel
theorem dX12_air_45 : decode cX12_air 45 = .ok (.sipush (-1000), 3) := by decide +kernel
theorem dX12_air_48 : decode cX12_air 48 = .ok (.aload_n 0, 1) := by decide +kernel
theorem dX12_air_49 : decode cX12_air 49 = .ok (.getfield 66, 3) := by decide +kernel
theorem dX12_air_52 : decode cX12_air 52 = .ok (.isub, 1) := by decide +kernel
theorem dX12_air_53 : decode cX12_air 53 = .ok (.ireturn, 1) := by decide +kernel
theorem dX12_air_54 : decode cX12_air 54 = .ok (.iinc 3 1, 3) := by decide +kernel
theorem dX12_air_57 : decode cX12_air 57 = .ok (.aload_n 0, 1) := by decide +kernel
theorem dX12_air_58 : decode cX12_air 58 = .ok (.getfield 66, 3) := by decide +kernel
theorem dX12_air_61 : decode cX12_air 61 = .ok (.aload_n 0, 1) := by decide +kernel
theorem dX12_air_62 : decode cX12_air 62 = .ok (.getfield 69, 3) := by decide +kernel
theorem dX12_air_65 : decode cX12_air 65 = .ok (.if_icmp .lt (-27), 3) := by decide +kernel
theorem dX12_air_68 : decode cX12_air 68 = .ok (.iconst 0, 1) := by decide +kernel
theorem dX12_air_69 : decode cX12_air 69 = .ok (.istore 4, 2) := by decide +kernel
theorem dX12_air_71 : decode cX12_air 71 = .ok (.iload 4, 2) := by decide +kernel
theorem dX12_air_73 : decode cX12_air 73 = .ok (.bipush 73, 2) := by decide +kernel
theorem dX12_air_75 : decode cX12_air 75 = .ok (.if_icmp .ge 23, 3) := by decide +kernel
theorem dX12_air_78 : decode cX12_air 78 = .ok (.aload_n 0, 1) := by decide +kernel
theorem dX12_air_79 : decode cX12_air 79 = .ok (.getfield 16, 3) := by decide +kernel
theorem dX12_air_82 : decode cX12_air 82 = .ok (.iload 4, 2) := by decide +kernel
theorem dX12_air_84 : decode cX12_air 84 = .ok (.aload_n 0, 1) := by decide +kernel
theorem dX12_air_85 : decode cX12_air 85 = .ok (.getfield 9, 3) := by decide +kernel
theorem dX12_air_88 : decode cX12_air 88 = .ok (.iload 4, 2) := by decide +kernel
theorem dX12_air_90 : decode cX12_air 90 = .ok (.iaload, 1) := by decide +kernel
theorem dX12_air_91 : decode cX12_air 91 = .ok (.iastore, 1) := by decide +kernel
theorem dX12_air_92 : decode cX12_air 92 = .ok (.iinc 4 1, 3) := by decide +kernel
theorem dX12_air_95 : decode cX12_air 95 = .ok (.goto (-24), 3) := by decide +kernel
theorem dX12_air_98 : decode cX12_air 98 = .ok (.aload_n 0, 1) := by decide +kernel
theorem dX12_air_99 : decode cX12_air 99 = .ok (.iconst 0, 1) := by decide +kernel
theorem dX12_air_100 : decode cX12_air 100 = .ok (.putfield 66, 3) := by decide +kernel
theorem dX12_air_103 : decode cX12_air 103 = .ok (.aload_n 0, 1) := by decide +kernel
theorem dX12_air_104 : decode cX12_air 104 = .ok (.getfield 66, 3) := by decide +kernel
theorem dX12_air_107 : decode cX12_air 107 = .ok (.aload_n 0, 1) := by decide +kernel
theorem dX12_air_108 : decode cX12_air 108 = .ok (.getfield 69, 3) := by decide +kernel
theorem dX12_air_111 : decode cX12_air 111 = .ok (.if_icmp .ge 40, 3) := by decide +kernel
theorem dX12_air_114 : decode cX12_air 114 = .ok (.aload_n 0, 1) := by decide +kernel
theorem dX12_air_115 : decode cX12_air 115 = .ok (.getfield 66, 3) := by decide +kernel
theorem dX12_air_118 : decode cX12_air 118 = .ok (.istore 4, 2) := by decide +kernel
theorem dX12_air_120 : decode cX12_air 120 = .ok (.aload_n 0, 1) := by decide +kernel
theorem dX12_air_121 : decode cX12_air 121 = .ok (.invokevirtual 75, 3) := by decide +kernel
theorem dX12_air_124 : decode cX12_air 124 = .ok (.istore 5, 2) := by decide +kernel
theorem dX12_air_126 : decode cX12_air 126 = .ok (.aload_n 0, 1) := by decide +kernel
theorem dX12_air_127 : decode cX12_air 127 = .ok (.invokevirtual 131, 3) := by decide +kernel
theorem dX12_air_130 : decode cX12_air 130 = .ok (.istore 6, 2) := by decide +kernel
theorem dX12_air_132 : decode cX12_air 132 = .ok (.aload_n 0, 1) := by decide +kernel
theorem dX12_air_133 : decode cX12_air 133 = .ok (.iload 5, 2) := by decide +kernel
theorem dX12_air_135 : decode cX12_air 135 = .ok (.invokevirtual 134, 3) := by decide +kernel
theorem dX12_air_138 : decode cX12_air 138 = .ok (.ifCond .ne 10, 3) := by decide +kernel
theorem dX12_air_141 : decode cX12_air 141 = .ok (.sipush (-2000), 3) := by decide +kernel
theorem dX12_air_144 : decode cX12_air 144 = .ok (.iload 4, 2) := by decide +kernel
theorem dX12_air_146 : decode cX12_air 146 = .ok (.isub, 1) := by decide +kernel
theorem dX12_air_147 : decode cX12_air 147 = .ok (.ireturn, 1) := by decide +kernel
theorem dX12_air_148 : decode cX12_air 148 = .ok (.goto (-45), 3) := by decide +kernel
theorem dX12_air_151 : decode cX12_air 151 = .ok (.iconst 0, 1) := by decide +kernel
theorem dX12_air_152 : decode cX12_air 152 = .ok (.istore 4, 2) := by decide +kernel
theorem dX12_air_154 : decode cX12_air 154 = .ok (.iload 4, 2) := by decide +kernel
theorem dX12_air_156 : decode cX12_air 156 = .ok (.bipush 73, 2) := by decide +kernel
theorem dX12_air_158 : decode cX12_air 158 = .ok (.if_icmp .ge 23, 3) := by decide +kernel
theorem dX12_air_161 : decode cX12_air 161 = .ok (.aload_n 0, 1) := by decide +kernel
theorem dX12_air_162 : decode cX12_air 162 = .ok (.getfield 9, 3) := by decide +kernel
theorem dX12_air_165 : decode cX12_air 165 = .ok (.iload 4, 2) := by decide +kernel
theorem dX12_air_167 : decode cX12_air 167 = .ok (.aload_n 0, 1) := by decide +kernel
theorem dX12_air_168 : decode cX12_air 168 = .ok (.getfield 16, 3) := by decide +kernel
theorem dX12_air_171 : decode cX12_air 171 = .ok (.iload 4, 2) := by decide +kernel
theorem dX12_air_173 : decode cX12_air 173 = .ok (.iaload, 1) := by decide +kernel
theorem dX12_air_174 : decode cX12_air 174 = .ok (.iastore, 1) := by decide +kernel
theorem dX12_air_175 : decode cX12_air 175 = .ok (.iinc 4 1, 3) := by decide +kernel
theorem dX12_air_178 : decode cX12_air 178 = .ok (.goto (-24), 3) := by decide +kernel
theorem dX12_air_181 : decode cX12_air 181 = .ok (.iload_n 3, 1) := by decide +kernel
theorem dX12_air_182 : decode cX12_air 182 = .ok (.ireturn, 1) := by decide +kernel
theorem dX12_east_0 : decode cX12_east 0 = .ok (.aload_n 0, 1) := by decide +kernel
theorem dX12_east_1 : decode cX12_east 1 = .ok (.getfield 9, 3) := by decide +kernel
theorem dX12_east_4 : decode cX12_east 4 = .ok (.iconst 5, 1) := by decide +kernel
theorem dX12_east_5 : decode cX12_east 5 = .ok (.iconst 2, 1) := by decide +kernel
theorem dX12_east_6 : decode cX12_east 6 = .ok (.iload_n 1, 1) := by decide +kernel
theorem dX12_east_7 : decode cX12_east 7 = .ok (.imul, 1) := by decide +kernel
theorem dX12_east_8 : decode cX12_east 8 = .ok (.iadd, 1) := by decide +kernel
theorem dX12_east_9 : decode cX12_east 9 = .ok (.iaload, 1) := by decide +kernel
theorem dX12_east_10 : decode cX12_east 10 = .ok (.ireturn, 1) := by decide +kernel
theorem dX12_north_0 : decode cX12_north 0 = .ok (.aload_n 0, 1) := by decide +kernel
theorem dX12_north_1 : decode cX12_north 1 = .ok (.getfield 9, 3) := by decide +kernel
theorem dX12_north_4 : decode cX12_north 4 = .ok (.iconst 5, 1) := by decide +kernel
theorem dX12_north_5 : decode cX12_north 5 = .ok (.iconst 2, 1) := by decide +kernel
theorem dX12_north_6 : decode cX12_north 6 = .ok (.iload_n 1, 1) := by decide +kernel
theorem dX12_north_7 : decode cX12_north 7 = .ok (.imul, 1) := by decide +kernel
theorem dX12_north_8 : decode cX12_north 8 = .ok (.iadd, 1) := by decide +kernel
theorem dX12_north_9 : decode cX12_north 9 = .ok (.iconst 1, 1) := by decide +kernel
theorem dX12_north_10 : decode cX12_north 10 = .ok (.iadd, 1) := by decide +kernel
theorem dX12_north_11 : decode cX12_north 11 = .ok (.iaload, 1) := by decide +kernel
theorem dX12_north_12 : decode cX12_north 12 = .ok (.ireturn, 1) := by decide +kernel
theorem dX12_wind_0 : decode cX12_wind 0 = .ok (.iload_n 1, 1) := by decide +kernel
theorem dX12_wind_1 : decode cX12_wind 1 = .ok (.i2l, 1) := by decide +kernel
theorem dX12_wind_2 : decode cX12_wind 2 = .ok (.lconst 0, 1) := by decide +kernel
theorem dX12_wind_3 : decode cX12_wind 3 = .ok (.ldc2_w 137, 3) := by decide +kernel
theorem dX12_wind_6 : decode cX12_wind 6 = .ok (.invokestatic 56, 3) := by decide +kernel
theorem dX12_wind_9 : decode cX12_wind 9 = .ok (.ifCond .ne 8, 3) := by decide +kernel
theorem dX12_wind_12 : decode cX12_wind 12 = .ok (.ldc 139, 2) := by decide +kernel
theorem dX12_wind_14 : decode cX12_wind 14 = .ok (.goto 20, 3) := by decide +kernel
theorem dX12_wind_17 : decode cX12_wind 17 = .ok (.iload_n 2, 1) := by decide +kernel
theorem dX12_wind_18 : decode cX12_wind 18 = .ok (.ifCond .eq 11, 3) := by decide +kernel
theorem dX12_wind_21 : decode cX12_wind 21 = .ok (.aload_n 0, 1) := by decide +kernel
theorem dX12_wind_22 : decode cX12_wind 22 = .ok (.iload_n 1, 1) := by decide +kernel
theorem dX12_wind_23 : decode cX12_wind 23 = .ok (.invokevirtual 140, 3) := by decide +kernel
theorem dX12_wind_26 : decode cX12_wind 26 = .ok (.goto 8, 3) := by decide +kernel
theorem dX12_wind_29 : decode cX12_wind 29 = .ok (.aload_n 0, 1) := by decide +kernel
theorem dX12_wind_30 : decode cX12_wind 30 = .ok (.iload_n 1, 1) := by decide +kernel
theorem dX12_wind_31 : decode cX12_wind 31 = .ok (.invokevirtual 144, 3) := by decide +kernel
theorem dX12_wind_34 : decode cX12_wind 34 = .ok (.ireturn, 1) := by decide +kernel
theorem dX12_set_0 : decode cX12_set 0 = .ok (.iload_n 1, 1) := by decide +kernel
theorem dX12_set_1 : decode cX12_set 1 = .ok (.i2l, 1) := by decide +kernel
theorem dX12_set_2 : decode cX12_set 2 = .ok (.lconst 0, 1) := by decide +kernel
theorem dX12_set_3 : decode cX12_set 3 = .ok (.ldc2_w 147, 3) := by decide +kernel
theorem dX12_set_6 : decode cX12_set 6 = .ok (.invokestatic 56, 3) := by decide +kernel
theorem dX12_set_9 : decode cX12_set 9 = .ok (.ifCond .eq 11, 3) := by decide +kernel
theorem dX12_set_12 : decode cX12_set 12 = .ok (.iload_n 1, 1) := by decide +kernel
theorem dX12_set_13 : decode cX12_set 13 = .ok (.iload_n 2, 1) := by decide +kernel
theorem dX12_set_14 : decode cX12_set 14 = .ok (.invokestatic 115, 3) := by decide +kernel
theorem dX12_set_17 : decode cX12_set 17 = .ok (.ifCond .ne 5, 3) := by decide +kernel
theorem dX12_set_20 : decode cX12_set 20 = .ok (.iconst (-1), 1) := by decide +kernel
theorem dX12_set_21 : decode cX12_set 21 = .ok (.ireturn, 1) := by decide +kernel
theorem dX12_set_22 : decode cX12_set 22 = .ok (.aload_n 0, 1) := by decide +kernel
theorem dX12_set_23 : decode cX12_set 23 = .ok (.getfield 9, 3) := by decide +kernel
theorem dX12_set_26 : decode cX12_set 26 = .ok (.iload_n 1, 1) := by decide +kernel
theorem dX12_set_27 : decode cX12_set 27 = .ok (.iaload, 1) := by decide +kernel
theorem dX12_set_28 : decode cX12_set 28 = .ok (.istore_n 3, 1) := by decide +kernel
theorem dX12_set_29 : decode cX12_set 29 = .ok (.aload_n 0, 1) := by decide +kernel
theorem dX12_set_30 : decode cX12_set 30 = .ok (.getfield 9, 3) := by decide +kernel
theorem dX12_set_33 : decode cX12_set 33 = .ok (.iload_n 1, 1) := by decide +kernel
theorem dX12_set_34 : decode cX12_set 34 = .ok (.iload_n 2, 1) := by decide +kernel
theorem dX12_set_35 : decode cX12_set 35 = .ok (.iastore, 1) := by decide +kernel
theorem dX12_set_36 : decode cX12_set 36 = .ok (.iload_n 3, 1) := by decide +kernel
theorem dX12_set_37 : decode cX12_set 37 = .ok (.ireturn, 1) := by decide +kernel
theorem dX12_fallsBy_0 : decode cX12_fallsBy 0 = .ok (.iload_n 0, 1) := by decide +kernel
theorem dX12_fallsBy_1 : decode cX12_fallsBy 1 = .ok (.iconst 2, 1) := by decide +kernel
theorem dX12_fallsBy_2 : decode cX12_fallsBy 2 = .ok (.if_icmp .ne 8, 3) := by decide +kernel
theorem dX12_fallsBy_5 : decode cX12_fallsBy 5 = .ok (.bipush 100, 2) := by decide +kernel
theorem dX12_fallsBy_7 : decode cX12_fallsBy 7 = .ok (.goto 22, 3) := by decide +kernel
theorem dX12_fallsBy_10 : decode cX12_fallsBy 10 = .ok (.iload_n 0, 1) := by decide +kernel
theorem dX12_fallsBy_11 : decode cX12_fallsBy 11 = .ok (.iconst 3, 1) := by decide +kernel
theorem dX12_fallsBy_12 : decode cX12_fallsBy 12 = .ok (.if_icmp .eq 9, 3) := by decide +kernel
theorem dX12_fallsBy_15 : decode cX12_fallsBy 15 = .ok (.iload_n 0, 1) := by decide +kernel
theorem dX12_fallsBy_16 : decode cX12_fallsBy 16 = .ok (.bipush 7, 2) := by decide +kernel
theorem dX12_fallsBy_18 : decode cX12_fallsBy 18 = .ok (.if_icmp .ne 9, 3) := by decide +kernel
theorem dX12_fallsBy_21 : decode cX12_fallsBy 21 = .ok (.sipush 145, 3) := by decide +kernel
theorem dX12_fallsBy_24 : decode cX12_fallsBy 24 = .ok (.goto 5, 3) := by decide +kernel
theorem dX12_fallsBy_27 : decode cX12_fallsBy 27 = .ok (.bipush 120, 2) := by decide +kernel
theorem dX12_fallsBy_29 : decode cX12_fallsBy 29 = .ok (.ireturn, 1) := by decide +kernel
theorem dX12_sinksBy_0 : decode cX12_sinksBy 0 = .ok (.iload_n 0, 1) := by decide +kernel
theorem dX12_sinksBy_1 : decode cX12_sinksBy 1 = .ok (.tableswitch 68 1 7 #[43, 46, 49, 52, 57, 62, 65], 43) := by decide +kernel
theorem dX12_sinksBy_44 : decode cX12_sinksBy 44 = .ok (.bipush 20, 2) := by decide +kernel
theorem dX12_sinksBy_46 : decode cX12_sinksBy 46 = .ok (.ireturn, 1) := by decide +kernel
theorem dX12_sinksBy_47 : decode cX12_sinksBy 47 = .ok (.bipush 13, 2) := by decide +kernel
theorem dX12_sinksBy_49 : decode cX12_sinksBy 49 = .ok (.ireturn, 1) := by decide +kernel
theorem dX12_sinksBy_50 : decode cX12_sinksBy 50 = .ok (.bipush 21, 2) := by decide +kernel
theorem dX12_sinksBy_52 : decode cX12_sinksBy 52 = .ok (.ireturn, 1) := by decide +kernel
theorem dX12_sinksBy_53 : decode cX12_sinksBy 53 = .ok (.bipush 16, 2) := by decide +kernel
theorem dX12_sinksBy_55 : decode cX12_sinksBy 55 = .ok (.iload_n 1, 1) := by decide +kernel
theorem dX12_sinksBy_56 : decode cX12_sinksBy 56 = .ok (.iadd, 1) := by decide +kernel
theorem dX12_sinksBy_57 : decode cX12_sinksBy 57 = .ok (.ireturn, 1) := by decide +kernel
theorem dX12_sinksBy_58 : decode cX12_sinksBy 58 = .ok (.bipush 14, 2) := by decide +kernel
theorem dX12_sinksBy_60 : decode cX12_sinksBy 60 = .ok (.iload_n 1, 1) := by decide +kernel
theorem dX12_sinksBy_61 : decode cX12_sinksBy 61 = .ok (.iadd, 1) := by decide +kernel
theorem dX12_sinksBy_62 : decode cX12_sinksBy 62 = .ok (.ireturn, 1) := by decide +kernel
theorem dX12_sinksBy_63 : decode cX12_sinksBy 63 = .ok (.bipush 18, 2) := by decide +kernel
theorem dX12_sinksBy_65 : decode cX12_sinksBy 65 = .ok (.ireturn, 1) := by decide +kernel
theorem dX12_sinksBy_66 : decode cX12_sinksBy 66 = .ok (.bipush 31, 2) := by decide +kernel
theorem dX12_sinksBy_68 : decode cX12_sinksBy 68 = .ok (.ireturn, 1) := by decide +kernel
theorem dX12_sinksBy_69 : decode cX12_sinksBy 69 = .ok (.bipush 16, 2) := by decide +kernel
theorem dX12_sinksBy_71 : decode cX12_sinksBy 71 = .ok (.ireturn, 1) := by decide +kernel
theorem dX12_paceBy_0 : decode cX12_paceBy 0 = .ok (.iload_n 0, 1) := by decide +kernel
theorem dX12_paceBy_1 : decode cX12_paceBy 1 = .ok (.tableswitch 64 1 7 #[43, 45, 48, 51, 54, 57, 43], 43) := by decide +kernel
theorem dX12_paceBy_44 : decode cX12_paceBy 44 = .ok (.iconst 0, 1) := by decide +kernel
theorem dX12_paceBy_45 : decode cX12_paceBy 45 = .ok (.ireturn, 1) := by decide +kernel
theorem dX12_paceBy_46 : decode cX12_paceBy 46 = .ok (.bipush 34, 2) := by decide +kernel
theorem dX12_paceBy_48 : decode cX12_paceBy 48 = .ok (.ireturn, 1) := by decide +kernel
theorem dX12_paceBy_49 : decode cX12_paceBy 49 = .ok (.bipush 44, 2) := by decide +kernel
theorem dX12_paceBy_51 : decode cX12_paceBy 51 = .ok (.ireturn, 1) := by decide +kernel
theorem dX12_paceBy_52 : decode cX12_paceBy 52 = .ok (.bipush 20, 2) := by decide +kernel
theorem dX12_paceBy_54 : decode cX12_paceBy 54 = .ok (.ireturn, 1) := by decide +kernel
theorem dX12_paceBy_55 : decode cX12_paceBy 55 = .ok (.bipush 30, 2) := by decide +kernel
theorem dX12_paceBy_57 : decode cX12_paceBy 57 = .ok (.ireturn, 1) := by decide +kernel
theorem dX12_paceBy_58 : decode cX12_paceBy 58 = .ok (.bipush 40, 2) := by decide +kernel
theorem dX12_paceBy_60 : decode cX12_paceBy 60 = .ok (.iconst 3, 1) := by decide +kernel
theorem dX12_paceBy_61 : decode cX12_paceBy 61 = .ok (.iload_n 1, 1) := by decide +kernel
theorem dX12_paceBy_62 : decode cX12_paceBy 62 = .ok (.imul, 1) := by decide +kernel
theorem dX12_paceBy_63 : decode cX12_paceBy 63 = .ok (.iadd, 1) := by decide +kernel
theorem dX12_paceBy_64 : decode cX12_paceBy 64 = .ok (.ireturn, 1) := by decide +kernel
theorem dX12_paceBy_65 : decode cX12_paceBy 65 = .ok (.bipush 40, 2) := by decide +kernel
theorem dX12_paceBy_67 : decode cX12_paceBy 67 = .ok (.ireturn, 1) := by decide +kernel
theorem dX12_driftBy_0 : decode cX12_driftBy 0 = .ok (.iload_n 0, 1) := by decide +kernel
theorem dX12_driftBy_1 : decode cX12_driftBy 1 = .ok (.iconst 2, 1) := by decide +kernel
theorem dX12_driftBy_2 : decode cX12_driftBy 2 = .ok (.if_icmp .ne 11, 3) := by decide +kernel
theorem dX12_driftBy_5 : decode cX12_driftBy 5 = .ok (.iload_n 1, 1) := by decide +kernel
theorem dX12_driftBy_6 : decode cX12_driftBy 6 = .ok (.iconst 5, 1) := by decide +kernel
theorem dX12_driftBy_7 : decode cX12_driftBy 7 = .ok (.imul, 1) := by decide +kernel
theorem dX12_driftBy_8 : decode cX12_driftBy 8 = .ok (.iconst 4, 1) := by decide +kernel
theorem dX12_driftBy_9 : decode cX12_driftBy 9 = .ok (.idiv, 1) := by decide +kernel
theorem dX12_driftBy_10 : decode cX12_driftBy 10 = .ok (.goto 33, 3) := by decide +kernel
theorem dX12_driftBy_13 : decode cX12_driftBy 13 = .ok (.iload_n 0, 1) := by decide +kernel
theorem dX12_driftBy_14 : decode cX12_driftBy 14 = .ok (.iconst 3, 1) := by decide +kernel
theorem dX12_driftBy_15 : decode cX12_driftBy 15 = .ok (.if_icmp .ne 11, 3) := by decide +kernel
theorem dX12_driftBy_18 : decode cX12_driftBy 18 = .ok (.iload_n 1, 1) := by decide +kernel
theorem dX12_driftBy_19 : decode cX12_driftBy 19 = .ok (.iconst 4, 1) := by decide +kernel
theorem dX12_driftBy_20 : decode cX12_driftBy 20 = .ok (.imul, 1) := by decide +kernel
theorem dX12_driftBy_21 : decode cX12_driftBy 21 = .ok (.iconst 5, 1) := by decide +kernel
theorem dX12_driftBy_22 : decode cX12_driftBy 22 = .ok (.idiv, 1) := by decide +kernel
theorem dX12_driftBy_23 : decode cX12_driftBy 23 = .ok (.goto 20, 3) := by decide +kernel
theorem dX12_driftBy_26 : decode cX12_driftBy 26 = .ok (.iload_n 0, 1) := by decide +kernel
theorem dX12_driftBy_27 : decode cX12_driftBy 27 = .ok (.bipush 7, 2) := by decide +kernel
theorem dX12_driftBy_29 : decode cX12_driftBy 29 = .ok (.if_icmp .ne 13, 3) := by decide +kernel
theorem dX12_driftBy_32 : decode cX12_driftBy 32 = .ok (.iload_n 1, 1) := by decide +kernel
theorem dX12_driftBy_33 : decode cX12_driftBy 33 = .ok (.iconst 4, 1) := by decide +kernel
theorem dX12_driftBy_34 : decode cX12_driftBy 34 = .ok (.imul, 1) := by decide +kernel
theorem dX12_driftBy_35 : decode cX12_driftBy 35 = .ok (.iconst 5, 1) := by decide +kernel
theorem dX12_driftBy_36 : decode cX12_driftBy 36 = .ok (.idiv, 1) := by decide +kernel
theorem dX12_driftBy_37 : decode cX12_driftBy 37 = .ok (.iconst 2, 1) := by decide +kernel
theorem dX12_driftBy_38 : decode cX12_driftBy 38 = .ok (.idiv, 1) := by decide +kernel
theorem dX12_driftBy_39 : decode cX12_driftBy 39 = .ok (.goto 4, 3) := by decide +kernel
theorem dX12_driftBy_42 : decode cX12_driftBy 42 = .ok (.iload_n 1, 1) := by decide +kernel
theorem dX12_driftBy_43 : decode cX12_driftBy 43 = .ok (.ireturn, 1) := by decide +kernel
theorem dX12_faller_0 : decode cX12_faller 0 = .ok (.aload_n 0, 1) := by decide +kernel
theorem dX12_faller_1 : decode cX12_faller 1 = .ok (.iload_n 1, 1) := by decide +kernel
theorem dX12_faller_2 : decode cX12_faller 2 = .ok (.invokevirtual 149, 3) := by decide +kernel
theorem dX12_faller_5 : decode cX12_faller 5 = .ok (.ifCond .ne 5, 3) := by decide +kernel
theorem dX12_faller_8 : decode cX12_faller 8 = .ok (.iconst (-1), 1) := by decide +kernel
theorem dX12_faller_9 : decode cX12_faller 9 = .ok (.ireturn, 1) := by decide +kernel
theorem dX12_faller_10 : decode cX12_faller 10 = .ok (.aload_n 0, 1) := by decide +kernel
theorem dX12_faller_11 : decode cX12_faller 11 = .ok (.iload_n 1, 1) := by decide +kernel
theorem dX12_faller_12 : decode cX12_faller 12 = .ok (.iconst 0, 1) := by decide +kernel
theorem dX12_faller_13 : decode cX12_faller 13 = .ok (.invokevirtual 152, 3) := by decide +kernel
theorem dX12_faller_16 : decode cX12_faller 16 = .ok (.istore_n 3, 1) := by decide +kernel
theorem dX12_faller_17 : decode cX12_faller 17 = .ok (.iload_n 2, 1) := by decide +kernel
theorem dX12_faller_18 : decode cX12_faller 18 = .ok (.tableswitch 72 0 5 #[38, 38, 38, 45, 50, 61], 38) := by decide +kernel
theorem dX12_faller_56 : decode cX12_faller 56 = .ok (.aload_n 0, 1) := by decide +kernel
theorem dX12_faller_57 : decode cX12_faller 57 = .ok (.iload_n 1, 1) := by decide +kernel
theorem dX12_faller_58 : decode cX12_faller 58 = .ok (.iload_n 2, 1) := by decide +kernel
theorem dX12_faller_59 : decode cX12_faller 59 = .ok (.invokevirtual 152, 3) := by decide +kernel
theorem dX12_faller_62 : decode cX12_faller 62 = .ok (.ireturn, 1) := by decide +kernel
theorem dX12_faller_63 : decode cX12_faller 63 = .ok (.iload_n 3, 1) := by decide +kernel
theorem dX12_faller_64 : decode cX12_faller 64 = .ok (.invokestatic 155, 3) := by decide +kernel
theorem dX12_faller_67 : decode cX12_faller 67 = .ok (.ireturn, 1) := by decide +kernel
theorem dX12_faller_68 : decode cX12_faller 68 = .ok (.iload_n 3, 1) := by decide +kernel
theorem dX12_faller_69 : decode cX12_faller 69 = .ok (.aload_n 0, 1) := by decide +kernel
theorem dX12_faller_70 : decode cX12_faller 70 = .ok (.iload_n 1, 1) := by decide +kernel
theorem dX12_faller_71 : decode cX12_faller 71 = .ok (.iconst 1, 1) := by decide +kernel
theorem dX12_faller_72 : decode cX12_faller 72 = .ok (.invokevirtual 152, 3) := by decide +kernel
theorem dX12_faller_75 : decode cX12_faller 75 = .ok (.invokestatic 158, 3) := by decide +kernel
theorem dX12_faller_78 : decode cX12_faller 78 = .ok (.ireturn, 1) := by decide +kernel
theorem dX12_faller_79 : decode cX12_faller 79 = .ok (.iload_n 3, 1) := by decide +kernel
theorem dX12_faller_80 : decode cX12_faller 80 = .ok (.aload_n 0, 1) := by decide +kernel
theorem dX12_faller_81 : decode cX12_faller 81 = .ok (.iload_n 1, 1) := by decide +kernel
theorem dX12_faller_82 : decode cX12_faller 82 = .ok (.iconst 1, 1) := by decide +kernel
theorem dX12_faller_83 : decode cX12_faller 83 = .ok (.invokevirtual 152, 3) := by decide +kernel
theorem dX12_faller_86 : decode cX12_faller 86 = .ok (.invokestatic 161, 3) := by decide +kernel
theorem dX12_faller_89 : decode cX12_faller 89 = .ok (.ireturn, 1) := by decide +kernel
theorem dX12_faller_90 : decode cX12_faller 90 = .ok (.iconst (-1), 1) := by decide +kernel
theorem dX12_faller_91 : decode cX12_faller 91 = .ok (.ireturn, 1) := by decide +kernel
theorem dX12_drift_0 : decode cX12_drift 0 = .ok (.aload_n 0, 1) := by decide +kernel
theorem dX12_drift_1 : decode cX12_drift 1 = .ok (.iload_n 1, 1) := by decide +kernel
theorem dX12_drift_2 : decode cX12_drift 2 = .ok (.invokevirtual 149, 3) := by decide +kernel
theorem dX12_drift_5 : decode cX12_drift 5 = .ok (.ifCond .eq 30, 3) := by decide +kernel
theorem dX12_drift_8 : decode cX12_drift 8 = .ok (.iload_n 2, 1) := by decide +kernel
theorem dX12_drift_9 : decode cX12_drift 9 = .ok (.i2l, 1) := by decide +kernel
theorem dX12_drift_10 : decode cX12_drift 10 = .ok (.ldc2_w 164, 3) := by decide +kernel
theorem dX12_drift_13 : decode cX12_drift 13 = .ok (.ldc2_w 166, 3) := by decide +kernel
theorem dX12_drift_16 : decode cX12_drift 16 = .ok (.invokestatic 56, 3) := by decide +kernel
theorem dX12_drift_19 : decode cX12_drift 19 = .ok (.ifCond .eq 16, 3) := by decide +kernel
theorem dX12_drift_22 : decode cX12_drift 22 = .ok (.aload_n 0, 1) := by decide +kernel
theorem dX12_drift_23 : decode cX12_drift 23 = .ok (.iload_n 1, 1) := by decide +kernel
theorem dX12_drift_24 : decode cX12_drift 24 = .ok (.iconst 0, 1) := by decide +kernel
theorem dX12_drift_25 : decode cX12_drift 25 = .ok (.invokevirtual 152, 3) := by decide +kernel
theorem dX12_drift_28 : decode cX12_drift 28 = .ok (.iload_n 2, 1) := by decide +kernel
theorem dX12_drift_29 : decode cX12_drift 29 = .ok (.invokestatic 168, 3) := by decide +kernel
theorem dX12_drift_32 : decode cX12_drift 32 = .ok (.goto 5, 3) := by decide +kernel
theorem dX12_drift_35 : decode cX12_drift 35 = .ok (.ldc 139, 2) := by decide +kernel
theorem dX12_drift_37 : decode cX12_drift 37 = .ok (.ireturn, 1) := by decide +kernel
theorem dX12_toward_0 : decode cX12_toward 0 = .ok (.iload_n 1, 1) := by decide +kernel
theorem dX12_toward_1 : decode cX12_toward 1 = .ok (.ifCond .eq 7, 3) := by decide +kernel
theorem dX12_toward_4 : decode cX12_toward 4 = .ok (.iload_n 2, 1) := by decide +kernel
theorem dX12_toward_5 : decode cX12_toward 5 = .ok (.goto 4, 3) := by decide +kernel
theorem dX12_toward_8 : decode cX12_toward 8 = .ok (.iload_n 3, 1) := by decide +kernel
theorem dX12_toward_9 : decode cX12_toward 9 = .ok (.istore 5, 2) := by decide +kernel
theorem dX12_toward_11 : decode cX12_toward 11 = .ok (.iload 4, 2) := by decide +kernel
theorem dX12_toward_13 : decode cX12_toward 13 = .ok (.iload 5, 2) := by decide +kernel
theorem dX12_toward_15 : decode cX12_toward 15 = .ok (.invokestatic 171, 3) := by decide +kernel
theorem dX12_toward_18 : decode cX12_toward 18 = .ok (.invokestatic 121, 3) := by decide +kernel
theorem dX12_toward_21 : decode cX12_toward 21 = .ok (.istore 6, 2) := by decide +kernel
theorem dX12_toward_23 : decode cX12_toward 23 = .ok (.iload 5, 2) := by decide +kernel
theorem dX12_toward_25 : decode cX12_toward 25 = .ok (.ifCond .le 9, 3) := by decide +kernel
theorem dX12_toward_28 : decode cX12_toward 28 = .ok (.iload 6, 2) := by decide +kernel
theorem dX12_toward_30 : decode cX12_toward 30 = .ok (.ineg, 1) := by decide +kernel
theorem dX12_toward_31 : decode cX12_toward 31 = .ok (.goto 5, 3) := by decide +kernel
theorem dX12_toward_34 : decode cX12_toward 34 = .ok (.iload 6, 2) := by decide +kernel
theorem dX12_toward_36 : decode cX12_toward 36 = .ok (.istore 6, 2) := by decide +kernel
theorem dX12_toward_38 : decode cX12_toward 38 = .ok (.iload_n 1, 1) := by decide +kernel
theorem dX12_toward_39 : decode cX12_toward 39 = .ok (.ifCond .eq 12, 3) := by decide +kernel
theorem dX12_toward_42 : decode cX12_toward 42 = .ok (.aload_n 0, 1) := by decide +kernel
theorem dX12_toward_43 : decode cX12_toward 43 = .ok (.iload 6, 2) := by decide +kernel
theorem dX12_toward_45 : decode cX12_toward 45 = .ok (.putfield 174, 3) := by decide +kernel
theorem dX12_toward_48 : decode cX12_toward 48 = .ok (.goto 9, 3) := by decide +kernel
theorem dX12_toward_51 : decode cX12_toward 51 = .ok (.aload_n 0, 1) := by decide +kernel
theorem dX12_toward_52 : decode cX12_toward 52 = .ok (.iload 6, 2) := by decide +kernel
theorem dX12_toward_54 : decode cX12_toward 54 = .ok (.putfield 177, 3) := by decide +kernel
theorem dX12_toward_57 : decode cX12_toward 57 = .ok (.return_, 1) := by decide +kernel
theorem dX12_steersBy_0 : decode cX12_steersBy 0 = .ok (.aload_n 0, 1) := by decide +kernel
theorem dX12_steersBy_1 : decode cX12_steersBy 1 = .ok (.iconst 0, 1) := by decide +kernel
theorem dX12_steersBy_2 : decode cX12_steersBy 2 = .ok (.putfield 174, 3) := by decide +kernel
theorem dX12_steersBy_5 : decode cX12_steersBy 5 = .ok (.aload_n 0, 1) := by decide +kernel
theorem dX12_steersBy_6 : decode cX12_steersBy 6 = .ok (.iconst 0, 1) := by decide +kernel
theorem dX12_steersBy_7 : decode cX12_steersBy 7 = .ok (.putfield 177, 3) := by decide +kernel
theorem dX12_steersBy_10 : decode cX12_steersBy 10 = .ok (.iload_n 1, 1) := by decide +kernel
theorem dX12_steersBy_11 : decode cX12_steersBy 11 = .ok (.iload_n 2, 1) := by decide +kernel
theorem dX12_steersBy_12 : decode cX12_steersBy 12 = .ok (.invokestatic 161, 3) := by decide +kernel
theorem dX12_steersBy_15 : decode cX12_steersBy 15 = .ok (.istore 7, 2) := by decide +kernel
theorem dX12_steersBy_17 : decode cX12_steersBy 17 = .ok (.iload_n 3, 1) := by decide +kernel
theorem dX12_steersBy_18 : decode cX12_steersBy 18 = .ok (.invokestatic 171, 3) := by decide +kernel
theorem dX12_steersBy_21 : decode cX12_steersBy 21 = .ok (.bipush 100, 2) := by decide +kernel
theorem dX12_steersBy_23 : decode cX12_steersBy 23 = .ok (.iload_n 2, 1) := by decide +kernel
theorem dX12_steersBy_24 : decode cX12_steersBy 24 = .ok (.imul, 1) := by decide +kernel
theorem dX12_steersBy_25 : decode cX12_steersBy 25 = .ok (.if_icmp .gt 15, 3) := by decide +kernel
theorem dX12_steersBy_28 : decode cX12_steersBy 28 = .ok (.iload 4, 2) := by decide +kernel
theorem dX12_steersBy_30 : decode cX12_steersBy 30 = .ok (.invokestatic 171, 3) := by decide +kernel
theorem dX12_steersBy_33 : decode cX12_steersBy 33 = .ok (.bipush 100, 2) := by decide +kernel
theorem dX12_steersBy_35 : decode cX12_steersBy 35 = .ok (.iload_n 2, 1) := by decide +kernel
theorem dX12_steersBy_36 : decode cX12_steersBy 36 = .ok (.imul, 1) := by decide +kernel
theorem dX12_steersBy_37 : decode cX12_steersBy 37 = .ok (.if_icmp .le 7, 3) := by decide +kernel
theorem dX12_steersBy_40 : decode cX12_steersBy 40 = .ok (.iconst 1, 1) := by decide +kernel
theorem dX12_steersBy_41 : decode cX12_steersBy 41 = .ok (.goto 4, 3) := by decide +kernel
theorem dX12_steersBy_44 : decode cX12_steersBy 44 = .ok (.iconst 0, 1) := by decide +kernel
theorem dX12_steersBy_45 : decode cX12_steersBy 45 = .ok (.istore 8, 2) := by decide +kernel
theorem dX12_steersBy_47 : decode cX12_steersBy 47 = .ok (.iload_n 1, 1) := by decide +kernel
theorem dX12_steersBy_48 : decode cX12_steersBy 48 = .ok (.tableswitch 170 1 7 #[44, 170, 170, 45, 77, 110, 44], 44) := by decide +kernel
theorem dX12_steersBy_92 : decode cX12_steersBy 92 = .ok (.return_, 1) := by decide +kernel
theorem dX12_steersBy_93 : decode cX12_steersBy 93 = .ok (.iload 8, 2) := by decide +kernel
theorem dX12_steersBy_95 : decode cX12_steersBy 95 = .ok (.ifCond .eq 29, 3) := by decide +kernel
theorem dX12_steersBy_98 : decode cX12_steersBy 98 = .ok (.aload_n 0, 1) := by decide +kernel
theorem dX12_steersBy_99 : decode cX12_steersBy 99 = .ok (.iload_n 3, 1) := by decide +kernel
theorem dX12_steersBy_100 : decode cX12_steersBy 100 = .ok (.invokestatic 171, 3) := by decide +kernel
theorem dX12_steersBy_103 : decode cX12_steersBy 103 = .ok (.iload 4, 2) := by decide +kernel
theorem dX12_steersBy_105 : decode cX12_steersBy 105 = .ok (.invokestatic 171, 3) := by decide +kernel
theorem dX12_steersBy_108 : decode cX12_steersBy 108 = .ok (.if_icmp .lt 7, 3) := by decide +kernel
theorem dX12_steersBy_111 : decode cX12_steersBy 111 = .ok (.iconst 1, 1) := by decide +kernel
theorem dX12_steersBy_112 : decode cX12_steersBy 112 = .ok (.goto 4, 3) := by decide +kernel
theorem dX12_steersBy_115 : decode cX12_steersBy 115 = .ok (.iconst 0, 1) := by decide +kernel
theorem dX12_steersBy_116 : decode cX12_steersBy 116 = .ok (.iload_n 3, 1) := by decide +kernel
theorem dX12_steersBy_117 : decode cX12_steersBy 117 = .ok (.iload 4, 2) := by decide +kernel
theorem dX12_steersBy_119 : decode cX12_steersBy 119 = .ok (.iload 7, 2) := by decide +kernel
theorem dX12_steersBy_121 : decode cX12_steersBy 121 = .ok (.invokevirtual 180, 3) := by decide +kernel
theorem dX12_steersBy_124 : decode cX12_steersBy 124 = .ok (.return_, 1) := by decide +kernel
theorem dX12_steersBy_125 : decode cX12_steersBy 125 = .ok (.iload 8, 2) := by decide +kernel
theorem dX12_steersBy_127 : decode cX12_steersBy 127 = .ok (.ifCond .eq 30, 3) := by decide +kernel
theorem dX12_steersBy_130 : decode cX12_steersBy 130 = .ok (.aload_n 0, 1) := by decide +kernel
theorem dX12_steersBy_131 : decode cX12_steersBy 131 = .ok (.iload 6, 2) := by decide +kernel
theorem dX12_steersBy_133 : decode cX12_steersBy 133 = .ok (.invokestatic 171, 3) := by decide +kernel
theorem dX12_steersBy_136 : decode cX12_steersBy 136 = .ok (.iload 5, 2) := by decide +kernel
theorem dX12_steersBy_138 : decode cX12_steersBy 138 = .ok (.invokestatic 171, 3) := by decide +kernel
theorem dX12_steersBy_141 : decode cX12_steersBy 141 = .ok (.if_icmp .le 7, 3) := by decide +kernel
theorem dX12_steersBy_144 : decode cX12_steersBy 144 = .ok (.iconst 1, 1) := by decide +kernel
theorem dX12_steersBy_145 : decode cX12_steersBy 145 = .ok (.goto 4, 3) := by decide +kernel
theorem dX12_steersBy_148 : decode cX12_steersBy 148 = .ok (.iconst 0, 1) := by decide +kernel
theorem dX12_steersBy_149 : decode cX12_steersBy 149 = .ok (.iload_n 3, 1) := by decide +kernel
theorem dX12_steersBy_150 : decode cX12_steersBy 150 = .ok (.iload 4, 2) := by decide +kernel
theorem dX12_steersBy_152 : decode cX12_steersBy 152 = .ok (.iload 7, 2) := by decide +kernel
theorem dX12_steersBy_154 : decode cX12_steersBy 154 = .ok (.invokevirtual 180, 3) := by decide +kernel
theorem dX12_steersBy_157 : decode cX12_steersBy 157 = .ok (.return_, 1) := by decide +kernel
theorem dX12_steersBy_158 : decode cX12_steersBy 158 = .ok (.iload 5, 2) := by decide +kernel
theorem dX12_steersBy_160 : decode cX12_steersBy 160 = .ok (.invokestatic 171, 3) := by decide +kernel
theorem dX12_steersBy_163 : decode cX12_steersBy 163 = .ok (.iload 6, 2) := by decide +kernel
theorem dX12_steersBy_165 : decode cX12_steersBy 165 = .ok (.invokestatic 171, 3) := by decide +kernel
theorem dX12_steersBy_168 : decode cX12_steersBy 168 = .ok (.if_icmp .lt 32, 3) := by decide +kernel
theorem dX12_steersBy_171 : decode cX12_steersBy 171 = .ok (.aload_n 0, 1) := by decide +kernel
theorem dX12_steersBy_172 : decode cX12_steersBy 172 = .ok (.iload 5, 2) := by decide +kernel
theorem dX12_steersBy_174 : decode cX12_steersBy 174 = .ok (.ifCond .le 8, 3) := by decide +kernel
theorem dX12_steersBy_177 : decode cX12_steersBy 177 = .ok (.iload 7, 2) := by decide +kernel
theorem dX12_steersBy_179 : decode cX12_steersBy 179 = .ok (.goto 15, 3) := by decide +kernel
theorem dX12_steersBy_182 : decode cX12_steersBy 182 = .ok (.iload 5, 2) := by decide +kernel
theorem dX12_steersBy_184 : decode cX12_steersBy 184 = .ok (.ifCond .ge 9, 3) := by decide +kernel
theorem dX12_steersBy_187 : decode cX12_steersBy 187 = .ok (.iload 7, 2) := by decide +kernel
theorem dX12_steersBy_189 : decode cX12_steersBy 189 = .ok (.ineg, 1) := by decide +kernel
theorem dX12_steersBy_190 : decode cX12_steersBy 190 = .ok (.goto 4, 3) := by decide +kernel
theorem dX12_steersBy_193 : decode cX12_steersBy 193 = .ok (.iconst 0, 1) := by decide +kernel
theorem dX12_steersBy_194 : decode cX12_steersBy 194 = .ok (.putfield 174, 3) := by decide +kernel
theorem dX12_steersBy_197 : decode cX12_steersBy 197 = .ok (.goto 20, 3) := by decide +kernel
theorem dX12_steersBy_200 : decode cX12_steersBy 200 = .ok (.aload_n 0, 1) := by decide +kernel
theorem dX12_steersBy_201 : decode cX12_steersBy 201 = .ok (.iload 6, 2) := by decide +kernel
theorem dX12_steersBy_203 : decode cX12_steersBy 203 = .ok (.ifCond .le 8, 3) := by decide +kernel
theorem dX12_steersBy_206 : decode cX12_steersBy 206 = .ok (.iload 7, 2) := by decide +kernel
theorem dX12_steersBy_208 : decode cX12_steersBy 208 = .ok (.goto 6, 3) := by decide +kernel
theorem dX12_steersBy_211 : decode cX12_steersBy 211 = .ok (.iload 7, 2) := by decide +kernel
theorem dX12_steersBy_213 : decode cX12_steersBy 213 = .ok (.ineg, 1) := by decide +kernel
theorem dX12_steersBy_214 : decode cX12_steersBy 214 = .ok (.putfield 177, 3) := by decide +kernel
theorem dX12_steersBy_217 : decode cX12_steersBy 217 = .ok (.return_, 1) := by decide +kernel
theorem dX12_steersBy_218 : decode cX12_steersBy 218 = .ok (.aload_n 0, 1) := by decide +kernel
theorem dX12_steersBy_219 : decode cX12_steersBy 219 = .ok (.iload_n 3, 1) := by decide +kernel
theorem dX12_steersBy_220 : decode cX12_steersBy 220 = .ok (.invokestatic 171, 3) := by decide +kernel
theorem dX12_steersBy_223 : decode cX12_steersBy 223 = .ok (.iload 4, 2) := by decide +kernel
theorem dX12_steersBy_225 : decode cX12_steersBy 225 = .ok (.invokestatic 171, 3) := by decide +kernel
theorem dX12_steersBy_228 : decode cX12_steersBy 228 = .ok (.if_icmp .lt 7, 3) := by decide +kernel
theorem dX12_steersBy_231 : decode cX12_steersBy 231 = .ok (.iconst 1, 1) := by decide +kernel
theorem dX12_steersBy_232 : decode cX12_steersBy 232 = .ok (.goto 4, 3) := by decide +kernel
theorem dX12_steersBy_235 : decode cX12_steersBy 235 = .ok (.iconst 0, 1) := by decide +kernel
theorem dX12_steersBy_236 : decode cX12_steersBy 236 = .ok (.iload_n 3, 1) := by decide +kernel
theorem dX12_steersBy_237 : decode cX12_steersBy 237 = .ok (.iload 4, 2) := by decide +kernel
theorem dX12_steersBy_239 : decode cX12_steersBy 239 = .ok (.iload 7, 2) := by decide +kernel
theorem dX12_steersBy_241 : decode cX12_steersBy 241 = .ok (.invokevirtual 180, 3) := by decide +kernel
theorem dX12_steersBy_244 : decode cX12_steersBy 244 = .ok (.return_, 1) := by decide +kernel
theorem dX12_steers_0 : decode cX12_steers 0 = .ok (.aload_n 0, 1) := by decide +kernel
theorem dX12_steers_1 : decode cX12_steers 1 = .ok (.iload_n 1, 1) := by decide +kernel
theorem dX12_steers_2 : decode cX12_steers 2 = .ok (.invokevirtual 149, 3) := by decide +kernel
theorem dX12_steers_5 : decode cX12_steers 5 = .ok (.ifCond .eq 30, 3) := by decide +kernel
theorem dX12_steers_8 : decode cX12_steers 8 = .ok (.iload_n 2, 1) := by decide +kernel
theorem dX12_steers_9 : decode cX12_steers 9 = .ok (.invokestatic 184, 3) := by decide +kernel
theorem dX12_steers_12 : decode cX12_steers 12 = .ok (.ifCond .eq 23, 3) := by decide +kernel
theorem dX12_steers_15 : decode cX12_steers 15 = .ok (.iload_n 3, 1) := by decide +kernel
theorem dX12_steers_16 : decode cX12_steers 16 = .ok (.invokestatic 184, 3) := by decide +kernel
theorem dX12_steers_19 : decode cX12_steers 19 = .ok (.ifCond .eq 16, 3) := by decide +kernel
theorem dX12_steers_22 : decode cX12_steers 22 = .ok (.iload 4, 2) := by decide +kernel
theorem dX12_steers_24 : decode cX12_steers 24 = .ok (.i2l, 1) := by decide +kernel
theorem dX12_steers_25 : decode cX12_steers 25 = .ok (.lconst 0, 1) := by decide +kernel
theorem dX12_steers_26 : decode cX12_steers 26 = .ok (.ldc2_w 137, 3) := by decide +kernel
theorem dX12_steers_29 : decode cX12_steers 29 = .ok (.invokestatic 56, 3) := by decide +kernel
theorem dX12_steers_32 : decode cX12_steers 32 = .ok (.ifCond .ne 6, 3) := by decide +kernel
theorem dX12_steers_35 : decode cX12_steers 35 = .ok (.ldc 139, 2) := by decide +kernel
theorem dX12_steers_37 : decode cX12_steers 37 = .ok (.ireturn, 1) := by decide +kernel
theorem dX12_steers_38 : decode cX12_steers 38 = .ok (.aload_n 0, 1) := by decide +kernel
theorem dX12_steers_39 : decode cX12_steers 39 = .ok (.aload_n 0, 1) := by decide +kernel
theorem dX12_steers_40 : decode cX12_steers 40 = .ok (.iload_n 1, 1) := by decide +kernel
theorem dX12_steers_41 : decode cX12_steers 41 = .ok (.iconst 0, 1) := by decide +kernel
theorem dX12_steers_42 : decode cX12_steers 42 = .ok (.invokevirtual 152, 3) := by decide +kernel
theorem dX12_steers_45 : decode cX12_steers 45 = .ok (.aload_n 0, 1) := by decide +kernel
theorem dX12_steers_46 : decode cX12_steers 46 = .ok (.iload_n 1, 1) := by decide +kernel
theorem dX12_steers_47 : decode cX12_steers 47 = .ok (.iconst 1, 1) := by decide +kernel
theorem dX12_steers_48 : decode cX12_steers 48 = .ok (.invokevirtual 152, 3) := by decide +kernel
theorem dX12_steers_51 : decode cX12_steers 51 = .ok (.iload_n 2, 1) := by decide +kernel
theorem dX12_steers_52 : decode cX12_steers 52 = .ok (.iload_n 3, 1) := by decide +kernel
theorem dX12_steers_53 : decode cX12_steers 53 = .ok (.aload_n 0, 1) := by decide +kernel
theorem dX12_steers_54 : decode cX12_steers 54 = .ok (.iload 4, 2) := by decide +kernel
theorem dX12_steers_56 : decode cX12_steers 56 = .ok (.invokevirtual 144, 3) := by decide +kernel
theorem dX12_steers_59 : decode cX12_steers 59 = .ok (.aload_n 0, 1) := by decide +kernel
theorem dX12_steers_60 : decode cX12_steers 60 = .ok (.iload 4, 2) := by decide +kernel
theorem dX12_steers_62 : decode cX12_steers 62 = .ok (.invokevirtual 140, 3) := by decide +kernel
theorem dX12_steers_65 : decode cX12_steers 65 = .ok (.invokevirtual 187, 3) := by decide +kernel
theorem dX12_steers_68 : decode cX12_steers 68 = .ok (.iload 5, 2) := by decide +kernel
theorem dX12_steers_70 : decode cX12_steers 70 = .ok (.ifCond .eq 10, 3) := by decide +kernel
theorem dX12_steers_73 : decode cX12_steers 73 = .ok (.aload_n 0, 1) := by decide +kernel
theorem dX12_steers_74 : decode cX12_steers 74 = .ok (.getfield 177, 3) := by decide +kernel
theorem dX12_steers_77 : decode cX12_steers 77 = .ok (.goto 7, 3) := by decide +kernel
theorem dX12_steers_80 : decode cX12_steers 80 = .ok (.aload_n 0, 1) := by decide +kernel
theorem dX12_steers_81 : decode cX12_steers 81 = .ok (.getfield 174, 3) := by decide +kernel
theorem dX12_steers_84 : decode cX12_steers 84 = .ok (.ireturn, 1) := by decide +kernel
theorem dX12_isBarred_0 : decode cX12_isBarred 0 = .ok (.iconst 0, 1) := by decide +kernel
theorem dX12_isBarred_1 : decode cX12_isBarred 1 = .ok (.istore_n 3, 1) := by decide +kernel
theorem dX12_isBarred_2 : decode cX12_isBarred 2 = .ok (.iload_n 3, 1) := by decide +kernel
theorem dX12_isBarred_3 : decode cX12_isBarred 3 = .ok (.aload_n 0, 1) := by decide +kernel
theorem dX12_isBarred_4 : decode cX12_isBarred 4 = .ok (.getfield 9, 3) := by decide +kernel
theorem dX12_isBarred_7 : decode cX12_isBarred 7 = .ok (.iconst 4, 1) := by decide +kernel
theorem dX12_isBarred_8 : decode cX12_isBarred 8 = .ok (.iaload, 1) := by decide +kernel
theorem dX12_isBarred_9 : decode cX12_isBarred 9 = .ok (.if_icmp .ge 69, 3) := by decide +kernel
theorem dX12_isBarred_12 : decode cX12_isBarred 12 = .ok (.bipush 49, 2) := by decide +kernel
theorem dX12_isBarred_14 : decode cX12_isBarred 14 = .ok (.iconst 4, 1) := by decide +kernel
theorem dX12_isBarred_15 : decode cX12_isBarred 15 = .ok (.iload_n 3, 1) := by decide +kernel
theorem dX12_isBarred_16 : decode cX12_isBarred 16 = .ok (.imul, 1) := by decide +kernel
theorem dX12_isBarred_17 : decode cX12_isBarred 17 = .ok (.iadd, 1) := by decide +kernel
theorem dX12_isBarred_18 : decode cX12_isBarred 18 = .ok (.istore 4, 2) := by decide +kernel
theorem dX12_isBarred_20 : decode cX12_isBarred 20 = .ok (.iload_n 1, 1) := by decide +kernel
theorem dX12_isBarred_21 : decode cX12_isBarred 21 = .ok (.aload_n 0, 1) := by decide +kernel
theorem dX12_isBarred_22 : decode cX12_isBarred 22 = .ok (.getfield 9, 3) := by decide +kernel
theorem dX12_isBarred_25 : decode cX12_isBarred 25 = .ok (.iload 4, 2) := by decide +kernel
theorem dX12_isBarred_27 : decode cX12_isBarred 27 = .ok (.iaload, 1) := by decide +kernel
theorem dX12_isBarred_28 : decode cX12_isBarred 28 = .ok (.if_icmp .lt 44, 3) := by decide +kernel
theorem dX12_isBarred_31 : decode cX12_isBarred 31 = .ok (.iload_n 1, 1) := by decide +kernel
theorem dX12_isBarred_32 : decode cX12_isBarred 32 = .ok (.aload_n 0, 1) := by decide +kernel
theorem dX12_isBarred_33 : decode cX12_isBarred 33 = .ok (.getfield 9, 3) := by decide +kernel
theorem dX12_isBarred_36 : decode cX12_isBarred 36 = .ok (.iload 4, 2) := by decide +kernel
theorem dX12_isBarred_38 : decode cX12_isBarred 38 = .ok (.iconst 2, 1) := by decide +kernel
theorem dX12_isBarred_39 : decode cX12_isBarred 39 = .ok (.iadd, 1) := by decide +kernel
theorem dX12_isBarred_40 : decode cX12_isBarred 40 = .ok (.iaload, 1) := by decide +kernel
theorem dX12_isBarred_41 : decode cX12_isBarred 41 = .ok (.if_icmp .gt 31, 3) := by decide +kernel
theorem dX12_isBarred_44 : decode cX12_isBarred 44 = .ok (.iload_n 2, 1) := by decide +kernel
theorem dX12_isBarred_45 : decode cX12_isBarred 45 = .ok (.aload_n 0, 1) := by decide +kernel
theorem dX12_isBarred_46 : decode cX12_isBarred 46 = .ok (.getfield 9, 3) := by decide +kernel
theorem dX12_isBarred_49 : decode cX12_isBarred 49 = .ok (.iload 4, 2) := by decide +kernel
theorem dX12_isBarred_51 : decode cX12_isBarred 51 = .ok (.iconst 1, 1) := by decide +kernel
theorem dX12_isBarred_52 : decode cX12_isBarred 52 = .ok (.iadd, 1) := by decide +kernel
theorem dX12_isBarred_53 : decode cX12_isBarred 53 = .ok (.iaload, 1) := by decide +kernel
theorem dX12_isBarred_54 : decode cX12_isBarred 54 = .ok (.if_icmp .lt 18, 3) := by decide +kernel
theorem dX12_isBarred_57 : decode cX12_isBarred 57 = .ok (.iload_n 2, 1) := by decide +kernel
theorem dX12_isBarred_58 : decode cX12_isBarred 58 = .ok (.aload_n 0, 1) := by decide +kernel
theorem dX12_isBarred_59 : decode cX12_isBarred 59 = .ok (.getfield 9, 3) := by decide +kernel
theorem dX12_isBarred_62 : decode cX12_isBarred 62 = .ok (.iload 4, 2) := by decide +kernel
theorem dX12_isBarred_64 : decode cX12_isBarred 64 = .ok (.iconst 3, 1) := by decide +kernel
theorem dX12_isBarred_65 : decode cX12_isBarred 65 = .ok (.iadd, 1) := by decide +kernel
theorem dX12_isBarred_66 : decode cX12_isBarred 66 = .ok (.iaload, 1) := by decide +kernel
theorem dX12_isBarred_67 : decode cX12_isBarred 67 = .ok (.if_icmp .gt 5, 3) := by decide +kernel
theorem dX12_isBarred_70 : decode cX12_isBarred 70 = .ok (.iconst 1, 1) := by decide +kernel
theorem dX12_isBarred_71 : decode cX12_isBarred 71 = .ok (.ireturn, 1) := by decide +kernel
theorem dX12_isBarred_72 : decode cX12_isBarred 72 = .ok (.iinc 3 1, 3) := by decide +kernel
theorem dX12_isBarred_75 : decode cX12_isBarred 75 = .ok (.goto (-73), 3) := by decide +kernel
theorem dX12_isBarred_78 : decode cX12_isBarred 78 = .ok (.iconst 0, 1) := by decide +kernel
theorem dX12_isBarred_79 : decode cX12_isBarred 79 = .ok (.ireturn, 1) := by decide +kernel
theorem dX12_barred_0 : decode cX12_barred 0 = .ok (.iload_n 1, 1) := by decide +kernel
theorem dX12_barred_1 : decode cX12_barred 1 = .ok (.invokestatic 184, 3) := by decide +kernel
theorem dX12_barred_4 : decode cX12_barred 4 = .ok (.ifCond .eq 10, 3) := by decide +kernel
theorem dX12_barred_7 : decode cX12_barred 7 = .ok (.iload_n 2, 1) := by decide +kernel
theorem dX12_barred_8 : decode cX12_barred 8 = .ok (.invokestatic 184, 3) := by decide +kernel
theorem dX12_barred_11 : decode cX12_barred 11 = .ok (.ifCond .ne 7, 3) := by decide +kernel
theorem dX12_barred_14 : decode cX12_barred 14 = .ok (.iconst (-1), 1) := by decide +kernel
theorem dX12_barred_15 : decode cX12_barred 15 = .ok (.goto 17, 3) := by decide +kernel
theorem dX12_barred_18 : decode cX12_barred 18 = .ok (.aload_n 0, 1) := by decide +kernel
theorem dX12_barred_19 : decode cX12_barred 19 = .ok (.iload_n 1, 1) := by decide +kernel
theorem dX12_barred_20 : decode cX12_barred 20 = .ok (.iload_n 2, 1) := by decide +kernel
theorem dX12_barred_21 : decode cX12_barred 21 = .ok (.invokevirtual 191, 3) := by decide +kernel
theorem dX12_barred_24 : decode cX12_barred 24 = .ok (.ifCond .eq 7, 3) := by decide +kernel
theorem dX12_barred_27 : decode cX12_barred 27 = .ok (.iconst 1, 1) := by decide +kernel
theorem dX12_barred_28 : decode cX12_barred 28 = .ok (.goto 4, 3) := by decide +kernel
theorem dX12_barred_31 : decode cX12_barred 31 = .ok (.iconst 0, 1) := by decide +kernel
theorem dX12_barred_32 : decode cX12_barred 32 = .ok (.ireturn, 1) := by decide +kernel
theorem dX12_leaves_0 : decode cX12_leaves 0 = .ok (.aload_n 0, 1) := by decide +kernel
theorem dX12_leaves_1 : decode cX12_leaves 1 = .ok (.iload_n 1, 1) := by decide +kernel
theorem dX12_leaves_2 : decode cX12_leaves 2 = .ok (.putfield 194, 3) := by decide +kernel
theorem dX12_leaves_5 : decode cX12_leaves 5 = .ok (.aload_n 0, 1) := by decide +kernel
theorem dX12_leaves_6 : decode cX12_leaves 6 = .ok (.iload_n 2, 1) := by decide +kernel
theorem dX12_leaves_7 : decode cX12_leaves 7 = .ok (.putfield 197, 3) := by decide +kernel
theorem dX12_leaves_10 : decode cX12_leaves 10 = .ok (.aload_n 0, 1) := by decide +kernel
theorem dX12_leaves_11 : decode cX12_leaves 11 = .ok (.iload_n 3, 1) := by decide +kernel
theorem dX12_leaves_12 : decode cX12_leaves 12 = .ok (.putfield 200, 3) := by decide +kernel
theorem dX12_leaves_15 : decode cX12_leaves 15 = .ok (.aload_n 0, 1) := by decide +kernel
theorem dX12_leaves_16 : decode cX12_leaves 16 = .ok (.iconst (-1), 1) := by decide +kernel
theorem dX12_leaves_17 : decode cX12_leaves 17 = .ok (.putfield 203, 3) := by decide +kernel
theorem dX12_leaves_20 : decode cX12_leaves 20 = .ok (.aload_n 0, 1) := by decide +kernel
theorem dX12_leaves_21 : decode cX12_leaves 21 = .ok (.iload 4, 2) := by decide +kernel
theorem dX12_leaves_23 : decode cX12_leaves 23 = .ok (.putfield 206, 3) := by decide +kernel
theorem dX12_leaves_26 : decode cX12_leaves 26 = .ok (.aload_n 0, 1) := by decide +kernel
theorem dX12_leaves_27 : decode cX12_leaves 27 = .ok (.iload 5, 2) := by decide +kernel
theorem dX12_leaves_29 : decode cX12_leaves 29 = .ok (.putfield 209, 3) := by decide +kernel
theorem dX12_leaves_32 : decode cX12_leaves 32 = .ok (.aload_n 0, 1) := by decide +kernel
theorem dX12_leaves_33 : decode cX12_leaves 33 = .ok (.aload_n 0, 1) := by decide +kernel
theorem dX12_leaves_34 : decode cX12_leaves 34 = .ok (.getfield 9, 3) := by decide +kernel
theorem dX12_leaves_37 : decode cX12_leaves 37 = .ok (.iconst 2, 1) := by decide +kernel
theorem dX12_leaves_38 : decode cX12_leaves 38 = .ok (.iaload, 1) := by decide +kernel
theorem dX12_leaves_39 : decode cX12_leaves 39 = .ok (.putfield 212, 3) := by decide +kernel
theorem dX12_leaves_42 : decode cX12_leaves 42 = .ok (.aload_n 0, 1) := by decide +kernel
theorem dX12_leaves_43 : decode cX12_leaves 43 = .ok (.iconst 0, 1) := by decide +kernel
theorem dX12_leaves_44 : decode cX12_leaves 44 = .ok (.putfield 215, 3) := by decide +kernel
theorem dX12_leaves_47 : decode cX12_leaves 47 = .ok (.aload_n 0, 1) := by decide +kernel
theorem dX12_leaves_48 : decode cX12_leaves 48 = .ok (.iload 6, 2) := by decide +kernel
theorem dX12_leaves_50 : decode cX12_leaves 50 = .ok (.putfield 218, 3) := by decide +kernel
theorem dX12_leaves_53 : decode cX12_leaves 53 = .ok (.aload_n 0, 1) := by decide +kernel
theorem dX12_leaves_54 : decode cX12_leaves 54 = .ok (.bipush (-4), 2) := by decide +kernel
theorem dX12_leaves_56 : decode cX12_leaves 56 = .ok (.putfield 221, 3) := by decide +kernel
theorem dX12_leaves_59 : decode cX12_leaves 59 = .ok (.return_, 1) := by decide +kernel
theorem dX12_leavesOne_0 : decode cX12_leavesOne 0 = .ok (.aload_n 0, 1) := by decide +kernel
theorem dX12_leavesOne_1 : decode cX12_leavesOne 1 = .ok (.aload_n 0, 1) := by decide +kernel
theorem dX12_leavesOne_2 : decode cX12_leavesOne 2 = .ok (.iload_n 1, 1) := by decide +kernel
theorem dX12_leavesOne_3 : decode cX12_leavesOne 3 = .ok (.iconst 0, 1) := by decide +kernel
theorem dX12_leavesOne_4 : decode cX12_leavesOne 4 = .ok (.invokevirtual 152, 3) := by decide +kernel
theorem dX12_leavesOne_7 : decode cX12_leavesOne 7 = .ok (.aload_n 0, 1) := by decide +kernel
theorem dX12_leavesOne_8 : decode cX12_leavesOne 8 = .ok (.iload_n 1, 1) := by decide +kernel
theorem dX12_leavesOne_9 : decode cX12_leavesOne 9 = .ok (.iconst 1, 1) := by decide +kernel
theorem dX12_leavesOne_10 : decode cX12_leavesOne 10 = .ok (.invokevirtual 152, 3) := by decide +kernel
theorem dX12_leavesOne_13 : decode cX12_leavesOne 13 = .ok (.aload_n 0, 1) := by decide +kernel
theorem dX12_leavesOne_14 : decode cX12_leavesOne 14 = .ok (.iload_n 1, 1) := by decide +kernel
theorem dX12_leavesOne_15 : decode cX12_leavesOne 15 = .ok (.iconst 2, 1) := by decide +kernel
theorem dX12_leavesOne_16 : decode cX12_leavesOne 16 = .ok (.invokevirtual 152, 3) := by decide +kernel
theorem dX12_leavesOne_19 : decode cX12_leavesOne 19 = .ok (.iload_n 2, 1) := by decide +kernel
theorem dX12_leavesOne_20 : decode cX12_leavesOne 20 = .ok (.iload_n 3, 1) := by decide +kernel
theorem dX12_leavesOne_21 : decode cX12_leavesOne 21 = .ok (.iload 4, 2) := by decide +kernel
theorem dX12_leavesOne_23 : decode cX12_leavesOne 23 = .ok (.invokevirtual 224, 3) := by decide +kernel
theorem dX12_leavesOne_26 : decode cX12_leavesOne 26 = .ok (.return_, 1) := by decide +kernel
theorem dX12_hasLanded_0 : decode cX12_hasLanded 0 = .ok (.aload_n 0, 1) := by decide +kernel
theorem dX12_hasLanded_1 : decode cX12_hasLanded 1 = .ok (.getfield 212, 3) := by decide +kernel
theorem dX12_hasLanded_4 : decode cX12_hasLanded 4 = .ok (.ifCond .ne 7, 3) := by decide +kernel
theorem dX12_hasLanded_7 : decode cX12_hasLanded 7 = .ok (.iconst 1, 1) := by decide +kernel
theorem dX12_hasLanded_8 : decode cX12_hasLanded 8 = .ok (.goto 4, 3) := by decide +kernel
theorem dX12_hasLanded_11 : decode cX12_hasLanded 11 = .ok (.iconst 0, 1) := by decide +kernel
theorem dX12_hasLanded_12 : decode cX12_hasLanded 12 = .ok (.ireturn, 1) := by decide +kernel
theorem dX12_goesDown_0 : decode cX12_goesDown 0 = .ok (.aload_n 0, 1) := by decide +kernel
theorem dX12_goesDown_1 : decode cX12_goesDown 1 = .ok (.aload_n 0, 1) := by decide +kernel
theorem dX12_goesDown_2 : decode cX12_goesDown 2 = .ok (.getfield 212, 3) := by decide +kernel
theorem dX12_goesDown_5 : decode cX12_goesDown 5 = .ok (.iload_n 1, 1) := by decide +kernel
theorem dX12_goesDown_6 : decode cX12_goesDown 6 = .ok (.if_icmp .le 12, 3) := by decide +kernel
theorem dX12_goesDown_9 : decode cX12_goesDown 9 = .ok (.aload_n 0, 1) := by decide +kernel
theorem dX12_goesDown_10 : decode cX12_goesDown 10 = .ok (.getfield 212, 3) := by decide +kernel
theorem dX12_goesDown_13 : decode cX12_goesDown 13 = .ok (.iload_n 1, 1) := by decide +kernel
theorem dX12_goesDown_14 : decode cX12_goesDown 14 = .ok (.isub, 1) := by decide +kernel
theorem dX12_goesDown_15 : decode cX12_goesDown 15 = .ok (.goto 4, 3) := by decide +kernel
theorem dX12_goesDown_18 : decode cX12_goesDown 18 = .ok (.iconst 0, 1) := by decide +kernel
theorem dX12_goesDown_19 : decode cX12_goesDown 19 = .ok (.putfield 212, 3) := by decide +kernel
theorem dX12_goesDown_22 : decode cX12_goesDown 22 = .ok (.return_, 1) := by decide +kernel
theorem dX12_drawn_0 : decode cX12_drawn 0 = .ok (.aload_n 0, 1) := by decide +kernel
theorem dX12_drawn_1 : decode cX12_drawn 1 = .ok (.aload_n 0, 1) := by decide +kernel
theorem dX12_drawn_2 : decode cX12_drawn 2 = .ok (.getfield 218, 3) := by decide +kernel
theorem dX12_drawn_5 : decode cX12_drawn 5 = .ok (.ldc 227, 2) := by decide +kernel
theorem dX12_drawn_7 : decode cX12_drawn 7 = .ok (.imul, 1) := by decide +kernel
theorem dX12_drawn_8 : decode cX12_drawn 8 = .ok (.sipush 12345, 3) := by decide +kernel
theorem dX12_drawn_11 : decode cX12_drawn 11 = .ok (.iadd, 1) := by decide +kernel
theorem dX12_drawn_12 : decode cX12_drawn 12 = .ok (.putfield 218, 3) := by decide +kernel
theorem dX12_drawn_15 : decode cX12_drawn 15 = .ok (.aload_n 0, 1) := by decide +kernel
theorem dX12_drawn_16 : decode cX12_drawn 16 = .ok (.getfield 218, 3) := by decide +kernel
theorem dX12_drawn_19 : decode cX12_drawn 19 = .ok (.ldc 228, 2) := by decide +kernel
theorem dX12_drawn_21 : decode cX12_drawn 21 = .ok (.iand, 1) := by decide +kernel
theorem dX12_drawn_22 : decode cX12_drawn 22 = .ok (.ldc 229, 2) := by decide +kernel
theorem dX12_drawn_24 : decode cX12_drawn 24 = .ok (.idiv, 1) := by decide +kernel
theorem dX12_drawn_25 : decode cX12_drawn 25 = .ok (.iload_n 1, 1) := by decide +kernel
theorem dX12_drawn_26 : decode cX12_drawn 26 = .ok (.irem, 1) := by decide +kernel
theorem dX12_drawn_27 : decode cX12_drawn 27 = .ok (.ireturn, 1) := by decide +kernel
theorem dX12_holdsWay_0 : decode cX12_holdsWay 0 = .ok (.aload_n 0, 1) := by decide +kernel
theorem dX12_holdsWay_1 : decode cX12_holdsWay 1 = .ok (.getfield 194, 3) := by decide +kernel
theorem dX12_holdsWay_4 : decode cX12_holdsWay 4 = .ok (.aload_n 0, 1) := by decide +kernel
theorem dX12_holdsWay_5 : decode cX12_holdsWay 5 = .ok (.getfield 197, 3) := by decide +kernel
theorem dX12_holdsWay_8 : decode cX12_holdsWay 8 = .ok (.invokestatic 161, 3) := by decide +kernel
theorem dX12_holdsWay_11 : decode cX12_holdsWay 11 = .ok (.istore_n 1, 1) := by decide +kernel
theorem dX12_holdsWay_12 : decode cX12_holdsWay 12 = .ok (.aload_n 0, 1) := by decide +kernel
theorem dX12_holdsWay_13 : decode cX12_holdsWay 13 = .ok (.aload_n 0, 1) := by decide +kernel
theorem dX12_holdsWay_14 : decode cX12_holdsWay 14 = .ok (.getfield 203, 3) := by decide +kernel
theorem dX12_holdsWay_17 : decode cX12_holdsWay 17 = .ok (.iconst 1, 1) := by decide +kernel
theorem dX12_holdsWay_18 : decode cX12_holdsWay 18 = .ok (.if_icmp .eq 20, 3) := by decide +kernel
theorem dX12_holdsWay_21 : decode cX12_holdsWay 21 = .ok (.aload_n 0, 1) := by decide +kernel
theorem dX12_holdsWay_22 : decode cX12_holdsWay 22 = .ok (.getfield 203, 3) := by decide +kernel
theorem dX12_holdsWay_25 : decode cX12_holdsWay 25 = .ok (.iconst 5, 1) := by decide +kernel
theorem dX12_holdsWay_26 : decode cX12_holdsWay 26 = .ok (.if_icmp .eq 12, 3) := by decide +kernel
theorem dX12_holdsWay_29 : decode cX12_holdsWay 29 = .ok (.aload_n 0, 1) := by decide +kernel
theorem dX12_holdsWay_30 : decode cX12_holdsWay 30 = .ok (.getfield 203, 3) := by decide +kernel
theorem dX12_holdsWay_33 : decode cX12_holdsWay 33 = .ok (.bipush 7, 2) := by decide +kernel
theorem dX12_holdsWay_35 : decode cX12_holdsWay 35 = .ok (.if_icmp .ne 7, 3) := by decide +kernel
theorem dX12_holdsWay_38 : decode cX12_holdsWay 38 = .ok (.iload_n 1, 1) := by decide +kernel
theorem dX12_holdsWay_39 : decode cX12_holdsWay 39 = .ok (.goto 35, 3) := by decide +kernel
theorem dX12_holdsWay_42 : decode cX12_holdsWay 42 = .ok (.aload_n 0, 1) := by decide +kernel
theorem dX12_holdsWay_43 : decode cX12_holdsWay 43 = .ok (.getfield 203, 3) := by decide +kernel
theorem dX12_holdsWay_46 : decode cX12_holdsWay 46 = .ok (.iconst 2, 1) := by decide +kernel
theorem dX12_holdsWay_47 : decode cX12_holdsWay 47 = .ok (.if_icmp .eq 21, 3) := by decide +kernel
theorem dX12_holdsWay_50 : decode cX12_holdsWay 50 = .ok (.aload_n 0, 1) := by decide +kernel
theorem dX12_holdsWay_51 : decode cX12_holdsWay 51 = .ok (.getfield 203, 3) := by decide +kernel
theorem dX12_holdsWay_54 : decode cX12_holdsWay 54 = .ok (.bipush 6, 2) := by decide +kernel
theorem dX12_holdsWay_56 : decode cX12_holdsWay 56 = .ok (.if_icmp .eq 12, 3) := by decide +kernel
theorem dX12_holdsWay_59 : decode cX12_holdsWay 59 = .ok (.aload_n 0, 1) := by decide +kernel
theorem dX12_holdsWay_60 : decode cX12_holdsWay 60 = .ok (.getfield 203, 3) := by decide +kernel
theorem dX12_holdsWay_63 : decode cX12_holdsWay 63 = .ok (.bipush 8, 2) := by decide +kernel
theorem dX12_holdsWay_65 : decode cX12_holdsWay 65 = .ok (.if_icmp .ne 8, 3) := by decide +kernel
theorem dX12_holdsWay_68 : decode cX12_holdsWay 68 = .ok (.iload_n 1, 1) := by decide +kernel
theorem dX12_holdsWay_69 : decode cX12_holdsWay 69 = .ok (.ineg, 1) := by decide +kernel
theorem dX12_holdsWay_70 : decode cX12_holdsWay 70 = .ok (.goto 4, 3) := by decide +kernel
theorem dX12_holdsWay_73 : decode cX12_holdsWay 73 = .ok (.iconst 0, 1) := by decide +kernel
theorem dX12_holdsWay_74 : decode cX12_holdsWay 74 = .ok (.putfield 174, 3) := by decide +kernel
theorem dX12_holdsWay_77 : decode cX12_holdsWay 77 = .ok (.aload_n 0, 1) := by decide +kernel
theorem dX12_holdsWay_78 : decode cX12_holdsWay 78 = .ok (.aload_n 0, 1) := by decide +kernel
theorem dX12_holdsWay_79 : decode cX12_holdsWay 79 = .ok (.getfield 203, 3) := by decide +kernel
theorem dX12_holdsWay_82 : decode cX12_holdsWay 82 = .ok (.iconst 3, 1) := by decide +kernel
theorem dX12_holdsWay_83 : decode cX12_holdsWay 83 = .ok (.if_icmp .eq 20, 3) := by decide +kernel
theorem dX12_holdsWay_86 : decode cX12_holdsWay 86 = .ok (.aload_n 0, 1) := by decide +kernel
theorem dX12_holdsWay_87 : decode cX12_holdsWay 87 = .ok (.getfield 203, 3) := by decide +kernel
theorem dX12_holdsWay_90 : decode cX12_holdsWay 90 = .ok (.iconst 5, 1) := by decide +kernel
theorem dX12_holdsWay_91 : decode cX12_holdsWay 91 = .ok (.if_icmp .eq 12, 3) := by decide +kernel
theorem dX12_holdsWay_94 : decode cX12_holdsWay 94 = .ok (.aload_n 0, 1) := by decide +kernel
theorem dX12_holdsWay_95 : decode cX12_holdsWay 95 = .ok (.getfield 203, 3) := by decide +kernel
theorem dX12_holdsWay_98 : decode cX12_holdsWay 98 = .ok (.bipush 6, 2) := by decide +kernel
theorem dX12_holdsWay_100 : decode cX12_holdsWay 100 = .ok (.if_icmp .ne 7, 3) := by decide +kernel
theorem dX12_holdsWay_103 : decode cX12_holdsWay 103 = .ok (.iload_n 1, 1) := by decide +kernel
theorem dX12_holdsWay_104 : decode cX12_holdsWay 104 = .ok (.goto 35, 3) := by decide +kernel
theorem dX12_holdsWay_107 : decode cX12_holdsWay 107 = .ok (.aload_n 0, 1) := by decide +kernel
theorem dX12_holdsWay_108 : decode cX12_holdsWay 108 = .ok (.getfield 203, 3) := by decide +kernel
theorem dX12_holdsWay_111 : decode cX12_holdsWay 111 = .ok (.iconst 4, 1) := by decide +kernel
theorem dX12_holdsWay_112 : decode cX12_holdsWay 112 = .ok (.if_icmp .eq 21, 3) := by decide +kernel
theorem dX12_holdsWay_115 : decode cX12_holdsWay 115 = .ok (.aload_n 0, 1) := by decide +kernel
theorem dX12_holdsWay_116 : decode cX12_holdsWay 116 = .ok (.getfield 203, 3) := by decide +kernel
theorem dX12_holdsWay_119 : decode cX12_holdsWay 119 = .ok (.bipush 7, 2) := by decide +kernel
theorem dX12_holdsWay_121 : decode cX12_holdsWay 121 = .ok (.if_icmp .eq 12, 3) := by decide +kernel
theorem dX12_holdsWay_124 : decode cX12_holdsWay 124 = .ok (.aload_n 0, 1) := by decide +kernel
theorem dX12_holdsWay_125 : decode cX12_holdsWay 125 = .ok (.getfield 203, 3) := by decide +kernel
theorem dX12_holdsWay_128 : decode cX12_holdsWay 128 = .ok (.bipush 8, 2) := by decide +kernel
theorem dX12_holdsWay_130 : decode cX12_holdsWay 130 = .ok (.if_icmp .ne 8, 3) := by decide +kernel
theorem dX12_holdsWay_133 : decode cX12_holdsWay 133 = .ok (.iload_n 1, 1) := by decide +kernel
theorem dX12_holdsWay_134 : decode cX12_holdsWay 134 = .ok (.ineg, 1) := by decide +kernel
theorem dX12_holdsWay_135 : decode cX12_holdsWay 135 = .ok (.goto 4, 3) := by decide +kernel
theorem dX12_holdsWay_138 : decode cX12_holdsWay 138 = .ok (.iconst 0, 1) := by decide +kernel
theorem dX12_holdsWay_139 : decode cX12_holdsWay 139 = .ok (.putfield 177, 3) := by decide +kernel
theorem dX12_holdsWay_142 : decode cX12_holdsWay 142 = .ok (.return_, 1) := by decide +kernel
theorem dX12_goesSecond_0 : decode cX12_goesSecond 0 = .ok (.aload_n 0, 1) := by decide +kernel
theorem dX12_goesSecond_1 : decode cX12_goesSecond 1 = .ok (.getfield 212, 3) := by decide +kernel
theorem dX12_goesSecond_4 : decode cX12_goesSecond 4 = .ok (.sipush 300, 3) := by decide +kernel
theorem dX12_goesSecond_7 : decode cX12_goesSecond 7 = .ok (.idiv, 1) := by decide +kernel
theorem dX12_goesSecond_8 : decode cX12_goesSecond 8 = .ok (.bipush 9, 2) := by decide +kernel
theorem dX12_goesSecond_10 : decode cX12_goesSecond 10 = .ok (.invokestatic 121, 3) := by decide +kernel
theorem dX12_goesSecond_13 : decode cX12_goesSecond 13 = .ok (.istore_n 1, 1) := by decide +kernel
theorem dX12_goesSecond_14 : decode cX12_goesSecond 14 = .ok (.aload_n 0, 1) := by decide +kernel
theorem dX12_goesSecond_15 : decode cX12_goesSecond 15 = .ok (.iload_n 1, 1) := by decide +kernel
theorem dX12_goesSecond_16 : decode cX12_goesSecond 16 = .ok (.invokevirtual 144, 3) := by decide +kernel
theorem dX12_goesSecond_19 : decode cX12_goesSecond 19 = .ok (.istore_n 2, 1) := by decide +kernel
theorem dX12_goesSecond_20 : decode cX12_goesSecond 20 = .ok (.aload_n 0, 1) := by decide +kernel
theorem dX12_goesSecond_21 : decode cX12_goesSecond 21 = .ok (.iload_n 1, 1) := by decide +kernel
theorem dX12_goesSecond_22 : decode cX12_goesSecond 22 = .ok (.invokevirtual 140, 3) := by decide +kernel
theorem dX12_goesSecond_25 : decode cX12_goesSecond 25 = .ok (.istore_n 3, 1) := by decide +kernel
theorem dX12_goesSecond_26 : decode cX12_goesSecond 26 = .ok (.aload_n 0, 1) := by decide +kernel
theorem dX12_goesSecond_27 : decode cX12_goesSecond 27 = .ok (.getfield 215, 3) := by decide +kernel
theorem dX12_goesSecond_30 : decode cX12_goesSecond 30 = .ok (.aload_n 0, 1) := by decide +kernel
theorem dX12_goesSecond_31 : decode cX12_goesSecond 31 = .ok (.getfield 200, 3) := by decide +kernel
theorem dX12_goesSecond_34 : decode cX12_goesSecond 34 = .ok (.if_icmp .ge 96, 3) := by decide +kernel
theorem dX12_goesSecond_37 : decode cX12_goesSecond 37 = .ok (.aload_n 0, 1) := by decide +kernel
theorem dX12_goesSecond_38 : decode cX12_goesSecond 38 = .ok (.getfield 215, 3) := by decide +kernel
theorem dX12_goesSecond_41 : decode cX12_goesSecond 41 = .ok (.bipush 10, 2) := by decide +kernel
theorem dX12_goesSecond_43 : decode cX12_goesSecond 43 = .ok (.if_icmp .ge 13, 3) := by decide +kernel
theorem dX12_goesSecond_46 : decode cX12_goesSecond 46 = .ok (.bipush 10, 2) := by decide +kernel
theorem dX12_goesSecond_48 : decode cX12_goesSecond 48 = .ok (.aload_n 0, 1) := by decide +kernel
theorem dX12_goesSecond_49 : decode cX12_goesSecond 49 = .ok (.getfield 215, 3) := by decide +kernel
theorem dX12_goesSecond_52 : decode cX12_goesSecond 52 = .ok (.isub, 1) := by decide +kernel
theorem dX12_goesSecond_53 : decode cX12_goesSecond 53 = .ok (.goto 4, 3) := by decide +kernel
theorem dX12_goesSecond_56 : decode cX12_goesSecond 56 = .ok (.iconst 0, 1) := by decide +kernel
theorem dX12_goesSecond_57 : decode cX12_goesSecond 57 = .ok (.istore 4, 2) := by decide +kernel
theorem dX12_goesSecond_59 : decode cX12_goesSecond 59 = .ok (.aload_n 0, 1) := by decide +kernel
theorem dX12_goesSecond_60 : decode cX12_goesSecond 60 = .ok (.aload_n 0, 1) := by decide +kernel
theorem dX12_goesSecond_61 : decode cX12_goesSecond 61 = .ok (.getfield 206, 3) := by decide +kernel
theorem dX12_goesSecond_64 : decode cX12_goesSecond 64 = .ok (.aload_n 0, 1) := by decide +kernel
theorem dX12_goesSecond_65 : decode cX12_goesSecond 65 = .ok (.getfield 9, 3) := by decide +kernel
theorem dX12_goesSecond_68 : decode cX12_goesSecond 68 = .ok (.iconst 1, 1) := by decide +kernel
theorem dX12_goesSecond_69 : decode cX12_goesSecond 69 = .ok (.iaload, 1) := by decide +kernel
theorem dX12_goesSecond_70 : decode cX12_goesSecond 70 = .ok (.iload 4, 2) := by decide +kernel
theorem dX12_goesSecond_72 : decode cX12_goesSecond 72 = .ok (.imul, 1) := by decide +kernel
theorem dX12_goesSecond_73 : decode cX12_goesSecond 73 = .ok (.bipush 10, 2) := by decide +kernel
theorem dX12_goesSecond_75 : decode cX12_goesSecond 75 = .ok (.idiv, 1) := by decide +kernel
theorem dX12_goesSecond_76 : decode cX12_goesSecond 76 = .ok (.iadd, 1) := by decide +kernel
theorem dX12_goesSecond_77 : decode cX12_goesSecond 77 = .ok (.aload_n 0, 1) := by decide +kernel
theorem dX12_goesSecond_78 : decode cX12_goesSecond 78 = .ok (.getfield 194, 3) := by decide +kernel
theorem dX12_goesSecond_81 : decode cX12_goesSecond 81 = .ok (.iload_n 2, 1) := by decide +kernel
theorem dX12_goesSecond_82 : decode cX12_goesSecond 82 = .ok (.invokestatic 168, 3) := by decide +kernel
theorem dX12_goesSecond_85 : decode cX12_goesSecond 85 = .ok (.iconst 2, 1) := by decide +kernel
theorem dX12_goesSecond_86 : decode cX12_goesSecond 86 = .ok (.idiv, 1) := by decide +kernel
theorem dX12_goesSecond_87 : decode cX12_goesSecond 87 = .ok (.iadd, 1) := by decide +kernel
theorem dX12_goesSecond_88 : decode cX12_goesSecond 88 = .ok (.invokestatic 230, 3) := by decide +kernel
theorem dX12_goesSecond_91 : decode cX12_goesSecond 91 = .ok (.putfield 206, 3) := by decide +kernel
theorem dX12_goesSecond_94 : decode cX12_goesSecond 94 = .ok (.aload_n 0, 1) := by decide +kernel
theorem dX12_goesSecond_95 : decode cX12_goesSecond 95 = .ok (.aload_n 0, 1) := by decide +kernel
theorem dX12_goesSecond_96 : decode cX12_goesSecond 96 = .ok (.getfield 209, 3) := by decide +kernel
theorem dX12_goesSecond_99 : decode cX12_goesSecond 99 = .ok (.aload_n 0, 1) := by decide +kernel
theorem dX12_goesSecond_100 : decode cX12_goesSecond 100 = .ok (.getfield 194, 3) := by decide +kernel
theorem dX12_goesSecond_103 : decode cX12_goesSecond 103 = .ok (.iload_n 3, 1) := by decide +kernel
theorem dX12_goesSecond_104 : decode cX12_goesSecond 104 = .ok (.invokestatic 168, 3) := by decide +kernel
theorem dX12_goesSecond_107 : decode cX12_goesSecond 107 = .ok (.iconst 2, 1) := by decide +kernel
theorem dX12_goesSecond_108 : decode cX12_goesSecond 108 = .ok (.idiv, 1) := by decide +kernel
theorem dX12_goesSecond_109 : decode cX12_goesSecond 109 = .ok (.iadd, 1) := by decide +kernel
theorem dX12_goesSecond_110 : decode cX12_goesSecond 110 = .ok (.invokestatic 230, 3) := by decide +kernel
theorem dX12_goesSecond_113 : decode cX12_goesSecond 113 = .ok (.putfield 209, 3) := by decide +kernel
theorem dX12_goesSecond_116 : decode cX12_goesSecond 116 = .ok (.aload_n 0, 1) := by decide +kernel
theorem dX12_goesSecond_117 : decode cX12_goesSecond 117 = .ok (.aload_n 0, 1) := by decide +kernel
theorem dX12_goesSecond_118 : decode cX12_goesSecond 118 = .ok (.getfield 194, 3) := by decide +kernel
theorem dX12_goesSecond_121 : decode cX12_goesSecond 121 = .ok (.invokestatic 155, 3) := by decide +kernel
theorem dX12_goesSecond_124 : decode cX12_goesSecond 124 = .ok (.invokevirtual 233, 3) := by decide +kernel
theorem dX12_goesSecond_127 : decode cX12_goesSecond 127 = .ok (.goto 173, 3) := by decide +kernel
theorem dX12_goesSecond_130 : decode cX12_goesSecond 130 = .ok (.aload_n 0, 1) := by decide +kernel
theorem dX12_goesSecond_131 : decode cX12_goesSecond 131 = .ok (.getfield 221, 3) := by decide +kernel
theorem dX12_goesSecond_134 : decode cX12_goesSecond 134 = .ok (.ifCond .ge 27, 3) := by decide +kernel
theorem dX12_goesSecond_137 : decode cX12_goesSecond 137 = .ok (.aload_n 0, 1) := by decide +kernel
theorem dX12_goesSecond_138 : decode cX12_goesSecond 138 = .ok (.aload_n 0, 1) := by decide +kernel
theorem dX12_goesSecond_139 : decode cX12_goesSecond 139 = .ok (.getfield 206, 3) := by decide +kernel
theorem dX12_goesSecond_142 : decode cX12_goesSecond 142 = .ok (.putfield 237, 3) := by decide +kernel
theorem dX12_goesSecond_145 : decode cX12_goesSecond 145 = .ok (.aload_n 0, 1) := by decide +kernel
theorem dX12_goesSecond_146 : decode cX12_goesSecond 146 = .ok (.aload_n 0, 1) := by decide +kernel
theorem dX12_goesSecond_147 : decode cX12_goesSecond 147 = .ok (.getfield 209, 3) := by decide +kernel
theorem dX12_goesSecond_150 : decode cX12_goesSecond 150 = .ok (.putfield 240, 3) := by decide +kernel
theorem dX12_goesSecond_153 : decode cX12_goesSecond 153 = .ok (.aload_n 0, 1) := by decide +kernel
theorem dX12_goesSecond_154 : decode cX12_goesSecond 154 = .ok (.aload_n 0, 1) := by decide +kernel
theorem dX12_goesSecond_155 : decode cX12_goesSecond 155 = .ok (.getfield 215, 3) := by decide +kernel
theorem dX12_goesSecond_158 : decode cX12_goesSecond 158 = .ok (.putfield 221, 3) := by decide +kernel
theorem dX12_goesSecond_161 : decode cX12_goesSecond 161 = .ok (.iload_n 1, 1) := by decide +kernel
theorem dX12_goesSecond_162 : decode cX12_goesSecond 162 = .ok (.ifCond .ne 36, 3) := by decide +kernel
theorem dX12_goesSecond_165 : decode cX12_goesSecond 165 = .ok (.aload_n 0, 1) := by decide +kernel
theorem dX12_goesSecond_166 : decode cX12_goesSecond 166 = .ok (.getfield 9, 3) := by decide +kernel
theorem dX12_goesSecond_169 : decode cX12_goesSecond 169 = .ok (.iconst 0, 1) := by decide +kernel
theorem dX12_goesSecond_170 : decode cX12_goesSecond 170 = .ok (.iaload, 1) := by decide +kernel
theorem dX12_goesSecond_171 : decode cX12_goesSecond 171 = .ok (.ifCond .le 27, 3) := by decide +kernel
theorem dX12_goesSecond_174 : decode cX12_goesSecond 174 = .ok (.iload_n 2, 1) := by decide +kernel
theorem dX12_goesSecond_175 : decode cX12_goesSecond 175 = .ok (.aload_n 0, 1) := by decide +kernel
theorem dX12_goesSecond_176 : decode cX12_goesSecond 176 = .ok (.iconst 2, 1) := by decide +kernel
theorem dX12_goesSecond_177 : decode cX12_goesSecond 177 = .ok (.aload_n 0, 1) := by decide +kernel
theorem dX12_goesSecond_178 : decode cX12_goesSecond 178 = .ok (.getfield 9, 3) := by decide +kernel
theorem dX12_goesSecond_181 : decode cX12_goesSecond 181 = .ok (.iconst 0, 1) := by decide +kernel
theorem dX12_goesSecond_182 : decode cX12_goesSecond 182 = .ok (.iaload, 1) := by decide +kernel
theorem dX12_goesSecond_183 : decode cX12_goesSecond 183 = .ok (.imul, 1) := by decide +kernel
theorem dX12_goesSecond_184 : decode cX12_goesSecond 184 = .ok (.iconst 1, 1) := by decide +kernel
theorem dX12_goesSecond_185 : decode cX12_goesSecond 185 = .ok (.iadd, 1) := by decide +kernel
theorem dX12_goesSecond_186 : decode cX12_goesSecond 186 = .ok (.invokevirtual 243, 3) := by decide +kernel
theorem dX12_goesSecond_189 : decode cX12_goesSecond 189 = .ok (.aload_n 0, 1) := by decide +kernel
theorem dX12_goesSecond_190 : decode cX12_goesSecond 190 = .ok (.getfield 9, 3) := by decide +kernel
theorem dX12_goesSecond_193 : decode cX12_goesSecond 193 = .ok (.iconst 0, 1) := by decide +kernel
theorem dX12_goesSecond_194 : decode cX12_goesSecond 194 = .ok (.iaload, 1) := by decide +kernel
theorem dX12_goesSecond_195 : decode cX12_goesSecond 195 = .ok (.isub, 1) := by decide +kernel
theorem dX12_goesSecond_196 : decode cX12_goesSecond 196 = .ok (.iadd, 1) := by decide +kernel
theorem dX12_goesSecond_197 : decode cX12_goesSecond 197 = .ok (.istore_n 2, 1) := by decide +kernel
theorem dX12_goesSecond_198 : decode cX12_goesSecond 198 = .ok (.aload_n 0, 1) := by decide +kernel
theorem dX12_goesSecond_199 : decode cX12_goesSecond 199 = .ok (.getfield 203, 3) := by decide +kernel
theorem dX12_goesSecond_202 : decode cX12_goesSecond 202 = .ok (.iconst (-1), 1) := by decide +kernel
theorem dX12_goesSecond_203 : decode cX12_goesSecond 203 = .ok (.if_icmp .ne 28, 3) := by decide +kernel
theorem dX12_goesSecond_206 : decode cX12_goesSecond 206 = .ok (.aload_n 0, 1) := by decide +kernel
theorem dX12_goesSecond_207 : decode cX12_goesSecond 207 = .ok (.aload_n 0, 1) := by decide +kernel
theorem dX12_goesSecond_208 : decode cX12_goesSecond 208 = .ok (.getfield 194, 3) := by decide +kernel
theorem dX12_goesSecond_211 : decode cX12_goesSecond 211 = .ok (.aload_n 0, 1) := by decide +kernel
theorem dX12_goesSecond_212 : decode cX12_goesSecond 212 = .ok (.getfield 197, 3) := by decide +kernel
theorem dX12_goesSecond_215 : decode cX12_goesSecond 215 = .ok (.aload_n 0, 1) := by decide +kernel
theorem dX12_goesSecond_216 : decode cX12_goesSecond 216 = .ok (.getfield 206, 3) := by decide +kernel
theorem dX12_goesSecond_219 : decode cX12_goesSecond 219 = .ok (.aload_n 0, 1) := by decide +kernel
theorem dX12_goesSecond_220 : decode cX12_goesSecond 220 = .ok (.getfield 209, 3) := by decide +kernel
theorem dX12_goesSecond_223 : decode cX12_goesSecond 223 = .ok (.iload_n 2, 1) := by decide +kernel
theorem dX12_goesSecond_224 : decode cX12_goesSecond 224 = .ok (.iload_n 3, 1) := by decide +kernel
theorem dX12_goesSecond_225 : decode cX12_goesSecond 225 = .ok (.invokevirtual 187, 3) := by decide +kernel
theorem dX12_goesSecond_228 : decode cX12_goesSecond 228 = .ok (.goto 7, 3) := by decide +kernel
theorem dX12_goesSecond_231 : decode cX12_goesSecond 231 = .ok (.aload_n 0, 1) := by decide +kernel
theorem dX12_goesSecond_232 : decode cX12_goesSecond 232 = .ok (.invokevirtual 246, 3) := by decide +kernel
theorem dX12_goesSecond_235 : decode cX12_goesSecond 235 = .ok (.aload_n 0, 1) := by decide +kernel
theorem dX12_goesSecond_236 : decode cX12_goesSecond 236 = .ok (.aload_n 0, 1) := by decide +kernel
theorem dX12_goesSecond_237 : decode cX12_goesSecond 237 = .ok (.getfield 206, 3) := by decide +kernel
theorem dX12_goesSecond_240 : decode cX12_goesSecond 240 = .ok (.aload_n 0, 1) := by decide +kernel
theorem dX12_goesSecond_241 : decode cX12_goesSecond 241 = .ok (.getfield 174, 3) := by decide +kernel
theorem dX12_goesSecond_244 : decode cX12_goesSecond 244 = .ok (.iadd, 1) := by decide +kernel
theorem dX12_goesSecond_245 : decode cX12_goesSecond 245 = .ok (.aload_n 0, 1) := by decide +kernel
theorem dX12_goesSecond_246 : decode cX12_goesSecond 246 = .ok (.getfield 194, 3) := by decide +kernel
theorem dX12_goesSecond_249 : decode cX12_goesSecond 249 = .ok (.iload_n 2, 1) := by decide +kernel
theorem dX12_goesSecond_250 : decode cX12_goesSecond 250 = .ok (.invokestatic 168, 3) := by decide +kernel
theorem dX12_goesSecond_253 : decode cX12_goesSecond 253 = .ok (.iadd, 1) := by decide +kernel
theorem dX12_goesSecond_254 : decode cX12_goesSecond 254 = .ok (.invokestatic 230, 3) := by decide +kernel
theorem dX12_goesSecond_257 : decode cX12_goesSecond 257 = .ok (.putfield 206, 3) := by decide +kernel
theorem dX12_goesSecond_260 : decode cX12_goesSecond 260 = .ok (.aload_n 0, 1) := by decide +kernel
theorem dX12_goesSecond_261 : decode cX12_goesSecond 261 = .ok (.aload_n 0, 1) := by decide +kernel
theorem dX12_goesSecond_262 : decode cX12_goesSecond 262 = .ok (.getfield 209, 3) := by decide +kernel
theorem dX12_goesSecond_265 : decode cX12_goesSecond 265 = .ok (.aload_n 0, 1) := by decide +kernel
theorem dX12_goesSecond_266 : decode cX12_goesSecond 266 = .ok (.getfield 177, 3) := by decide +kernel
theorem dX12_goesSecond_269 : decode cX12_goesSecond 269 = .ok (.iadd, 1) := by decide +kernel
theorem dX12_goesSecond_270 : decode cX12_goesSecond 270 = .ok (.aload_n 0, 1) := by decide +kernel
theorem dX12_goesSecond_271 : decode cX12_goesSecond 271 = .ok (.getfield 194, 3) := by decide +kernel
theorem dX12_goesSecond_274 : decode cX12_goesSecond 274 = .ok (.iload_n 3, 1) := by decide +kernel
theorem dX12_goesSecond_275 : decode cX12_goesSecond 275 = .ok (.invokestatic 168, 3) := by decide +kernel
theorem dX12_goesSecond_278 : decode cX12_goesSecond 278 = .ok (.iadd, 1) := by decide +kernel
theorem dX12_goesSecond_279 : decode cX12_goesSecond 279 = .ok (.invokestatic 230, 3) := by decide +kernel
theorem dX12_goesSecond_282 : decode cX12_goesSecond 282 = .ok (.putfield 209, 3) := by decide +kernel
theorem dX12_goesSecond_285 : decode cX12_goesSecond 285 = .ok (.aload_n 0, 1) := by decide +kernel
theorem dX12_goesSecond_286 : decode cX12_goesSecond 286 = .ok (.aload_n 0, 1) := by decide +kernel
theorem dX12_goesSecond_287 : decode cX12_goesSecond 287 = .ok (.getfield 194, 3) := by decide +kernel
theorem dX12_goesSecond_290 : decode cX12_goesSecond 290 = .ok (.aload_n 0, 1) := by decide +kernel
theorem dX12_goesSecond_291 : decode cX12_goesSecond 291 = .ok (.getfield 197, 3) := by decide +kernel
theorem dX12_goesSecond_294 : decode cX12_goesSecond 294 = .ok (.invokestatic 158, 3) := by decide +kernel
theorem dX12_goesSecond_297 : decode cX12_goesSecond 297 = .ok (.invokevirtual 233, 3) := by decide +kernel
theorem dX12_goesSecond_300 : decode cX12_goesSecond 300 = .ok (.aload_n 0, 1) := by decide +kernel
theorem dX12_goesSecond_301 : decode cX12_goesSecond 301 = .ok (.dup, 1) := by decide +kernel
theorem dX12_goesSecond_302 : decode cX12_goesSecond 302 = .ok (.getfield 215, 3) := by decide +kernel
theorem dX12_goesSecond_305 : decode cX12_goesSecond 305 = .ok (.iconst 1, 1) := by decide +kernel
theorem dX12_goesSecond_306 : decode cX12_goesSecond 306 = .ok (.iadd, 1) := by decide +kernel
theorem dX12_goesSecond_307 : decode cX12_goesSecond 307 = .ok (.putfield 215, 3) := by decide +kernel
theorem dX12_goesSecond_310 : decode cX12_goesSecond 310 = .ok (.return_, 1) := by decide +kernel
theorem dX12_lands_0 : decode cX12_lands 0 = .ok (.aload_n 0, 1) := by decide +kernel
theorem dX12_lands_1 : decode cX12_lands 1 = .ok (.invokevirtual 249, 3) := by decide +kernel
theorem dX12_lands_4 : decode cX12_lands 4 = .ok (.ifCond .ne 10, 3) := by decide +kernel
theorem dX12_lands_7 : decode cX12_lands 7 = .ok (.aload_n 0, 1) := by decide +kernel
theorem dX12_lands_8 : decode cX12_lands 8 = .ok (.invokevirtual 252, 3) := by decide +kernel
theorem dX12_lands_11 : decode cX12_lands 11 = .ok (.goto (-11), 3) := by decide +kernel
theorem dX12_lands_14 : decode cX12_lands 14 = .ok (.return_, 1) := by decide +kernel
theorem dX12_off_0 : decode cX12_off 0 = .ok (.aload_n 0, 1) := by decide +kernel
theorem dX12_off_1 : decode cX12_off 1 = .ok (.getfield 206, 3) := by decide +kernel
theorem dX12_off_4 : decode cX12_off 4 = .ok (.invokestatic 171, 3) := by decide +kernel
theorem dX12_off_7 : decode cX12_off 7 = .ok (.aload_n 0, 1) := by decide +kernel
theorem dX12_off_8 : decode cX12_off 8 = .ok (.getfield 209, 3) := by decide +kernel
theorem dX12_off_11 : decode cX12_off 11 = .ok (.invokestatic 171, 3) := by decide +kernel
theorem dX12_off_14 : decode cX12_off 14 = .ok (.iadd, 1) := by decide +kernel
theorem dX12_off_15 : decode cX12_off 15 = .ok (.ireturn, 1) := by decide +kernel
theorem dX12_falls_0 : decode cX12_falls 0 = .ok (.aload_n 0, 1) := by decide +kernel
theorem dX12_falls_1 : decode cX12_falls 1 = .ok (.iload_n 1, 1) := by decide +kernel
theorem dX12_falls_2 : decode cX12_falls 2 = .ok (.iload_n 2, 1) := by decide +kernel
theorem dX12_falls_3 : decode cX12_falls 3 = .ok (.iload_n 3, 1) := by decide +kernel
theorem dX12_falls_4 : decode cX12_falls 4 = .ok (.iload 4, 2) := by decide +kernel
theorem dX12_falls_6 : decode cX12_falls 6 = .ok (.invokevirtual 255, 3) := by decide +kernel
theorem dX12_falls_9 : decode cX12_falls 9 = .ok (.aload_n 0, 1) := by decide +kernel
theorem dX12_falls_10 : decode cX12_falls 10 = .ok (.invokevirtual 259, 3) := by decide +kernel
theorem dX12_falls_13 : decode cX12_falls 13 = .ok (.return_, 1) := by decide +kernel
theorem dX12_toldOf_0 : decode cX12_toldOf 0 = .ok (.iload_n 1, 1) := by decide +kernel
theorem dX12_toldOf_1 : decode cX12_toldOf 1 = .ok (.ifCond .ne 10, 3) := by decide +kernel
theorem dX12_toldOf_4 : decode cX12_toldOf 4 = .ok (.aload_n 0, 1) := by decide +kernel
theorem dX12_toldOf_5 : decode cX12_toldOf 5 = .ok (.getfield 206, 3) := by decide +kernel
theorem dX12_toldOf_8 : decode cX12_toldOf 8 = .ok (.goto 59, 3) := by decide +kernel
theorem dX12_toldOf_11 : decode cX12_toldOf 11 = .ok (.iload_n 1, 1) := by decide +kernel
theorem dX12_toldOf_12 : decode cX12_toldOf 12 = .ok (.iconst 1, 1) := by decide +kernel
theorem dX12_toldOf_13 : decode cX12_toldOf 13 = .ok (.if_icmp .ne 10, 3) := by decide +kernel
theorem dX12_toldOf_16 : decode cX12_toldOf 16 = .ok (.aload_n 0, 1) := by decide +kernel
theorem dX12_toldOf_17 : decode cX12_toldOf 17 = .ok (.getfield 209, 3) := by decide +kernel
theorem dX12_toldOf_20 : decode cX12_toldOf 20 = .ok (.goto 47, 3) := by decide +kernel
theorem dX12_toldOf_23 : decode cX12_toldOf 23 = .ok (.iload_n 1, 1) := by decide +kernel
theorem dX12_toldOf_24 : decode cX12_toldOf 24 = .ok (.iconst 2, 1) := by decide +kernel
theorem dX12_toldOf_25 : decode cX12_toldOf 25 = .ok (.if_icmp .ne 10, 3) := by decide +kernel
theorem dX12_toldOf_28 : decode cX12_toldOf 28 = .ok (.aload_n 0, 1) := by decide +kernel
theorem dX12_toldOf_29 : decode cX12_toldOf 29 = .ok (.getfield 215, 3) := by decide +kernel
theorem dX12_toldOf_32 : decode cX12_toldOf 32 = .ok (.goto 35, 3) := by decide +kernel
theorem dX12_toldOf_35 : decode cX12_toldOf 35 = .ok (.iload_n 1, 1) := by decide +kernel
theorem dX12_toldOf_36 : decode cX12_toldOf 36 = .ok (.iconst 3, 1) := by decide +kernel
theorem dX12_toldOf_37 : decode cX12_toldOf 37 = .ok (.if_icmp .ne 10, 3) := by decide +kernel
theorem dX12_toldOf_40 : decode cX12_toldOf 40 = .ok (.aload_n 0, 1) := by decide +kernel
theorem dX12_toldOf_41 : decode cX12_toldOf 41 = .ok (.invokevirtual 262, 3) := by decide +kernel
theorem dX12_toldOf_44 : decode cX12_toldOf 44 = .ok (.goto 23, 3) := by decide +kernel
theorem dX12_toldOf_47 : decode cX12_toldOf 47 = .ok (.aload_n 0, 1) := by decide +kernel
theorem dX12_toldOf_48 : decode cX12_toldOf 48 = .ok (.aload_n 0, 1) := by decide +kernel
theorem dX12_toldOf_49 : decode cX12_toldOf 49 = .ok (.getfield 206, 3) := by decide +kernel
theorem dX12_toldOf_52 : decode cX12_toldOf 52 = .ok (.aload_n 0, 1) := by decide +kernel
theorem dX12_toldOf_53 : decode cX12_toldOf 53 = .ok (.getfield 209, 3) := by decide +kernel
theorem dX12_toldOf_56 : decode cX12_toldOf 56 = .ok (.invokevirtual 191, 3) := by decide +kernel
theorem dX12_toldOf_59 : decode cX12_toldOf 59 = .ok (.ifCond .eq 7, 3) := by decide +kernel
theorem dX12_toldOf_62 : decode cX12_toldOf 62 = .ok (.iconst 1, 1) := by decide +kernel
theorem dX12_toldOf_63 : decode cX12_toldOf 63 = .ok (.goto 4, 3) := by decide +kernel
theorem dX12_toldOf_66 : decode cX12_toldOf 66 = .ok (.iconst 0, 1) := by decide +kernel
theorem dX12_toldOf_67 : decode cX12_toldOf 67 = .ok (.ireturn, 1) := by decide +kernel
theorem dX12_fallBy_0 : decode cX12_fallBy 0 = .ok (.aload_n 0, 1) := by decide +kernel
theorem dX12_fallBy_1 : decode cX12_fallBy 1 = .ok (.iload_n 1, 1) := by decide +kernel
theorem dX12_fallBy_2 : decode cX12_fallBy 2 = .ok (.invokevirtual 149, 3) := by decide +kernel
theorem dX12_fallBy_5 : decode cX12_fallBy 5 = .ok (.ifCond .eq 30, 3) := by decide +kernel
theorem dX12_fallBy_8 : decode cX12_fallBy 8 = .ok (.iload_n 2, 1) := by decide +kernel
theorem dX12_fallBy_9 : decode cX12_fallBy 9 = .ok (.invokestatic 184, 3) := by decide +kernel
theorem dX12_fallBy_12 : decode cX12_fallBy 12 = .ok (.ifCond .eq 23, 3) := by decide +kernel
theorem dX12_fallBy_15 : decode cX12_fallBy 15 = .ok (.iload_n 3, 1) := by decide +kernel
theorem dX12_fallBy_16 : decode cX12_fallBy 16 = .ok (.invokestatic 184, 3) := by decide +kernel
theorem dX12_fallBy_19 : decode cX12_fallBy 19 = .ok (.ifCond .eq 16, 3) := by decide +kernel
theorem dX12_fallBy_22 : decode cX12_fallBy 22 = .ok (.iload 5, 2) := by decide +kernel
theorem dX12_fallBy_24 : decode cX12_fallBy 24 = .ok (.i2l, 1) := by decide +kernel
theorem dX12_fallBy_25 : decode cX12_fallBy 25 = .ok (.lconst 0, 1) := by decide +kernel
theorem dX12_fallBy_26 : decode cX12_fallBy 26 = .ok (.ldc2_w 265, 3) := by decide +kernel
theorem dX12_fallBy_29 : decode cX12_fallBy 29 = .ok (.invokestatic 56, 3) := by decide +kernel
theorem dX12_fallBy_32 : decode cX12_fallBy 32 = .ok (.ifCond .ne 6, 3) := by decide +kernel
theorem dX12_fallBy_35 : decode cX12_fallBy 35 = .ok (.ldc 139, 2) := by decide +kernel
theorem dX12_fallBy_37 : decode cX12_fallBy 37 = .ok (.ireturn, 1) := by decide +kernel
theorem dX12_fallBy_38 : decode cX12_fallBy 38 = .ok (.aload_n 0, 1) := by decide +kernel
theorem dX12_fallBy_39 : decode cX12_fallBy 39 = .ok (.iload_n 1, 1) := by decide +kernel
theorem dX12_fallBy_40 : decode cX12_fallBy 40 = .ok (.iload_n 2, 1) := by decide +kernel
theorem dX12_fallBy_41 : decode cX12_fallBy 41 = .ok (.iload_n 3, 1) := by decide +kernel
theorem dX12_fallBy_42 : decode cX12_fallBy 42 = .ok (.iload 4, 2) := by decide +kernel
theorem dX12_fallBy_44 : decode cX12_fallBy 44 = .ok (.invokevirtual 267, 3) := by decide +kernel
theorem dX12_fallBy_47 : decode cX12_fallBy 47 = .ok (.aload_n 0, 1) := by decide +kernel
theorem dX12_fallBy_48 : decode cX12_fallBy 48 = .ok (.iload 5, 2) := by decide +kernel
theorem dX12_fallBy_50 : decode cX12_fallBy 50 = .ok (.invokevirtual 270, 3) := by decide +kernel
theorem dX12_fallBy_53 : decode cX12_fallBy 53 = .ok (.ireturn, 1) := by decide +kernel
theorem dX12_fall_0 : decode cX12_fall 0 = .ok (.aload_n 0, 1) := by decide +kernel
theorem dX12_fall_1 : decode cX12_fall 1 = .ok (.iload_n 1, 1) := by decide +kernel
theorem dX12_fall_2 : decode cX12_fall 2 = .ok (.iload_n 2, 1) := by decide +kernel
theorem dX12_fall_3 : decode cX12_fall 3 = .ok (.iload_n 3, 1) := by decide +kernel
theorem dX12_fall_4 : decode cX12_fall 4 = .ok (.iconst 1, 1) := by decide +kernel
theorem dX12_fall_5 : decode cX12_fall 5 = .ok (.iload 4, 2) := by decide +kernel
theorem dX12_fall_7 : decode cX12_fall 7 = .ok (.invokevirtual 273, 3) := by decide +kernel
theorem dX12_fall_10 : decode cX12_fall 10 = .ok (.ireturn, 1) := by decide +kernel
theorem dX12_at_0 : decode cX12_at 0 = .ok (.aload_n 0, 1) := by decide +kernel
theorem dX12_at_1 : decode cX12_at 1 = .ok (.iload_n 1, 1) := by decide +kernel
theorem dX12_at_2 : decode cX12_at 2 = .ok (.invokevirtual 149, 3) := by decide +kernel
theorem dX12_at_5 : decode cX12_at 5 = .ok (.ifCond .eq 43, 3) := by decide +kernel
theorem dX12_at_8 : decode cX12_at 8 = .ok (.iload_n 2, 1) := by decide +kernel
theorem dX12_at_9 : decode cX12_at 9 = .ok (.invokestatic 184, 3) := by decide +kernel
theorem dX12_at_12 : decode cX12_at 12 = .ok (.ifCond .eq 36, 3) := by decide +kernel
theorem dX12_at_15 : decode cX12_at 15 = .ok (.iload_n 3, 1) := by decide +kernel
theorem dX12_at_16 : decode cX12_at 16 = .ok (.invokestatic 184, 3) := by decide +kernel
theorem dX12_at_19 : decode cX12_at 19 = .ok (.ifCond .eq 29, 3) := by decide +kernel
theorem dX12_at_22 : decode cX12_at 22 = .ok (.iload 4, 2) := by decide +kernel
theorem dX12_at_24 : decode cX12_at 24 = .ok (.i2l, 1) := by decide +kernel
theorem dX12_at_25 : decode cX12_at 25 = .ok (.lconst 0, 1) := by decide +kernel
theorem dX12_at_26 : decode cX12_at 26 = .ok (.ldc2_w 277, 3) := by decide +kernel
theorem dX12_at_29 : decode cX12_at 29 = .ok (.invokestatic 56, 3) := by decide +kernel
theorem dX12_at_32 : decode cX12_at 32 = .ok (.ifCond .eq 16, 3) := by decide +kernel
theorem dX12_at_35 : decode cX12_at 35 = .ok (.iload 5, 2) := by decide +kernel
theorem dX12_at_37 : decode cX12_at 37 = .ok (.i2l, 1) := by decide +kernel
theorem dX12_at_38 : decode cX12_at 38 = .ok (.lconst 0, 1) := by decide +kernel
theorem dX12_at_39 : decode cX12_at 39 = .ok (.ldc2_w 147, 3) := by decide +kernel
theorem dX12_at_42 : decode cX12_at 42 = .ok (.invokestatic 56, 3) := by decide +kernel
theorem dX12_at_45 : decode cX12_at 45 = .ok (.ifCond .ne 6, 3) := by decide +kernel
theorem dX12_at_48 : decode cX12_at 48 = .ok (.ldc 139, 2) := by decide +kernel
theorem dX12_at_50 : decode cX12_at 50 = .ok (.ireturn, 1) := by decide +kernel
theorem dX12_at_51 : decode cX12_at 51 = .ok (.aload_n 0, 1) := by decide +kernel
theorem dX12_at_52 : decode cX12_at 52 = .ok (.iload_n 1, 1) := by decide +kernel
theorem dX12_at_53 : decode cX12_at 53 = .ok (.iload_n 2, 1) := by decide +kernel
theorem dX12_at_54 : decode cX12_at 54 = .ok (.iload_n 3, 1) := by decide +kernel
theorem dX12_at_55 : decode cX12_at 55 = .ok (.iconst 1, 1) := by decide +kernel
theorem dX12_at_56 : decode cX12_at 56 = .ok (.invokevirtual 255, 3) := by decide +kernel
theorem dX12_at_59 : decode cX12_at 59 = .ok (.iconst 0, 1) := by decide +kernel
theorem dX12_at_60 : decode cX12_at 60 = .ok (.istore 6, 2) := by decide +kernel
theorem dX12_at_62 : decode cX12_at 62 = .ok (.iload 6, 2) := by decide +kernel
theorem dX12_at_64 : decode cX12_at 64 = .ok (.iload 4, 2) := by decide +kernel
theorem dX12_at_66 : decode cX12_at 66 = .ok (.if_icmp .ge 20, 3) := by decide +kernel
theorem dX12_at_69 : decode cX12_at 69 = .ok (.aload_n 0, 1) := by decide +kernel
theorem dX12_at_70 : decode cX12_at 70 = .ok (.invokevirtual 249, 3) := by decide +kernel
theorem dX12_at_73 : decode cX12_at 73 = .ok (.ifCond .ne 13, 3) := by decide +kernel
theorem dX12_at_76 : decode cX12_at 76 = .ok (.aload_n 0, 1) := by decide +kernel
theorem dX12_at_77 : decode cX12_at 77 = .ok (.invokevirtual 252, 3) := by decide +kernel
theorem dX12_at_80 : decode cX12_at 80 = .ok (.iinc 6 1, 3) := by decide +kernel
theorem dX12_at_83 : decode cX12_at 83 = .ok (.goto (-21), 3) := by decide +kernel
theorem dX12_at_86 : decode cX12_at 86 = .ok (.iload 5, 2) := by decide +kernel
theorem dX12_at_88 : decode cX12_at 88 = .ok (.ifCond .ne 10, 3) := by decide +kernel
theorem dX12_at_91 : decode cX12_at 91 = .ok (.aload_n 0, 1) := by decide +kernel
theorem dX12_at_92 : decode cX12_at 92 = .ok (.getfield 206, 3) := by decide +kernel
theorem dX12_at_95 : decode cX12_at 95 = .ok (.goto 20, 3) := by decide +kernel
theorem dX12_at_98 : decode cX12_at 98 = .ok (.iload 5, 2) := by decide +kernel
theorem dX12_at_100 : decode cX12_at 100 = .ok (.iconst 1, 1) := by decide +kernel
theorem dX12_at_101 : decode cX12_at 101 = .ok (.if_icmp .ne 10, 3) := by decide +kernel
theorem dX12_at_104 : decode cX12_at 104 = .ok (.aload_n 0, 1) := by decide +kernel
theorem dX12_at_105 : decode cX12_at 105 = .ok (.getfield 209, 3) := by decide +kernel
theorem dX12_at_108 : decode cX12_at 108 = .ok (.goto 7, 3) := by decide +kernel
theorem dX12_at_111 : decode cX12_at 111 = .ok (.aload_n 0, 1) := by decide +kernel
theorem dX12_at_112 : decode cX12_at 112 = .ok (.getfield 212, 3) := by decide +kernel
theorem dX12_at_115 : decode cX12_at 115 = .ok (.ireturn, 1) := by decide +kernel
theorem dX12_mean_0 : decode cX12_mean 0 = .ok (.aload_n 0, 1) := by decide +kernel
theorem dX12_mean_1 : decode cX12_mean 1 = .ok (.iload_n 1, 1) := by decide +kernel
theorem dX12_mean_2 : decode cX12_mean 2 = .ok (.invokevirtual 149, 3) := by decide +kernel
theorem dX12_mean_5 : decode cX12_mean 5 = .ok (.ifCond .eq 17, 3) := by decide +kernel
theorem dX12_mean_8 : decode cX12_mean 8 = .ok (.iload_n 2, 1) := by decide +kernel
theorem dX12_mean_9 : decode cX12_mean 9 = .ok (.invokestatic 184, 3) := by decide +kernel
theorem dX12_mean_12 : decode cX12_mean 12 = .ok (.ifCond .eq 10, 3) := by decide +kernel
theorem dX12_mean_15 : decode cX12_mean 15 = .ok (.iload_n 3, 1) := by decide +kernel
theorem dX12_mean_16 : decode cX12_mean 16 = .ok (.invokestatic 184, 3) := by decide +kernel
theorem dX12_mean_19 : decode cX12_mean 19 = .ok (.ifCond .ne 6, 3) := by decide +kernel
theorem dX12_mean_22 : decode cX12_mean 22 = .ok (.ldc 139, 2) := by decide +kernel
theorem dX12_mean_24 : decode cX12_mean 24 = .ok (.ireturn, 1) := by decide +kernel
theorem dX12_mean_25 : decode cX12_mean 25 = .ok (.aload_n 0, 1) := by decide +kernel
theorem dX12_mean_26 : decode cX12_mean 26 = .ok (.iload_n 1, 1) := by decide +kernel
theorem dX12_mean_27 : decode cX12_mean 27 = .ok (.iload_n 2, 1) := by decide +kernel
theorem dX12_mean_28 : decode cX12_mean 28 = .ok (.iload_n 3, 1) := by decide +kernel
theorem dX12_mean_29 : decode cX12_mean 29 = .ok (.iconst 1, 1) := by decide +kernel
theorem dX12_mean_30 : decode cX12_mean 30 = .ok (.invokevirtual 255, 3) := by decide +kernel
theorem dX12_mean_33 : decode cX12_mean 33 = .ok (.aload_n 0, 1) := by decide +kernel
theorem dX12_mean_34 : decode cX12_mean 34 = .ok (.iconst 0, 1) := by decide +kernel
theorem dX12_mean_35 : decode cX12_mean 35 = .ok (.putfield 203, 3) := by decide +kernel
theorem dX12_mean_38 : decode cX12_mean 38 = .ok (.aload_n 0, 1) := by decide +kernel
theorem dX12_mean_39 : decode cX12_mean 39 = .ok (.invokevirtual 259, 3) := by decide +kernel
theorem dX12_mean_42 : decode cX12_mean 42 = .ok (.aload_n 0, 1) := by decide +kernel
theorem dX12_mean_43 : decode cX12_mean 43 = .ok (.getfield 221, 3) := by decide +kernel
theorem dX12_mean_46 : decode cX12_mean 46 = .ok (.ifCond .ge 5, 3) := by decide +kernel
theorem dX12_mean_49 : decode cX12_mean 49 = .ok (.iconst 0, 1) := by decide +kernel
theorem dX12_mean_50 : decode cX12_mean 50 = .ok (.ireturn, 1) := by decide +kernel
theorem dX12_mean_51 : decode cX12_mean 51 = .ok (.aload_n 0, 1) := by decide +kernel
theorem dX12_mean_52 : decode cX12_mean 52 = .ok (.getfield 215, 3) := by decide +kernel
theorem dX12_mean_55 : decode cX12_mean 55 = .ok (.aload_n 0, 1) := by decide +kernel
theorem dX12_mean_56 : decode cX12_mean 56 = .ok (.getfield 221, 3) := by decide +kernel
theorem dX12_mean_59 : decode cX12_mean 59 = .ok (.isub, 1) := by decide +kernel
theorem dX12_mean_60 : decode cX12_mean 60 = .ok (.istore 5, 2) := by decide +kernel
theorem dX12_mean_62 : decode cX12_mean 62 = .ok (.iload 4, 2) := by decide +kernel
theorem dX12_mean_64 : decode cX12_mean 64 = .ok (.ifCond .eq 18, 3) := by decide +kernel
theorem dX12_mean_67 : decode cX12_mean 67 = .ok (.aload_n 0, 1) := by decide +kernel
theorem dX12_mean_68 : decode cX12_mean 68 = .ok (.getfield 209, 3) := by decide +kernel
theorem dX12_mean_71 : decode cX12_mean 71 = .ok (.aload_n 0, 1) := by decide +kernel
theorem dX12_mean_72 : decode cX12_mean 72 = .ok (.getfield 240, 3) := by decide +kernel
theorem dX12_mean_75 : decode cX12_mean 75 = .ok (.isub, 1) := by decide +kernel
theorem dX12_mean_76 : decode cX12_mean 76 = .ok (.iload 5, 2) := by decide +kernel
theorem dX12_mean_78 : decode cX12_mean 78 = .ok (.idiv, 1) := by decide +kernel
theorem dX12_mean_79 : decode cX12_mean 79 = .ok (.goto 15, 3) := by decide +kernel
theorem dX12_mean_82 : decode cX12_mean 82 = .ok (.aload_n 0, 1) := by decide +kernel
theorem dX12_mean_83 : decode cX12_mean 83 = .ok (.getfield 206, 3) := by decide +kernel
theorem dX12_mean_86 : decode cX12_mean 86 = .ok (.aload_n 0, 1) := by decide +kernel
theorem dX12_mean_87 : decode cX12_mean 87 = .ok (.getfield 237, 3) := by decide +kernel
theorem dX12_mean_90 : decode cX12_mean 90 = .ok (.isub, 1) := by decide +kernel
theorem dX12_mean_91 : decode cX12_mean 91 = .ok (.iload 5, 2) := by decide +kernel
theorem dX12_mean_93 : decode cX12_mean 93 = .ok (.idiv, 1) := by decide +kernel
theorem dX12_mean_94 : decode cX12_mean 94 = .ok (.ireturn, 1) := by decide +kernel
theorem dX12_exit_0 : decode cX12_exit 0 = .ok (.aload_n 0, 1) := by decide +kernel
theorem dX12_exit_1 : decode cX12_exit 1 = .ok (.iload_n 1, 1) := by decide +kernel
theorem dX12_exit_2 : decode cX12_exit 2 = .ok (.invokevirtual 149, 3) := by decide +kernel
theorem dX12_exit_5 : decode cX12_exit 5 = .ok (.ifCond .eq 15, 3) := by decide +kernel
theorem dX12_exit_8 : decode cX12_exit 8 = .ok (.iload_n 2, 1) := by decide +kernel
theorem dX12_exit_9 : decode cX12_exit 9 = .ok (.i2l, 1) := by decide +kernel
theorem dX12_exit_10 : decode cX12_exit 10 = .ok (.lconst 0, 1) := by decide +kernel
theorem dX12_exit_11 : decode cX12_exit 11 = .ok (.ldc2_w 147, 3) := by decide +kernel
theorem dX12_exit_14 : decode cX12_exit 14 = .ok (.invokestatic 56, 3) := by decide +kernel
theorem dX12_exit_17 : decode cX12_exit 17 = .ok (.ifCond .ne 6, 3) := by decide +kernel
theorem dX12_exit_20 : decode cX12_exit 20 = .ok (.ldc 139, 2) := by decide +kernel
theorem dX12_exit_22 : decode cX12_exit 22 = .ok (.ireturn, 1) := by decide +kernel
theorem dX12_exit_23 : decode cX12_exit 23 = .ok (.iconst 0, 1) := by decide +kernel
theorem dX12_exit_24 : decode cX12_exit 24 = .ok (.istore_n 3, 1) := by decide +kernel
theorem dX12_exit_25 : decode cX12_exit 25 = .ok (.iconst 0, 1) := by decide +kernel
theorem dX12_exit_26 : decode cX12_exit 26 = .ok (.istore 4, 2) := by decide +kernel
theorem dX12_exit_28 : decode cX12_exit 28 = .ok (.bipush (-4), 2) := by decide +kernel
theorem dX12_exit_30 : decode cX12_exit 30 = .ok (.istore 5, 2) := by decide +kernel
theorem dX12_exit_32 : decode cX12_exit 32 = .ok (.sipush (-10000), 3) := by decide +kernel
theorem dX12_exit_35 : decode cX12_exit 35 = .ok (.istore 6, 2) := by decide +kernel
theorem dX12_exit_37 : decode cX12_exit 37 = .ok (.iload 6, 2) := by decide +kernel
theorem dX12_exit_39 : decode cX12_exit 39 = .ok (.sipush 10000, 3) := by decide +kernel
theorem dX12_exit_42 : decode cX12_exit 42 = .ok (.if_icmp .gt 74, 3) := by decide +kernel
theorem dX12_exit_45 : decode cX12_exit 45 = .ok (.sipush (-10000), 3) := by decide +kernel
theorem dX12_exit_48 : decode cX12_exit 48 = .ok (.istore 7, 2) := by decide +kernel
theorem dX12_exit_50 : decode cX12_exit 50 = .ok (.iload 7, 2) := by decide +kernel
theorem dX12_exit_52 : decode cX12_exit 52 = .ok (.sipush 10000, 3) := by decide +kernel
theorem dX12_exit_55 : decode cX12_exit 55 = .ok (.if_icmp .gt 52, 3) := by decide +kernel
theorem dX12_exit_58 : decode cX12_exit 58 = .ok (.aload_n 0, 1) := by decide +kernel
theorem dX12_exit_59 : decode cX12_exit 59 = .ok (.iload_n 1, 1) := by decide +kernel
theorem dX12_exit_60 : decode cX12_exit 60 = .ok (.iload 6, 2) := by decide +kernel
theorem dX12_exit_62 : decode cX12_exit 62 = .ok (.iload 7, 2) := by decide +kernel
theorem dX12_exit_64 : decode cX12_exit 64 = .ok (.iconst 1, 1) := by decide +kernel
theorem dX12_exit_65 : decode cX12_exit 65 = .ok (.invokevirtual 267, 3) := by decide +kernel
theorem dX12_exit_68 : decode cX12_exit 68 = .ok (.iload 5, 2) := by decide +kernel
theorem dX12_exit_70 : decode cX12_exit 70 = .ok (.ifCond .lt 15, 3) := by decide +kernel
theorem dX12_exit_73 : decode cX12_exit 73 = .ok (.aload_n 0, 1) := by decide +kernel
theorem dX12_exit_74 : decode cX12_exit 74 = .ok (.invokevirtual 262, 3) := by decide +kernel
theorem dX12_exit_77 : decode cX12_exit 77 = .ok (.iload 5, 2) := by decide +kernel
theorem dX12_exit_79 : decode cX12_exit 79 = .ok (.if_icmp .lt 6, 3) := by decide +kernel
theorem dX12_exit_82 : decode cX12_exit 82 = .ok (.goto 16, 3) := by decide +kernel
theorem dX12_exit_85 : decode cX12_exit 85 = .ok (.iload 6, 2) := by decide +kernel
theorem dX12_exit_87 : decode cX12_exit 87 = .ok (.istore_n 3, 1) := by decide +kernel
theorem dX12_exit_88 : decode cX12_exit 88 = .ok (.iload 7, 2) := by decide +kernel
theorem dX12_exit_90 : decode cX12_exit 90 = .ok (.istore 4, 2) := by decide +kernel
theorem dX12_exit_92 : decode cX12_exit 92 = .ok (.aload_n 0, 1) := by decide +kernel
theorem dX12_exit_93 : decode cX12_exit 93 = .ok (.invokevirtual 262, 3) := by decide +kernel
theorem dX12_exit_96 : decode cX12_exit 96 = .ok (.istore 5, 2) := by decide +kernel
theorem dX12_exit_98 : decode cX12_exit 98 = .ok (.iinc 7 1000, 6) := by decide +kernel
theorem dX12_exit_104 : decode cX12_exit 104 = .ok (.goto (-54), 3) := by decide +kernel
theorem dX12_exit_107 : decode cX12_exit 107 = .ok (.iinc 6 1000, 6) := by decide +kernel
theorem dX12_exit_113 : decode cX12_exit 113 = .ok (.goto (-76), 3) := by decide +kernel
theorem dX12_exit_116 : decode cX12_exit 116 = .ok (.iload_n 2, 1) := by decide +kernel
theorem dX12_exit_117 : decode cX12_exit 117 = .ok (.ifCond .ne 7, 3) := by decide +kernel
theorem dX12_exit_120 : decode cX12_exit 120 = .ok (.iload_n 3, 1) := by decide +kernel
theorem dX12_exit_121 : decode cX12_exit 121 = .ok (.goto 15, 3) := by decide +kernel
theorem dX12_exit_124 : decode cX12_exit 124 = .ok (.iload_n 2, 1) := by decide +kernel
theorem dX12_exit_125 : decode cX12_exit 125 = .ok (.iconst 1, 1) := by decide +kernel
theorem dX12_exit_126 : decode cX12_exit 126 = .ok (.if_icmp .ne 8, 3) := by decide +kernel
theorem dX12_exit_129 : decode cX12_exit 129 = .ok (.iload 4, 2) := by decide +kernel
theorem dX12_exit_131 : decode cX12_exit 131 = .ok (.goto 5, 3) := by decide +kernel
theorem dX12_exit_134 : decode cX12_exit 134 = .ok (.iload 5, 2) := by decide +kernel
theorem dX12_exit_136 : decode cX12_exit 136 = .ok (.ireturn, 1) := by decide +kernel
theorem dX12_wrongLoad_0 : decode cX12_wrongLoad 0 = .ok (.aload_n 0, 1) := by decide +kernel
theorem dX12_wrongLoad_1 : decode cX12_wrongLoad 1 = .ok (.iload_n 1, 1) := by decide +kernel
theorem dX12_wrongLoad_2 : decode cX12_wrongLoad 2 = .ok (.iconst 0, 1) := by decide +kernel
theorem dX12_wrongLoad_3 : decode cX12_wrongLoad 3 = .ok (.invokevirtual 128, 3) := by decide +kernel
theorem dX12_wrongLoad_6 : decode cX12_wrongLoad 6 = .ok (.istore_n 2, 1) := by decide +kernel
theorem dX12_wrongLoad_7 : decode cX12_wrongLoad 7 = .ok (.iload_n 2, 1) := by decide +kernel
theorem dX12_wrongLoad_8 : decode cX12_wrongLoad 8 = .ok (.ifCond .eq 5, 3) := by decide +kernel
theorem dX12_wrongLoad_11 : decode cX12_wrongLoad 11 = .ok (.iload_n 2, 1) := by decide +kernel
theorem dX12_wrongLoad_12 : decode cX12_wrongLoad 12 = .ok (.ireturn, 1) := by decide +kernel
theorem dX12_wrongLoad_13 : decode cX12_wrongLoad 13 = .ok (.aload_n 0, 1) := by decide +kernel
theorem dX12_wrongLoad_14 : decode cX12_wrongLoad 14 = .ok (.getfield 25, 3) := by decide +kernel
theorem dX12_wrongLoad_17 : decode cX12_wrongLoad 17 = .ok (.iload_n 1, 1) := by decide +kernel
theorem dX12_wrongLoad_18 : decode cX12_wrongLoad 18 = .ok (.iaload, 1) := by decide +kernel
theorem dX12_wrongLoad_19 : decode cX12_wrongLoad 19 = .ok (.i2l, 1) := by decide +kernel
theorem dX12_wrongLoad_20 : decode cX12_wrongLoad 20 = .ok (.lconst 1, 1) := by decide +kernel
theorem dX12_wrongLoad_21 : decode cX12_wrongLoad 21 = .ok (.ldc2_w 279, 3) := by decide +kernel
theorem dX12_wrongLoad_24 : decode cX12_wrongLoad 24 = .ok (.invokestatic 56, 3) := by decide +kernel
theorem dX12_wrongLoad_27 : decode cX12_wrongLoad 27 = .ok (.ifCond .ne 6, 3) := by decide +kernel
theorem dX12_wrongLoad_30 : decode cX12_wrongLoad 30 = .ok (.bipush (-13), 2) := by decide +kernel
theorem dX12_wrongLoad_32 : decode cX12_wrongLoad 32 = .ok (.ireturn, 1) := by decide +kernel
theorem dX12_wrongLoad_33 : decode cX12_wrongLoad 33 = .ok (.iconst 0, 1) := by decide +kernel
theorem dX12_wrongLoad_34 : decode cX12_wrongLoad 34 = .ok (.istore_n 3, 1) := by decide +kernel
theorem dX12_wrongLoad_35 : decode cX12_wrongLoad 35 = .ok (.iload_n 3, 1) := by decide +kernel
theorem dX12_wrongLoad_36 : decode cX12_wrongLoad 36 = .ok (.aload_n 0, 1) := by decide +kernel
theorem dX12_wrongLoad_37 : decode cX12_wrongLoad 37 = .ok (.getfield 25, 3) := by decide +kernel
theorem dX12_wrongLoad_40 : decode cX12_wrongLoad 40 = .ok (.iload_n 1, 1) := by decide +kernel
theorem dX12_wrongLoad_41 : decode cX12_wrongLoad 41 = .ok (.iaload, 1) := by decide +kernel
theorem dX12_wrongLoad_42 : decode cX12_wrongLoad 42 = .ok (.if_icmp .ge 30, 3) := by decide +kernel
theorem dX12_wrongLoad_45 : decode cX12_wrongLoad 45 = .ok (.aload_n 0, 1) := by decide +kernel
theorem dX12_wrongLoad_46 : decode cX12_wrongLoad 46 = .ok (.aload_n 0, 1) := by decide +kernel
theorem dX12_wrongLoad_47 : decode cX12_wrongLoad 47 = .ok (.getfield 28, 3) := by decide +kernel
theorem dX12_wrongLoad_50 : decode cX12_wrongLoad 50 = .ok (.bipush 100, 2) := by decide +kernel
theorem dX12_wrongLoad_52 : decode cX12_wrongLoad 52 = .ok (.iload_n 1, 1) := by decide +kernel
theorem dX12_wrongLoad_53 : decode cX12_wrongLoad 53 = .ok (.imul, 1) := by decide +kernel
theorem dX12_wrongLoad_54 : decode cX12_wrongLoad 54 = .ok (.iload_n 3, 1) := by decide +kernel
theorem dX12_wrongLoad_55 : decode cX12_wrongLoad 55 = .ok (.iadd, 1) := by decide +kernel
theorem dX12_wrongLoad_56 : decode cX12_wrongLoad 56 = .ok (.iaload, 1) := by decide +kernel
theorem dX12_wrongLoad_57 : decode cX12_wrongLoad 57 = .ok (.invokevirtual 149, 3) := by decide +kernel
theorem dX12_wrongLoad_60 : decode cX12_wrongLoad 60 = .ok (.ifCond .ne 6, 3) := by decide +kernel
theorem dX12_wrongLoad_63 : decode cX12_wrongLoad 63 = .ok (.bipush (-13), 2) := by decide +kernel
theorem dX12_wrongLoad_65 : decode cX12_wrongLoad 65 = .ok (.ireturn, 1) := by decide +kernel
theorem dX12_wrongLoad_66 : decode cX12_wrongLoad 66 = .ok (.iinc 3 1, 3) := by decide +kernel
theorem dX12_wrongLoad_69 : decode cX12_wrongLoad 69 = .ok (.goto (-34), 3) := by decide +kernel
theorem dX12_wrongLoad_72 : decode cX12_wrongLoad 72 = .ok (.iconst 0, 1) := by decide +kernel
theorem dX12_wrongLoad_73 : decode cX12_wrongLoad 73 = .ok (.ireturn, 1) := by decide +kernel
theorem dX12_loadOf_0 : decode cX12_loadOf 0 = .ok (.iload_n 2, 1) := by decide +kernel
theorem dX12_loadOf_1 : decode cX12_loadOf 1 = .ok (.istore 6, 2) := by decide +kernel
theorem dX12_loadOf_3 : decode cX12_loadOf 3 = .ok (.iconst 0, 1) := by decide +kernel
theorem dX12_loadOf_4 : decode cX12_loadOf 4 = .ok (.istore 7, 2) := by decide +kernel
theorem dX12_loadOf_6 : decode cX12_loadOf 6 = .ok (.iconst 0, 1) := by decide +kernel
theorem dX12_loadOf_7 : decode cX12_loadOf 7 = .ok (.istore 8, 2) := by decide +kernel
theorem dX12_loadOf_9 : decode cX12_loadOf 9 = .ok (.iload 8, 2) := by decide +kernel
theorem dX12_loadOf_11 : decode cX12_loadOf 11 = .ok (.aload_n 0, 1) := by decide +kernel
theorem dX12_loadOf_12 : decode cX12_loadOf 12 = .ok (.getfield 25, 3) := by decide +kernel
theorem dX12_loadOf_15 : decode cX12_loadOf 15 = .ok (.iload_n 1, 1) := by decide +kernel
theorem dX12_loadOf_16 : decode cX12_loadOf 16 = .ok (.iaload, 1) := by decide +kernel
theorem dX12_loadOf_17 : decode cX12_loadOf 17 = .ok (.if_icmp .ge 85, 3) := by decide +kernel
theorem dX12_loadOf_20 : decode cX12_loadOf 20 = .ok (.iload 8, 2) := by decide +kernel
theorem dX12_loadOf_22 : decode cX12_loadOf 22 = .ok (.ifCond .le 20, 3) := by decide +kernel
theorem dX12_loadOf_25 : decode cX12_loadOf 25 = .ok (.iload 6, 2) := by decide +kernel
theorem dX12_loadOf_27 : decode cX12_loadOf 27 = .ok (.aload_n 0, 1) := by decide +kernel
theorem dX12_loadOf_28 : decode cX12_loadOf 28 = .ok (.getfield 9, 3) := by decide +kernel
theorem dX12_loadOf_31 : decode cX12_loadOf 31 = .ok (.iconst 1, 1) := by decide +kernel
theorem dX12_loadOf_32 : decode cX12_loadOf 32 = .ok (.iaload, 1) := by decide +kernel
theorem dX12_loadOf_33 : decode cX12_loadOf 33 = .ok (.iload 4, 2) := by decide +kernel
theorem dX12_loadOf_35 : decode cX12_loadOf 35 = .ok (.imul, 1) := by decide +kernel
theorem dX12_loadOf_36 : decode cX12_loadOf 36 = .ok (.iadd, 1) := by decide +kernel
theorem dX12_loadOf_37 : decode cX12_loadOf 37 = .ok (.invokestatic 230, 3) := by decide +kernel
theorem dX12_loadOf_40 : decode cX12_loadOf 40 = .ok (.istore 6, 2) := by decide +kernel
theorem dX12_loadOf_42 : decode cX12_loadOf 42 = .ok (.aload_n 0, 1) := by decide +kernel
theorem dX12_loadOf_43 : decode cX12_loadOf 43 = .ok (.aload_n 0, 1) := by decide +kernel
theorem dX12_loadOf_44 : decode cX12_loadOf 44 = .ok (.getfield 28, 3) := by decide +kernel
theorem dX12_loadOf_47 : decode cX12_loadOf 47 = .ok (.bipush 100, 2) := by decide +kernel
theorem dX12_loadOf_49 : decode cX12_loadOf 49 = .ok (.iload_n 1, 1) := by decide +kernel
theorem dX12_loadOf_50 : decode cX12_loadOf 50 = .ok (.imul, 1) := by decide +kernel
theorem dX12_loadOf_51 : decode cX12_loadOf 51 = .ok (.iload 8, 2) := by decide +kernel
theorem dX12_loadOf_53 : decode cX12_loadOf 53 = .ok (.iadd, 1) := by decide +kernel
theorem dX12_loadOf_54 : decode cX12_loadOf 54 = .ok (.iaload, 1) := by decide +kernel
theorem dX12_loadOf_55 : decode cX12_loadOf 55 = .ok (.iload 6, 2) := by decide +kernel
theorem dX12_loadOf_57 : decode cX12_loadOf 57 = .ok (.iload_n 3, 1) := by decide +kernel
theorem dX12_loadOf_58 : decode cX12_loadOf 58 = .ok (.iconst 1, 1) := by decide +kernel
theorem dX12_loadOf_59 : decode cX12_loadOf 59 = .ok (.invokevirtual 267, 3) := by decide +kernel
theorem dX12_loadOf_62 : decode cX12_loadOf 62 = .ok (.iload 7, 2) := by decide +kernel
theorem dX12_loadOf_64 : decode cX12_loadOf 64 = .ok (.aload_n 0, 1) := by decide +kernel
theorem dX12_loadOf_65 : decode cX12_loadOf 65 = .ok (.invokevirtual 262, 3) := by decide +kernel
theorem dX12_loadOf_68 : decode cX12_loadOf 68 = .ok (.iload 5, 2) := by decide +kernel
theorem dX12_loadOf_70 : decode cX12_loadOf 70 = .ok (.if_icmp .gt 22, 3) := by decide +kernel
theorem dX12_loadOf_73 : decode cX12_loadOf 73 = .ok (.aload_n 0, 1) := by decide +kernel
theorem dX12_loadOf_74 : decode cX12_loadOf 74 = .ok (.aload_n 0, 1) := by decide +kernel
theorem dX12_loadOf_75 : decode cX12_loadOf 75 = .ok (.getfield 206, 3) := by decide +kernel
theorem dX12_loadOf_78 : decode cX12_loadOf 78 = .ok (.aload_n 0, 1) := by decide +kernel
theorem dX12_loadOf_79 : decode cX12_loadOf 79 = .ok (.getfield 209, 3) := by decide +kernel
theorem dX12_loadOf_82 : decode cX12_loadOf 82 = .ok (.invokevirtual 191, 3) := by decide +kernel
theorem dX12_loadOf_85 : decode cX12_loadOf 85 = .ok (.ifCond .ne 7, 3) := by decide +kernel
theorem dX12_loadOf_88 : decode cX12_loadOf 88 = .ok (.iconst 1, 1) := by decide +kernel
theorem dX12_loadOf_89 : decode cX12_loadOf 89 = .ok (.goto 4, 3) := by decide +kernel
theorem dX12_loadOf_92 : decode cX12_loadOf 92 = .ok (.iconst 0, 1) := by decide +kernel
theorem dX12_loadOf_93 : decode cX12_loadOf 93 = .ok (.iadd, 1) := by decide +kernel
theorem dX12_loadOf_94 : decode cX12_loadOf 94 = .ok (.istore 7, 2) := by decide +kernel
theorem dX12_loadOf_96 : decode cX12_loadOf 96 = .ok (.iinc 8 1, 3) := by decide +kernel
theorem dX12_loadOf_99 : decode cX12_loadOf 99 = .ok (.goto (-90), 3) := by decide +kernel
theorem dX12_loadOf_102 : decode cX12_loadOf 102 = .ok (.iload 7, 2) := by decide +kernel
theorem dX12_loadOf_104 : decode cX12_loadOf 104 = .ok (.ireturn, 1) := by decide +kernel
theorem dX12_load_0 : decode cX12_load 0 = .ok (.iload_n 1, 1) := by decide +kernel
theorem dX12_load_1 : decode cX12_load 1 = .ok (.invokestatic 125, 3) := by decide +kernel
theorem dX12_load_4 : decode cX12_load 4 = .ok (.ifCond .eq 43, 3) := by decide +kernel
theorem dX12_load_7 : decode cX12_load 7 = .ok (.iload_n 2, 1) := by decide +kernel
theorem dX12_load_8 : decode cX12_load 8 = .ok (.invokestatic 184, 3) := by decide +kernel
theorem dX12_load_11 : decode cX12_load 11 = .ok (.ifCond .eq 36, 3) := by decide +kernel
theorem dX12_load_14 : decode cX12_load 14 = .ok (.iload_n 3, 1) := by decide +kernel
theorem dX12_load_15 : decode cX12_load 15 = .ok (.invokestatic 184, 3) := by decide +kernel
theorem dX12_load_18 : decode cX12_load 18 = .ok (.ifCond .eq 29, 3) := by decide +kernel
theorem dX12_load_21 : decode cX12_load 21 = .ok (.iload 4, 2) := by decide +kernel
theorem dX12_load_23 : decode cX12_load 23 = .ok (.i2l, 1) := by decide +kernel
theorem dX12_load_24 : decode cX12_load 24 = .ok (.lconst 1, 1) := by decide +kernel
theorem dX12_load_25 : decode cX12_load 25 = .ok (.ldc2_w 281, 3) := by decide +kernel
theorem dX12_load_28 : decode cX12_load 28 = .ok (.invokestatic 56, 3) := by decide +kernel
theorem dX12_load_31 : decode cX12_load 31 = .ok (.ifCond .eq 16, 3) := by decide +kernel
theorem dX12_load_34 : decode cX12_load 34 = .ok (.iload 5, 2) := by decide +kernel
theorem dX12_load_36 : decode cX12_load 36 = .ok (.i2l, 1) := by decide +kernel
theorem dX12_load_37 : decode cX12_load 37 = .ok (.lconst 0, 1) := by decide +kernel
theorem dX12_load_38 : decode cX12_load 38 = .ok (.ldc2_w 283, 3) := by decide +kernel
theorem dX12_load_41 : decode cX12_load 41 = .ok (.invokestatic 56, 3) := by decide +kernel
theorem dX12_load_44 : decode cX12_load 44 = .ok (.ifCond .ne 5, 3) := by decide +kernel
theorem dX12_load_47 : decode cX12_load 47 = .ok (.iconst (-1), 1) := by decide +kernel
theorem dX12_load_48 : decode cX12_load 48 = .ok (.ireturn, 1) := by decide +kernel
theorem dX12_load_49 : decode cX12_load 49 = .ok (.aload_n 0, 1) := by decide +kernel
theorem dX12_load_50 : decode cX12_load 50 = .ok (.iload_n 1, 1) := by decide +kernel
theorem dX12_load_51 : decode cX12_load 51 = .ok (.invokevirtual 285, 3) := by decide +kernel
theorem dX12_load_54 : decode cX12_load 54 = .ok (.istore 6, 2) := by decide +kernel
theorem dX12_load_56 : decode cX12_load 56 = .ok (.iload 6, 2) := by decide +kernel
theorem dX12_load_58 : decode cX12_load 58 = .ok (.ifCond .eq 8, 3) := by decide +kernel
theorem dX12_load_61 : decode cX12_load 61 = .ok (.iload 6, 2) := by decide +kernel
theorem dX12_load_63 : decode cX12_load 63 = .ok (.goto 14, 3) := by decide +kernel
theorem dX12_load_66 : decode cX12_load 66 = .ok (.aload_n 0, 1) := by decide +kernel
theorem dX12_load_67 : decode cX12_load 67 = .ok (.iload_n 1, 1) := by decide +kernel
theorem dX12_load_68 : decode cX12_load 68 = .ok (.iload_n 2, 1) := by decide +kernel
theorem dX12_load_69 : decode cX12_load 69 = .ok (.iload_n 3, 1) := by decide +kernel
theorem dX12_load_70 : decode cX12_load 70 = .ok (.iload 4, 2) := by decide +kernel
theorem dX12_load_72 : decode cX12_load 72 = .ok (.iload 5, 2) := by decide +kernel
theorem dX12_load_74 : decode cX12_load 74 = .ok (.invokevirtual 288, 3) := by decide +kernel
theorem dX12_load_77 : decode cX12_load 77 = .ok (.ireturn, 1) := by decide +kernel
theorem dX12_bestLoad_0 : decode cX12_bestLoad 0 = .ok (.iload_n 1, 1) := by decide +kernel
theorem dX12_bestLoad_1 : decode cX12_bestLoad 1 = .ok (.invokestatic 125, 3) := by decide +kernel
theorem dX12_bestLoad_4 : decode cX12_bestLoad 4 = .ok (.ifCond .eq 35, 3) := by decide +kernel
theorem dX12_bestLoad_7 : decode cX12_bestLoad 7 = .ok (.iload_n 2, 1) := by decide +kernel
theorem dX12_bestLoad_8 : decode cX12_bestLoad 8 = .ok (.invokestatic 184, 3) := by decide +kernel
theorem dX12_bestLoad_11 : decode cX12_bestLoad 11 = .ok (.ifCond .eq 28, 3) := by decide +kernel
theorem dX12_bestLoad_14 : decode cX12_bestLoad 14 = .ok (.iload_n 3, 1) := by decide +kernel
theorem dX12_bestLoad_15 : decode cX12_bestLoad 15 = .ok (.i2l, 1) := by decide +kernel
theorem dX12_bestLoad_16 : decode cX12_bestLoad 16 = .ok (.lconst 0, 1) := by decide +kernel
theorem dX12_bestLoad_17 : decode cX12_bestLoad 17 = .ok (.ldc2_w 283, 3) := by decide +kernel
theorem dX12_bestLoad_20 : decode cX12_bestLoad 20 = .ok (.invokestatic 56, 3) := by decide +kernel
theorem dX12_bestLoad_23 : decode cX12_bestLoad 23 = .ok (.ifCond .eq 16, 3) := by decide +kernel
theorem dX12_bestLoad_26 : decode cX12_bestLoad 26 = .ok (.iload 4, 2) := by decide +kernel
theorem dX12_bestLoad_28 : decode cX12_bestLoad 28 = .ok (.i2l, 1) := by decide +kernel
theorem dX12_bestLoad_29 : decode cX12_bestLoad 29 = .ok (.lconst 0, 1) := by decide +kernel
theorem dX12_bestLoad_30 : decode cX12_bestLoad 30 = .ok (.ldc2_w 147, 3) := by decide +kernel
theorem dX12_bestLoad_33 : decode cX12_bestLoad 33 = .ok (.invokestatic 56, 3) := by decide +kernel
theorem dX12_bestLoad_36 : decode cX12_bestLoad 36 = .ok (.ifCond .ne 6, 3) := by decide +kernel
theorem dX12_bestLoad_39 : decode cX12_bestLoad 39 = .ok (.ldc 139, 2) := by decide +kernel
theorem dX12_bestLoad_41 : decode cX12_bestLoad 41 = .ok (.ireturn, 1) := by decide +kernel
theorem dX12_bestLoad_42 : decode cX12_bestLoad 42 = .ok (.aload_n 0, 1) := by decide +kernel
theorem dX12_bestLoad_43 : decode cX12_bestLoad 43 = .ok (.iload_n 1, 1) := by decide +kernel
theorem dX12_bestLoad_44 : decode cX12_bestLoad 44 = .ok (.invokevirtual 285, 3) := by decide +kernel
theorem dX12_bestLoad_47 : decode cX12_bestLoad 47 = .ok (.istore 5, 2) := by decide +kernel
theorem dX12_bestLoad_49 : decode cX12_bestLoad 49 = .ok (.iload 5, 2) := by decide +kernel
theorem dX12_bestLoad_51 : decode cX12_bestLoad 51 = .ok (.ifCond .eq 10, 3) := by decide +kernel
theorem dX12_bestLoad_54 : decode cX12_bestLoad 54 = .ok (.ldc_w 291, 3) := by decide +kernel
theorem dX12_bestLoad_57 : decode cX12_bestLoad 57 = .ok (.iload 5, 2) := by decide +kernel
theorem dX12_bestLoad_59 : decode cX12_bestLoad 59 = .ok (.iadd, 1) := by decide +kernel
theorem dX12_bestLoad_60 : decode cX12_bestLoad 60 = .ok (.ireturn, 1) := by decide +kernel
theorem dX12_bestLoad_61 : decode cX12_bestLoad 61 = .ok (.iconst 0, 1) := by decide +kernel
theorem dX12_bestLoad_62 : decode cX12_bestLoad 62 = .ok (.istore 6, 2) := by decide +kernel
theorem dX12_bestLoad_64 : decode cX12_bestLoad 64 = .ok (.iconst 0, 1) := by decide +kernel
theorem dX12_bestLoad_65 : decode cX12_bestLoad 65 = .ok (.istore 7, 2) := by decide +kernel
theorem dX12_bestLoad_67 : decode cX12_bestLoad 67 = .ok (.bipush (-4), 2) := by decide +kernel
theorem dX12_bestLoad_69 : decode cX12_bestLoad 69 = .ok (.istore 8, 2) := by decide +kernel
theorem dX12_bestLoad_71 : decode cX12_bestLoad 71 = .ok (.iconst 1, 1) := by decide +kernel
theorem dX12_bestLoad_72 : decode cX12_bestLoad 72 = .ok (.istore 9, 2) := by decide +kernel
theorem dX12_bestLoad_74 : decode cX12_bestLoad 74 = .ok (.iload 9, 2) := by decide +kernel
theorem dX12_bestLoad_76 : decode cX12_bestLoad 76 = .ok (.bipush 10, 2) := by decide +kernel
theorem dX12_bestLoad_78 : decode cX12_bestLoad 78 = .ok (.if_icmp .gt 66, 3) := by decide +kernel
theorem dX12_bestLoad_81 : decode cX12_bestLoad 81 = .ok (.sipush (-10000), 3) := by decide +kernel
theorem dX12_bestLoad_84 : decode cX12_bestLoad 84 = .ok (.istore 10, 2) := by decide +kernel
theorem dX12_bestLoad_86 : decode cX12_bestLoad 86 = .ok (.iload 10, 2) := by decide +kernel
theorem dX12_bestLoad_88 : decode cX12_bestLoad 88 = .ok (.sipush 10000, 3) := by decide +kernel
theorem dX12_bestLoad_91 : decode cX12_bestLoad 91 = .ok (.if_icmp .gt 47, 3) := by decide +kernel
theorem dX12_bestLoad_94 : decode cX12_bestLoad 94 = .ok (.aload_n 0, 1) := by decide +kernel
theorem dX12_bestLoad_95 : decode cX12_bestLoad 95 = .ok (.iload_n 1, 1) := by decide +kernel
theorem dX12_bestLoad_96 : decode cX12_bestLoad 96 = .ok (.iload 10, 2) := by decide +kernel
theorem dX12_bestLoad_98 : decode cX12_bestLoad 98 = .ok (.iload_n 2, 1) := by decide +kernel
theorem dX12_bestLoad_99 : decode cX12_bestLoad 99 = .ok (.iload 9, 2) := by decide +kernel
theorem dX12_bestLoad_101 : decode cX12_bestLoad 101 = .ok (.iload_n 3, 1) := by decide +kernel
theorem dX12_bestLoad_102 : decode cX12_bestLoad 102 = .ok (.invokevirtual 288, 3) := by decide +kernel
theorem dX12_bestLoad_105 : decode cX12_bestLoad 105 = .ok (.istore 11, 2) := by decide +kernel
theorem dX12_bestLoad_107 : decode cX12_bestLoad 107 = .ok (.iload 11, 2) := by decide +kernel
theorem dX12_bestLoad_109 : decode cX12_bestLoad 109 = .ok (.iload 8, 2) := by decide +kernel
theorem dX12_bestLoad_111 : decode cX12_bestLoad 111 = .ok (.if_icmp .gt 6, 3) := by decide +kernel
theorem dX12_bestLoad_114 : decode cX12_bestLoad 114 = .ok (.goto 15, 3) := by decide +kernel
theorem dX12_bestLoad_117 : decode cX12_bestLoad 117 = .ok (.iload 10, 2) := by decide +kernel
theorem dX12_bestLoad_119 : decode cX12_bestLoad 119 = .ok (.istore 6, 2) := by decide +kernel
theorem dX12_bestLoad_121 : decode cX12_bestLoad 121 = .ok (.iload 9, 2) := by decide +kernel
theorem dX12_bestLoad_123 : decode cX12_bestLoad 123 = .ok (.istore 7, 2) := by decide +kernel
theorem dX12_bestLoad_125 : decode cX12_bestLoad 125 = .ok (.iload 11, 2) := by decide +kernel
theorem dX12_bestLoad_127 : decode cX12_bestLoad 127 = .ok (.istore 8, 2) := by decide +kernel
theorem dX12_bestLoad_129 : decode cX12_bestLoad 129 = .ok (.iinc 10 1000, 6) := by decide +kernel
theorem dX12_bestLoad_135 : decode cX12_bestLoad 135 = .ok (.goto (-49), 3) := by decide +kernel
theorem dX12_bestLoad_138 : decode cX12_bestLoad 138 = .ok (.iinc 9 1, 3) := by decide +kernel
theorem dX12_bestLoad_141 : decode cX12_bestLoad 141 = .ok (.goto (-67), 3) := by decide +kernel
theorem dX12_bestLoad_144 : decode cX12_bestLoad 144 = .ok (.iload 4, 2) := by decide +kernel
theorem dX12_bestLoad_146 : decode cX12_bestLoad 146 = .ok (.ifCond .ne 8, 3) := by decide +kernel
theorem dX12_bestLoad_149 : decode cX12_bestLoad 149 = .ok (.iload 6, 2) := by decide +kernel
theorem dX12_bestLoad_151 : decode cX12_bestLoad 151 = .ok (.goto 16, 3) := by decide +kernel
theorem dX12_bestLoad_154 : decode cX12_bestLoad 154 = .ok (.iload 4, 2) := by decide +kernel
theorem dX12_bestLoad_156 : decode cX12_bestLoad 156 = .ok (.iconst 1, 1) := by decide +kernel
theorem dX12_bestLoad_157 : decode cX12_bestLoad 157 = .ok (.if_icmp .ne 8, 3) := by decide +kernel
theorem dX12_bestLoad_160 : decode cX12_bestLoad 160 = .ok (.iload 7, 2) := by decide +kernel
theorem dX12_bestLoad_162 : decode cX12_bestLoad 162 = .ok (.goto 5, 3) := by decide +kernel
theorem dX12_bestLoad_165 : decode cX12_bestLoad 165 = .ok (.iload 8, 2) := by decide +kernel
theorem dX12_bestLoad_167 : decode cX12_bestLoad 167 = .ok (.ireturn, 1) := by decide +kernel
theorem dX12_lines_0 : decode cX12_lines 0 = .ok (.iload_n 2, 1) := by decide +kernel
theorem dX12_lines_1 : decode cX12_lines 1 = .ok (.iload_n 1, 1) := by decide +kernel
theorem dX12_lines_2 : decode cX12_lines 2 = .ok (.if_icmp .ne 67, 3) := by decide +kernel
theorem dX12_lines_5 : decode cX12_lines 5 = .ok (.aload_n 0, 1) := by decide +kernel
theorem dX12_lines_6 : decode cX12_lines 6 = .ok (.getfield 292, 3) := by decide +kernel
theorem dX12_lines_9 : decode cX12_lines 9 = .ok (.ifCond .lt 13, 3) := by decide +kernel
theorem dX12_lines_12 : decode cX12_lines 12 = .ok (.iload 4, 2) := by decide +kernel
theorem dX12_lines_14 : decode cX12_lines 14 = .ok (.aload_n 0, 1) := by decide +kernel
theorem dX12_lines_15 : decode cX12_lines 15 = .ok (.getfield 292, 3) := by decide +kernel
theorem dX12_lines_18 : decode cX12_lines 18 = .ok (.if_icmp .lt 4, 3) := by decide +kernel
theorem dX12_lines_21 : decode cX12_lines 21 = .ok (.return_, 1) := by decide +kernel
theorem dX12_lines_22 : decode cX12_lines 22 = .ok (.aload_n 0, 1) := by decide +kernel
theorem dX12_lines_23 : decode cX12_lines 23 = .ok (.iload 4, 2) := by decide +kernel
theorem dX12_lines_25 : decode cX12_lines 25 = .ok (.putfield 292, 3) := by decide +kernel
theorem dX12_lines_28 : decode cX12_lines 28 = .ok (.aload_n 0, 1) := by decide +kernel
theorem dX12_lines_29 : decode cX12_lines 29 = .ok (.iconst 0, 1) := by decide +kernel
theorem dX12_lines_30 : decode cX12_lines 30 = .ok (.putfield 295, 3) := by decide +kernel
theorem dX12_lines_33 : decode cX12_lines 33 = .ok (.iload_n 1, 1) := by decide +kernel
theorem dX12_lines_34 : decode cX12_lines 34 = .ok (.iconst 1, 1) := by decide +kernel
theorem dX12_lines_35 : decode cX12_lines 35 = .ok (.isub, 1) := by decide +kernel
theorem dX12_lines_36 : decode cX12_lines 36 = .ok (.istore 5, 2) := by decide +kernel
theorem dX12_lines_38 : decode cX12_lines 38 = .ok (.iload 5, 2) := by decide +kernel
theorem dX12_lines_40 : decode cX12_lines 40 = .ok (.ifCond .lt 28, 3) := by decide +kernel
theorem dX12_lines_43 : decode cX12_lines 43 = .ok (.aload_n 0, 1) := by decide +kernel
theorem dX12_lines_44 : decode cX12_lines 44 = .ok (.bipush 10, 2) := by decide +kernel
theorem dX12_lines_46 : decode cX12_lines 46 = .ok (.aload_n 0, 1) := by decide +kernel
theorem dX12_lines_47 : decode cX12_lines 47 = .ok (.getfield 295, 3) := by decide +kernel
theorem dX12_lines_50 : decode cX12_lines 50 = .ok (.imul, 1) := by decide +kernel
theorem dX12_lines_51 : decode cX12_lines 51 = .ok (.aload_n 0, 1) := by decide +kernel
theorem dX12_lines_52 : decode cX12_lines 52 = .ok (.getfield 43, 3) := by decide +kernel
theorem dX12_lines_55 : decode cX12_lines 55 = .ok (.iload 5, 2) := by decide +kernel
theorem dX12_lines_57 : decode cX12_lines 57 = .ok (.iaload, 1) := by decide +kernel
theorem dX12_lines_58 : decode cX12_lines 58 = .ok (.iadd, 1) := by decide +kernel
theorem dX12_lines_59 : decode cX12_lines 59 = .ok (.putfield 295, 3) := by decide +kernel
theorem dX12_lines_62 : decode cX12_lines 62 = .ok (.iinc 5 (-1), 3) := by decide +kernel
theorem dX12_lines_65 : decode cX12_lines 65 = .ok (.goto (-27), 3) := by decide +kernel
theorem dX12_lines_68 : decode cX12_lines 68 = .ok (.return_, 1) := by decide +kernel
theorem dX12_lines_69 : decode cX12_lines 69 = .ok (.iconst 0, 1) := by decide +kernel
theorem dX12_lines_70 : decode cX12_lines 70 = .ok (.istore 5, 2) := by decide +kernel
theorem dX12_lines_72 : decode cX12_lines 72 = .ok (.iload 5, 2) := by decide +kernel
theorem dX12_lines_74 : decode cX12_lines 74 = .ok (.iload_n 1, 1) := by decide +kernel
theorem dX12_lines_75 : decode cX12_lines 75 = .ok (.if_icmp .ge 58, 3) := by decide +kernel
theorem dX12_lines_78 : decode cX12_lines 78 = .ok (.iload_n 3, 1) := by decide +kernel
theorem dX12_lines_79 : decode cX12_lines 79 = .ok (.iload 5, 2) := by decide +kernel
theorem dX12_lines_81 : decode cX12_lines 81 = .ok (.ishr, 1) := by decide +kernel
theorem dX12_lines_82 : decode cX12_lines 82 = .ok (.iconst 1, 1) := by decide +kernel
theorem dX12_lines_83 : decode cX12_lines 83 = .ok (.iand, 1) := by decide +kernel
theorem dX12_lines_84 : decode cX12_lines 84 = .ok (.iconst 1, 1) := by decide +kernel
theorem dX12_lines_85 : decode cX12_lines 85 = .ok (.if_icmp .ne 6, 3) := by decide +kernel
theorem dX12_lines_88 : decode cX12_lines 88 = .ok (.goto 39, 3) := by decide +kernel
theorem dX12_lines_91 : decode cX12_lines 91 = .ok (.aload_n 0, 1) := by decide +kernel
theorem dX12_lines_92 : decode cX12_lines 92 = .ok (.getfield 43, 3) := by decide +kernel
theorem dX12_lines_95 : decode cX12_lines 95 = .ok (.iload_n 2, 1) := by decide +kernel
theorem dX12_lines_96 : decode cX12_lines 96 = .ok (.iload 5, 2) := by decide +kernel
theorem dX12_lines_98 : decode cX12_lines 98 = .ok (.iastore, 1) := by decide +kernel
theorem dX12_lines_99 : decode cX12_lines 99 = .ok (.aload_n 0, 1) := by decide +kernel
theorem dX12_lines_100 : decode cX12_lines 100 = .ok (.iload_n 1, 1) := by decide +kernel
theorem dX12_lines_101 : decode cX12_lines 101 = .ok (.iload_n 2, 1) := by decide +kernel
theorem dX12_lines_102 : decode cX12_lines 102 = .ok (.iconst 1, 1) := by decide +kernel
theorem dX12_lines_103 : decode cX12_lines 103 = .ok (.iadd, 1) := by decide +kernel
theorem dX12_lines_104 : decode cX12_lines 104 = .ok (.iload_n 3, 1) := by decide +kernel
theorem dX12_lines_105 : decode cX12_lines 105 = .ok (.iconst 1, 1) := by decide +kernel
theorem dX12_lines_106 : decode cX12_lines 106 = .ok (.iload 5, 2) := by decide +kernel
theorem dX12_lines_108 : decode cX12_lines 108 = .ok (.ishl, 1) := by decide +kernel
theorem dX12_lines_109 : decode cX12_lines 109 = .ok (.ior, 1) := by decide +kernel
theorem dX12_lines_110 : decode cX12_lines 110 = .ok (.iload 4, 2) := by decide +kernel
theorem dX12_lines_112 : decode cX12_lines 112 = .ok (.aload_n 0, 1) := by decide +kernel
theorem dX12_lines_113 : decode cX12_lines 113 = .ok (.getfield 40, 3) := by decide +kernel
theorem dX12_lines_116 : decode cX12_lines 116 = .ok (.iconst 5, 1) := by decide +kernel
theorem dX12_lines_117 : decode cX12_lines 117 = .ok (.iload 5, 2) := by decide +kernel
theorem dX12_lines_119 : decode cX12_lines 119 = .ok (.imul, 1) := by decide +kernel
theorem dX12_lines_120 : decode cX12_lines 120 = .ok (.iload_n 2, 1) := by decide +kernel
theorem dX12_lines_121 : decode cX12_lines 121 = .ok (.iadd, 1) := by decide +kernel
theorem dX12_lines_122 : decode cX12_lines 122 = .ok (.iaload, 1) := by decide +kernel
theorem dX12_lines_123 : decode cX12_lines 123 = .ok (.iadd, 1) := by decide +kernel
theorem dX12_lines_124 : decode cX12_lines 124 = .ok (.invokevirtual 298, 3) := by decide +kernel
theorem dX12_lines_127 : decode cX12_lines 127 = .ok (.iinc 5 1, 3) := by decide +kernel
theorem dX12_lines_130 : decode cX12_lines 130 = .ok (.goto (-58), 3) := by decide +kernel
theorem dX12_lines_133 : decode cX12_lines 133 = .ok (.return_, 1) := by decide +kernel
theorem dX12_order_0 : decode cX12_order 0 = .ok (.iload_n 1, 1) := by decide +kernel
theorem dX12_order_1 : decode cX12_order 1 = .ok (.invokestatic 125, 3) := by decide +kernel
theorem dX12_order_4 : decode cX12_order 4 = .ok (.ifCond .eq 41, 3) := by decide +kernel
theorem dX12_order_7 : decode cX12_order 7 = .ok (.iload_n 2, 1) := by decide +kernel
theorem dX12_order_8 : decode cX12_order 8 = .ok (.invokestatic 184, 3) := by decide +kernel
theorem dX12_order_11 : decode cX12_order 11 = .ok (.ifCond .eq 34, 3) := by decide +kernel
theorem dX12_order_14 : decode cX12_order 14 = .ok (.iload_n 3, 1) := by decide +kernel
theorem dX12_order_15 : decode cX12_order 15 = .ok (.invokestatic 184, 3) := by decide +kernel
theorem dX12_order_18 : decode cX12_order 18 = .ok (.ifCond .eq 27, 3) := by decide +kernel
theorem dX12_order_21 : decode cX12_order 21 = .ok (.iload 4, 2) := by decide +kernel
theorem dX12_order_23 : decode cX12_order 23 = .ok (.i2l, 1) := by decide +kernel
theorem dX12_order_24 : decode cX12_order 24 = .ok (.lconst 1, 1) := by decide +kernel
theorem dX12_order_25 : decode cX12_order 25 = .ok (.ldc2_w 281, 3) := by decide +kernel
theorem dX12_order_28 : decode cX12_order 28 = .ok (.invokestatic 56, 3) := by decide +kernel
theorem dX12_order_31 : decode cX12_order 31 = .ok (.ifCond .eq 14, 3) := by decide +kernel
theorem dX12_order_34 : decode cX12_order 34 = .ok (.iload 5, 2) := by decide +kernel
theorem dX12_order_36 : decode cX12_order 36 = .ok (.i2l, 1) := by decide +kernel
theorem dX12_order_37 : decode cX12_order 37 = .ok (.lconst 0, 1) := by decide +kernel
theorem dX12_order_38 : decode cX12_order 38 = .ok (.lconst 1, 1) := by decide +kernel
theorem dX12_order_39 : decode cX12_order 39 = .ok (.invokestatic 56, 3) := by decide +kernel
theorem dX12_order_42 : decode cX12_order 42 = .ok (.ifCond .ne 5, 3) := by decide +kernel
theorem dX12_order_45 : decode cX12_order 45 = .ok (.iconst (-1), 1) := by decide +kernel
theorem dX12_order_46 : decode cX12_order 46 = .ok (.ireturn, 1) := by decide +kernel
theorem dX12_order_47 : decode cX12_order 47 = .ok (.aload_n 0, 1) := by decide +kernel
theorem dX12_order_48 : decode cX12_order 48 = .ok (.iload_n 1, 1) := by decide +kernel
theorem dX12_order_49 : decode cX12_order 49 = .ok (.invokevirtual 285, 3) := by decide +kernel
theorem dX12_order_52 : decode cX12_order 52 = .ok (.istore 6, 2) := by decide +kernel
theorem dX12_order_54 : decode cX12_order 54 = .ok (.iload 6, 2) := by decide +kernel
theorem dX12_order_56 : decode cX12_order 56 = .ok (.ifCond .eq 6, 3) := by decide +kernel
theorem dX12_order_59 : decode cX12_order 59 = .ok (.iload 6, 2) := by decide +kernel
theorem dX12_order_61 : decode cX12_order 61 = .ok (.ireturn, 1) := by decide +kernel
theorem dX12_order_62 : decode cX12_order 62 = .ok (.iload_n 2, 1) := by decide +kernel
theorem dX12_order_63 : decode cX12_order 63 = .ok (.istore 7, 2) := by decide +kernel
theorem dX12_order_65 : decode cX12_order 65 = .ok (.iconst 0, 1) := by decide +kernel
theorem dX12_order_66 : decode cX12_order 66 = .ok (.istore 8, 2) := by decide +kernel
theorem dX12_order_68 : decode cX12_order 68 = .ok (.iload 8, 2) := by decide +kernel
theorem dX12_order_70 : decode cX12_order 70 = .ok (.aload_n 0, 1) := by decide +kernel
theorem dX12_order_71 : decode cX12_order 71 = .ok (.getfield 25, 3) := by decide +kernel
theorem dX12_order_74 : decode cX12_order 74 = .ok (.iload_n 1, 1) := by decide +kernel
theorem dX12_order_75 : decode cX12_order 75 = .ok (.iaload, 1) := by decide +kernel
theorem dX12_order_76 : decode cX12_order 76 = .ok (.if_icmp .ge 87, 3) := by decide +kernel
theorem dX12_order_79 : decode cX12_order 79 = .ok (.iload 8, 2) := by decide +kernel
theorem dX12_order_81 : decode cX12_order 81 = .ok (.ifCond .le 20, 3) := by decide +kernel
theorem dX12_order_84 : decode cX12_order 84 = .ok (.iload 7, 2) := by decide +kernel
theorem dX12_order_86 : decode cX12_order 86 = .ok (.aload_n 0, 1) := by decide +kernel
theorem dX12_order_87 : decode cX12_order 87 = .ok (.getfield 9, 3) := by decide +kernel
theorem dX12_order_90 : decode cX12_order 90 = .ok (.iconst 1, 1) := by decide +kernel
theorem dX12_order_91 : decode cX12_order 91 = .ok (.iaload, 1) := by decide +kernel
theorem dX12_order_92 : decode cX12_order 92 = .ok (.iload 4, 2) := by decide +kernel
theorem dX12_order_94 : decode cX12_order 94 = .ok (.imul, 1) := by decide +kernel
theorem dX12_order_95 : decode cX12_order 95 = .ok (.iadd, 1) := by decide +kernel
theorem dX12_order_96 : decode cX12_order 96 = .ok (.invokestatic 230, 3) := by decide +kernel
theorem dX12_order_99 : decode cX12_order 99 = .ok (.istore 7, 2) := by decide +kernel
theorem dX12_order_101 : decode cX12_order 101 = .ok (.iconst 0, 1) := by decide +kernel
theorem dX12_order_102 : decode cX12_order 102 = .ok (.istore 9, 2) := by decide +kernel
theorem dX12_order_104 : decode cX12_order 104 = .ok (.iload 9, 2) := by decide +kernel
theorem dX12_order_106 : decode cX12_order 106 = .ok (.aload_n 0, 1) := by decide +kernel
theorem dX12_order_107 : decode cX12_order 107 = .ok (.getfield 25, 3) := by decide +kernel
theorem dX12_order_110 : decode cX12_order 110 = .ok (.iload_n 1, 1) := by decide +kernel
theorem dX12_order_111 : decode cX12_order 111 = .ok (.iaload, 1) := by decide +kernel
theorem dX12_order_112 : decode cX12_order 112 = .ok (.if_icmp .ge 45, 3) := by decide +kernel
theorem dX12_order_115 : decode cX12_order 115 = .ok (.aload_n 0, 1) := by decide +kernel
theorem dX12_order_116 : decode cX12_order 116 = .ok (.aload_n 0, 1) := by decide +kernel
theorem dX12_order_117 : decode cX12_order 117 = .ok (.getfield 28, 3) := by decide +kernel
theorem dX12_order_120 : decode cX12_order 120 = .ok (.bipush 100, 2) := by decide +kernel
theorem dX12_order_122 : decode cX12_order 122 = .ok (.iload_n 1, 1) := by decide +kernel
theorem dX12_order_123 : decode cX12_order 123 = .ok (.imul, 1) := by decide +kernel
theorem dX12_order_124 : decode cX12_order 124 = .ok (.iload 9, 2) := by decide +kernel
theorem dX12_order_126 : decode cX12_order 126 = .ok (.iadd, 1) := by decide +kernel
theorem dX12_order_127 : decode cX12_order 127 = .ok (.iaload, 1) := by decide +kernel
theorem dX12_order_128 : decode cX12_order 128 = .ok (.iload 7, 2) := by decide +kernel
theorem dX12_order_130 : decode cX12_order 130 = .ok (.iload_n 3, 1) := by decide +kernel
theorem dX12_order_131 : decode cX12_order 131 = .ok (.iconst 1, 1) := by decide +kernel
theorem dX12_order_132 : decode cX12_order 132 = .ok (.invokevirtual 267, 3) := by decide +kernel
theorem dX12_order_135 : decode cX12_order 135 = .ok (.aload_n 0, 1) := by decide +kernel
theorem dX12_order_136 : decode cX12_order 136 = .ok (.getfield 40, 3) := by decide +kernel
theorem dX12_order_139 : decode cX12_order 139 = .ok (.iconst 5, 1) := by decide +kernel
theorem dX12_order_140 : decode cX12_order 140 = .ok (.iload 9, 2) := by decide +kernel
theorem dX12_order_142 : decode cX12_order 142 = .ok (.imul, 1) := by decide +kernel
theorem dX12_order_143 : decode cX12_order 143 = .ok (.iload 8, 2) := by decide +kernel
theorem dX12_order_145 : decode cX12_order 145 = .ok (.iadd, 1) := by decide +kernel
theorem dX12_order_146 : decode cX12_order 146 = .ok (.aload_n 0, 1) := by decide +kernel
theorem dX12_order_147 : decode cX12_order 147 = .ok (.invokevirtual 262, 3) := by decide +kernel
theorem dX12_order_150 : decode cX12_order 150 = .ok (.iastore, 1) := by decide +kernel
theorem dX12_order_151 : decode cX12_order 151 = .ok (.iinc 9 1, 3) := by decide +kernel
theorem dX12_order_154 : decode cX12_order 154 = .ok (.goto (-50), 3) := by decide +kernel
theorem dX12_order_157 : decode cX12_order 157 = .ok (.iinc 8 1, 3) := by decide +kernel
theorem dX12_order_160 : decode cX12_order 160 = .ok (.goto (-92), 3) := by decide +kernel
theorem dX12_order_163 : decode cX12_order 163 = .ok (.aload_n 0, 1) := by decide +kernel
theorem dX12_order_164 : decode cX12_order 164 = .ok (.bipush (-4), 2) := by decide +kernel
theorem dX12_order_166 : decode cX12_order 166 = .ok (.putfield 292, 3) := by decide +kernel
theorem dX12_order_169 : decode cX12_order 169 = .ok (.aload_n 0, 1) := by decide +kernel
theorem dX12_order_170 : decode cX12_order 170 = .ok (.aload_n 0, 1) := by decide +kernel
theorem dX12_order_171 : decode cX12_order 171 = .ok (.getfield 25, 3) := by decide +kernel
theorem dX12_order_174 : decode cX12_order 174 = .ok (.iload_n 1, 1) := by decide +kernel
theorem dX12_order_175 : decode cX12_order 175 = .ok (.iaload, 1) := by decide +kernel
theorem dX12_order_176 : decode cX12_order 176 = .ok (.iconst 0, 1) := by decide +kernel
theorem dX12_order_177 : decode cX12_order 177 = .ok (.iconst 0, 1) := by decide +kernel
theorem dX12_order_178 : decode cX12_order 178 = .ok (.iconst 0, 1) := by decide +kernel
theorem dX12_order_179 : decode cX12_order 179 = .ok (.invokevirtual 298, 3) := by decide +kernel
theorem dX12_order_182 : decode cX12_order 182 = .ok (.iload 5, 2) := by decide +kernel
theorem dX12_order_184 : decode cX12_order 184 = .ok (.ifCond .ne 10, 3) := by decide +kernel
theorem dX12_order_187 : decode cX12_order 187 = .ok (.aload_n 0, 1) := by decide +kernel
theorem dX12_order_188 : decode cX12_order 188 = .ok (.getfield 295, 3) := by decide +kernel
theorem dX12_order_191 : decode cX12_order 191 = .ok (.goto 7, 3) := by decide +kernel
theorem dX12_order_194 : decode cX12_order 194 = .ok (.aload_n 0, 1) := by decide +kernel
theorem dX12_order_195 : decode cX12_order 195 = .ok (.getfield 292, 3) := by decide +kernel
theorem dX12_order_198 : decode cX12_order 198 = .ok (.ireturn, 1) := by decide +kernel
theorem dX12_cone_0 : decode cX12_cone 0 = .ok (.aload_n 0, 1) := by decide +kernel
theorem dX12_cone_1 : decode cX12_cone 1 = .ok (.iload_n 1, 1) := by decide +kernel
theorem dX12_cone_2 : decode cX12_cone 2 = .ok (.invokevirtual 149, 3) := by decide +kernel
theorem dX12_cone_5 : decode cX12_cone 5 = .ok (.ifCond .eq 27, 3) := by decide +kernel
theorem dX12_cone_8 : decode cX12_cone 8 = .ok (.iload_n 2, 1) := by decide +kernel
theorem dX12_cone_9 : decode cX12_cone 9 = .ok (.i2l, 1) := by decide +kernel
theorem dX12_cone_10 : decode cX12_cone 10 = .ok (.lconst 1, 1) := by decide +kernel
theorem dX12_cone_11 : decode cX12_cone 11 = .ok (.ldc2_w 109, 3) := by decide +kernel
theorem dX12_cone_14 : decode cX12_cone 14 = .ok (.invokestatic 56, 3) := by decide +kernel
theorem dX12_cone_17 : decode cX12_cone 17 = .ok (.ifCond .eq 15, 3) := by decide +kernel
theorem dX12_cone_20 : decode cX12_cone 20 = .ok (.iload_n 3, 1) := by decide +kernel
theorem dX12_cone_21 : decode cX12_cone 21 = .ok (.i2l, 1) := by decide +kernel
theorem dX12_cone_22 : decode cX12_cone 22 = .ok (.lconst 0, 1) := by decide +kernel
theorem dX12_cone_23 : decode cX12_cone 23 = .ok (.ldc2_w 283, 3) := by decide +kernel
theorem dX12_cone_26 : decode cX12_cone 26 = .ok (.invokestatic 56, 3) := by decide +kernel
theorem dX12_cone_29 : decode cX12_cone 29 = .ok (.ifCond .ne 5, 3) := by decide +kernel
theorem dX12_cone_32 : decode cX12_cone 32 = .ok (.iconst (-1), 1) := by decide +kernel
theorem dX12_cone_33 : decode cX12_cone 33 = .ok (.ireturn, 1) := by decide +kernel
theorem dX12_cone_34 : decode cX12_cone 34 = .ok (.iconst 0, 1) := by decide +kernel
theorem dX12_cone_35 : decode cX12_cone 35 = .ok (.istore 4, 2) := by decide +kernel
theorem dX12_cone_37 : decode cX12_cone 37 = .ok (.sipush (-5000), 3) := by decide +kernel
theorem dX12_cone_40 : decode cX12_cone 40 = .ok (.istore 5, 2) := by decide +kernel
theorem dX12_cone_42 : decode cX12_cone 42 = .ok (.iload 5, 2) := by decide +kernel
theorem dX12_cone_44 : decode cX12_cone 44 = .ok (.sipush 5000, 3) := by decide +kernel
theorem dX12_cone_47 : decode cX12_cone 47 = .ok (.if_icmp .gt 83, 3) := by decide +kernel
theorem dX12_cone_50 : decode cX12_cone 50 = .ok (.sipush (-5000), 3) := by decide +kernel
theorem dX12_cone_53 : decode cX12_cone 53 = .ok (.istore 6, 2) := by decide +kernel
theorem dX12_cone_55 : decode cX12_cone 55 = .ok (.iload 6, 2) := by decide +kernel
theorem dX12_cone_57 : decode cX12_cone 57 = .ok (.sipush 5000, 3) := by decide +kernel
theorem dX12_cone_60 : decode cX12_cone 60 = .ok (.if_icmp .gt 61, 3) := by decide +kernel
theorem dX12_cone_63 : decode cX12_cone 63 = .ok (.aload_n 0, 1) := by decide +kernel
theorem dX12_cone_64 : decode cX12_cone 64 = .ok (.aload_n 0, 1) := by decide +kernel
theorem dX12_cone_65 : decode cX12_cone 65 = .ok (.iload_n 1, 1) := by decide +kernel
theorem dX12_cone_66 : decode cX12_cone 66 = .ok (.iconst 0, 1) := by decide +kernel
theorem dX12_cone_67 : decode cX12_cone 67 = .ok (.invokevirtual 152, 3) := by decide +kernel
theorem dX12_cone_70 : decode cX12_cone 70 = .ok (.aload_n 0, 1) := by decide +kernel
theorem dX12_cone_71 : decode cX12_cone 71 = .ok (.iload_n 1, 1) := by decide +kernel
theorem dX12_cone_72 : decode cX12_cone 72 = .ok (.iconst 1, 1) := by decide +kernel
theorem dX12_cone_73 : decode cX12_cone 73 = .ok (.invokevirtual 152, 3) := by decide +kernel
theorem dX12_cone_76 : decode cX12_cone 76 = .ok (.iconst 0, 1) := by decide +kernel
theorem dX12_cone_77 : decode cX12_cone 77 = .ok (.iload 5, 2) := by decide +kernel
theorem dX12_cone_79 : decode cX12_cone 79 = .ok (.iload 6, 2) := by decide +kernel
theorem dX12_cone_81 : decode cX12_cone 81 = .ok (.iconst 1, 1) := by decide +kernel
theorem dX12_cone_82 : decode cX12_cone 82 = .ok (.invokevirtual 224, 3) := by decide +kernel
theorem dX12_cone_85 : decode cX12_cone 85 = .ok (.aload_n 0, 1) := by decide +kernel
theorem dX12_cone_86 : decode cX12_cone 86 = .ok (.iload_n 2, 1) := by decide +kernel
theorem dX12_cone_87 : decode cX12_cone 87 = .ok (.putfield 212, 3) := by decide +kernel
theorem dX12_cone_90 : decode cX12_cone 90 = .ok (.aload_n 0, 1) := by decide +kernel
theorem dX12_cone_91 : decode cX12_cone 91 = .ok (.invokevirtual 259, 3) := by decide +kernel
theorem dX12_cone_94 : decode cX12_cone 94 = .ok (.iload 4, 2) := by decide +kernel
theorem dX12_cone_96 : decode cX12_cone 96 = .ok (.aload_n 0, 1) := by decide +kernel
theorem dX12_cone_97 : decode cX12_cone 97 = .ok (.invokevirtual 262, 3) := by decide +kernel
theorem dX12_cone_100 : decode cX12_cone 100 = .ok (.iload_n 3, 1) := by decide +kernel
theorem dX12_cone_101 : decode cX12_cone 101 = .ok (.if_icmp .gt 7, 3) := by decide +kernel
theorem dX12_cone_104 : decode cX12_cone 104 = .ok (.iconst 1, 1) := by decide +kernel
theorem dX12_cone_105 : decode cX12_cone 105 = .ok (.goto 4, 3) := by decide +kernel
theorem dX12_cone_108 : decode cX12_cone 108 = .ok (.iconst 0, 1) := by decide +kernel
theorem dX12_cone_109 : decode cX12_cone 109 = .ok (.iadd, 1) := by decide +kernel
theorem dX12_cone_110 : decode cX12_cone 110 = .ok (.istore 4, 2) := by decide +kernel
theorem dX12_cone_112 : decode cX12_cone 112 = .ok (.iinc 6 500, 6) := by decide +kernel
theorem dX12_cone_118 : decode cX12_cone 118 = .ok (.goto (-63), 3) := by decide +kernel
theorem dX12_cone_121 : decode cX12_cone 121 = .ok (.iinc 5 500, 6) := by decide +kernel
theorem dX12_cone_127 : decode cX12_cone 127 = .ok (.goto (-85), 3) := by decide +kernel
theorem dX12_cone_130 : decode cX12_cone 130 = .ok (.iload 4, 2) := by decide +kernel
theorem dX12_cone_132 : decode cX12_cone 132 = .ok (.ireturn, 1) := by decide +kernel
theorem dX12_steering_0 : decode cX12_steering 0 = .ok (.aload_n 0, 1) := by decide +kernel
theorem dX12_steering_1 : decode cX12_steering 1 = .ok (.iload_n 1, 1) := by decide +kernel
theorem dX12_steering_2 : decode cX12_steering 2 = .ok (.invokevirtual 149, 3) := by decide +kernel
theorem dX12_steering_5 : decode cX12_steering 5 = .ok (.ifCond .eq 28, 3) := by decide +kernel
theorem dX12_steering_8 : decode cX12_steering 8 = .ok (.iload_n 2, 1) := by decide +kernel
theorem dX12_steering_9 : decode cX12_steering 9 = .ok (.invokestatic 184, 3) := by decide +kernel
theorem dX12_steering_12 : decode cX12_steering 12 = .ok (.ifCond .eq 21, 3) := by decide +kernel
theorem dX12_steering_15 : decode cX12_steering 15 = .ok (.iload_n 3, 1) := by decide +kernel
theorem dX12_steering_16 : decode cX12_steering 16 = .ok (.invokestatic 184, 3) := by decide +kernel
theorem dX12_steering_19 : decode cX12_steering 19 = .ok (.ifCond .eq 14, 3) := by decide +kernel
theorem dX12_steering_22 : decode cX12_steering 22 = .ok (.iload 4, 2) := by decide +kernel
theorem dX12_steering_24 : decode cX12_steering 24 = .ok (.i2l, 1) := by decide +kernel
theorem dX12_steering_25 : decode cX12_steering 25 = .ok (.lconst 0, 1) := by decide +kernel
theorem dX12_steering_26 : decode cX12_steering 26 = .ok (.lconst 1, 1) := by decide +kernel
theorem dX12_steering_27 : decode cX12_steering 27 = .ok (.invokestatic 56, 3) := by decide +kernel
theorem dX12_steering_30 : decode cX12_steering 30 = .ok (.ifCond .ne 5, 3) := by decide +kernel
theorem dX12_steering_33 : decode cX12_steering 33 = .ok (.iconst (-1), 1) := by decide +kernel
theorem dX12_steering_34 : decode cX12_steering 34 = .ok (.ireturn, 1) := by decide +kernel
theorem dX12_steering_35 : decode cX12_steering 35 = .ok (.bipush (-4), 2) := by decide +kernel
theorem dX12_steering_37 : decode cX12_steering 37 = .ok (.istore 5, 2) := by decide +kernel
theorem dX12_steering_39 : decode cX12_steering 39 = .ok (.iconst 0, 1) := by decide +kernel
theorem dX12_steering_40 : decode cX12_steering 40 = .ok (.istore 6, 2) := by decide +kernel
theorem dX12_steering_42 : decode cX12_steering 42 = .ok (.iconst 0, 1) := by decide +kernel
theorem dX12_steering_43 : decode cX12_steering 43 = .ok (.istore 7, 2) := by decide +kernel
theorem dX12_steering_45 : decode cX12_steering 45 = .ok (.iload 7, 2) := by decide +kernel
theorem dX12_steering_47 : decode cX12_steering 47 = .ok (.bipush 9, 2) := by decide +kernel
theorem dX12_steering_49 : decode cX12_steering 49 = .ok (.if_icmp .ge 54, 3) := by decide +kernel
theorem dX12_steering_52 : decode cX12_steering 52 = .ok (.aload_n 0, 1) := by decide +kernel
theorem dX12_steering_53 : decode cX12_steering 53 = .ok (.iload_n 1, 1) := by decide +kernel
theorem dX12_steering_54 : decode cX12_steering 54 = .ok (.iload_n 2, 1) := by decide +kernel
theorem dX12_steering_55 : decode cX12_steering 55 = .ok (.iload_n 3, 1) := by decide +kernel
theorem dX12_steering_56 : decode cX12_steering 56 = .ok (.iconst 1, 1) := by decide +kernel
theorem dX12_steering_57 : decode cX12_steering 57 = .ok (.invokevirtual 255, 3) := by decide +kernel
theorem dX12_steering_60 : decode cX12_steering 60 = .ok (.aload_n 0, 1) := by decide +kernel
theorem dX12_steering_61 : decode cX12_steering 61 = .ok (.iload 7, 2) := by decide +kernel
theorem dX12_steering_63 : decode cX12_steering 63 = .ok (.putfield 203, 3) := by decide +kernel
theorem dX12_steering_66 : decode cX12_steering 66 = .ok (.aload_n 0, 1) := by decide +kernel
theorem dX12_steering_67 : decode cX12_steering 67 = .ok (.invokevirtual 259, 3) := by decide +kernel
theorem dX12_steering_70 : decode cX12_steering 70 = .ok (.iload 5, 2) := by decide +kernel
theorem dX12_steering_72 : decode cX12_steering 72 = .ok (.ifCond .lt 15, 3) := by decide +kernel
theorem dX12_steering_75 : decode cX12_steering 75 = .ok (.aload_n 0, 1) := by decide +kernel
theorem dX12_steering_76 : decode cX12_steering 76 = .ok (.invokevirtual 262, 3) := by decide +kernel
theorem dX12_steering_79 : decode cX12_steering 79 = .ok (.iload 6, 2) := by decide +kernel
theorem dX12_steering_81 : decode cX12_steering 81 = .ok (.if_icmp .lt 6, 3) := by decide +kernel
theorem dX12_steering_84 : decode cX12_steering 84 = .ok (.goto 13, 3) := by decide +kernel
theorem dX12_steering_87 : decode cX12_steering 87 = .ok (.iload 7, 2) := by decide +kernel
theorem dX12_steering_89 : decode cX12_steering 89 = .ok (.istore 5, 2) := by decide +kernel
theorem dX12_steering_91 : decode cX12_steering 91 = .ok (.aload_n 0, 1) := by decide +kernel
theorem dX12_steering_92 : decode cX12_steering 92 = .ok (.invokevirtual 262, 3) := by decide +kernel
theorem dX12_steering_95 : decode cX12_steering 95 = .ok (.istore 6, 2) := by decide +kernel
theorem dX12_steering_97 : decode cX12_steering 97 = .ok (.iinc 7 1, 3) := by decide +kernel
theorem dX12_steering_100 : decode cX12_steering 100 = .ok (.goto (-55), 3) := by decide +kernel
theorem dX12_steering_103 : decode cX12_steering 103 = .ok (.iload 4, 2) := by decide +kernel
theorem dX12_steering_105 : decode cX12_steering 105 = .ok (.ifCond .ne 8, 3) := by decide +kernel
theorem dX12_steering_108 : decode cX12_steering 108 = .ok (.iload 5, 2) := by decide +kernel
theorem dX12_steering_110 : decode cX12_steering 110 = .ok (.goto 5, 3) := by decide +kernel
theorem dX12_steering_113 : decode cX12_steering 113 = .ok (.iload 6, 2) := by decide +kernel
theorem dX12_steering_115 : decode cX12_steering 115 = .ok (.ireturn, 1) := by decide +kernel
theorem dX12_last_0 : decode cX12_last 0 = .ok (.aload_n 0, 1) := by decide +kernel
theorem dX12_last_1 : decode cX12_last 1 = .ok (.iload_n 1, 1) := by decide +kernel
theorem dX12_last_2 : decode cX12_last 2 = .ok (.invokevirtual 149, 3) := by decide +kernel
theorem dX12_last_5 : decode cX12_last 5 = .ok (.ifCond .ne 5, 3) := by decide +kernel
theorem dX12_last_8 : decode cX12_last 8 = .ok (.iconst (-1), 1) := by decide +kernel
theorem dX12_last_9 : decode cX12_last 9 = .ok (.ireturn, 1) := by decide +kernel
theorem dX12_last_10 : decode cX12_last 10 = .ok (.bipush (-4), 2) := by decide +kernel
theorem dX12_last_12 : decode cX12_last 12 = .ok (.istore_n 2, 1) := by decide +kernel
theorem dX12_last_13 : decode cX12_last 13 = .ok (.iconst 0, 1) := by decide +kernel
theorem dX12_last_14 : decode cX12_last 14 = .ok (.istore_n 3, 1) := by decide +kernel
theorem dX12_last_15 : decode cX12_last 15 = .ok (.iload_n 3, 1) := by decide +kernel
theorem dX12_last_16 : decode cX12_last 16 = .ok (.bipush 20, 2) := by decide +kernel
theorem dX12_last_18 : decode cX12_last 18 = .ok (.if_icmp .gt 39, 3) := by decide +kernel
theorem dX12_last_21 : decode cX12_last 21 = .ok (.aload_n 0, 1) := by decide +kernel
theorem dX12_last_22 : decode cX12_last 22 = .ok (.getfield 9, 3) := by decide +kernel
theorem dX12_last_25 : decode cX12_last 25 = .ok (.iconst 2, 1) := by decide +kernel
theorem dX12_last_26 : decode cX12_last 26 = .ok (.iaload, 1) := by decide +kernel
theorem dX12_last_27 : decode cX12_last 27 = .ok (.iload_n 3, 1) := by decide +kernel
theorem dX12_last_28 : decode cX12_last 28 = .ok (.aload_n 0, 1) := by decide +kernel
theorem dX12_last_29 : decode cX12_last 29 = .ok (.iload_n 1, 1) := by decide +kernel
theorem dX12_last_30 : decode cX12_last 30 = .ok (.iconst 0, 1) := by decide +kernel
theorem dX12_last_31 : decode cX12_last 31 = .ok (.invokevirtual 152, 3) := by decide +kernel
theorem dX12_last_34 : decode cX12_last 34 = .ok (.invokestatic 155, 3) := by decide +kernel
theorem dX12_last_37 : decode cX12_last 37 = .ok (.imul, 1) := by decide +kernel
theorem dX12_last_38 : decode cX12_last 38 = .ok (.isub, 1) := by decide +kernel
theorem dX12_last_39 : decode cX12_last 39 = .ok (.sipush 200, 3) := by decide +kernel
theorem dX12_last_42 : decode cX12_last 42 = .ok (.if_icmp .lt 7, 3) := by decide +kernel
theorem dX12_last_45 : decode cX12_last 45 = .ok (.iload_n 3, 1) := by decide +kernel
theorem dX12_last_46 : decode cX12_last 46 = .ok (.goto 4, 3) := by decide +kernel
theorem dX12_last_49 : decode cX12_last 49 = .ok (.iload_n 2, 1) := by decide +kernel
theorem dX12_last_50 : decode cX12_last 50 = .ok (.istore_n 2, 1) := by decide +kernel
theorem dX12_last_51 : decode cX12_last 51 = .ok (.iinc 3 1, 3) := by decide +kernel
theorem dX12_last_54 : decode cX12_last 54 = .ok (.goto (-39), 3) := by decide +kernel
theorem dX12_last_57 : decode cX12_last 57 = .ok (.iload_n 2, 1) := by decide +kernel
theorem dX12_last_58 : decode cX12_last 58 = .ok (.ireturn, 1) := by decide +kernel
theorem dX12_safe_0 : decode cX12_safe 0 = .ok (.iload_n 1, 1) := by decide +kernel
theorem dX12_safe_1 : decode cX12_safe 1 = .ok (.invokestatic 184, 3) := by decide +kernel
theorem dX12_safe_4 : decode cX12_safe 4 = .ok (.ifCond .eq 20, 3) := by decide +kernel
theorem dX12_safe_7 : decode cX12_safe 7 = .ok (.iload_n 2, 1) := by decide +kernel
theorem dX12_safe_8 : decode cX12_safe 8 = .ok (.invokestatic 184, 3) := by decide +kernel
theorem dX12_safe_11 : decode cX12_safe 11 = .ok (.ifCond .eq 13, 3) := by decide +kernel
theorem dX12_safe_14 : decode cX12_safe 14 = .ok (.iload_n 3, 1) := by decide +kernel
theorem dX12_safe_15 : decode cX12_safe 15 = .ok (.i2l, 1) := by decide +kernel
theorem dX12_safe_16 : decode cX12_safe 16 = .ok (.lconst 0, 1) := by decide +kernel
theorem dX12_safe_17 : decode cX12_safe 17 = .ok (.lconst 1, 1) := by decide +kernel
theorem dX12_safe_18 : decode cX12_safe 18 = .ok (.invokestatic 56, 3) := by decide +kernel
theorem dX12_safe_21 : decode cX12_safe 21 = .ok (.ifCond .ne 6, 3) := by decide +kernel
theorem dX12_safe_24 : decode cX12_safe 24 = .ok (.ldc 139, 2) := by decide +kernel
theorem dX12_safe_26 : decode cX12_safe 26 = .ok (.ireturn, 1) := by decide +kernel
theorem dX12_safe_27 : decode cX12_safe 27 = .ok (.iconst 0, 1) := by decide +kernel
theorem dX12_safe_28 : decode cX12_safe 28 = .ok (.istore 4, 2) := by decide +kernel
theorem dX12_safe_30 : decode cX12_safe 30 = .ok (.iconst 0, 1) := by decide +kernel
theorem dX12_safe_31 : decode cX12_safe 31 = .ok (.istore 5, 2) := by decide +kernel
theorem dX12_safe_33 : decode cX12_safe 33 = .ok (.bipush (-4), 2) := by decide +kernel
theorem dX12_safe_35 : decode cX12_safe 35 = .ok (.istore 6, 2) := by decide +kernel
theorem dX12_safe_37 : decode cX12_safe 37 = .ok (.sipush (-30000), 3) := by decide +kernel
theorem dX12_safe_40 : decode cX12_safe 40 = .ok (.istore 7, 2) := by decide +kernel
theorem dX12_safe_42 : decode cX12_safe 42 = .ok (.iload 7, 2) := by decide +kernel
theorem dX12_safe_44 : decode cX12_safe 44 = .ok (.sipush 30000, 3) := by decide +kernel
theorem dX12_safe_47 : decode cX12_safe 47 = .ok (.if_icmp .gt 89, 3) := by decide +kernel
theorem dX12_safe_50 : decode cX12_safe 50 = .ok (.sipush (-30000), 3) := by decide +kernel
theorem dX12_safe_53 : decode cX12_safe 53 = .ok (.istore 8, 2) := by decide +kernel
theorem dX12_safe_55 : decode cX12_safe 55 = .ok (.iload 8, 2) := by decide +kernel
theorem dX12_safe_57 : decode cX12_safe 57 = .ok (.sipush 30000, 3) := by decide +kernel
theorem dX12_safe_60 : decode cX12_safe 60 = .ok (.if_icmp .gt 67, 3) := by decide +kernel
theorem dX12_safe_63 : decode cX12_safe 63 = .ok (.iload 7, 2) := by decide +kernel
theorem dX12_safe_65 : decode cX12_safe 65 = .ok (.iload_n 1, 1) := by decide +kernel
theorem dX12_safe_66 : decode cX12_safe 66 = .ok (.isub, 1) := by decide +kernel
theorem dX12_safe_67 : decode cX12_safe 67 = .ok (.invokestatic 171, 3) := by decide +kernel
theorem dX12_safe_70 : decode cX12_safe 70 = .ok (.iload 8, 2) := by decide +kernel
theorem dX12_safe_72 : decode cX12_safe 72 = .ok (.iload_n 2, 1) := by decide +kernel
theorem dX12_safe_73 : decode cX12_safe 73 = .ok (.isub, 1) := by decide +kernel
theorem dX12_safe_74 : decode cX12_safe 74 = .ok (.invokestatic 171, 3) := by decide +kernel
theorem dX12_safe_77 : decode cX12_safe 77 = .ok (.iadd, 1) := by decide +kernel
theorem dX12_safe_78 : decode cX12_safe 78 = .ok (.istore 9, 2) := by decide +kernel
theorem dX12_safe_80 : decode cX12_safe 80 = .ok (.iload 6, 2) := by decide +kernel
theorem dX12_safe_82 : decode cX12_safe 82 = .ok (.ifCond .lt 10, 3) := by decide +kernel
theorem dX12_safe_85 : decode cX12_safe 85 = .ok (.iload 9, 2) := by decide +kernel
theorem dX12_safe_87 : decode cX12_safe 87 = .ok (.iload 6, 2) := by decide +kernel
theorem dX12_safe_89 : decode cX12_safe 89 = .ok (.if_icmp .ge 29, 3) := by decide +kernel
theorem dX12_safe_92 : decode cX12_safe 92 = .ok (.aload_n 0, 1) := by decide +kernel
theorem dX12_safe_93 : decode cX12_safe 93 = .ok (.iload 7, 2) := by decide +kernel
theorem dX12_safe_95 : decode cX12_safe 95 = .ok (.iload 8, 2) := by decide +kernel
theorem dX12_safe_97 : decode cX12_safe 97 = .ok (.invokevirtual 191, 3) := by decide +kernel
theorem dX12_safe_100 : decode cX12_safe 100 = .ok (.ifCond .eq 6, 3) := by decide +kernel
theorem dX12_safe_103 : decode cX12_safe 103 = .ok (.goto 15, 3) := by decide +kernel
theorem dX12_safe_106 : decode cX12_safe 106 = .ok (.iload 7, 2) := by decide +kernel
theorem dX12_safe_108 : decode cX12_safe 108 = .ok (.istore 4, 2) := by decide +kernel
theorem dX12_safe_110 : decode cX12_safe 110 = .ok (.iload 8, 2) := by decide +kernel
theorem dX12_safe_112 : decode cX12_safe 112 = .ok (.istore 5, 2) := by decide +kernel
theorem dX12_safe_114 : decode cX12_safe 114 = .ok (.iload 9, 2) := by decide +kernel
theorem dX12_safe_116 : decode cX12_safe 116 = .ok (.istore 6, 2) := by decide +kernel
theorem dX12_safe_118 : decode cX12_safe 118 = .ok (.iinc 8 1000, 6) := by decide +kernel
theorem dX12_safe_124 : decode cX12_safe 124 = .ok (.goto (-69), 3) := by decide +kernel
theorem dX12_safe_127 : decode cX12_safe 127 = .ok (.iinc 7 1000, 6) := by decide +kernel
theorem dX12_safe_133 : decode cX12_safe 133 = .ok (.goto (-91), 3) := by decide +kernel
theorem dX12_safe_136 : decode cX12_safe 136 = .ok (.iload 6, 2) := by decide +kernel
theorem dX12_safe_138 : decode cX12_safe 138 = .ok (.ifCond .ge 9, 3) := by decide +kernel
theorem dX12_safe_141 : decode cX12_safe 141 = .ok (.ldc_w 301, 3) := by decide +kernel
theorem dX12_safe_144 : decode cX12_safe 144 = .ok (.goto 20, 3) := by decide +kernel
theorem dX12_safe_147 : decode cX12_safe 147 = .ok (.iload_n 3, 1) := by decide +kernel
theorem dX12_safe_148 : decode cX12_safe 148 = .ok (.ifCond .ne 11, 3) := by decide +kernel
theorem dX12_safe_151 : decode cX12_safe 151 = .ok (.iload 4, 2) := by decide +kernel
theorem dX12_safe_153 : decode cX12_safe 153 = .ok (.bipush 10, 2) := by decide +kernel
theorem dX12_safe_155 : decode cX12_safe 155 = .ok (.idiv, 1) := by decide +kernel
theorem dX12_safe_156 : decode cX12_safe 156 = .ok (.goto 8, 3) := by decide +kernel
theorem dX12_safe_159 : decode cX12_safe 159 = .ok (.iload 5, 2) := by decide +kernel
theorem dX12_safe_161 : decode cX12_safe 161 = .ok (.bipush 10, 2) := by decide +kernel
theorem dX12_safe_163 : decode cX12_safe 163 = .ok (.idiv, 1) := by decide +kernel
theorem dX12_safe_164 : decode cX12_safe 164 = .ok (.ireturn, 1) := by decide +kernel
theorem dX12_withinOf_0 : decode cX12_withinOf 0 = .ok (.iconst 0, 1) := by decide +kernel
theorem dX12_withinOf_1 : decode cX12_withinOf 1 = .ok (.istore 7, 2) := by decide +kernel
theorem dX12_withinOf_3 : decode cX12_withinOf 3 = .ok (.iconst 0, 1) := by decide +kernel
theorem dX12_withinOf_4 : decode cX12_withinOf 4 = .ok (.istore 8, 2) := by decide +kernel
theorem dX12_withinOf_6 : decode cX12_withinOf 6 = .ok (.iload 8, 2) := by decide +kernel
theorem dX12_withinOf_8 : decode cX12_withinOf 8 = .ok (.iload 5, 2) := by decide +kernel
theorem dX12_withinOf_10 : decode cX12_withinOf 10 = .ok (.if_icmp .ge 40, 3) := by decide +kernel
theorem dX12_withinOf_13 : decode cX12_withinOf 13 = .ok (.aload_n 0, 1) := by decide +kernel
theorem dX12_withinOf_14 : decode cX12_withinOf 14 = .ok (.iload_n 1, 1) := by decide +kernel
theorem dX12_withinOf_15 : decode cX12_withinOf 15 = .ok (.iload_n 2, 1) := by decide +kernel
theorem dX12_withinOf_16 : decode cX12_withinOf 16 = .ok (.iload_n 3, 1) := by decide +kernel
theorem dX12_withinOf_17 : decode cX12_withinOf 17 = .ok (.iload 6, 2) := by decide +kernel
theorem dX12_withinOf_19 : decode cX12_withinOf 19 = .ok (.iload 8, 2) := by decide +kernel
theorem dX12_withinOf_21 : decode cX12_withinOf 21 = .ok (.iadd, 1) := by decide +kernel
theorem dX12_withinOf_22 : decode cX12_withinOf 22 = .ok (.invokevirtual 267, 3) := by decide +kernel
theorem dX12_withinOf_25 : decode cX12_withinOf 25 = .ok (.iload 7, 2) := by decide +kernel
theorem dX12_withinOf_27 : decode cX12_withinOf 27 = .ok (.aload_n 0, 1) := by decide +kernel
theorem dX12_withinOf_28 : decode cX12_withinOf 28 = .ok (.invokevirtual 262, 3) := by decide +kernel
theorem dX12_withinOf_31 : decode cX12_withinOf 31 = .ok (.iload 4, 2) := by decide +kernel
theorem dX12_withinOf_33 : decode cX12_withinOf 33 = .ok (.if_icmp .gt 7, 3) := by decide +kernel
theorem dX12_withinOf_36 : decode cX12_withinOf 36 = .ok (.iconst 1, 1) := by decide +kernel
theorem dX12_withinOf_37 : decode cX12_withinOf 37 = .ok (.goto 4, 3) := by decide +kernel
theorem dX12_withinOf_40 : decode cX12_withinOf 40 = .ok (.iconst 0, 1) := by decide +kernel
theorem dX12_withinOf_41 : decode cX12_withinOf 41 = .ok (.iadd, 1) := by decide +kernel
theorem dX12_withinOf_42 : decode cX12_withinOf 42 = .ok (.istore 7, 2) := by decide +kernel
theorem dX12_withinOf_44 : decode cX12_withinOf 44 = .ok (.iinc 8 1, 3) := by decide +kernel
theorem dX12_withinOf_47 : decode cX12_withinOf 47 = .ok (.goto (-41), 3) := by decide +kernel
theorem dX12_withinOf_50 : decode cX12_withinOf 50 = .ok (.iload 7, 2) := by decide +kernel
theorem dX12_withinOf_52 : decode cX12_withinOf 52 = .ok (.ireturn, 1) := by decide +kernel
theorem dX12_isWithin_0 : decode cX12_isWithin 0 = .ok (.aload_n 0, 1) := by decide +kernel
theorem dX12_isWithin_1 : decode cX12_isWithin 1 = .ok (.iload_n 1, 1) := by decide +kernel
theorem dX12_isWithin_2 : decode cX12_isWithin 2 = .ok (.invokevirtual 149, 3) := by decide +kernel
theorem dX12_isWithin_5 : decode cX12_isWithin 5 = .ok (.ifCond .eq 47, 3) := by decide +kernel
theorem dX12_isWithin_8 : decode cX12_isWithin 8 = .ok (.iload_n 2, 1) := by decide +kernel
theorem dX12_isWithin_9 : decode cX12_isWithin 9 = .ok (.invokestatic 184, 3) := by decide +kernel
theorem dX12_isWithin_12 : decode cX12_isWithin 12 = .ok (.ifCond .eq 40, 3) := by decide +kernel
theorem dX12_isWithin_15 : decode cX12_isWithin 15 = .ok (.iload_n 3, 1) := by decide +kernel
theorem dX12_isWithin_16 : decode cX12_isWithin 16 = .ok (.invokestatic 184, 3) := by decide +kernel
theorem dX12_isWithin_19 : decode cX12_isWithin 19 = .ok (.ifCond .eq 33, 3) := by decide +kernel
theorem dX12_isWithin_22 : decode cX12_isWithin 22 = .ok (.iload 4, 2) := by decide +kernel
theorem dX12_isWithin_24 : decode cX12_isWithin 24 = .ok (.i2l, 1) := by decide +kernel
theorem dX12_isWithin_25 : decode cX12_isWithin 25 = .ok (.lconst 0, 1) := by decide +kernel
theorem dX12_isWithin_26 : decode cX12_isWithin 26 = .ok (.ldc2_w 283, 3) := by decide +kernel
theorem dX12_isWithin_29 : decode cX12_isWithin 29 = .ok (.invokestatic 56, 3) := by decide +kernel
theorem dX12_isWithin_32 : decode cX12_isWithin 32 = .ok (.ifCond .eq 20, 3) := by decide +kernel
theorem dX12_isWithin_35 : decode cX12_isWithin 35 = .ok (.iload 5, 2) := by decide +kernel
theorem dX12_isWithin_37 : decode cX12_isWithin 37 = .ok (.i2l, 1) := by decide +kernel
theorem dX12_isWithin_38 : decode cX12_isWithin 38 = .ok (.lconst 1, 1) := by decide +kernel
theorem dX12_isWithin_39 : decode cX12_isWithin 39 = .ok (.ldc2_w 281, 3) := by decide +kernel
theorem dX12_isWithin_42 : decode cX12_isWithin 42 = .ok (.invokestatic 56, 3) := by decide +kernel
theorem dX12_isWithin_45 : decode cX12_isWithin 45 = .ok (.ifCond .eq 7, 3) := by decide +kernel
theorem dX12_isWithin_48 : decode cX12_isWithin 48 = .ok (.iconst 1, 1) := by decide +kernel
theorem dX12_isWithin_49 : decode cX12_isWithin 49 = .ok (.goto 4, 3) := by decide +kernel
theorem dX12_isWithin_52 : decode cX12_isWithin 52 = .ok (.iconst 0, 1) := by decide +kernel
theorem dX12_isWithin_53 : decode cX12_isWithin 53 = .ok (.ireturn, 1) := by decide +kernel
theorem dX12_within_0 : decode cX12_within 0 = .ok (.aload_n 0, 1) := by decide +kernel
theorem dX12_within_1 : decode cX12_within 1 = .ok (.iload_n 1, 1) := by decide +kernel
theorem dX12_within_2 : decode cX12_within 2 = .ok (.iload_n 2, 1) := by decide +kernel
theorem dX12_within_3 : decode cX12_within 3 = .ok (.iload_n 3, 1) := by decide +kernel
theorem dX12_within_4 : decode cX12_within 4 = .ok (.iload 4, 2) := by decide +kernel
theorem dX12_within_6 : decode cX12_within 6 = .ok (.iload 5, 2) := by decide +kernel
theorem dX12_within_8 : decode cX12_within 8 = .ok (.invokevirtual 302, 3) := by decide +kernel
theorem dX12_within_11 : decode cX12_within 11 = .ok (.ifCond .eq 19, 3) := by decide +kernel
theorem dX12_within_14 : decode cX12_within 14 = .ok (.aload_n 0, 1) := by decide +kernel
theorem dX12_within_15 : decode cX12_within 15 = .ok (.iload_n 1, 1) := by decide +kernel
theorem dX12_within_16 : decode cX12_within 16 = .ok (.iload_n 2, 1) := by decide +kernel
theorem dX12_within_17 : decode cX12_within 17 = .ok (.iload_n 3, 1) := by decide +kernel
theorem dX12_within_18 : decode cX12_within 18 = .ok (.iload 4, 2) := by decide +kernel
theorem dX12_within_20 : decode cX12_within 20 = .ok (.iload 5, 2) := by decide +kernel
theorem dX12_within_22 : decode cX12_within 22 = .ok (.iload 6, 2) := by decide +kernel
theorem dX12_within_24 : decode cX12_within 24 = .ok (.invokevirtual 306, 3) := by decide +kernel
theorem dX12_within_27 : decode cX12_within 27 = .ok (.goto 4, 3) := by decide +kernel
theorem dX12_within_30 : decode cX12_within 30 = .ok (.iconst (-1), 1) := by decide +kernel
theorem dX12_within_31 : decode cX12_within 31 = .ok (.ireturn, 1) := by decide +kernel
theorem dX12_stop_0 : decode cX12_stop 0 = .ok (.aload_n 0, 1) := by decide +kernel
theorem dX12_stop_1 : decode cX12_stop 1 = .ok (.iload_n 1, 1) := by decide +kernel
theorem dX12_stop_2 : decode cX12_stop 2 = .ok (.iload_n 2, 1) := by decide +kernel
theorem dX12_stop_3 : decode cX12_stop 3 = .ok (.iload_n 3, 1) := by decide +kernel
theorem dX12_stop_4 : decode cX12_stop 4 = .ok (.iload 4, 2) := by decide +kernel
theorem dX12_stop_6 : decode cX12_stop 6 = .ok (.iload 5, 2) := by decide +kernel
theorem dX12_stop_8 : decode cX12_stop 8 = .ok (.invokevirtual 302, 3) := by decide +kernel
theorem dX12_stop_11 : decode cX12_stop 11 = .ok (.ifCond .ne 5, 3) := by decide +kernel
theorem dX12_stop_14 : decode cX12_stop 14 = .ok (.iconst (-1), 1) := by decide +kernel
theorem dX12_stop_15 : decode cX12_stop 15 = .ok (.ireturn, 1) := by decide +kernel
theorem dX12_stop_16 : decode cX12_stop 16 = .ok (.aload_n 0, 1) := by decide +kernel
theorem dX12_stop_17 : decode cX12_stop 17 = .ok (.getfield 9, 3) := by decide +kernel
theorem dX12_stop_20 : decode cX12_stop 20 = .ok (.iconst 0, 1) := by decide +kernel
theorem dX12_stop_21 : decode cX12_stop 21 = .ok (.iaload, 1) := by decide +kernel
theorem dX12_stop_22 : decode cX12_stop 22 = .ok (.istore 7, 2) := by decide +kernel
theorem dX12_stop_24 : decode cX12_stop 24 = .ok (.bipush (-4), 2) := by decide +kernel
theorem dX12_stop_26 : decode cX12_stop 26 = .ok (.istore 8, 2) := by decide +kernel
theorem dX12_stop_28 : decode cX12_stop 28 = .ok (.iconst 0, 1) := by decide +kernel
theorem dX12_stop_29 : decode cX12_stop 29 = .ok (.istore 9, 2) := by decide +kernel
theorem dX12_stop_31 : decode cX12_stop 31 = .ok (.iload 9, 2) := by decide +kernel
theorem dX12_stop_33 : decode cX12_stop 33 = .ok (.bipush 30, 2) := by decide +kernel
theorem dX12_stop_35 : decode cX12_stop 35 = .ok (.if_icmp .gt 51, 3) := by decide +kernel
theorem dX12_stop_38 : decode cX12_stop 38 = .ok (.iload 8, 2) := by decide +kernel
theorem dX12_stop_40 : decode cX12_stop 40 = .ok (.ifCond .ge 46, 3) := by decide +kernel
theorem dX12_stop_43 : decode cX12_stop 43 = .ok (.aload_n 0, 1) := by decide +kernel
theorem dX12_stop_44 : decode cX12_stop 44 = .ok (.getfield 9, 3) := by decide +kernel
theorem dX12_stop_47 : decode cX12_stop 47 = .ok (.iconst 0, 1) := by decide +kernel
theorem dX12_stop_48 : decode cX12_stop 48 = .ok (.iload 9, 2) := by decide +kernel
theorem dX12_stop_50 : decode cX12_stop 50 = .ok (.iastore, 1) := by decide +kernel
theorem dX12_stop_51 : decode cX12_stop 51 = .ok (.iconst 2, 1) := by decide +kernel
theorem dX12_stop_52 : decode cX12_stop 52 = .ok (.aload_n 0, 1) := by decide +kernel
theorem dX12_stop_53 : decode cX12_stop 53 = .ok (.iload_n 1, 1) := by decide +kernel
theorem dX12_stop_54 : decode cX12_stop 54 = .ok (.iload_n 2, 1) := by decide +kernel
theorem dX12_stop_55 : decode cX12_stop 55 = .ok (.iload_n 3, 1) := by decide +kernel
theorem dX12_stop_56 : decode cX12_stop 56 = .ok (.iload 4, 2) := by decide +kernel
theorem dX12_stop_58 : decode cX12_stop 58 = .ok (.iload 5, 2) := by decide +kernel
theorem dX12_stop_60 : decode cX12_stop 60 = .ok (.iload 6, 2) := by decide +kernel
theorem dX12_stop_62 : decode cX12_stop 62 = .ok (.invokevirtual 306, 3) := by decide +kernel
theorem dX12_stop_65 : decode cX12_stop 65 = .ok (.imul, 1) := by decide +kernel
theorem dX12_stop_66 : decode cX12_stop 66 = .ok (.iload 5, 2) := by decide +kernel
theorem dX12_stop_68 : decode cX12_stop 68 = .ok (.if_icmp .ge 8, 3) := by decide +kernel
theorem dX12_stop_71 : decode cX12_stop 71 = .ok (.iload 9, 2) := by decide +kernel
theorem dX12_stop_73 : decode cX12_stop 73 = .ok (.goto 5, 3) := by decide +kernel
theorem dX12_stop_76 : decode cX12_stop 76 = .ok (.bipush (-4), 2) := by decide +kernel
theorem dX12_stop_78 : decode cX12_stop 78 = .ok (.istore 8, 2) := by decide +kernel
theorem dX12_stop_80 : decode cX12_stop 80 = .ok (.iinc 9 1, 3) := by decide +kernel
theorem dX12_stop_83 : decode cX12_stop 83 = .ok (.goto (-52), 3) := by decide +kernel
theorem dX12_stop_86 : decode cX12_stop 86 = .ok (.aload_n 0, 1) := by decide +kernel
theorem dX12_stop_87 : decode cX12_stop 87 = .ok (.getfield 9, 3) := by decide +kernel
theorem dX12_stop_90 : decode cX12_stop 90 = .ok (.iconst 0, 1) := by decide +kernel
theorem dX12_stop_91 : decode cX12_stop 91 = .ok (.iload 7, 2) := by decide +kernel
theorem dX12_stop_93 : decode cX12_stop 93 = .ok (.iastore, 1) := by decide +kernel
theorem dX12_stop_94 : decode cX12_stop 94 = .ok (.iload 8, 2) := by decide +kernel
theorem dX12_stop_96 : decode cX12_stop 96 = .ok (.ireturn, 1) := by decide +kernel
theorem dX12_knew_0 : decode cX12_knew 0 = .ok (.aload_n 0, 1) := by decide +kernel
theorem dX12_knew_1 : decode cX12_knew 1 = .ok (.iload_n 1, 1) := by decide +kernel
theorem dX12_knew_2 : decode cX12_knew 2 = .ok (.invokevirtual 149, 3) := by decide +kernel
theorem dX12_knew_5 : decode cX12_knew 5 = .ok (.ifCond .eq 31, 3) := by decide +kernel
theorem dX12_knew_8 : decode cX12_knew 8 = .ok (.aload_n 0, 1) := by decide +kernel
theorem dX12_knew_9 : decode cX12_knew 9 = .ok (.iload_n 2, 1) := by decide +kernel
theorem dX12_knew_10 : decode cX12_knew 10 = .ok (.invokevirtual 149, 3) := by decide +kernel
theorem dX12_knew_13 : decode cX12_knew 13 = .ok (.ifCond .eq 23, 3) := by decide +kernel
theorem dX12_knew_16 : decode cX12_knew 16 = .ok (.iload_n 1, 1) := by decide +kernel
theorem dX12_knew_17 : decode cX12_knew 17 = .ok (.iload_n 2, 1) := by decide +kernel
theorem dX12_knew_18 : decode cX12_knew 18 = .ok (.if_icmp .eq 18, 3) := by decide +kernel
theorem dX12_knew_21 : decode cX12_knew 21 = .ok (.iload_n 3, 1) := by decide +kernel
theorem dX12_knew_22 : decode cX12_knew 22 = .ok (.invokestatic 184, 3) := by decide +kernel
theorem dX12_knew_25 : decode cX12_knew 25 = .ok (.ifCond .eq 11, 3) := by decide +kernel
theorem dX12_knew_28 : decode cX12_knew 28 = .ok (.iload 4, 2) := by decide +kernel
theorem dX12_knew_30 : decode cX12_knew 30 = .ok (.invokestatic 184, 3) := by decide +kernel
theorem dX12_knew_33 : decode cX12_knew 33 = .ok (.ifCond .ne 6, 3) := by decide +kernel
theorem dX12_knew_36 : decode cX12_knew 36 = .ok (.ldc 139, 2) := by decide +kernel
theorem dX12_knew_38 : decode cX12_knew 38 = .ok (.ireturn, 1) := by decide +kernel
theorem dX12_knew_39 : decode cX12_knew 39 = .ok (.aload_n 0, 1) := by decide +kernel
theorem dX12_knew_40 : decode cX12_knew 40 = .ok (.iload_n 2, 1) := by decide +kernel
theorem dX12_knew_41 : decode cX12_knew 41 = .ok (.iload_n 3, 1) := by decide +kernel
theorem dX12_knew_42 : decode cX12_knew 42 = .ok (.iload 4, 2) := by decide +kernel
theorem dX12_knew_44 : decode cX12_knew 44 = .ok (.iconst 1, 1) := by decide +kernel
theorem dX12_knew_45 : decode cX12_knew 45 = .ok (.invokevirtual 267, 3) := by decide +kernel
theorem dX12_knew_48 : decode cX12_knew 48 = .ok (.iload_n 3, 1) := by decide +kernel
theorem dX12_knew_49 : decode cX12_knew 49 = .ok (.aload_n 0, 1) := by decide +kernel
theorem dX12_knew_50 : decode cX12_knew 50 = .ok (.getfield 206, 3) := by decide +kernel
theorem dX12_knew_53 : decode cX12_knew 53 = .ok (.isub, 1) := by decide +kernel
theorem dX12_knew_54 : decode cX12_knew 54 = .ok (.invokestatic 230, 3) := by decide +kernel
theorem dX12_knew_57 : decode cX12_knew 57 = .ok (.istore 5, 2) := by decide +kernel
theorem dX12_knew_59 : decode cX12_knew 59 = .ok (.iload 4, 2) := by decide +kernel
theorem dX12_knew_61 : decode cX12_knew 61 = .ok (.aload_n 0, 1) := by decide +kernel
theorem dX12_knew_62 : decode cX12_knew 62 = .ok (.getfield 209, 3) := by decide +kernel
theorem dX12_knew_65 : decode cX12_knew 65 = .ok (.isub, 1) := by decide +kernel
theorem dX12_knew_66 : decode cX12_knew 66 = .ok (.invokestatic 230, 3) := by decide +kernel
theorem dX12_knew_69 : decode cX12_knew 69 = .ok (.istore 6, 2) := by decide +kernel
theorem dX12_knew_71 : decode cX12_knew 71 = .ok (.aload_n 0, 1) := by decide +kernel
theorem dX12_knew_72 : decode cX12_knew 72 = .ok (.iload_n 1, 1) := by decide +kernel
theorem dX12_knew_73 : decode cX12_knew 73 = .ok (.iload_n 3, 1) := by decide +kernel
theorem dX12_knew_74 : decode cX12_knew 74 = .ok (.iload 4, 2) := by decide +kernel
theorem dX12_knew_76 : decode cX12_knew 76 = .ok (.iconst 1, 1) := by decide +kernel
theorem dX12_knew_77 : decode cX12_knew 77 = .ok (.invokevirtual 267, 3) := by decide +kernel
theorem dX12_knew_80 : decode cX12_knew 80 = .ok (.aload_n 0, 1) := by decide +kernel
theorem dX12_knew_81 : decode cX12_knew 81 = .ok (.invokevirtual 262, 3) := by decide +kernel
theorem dX12_knew_84 : decode cX12_knew 84 = .ok (.istore 7, 2) := by decide +kernel
theorem dX12_knew_86 : decode cX12_knew 86 = .ok (.aload_n 0, 1) := by decide +kernel
theorem dX12_knew_87 : decode cX12_knew 87 = .ok (.iload_n 1, 1) := by decide +kernel
theorem dX12_knew_88 : decode cX12_knew 88 = .ok (.iload 5, 2) := by decide +kernel
theorem dX12_knew_90 : decode cX12_knew 90 = .ok (.iload 6, 2) := by decide +kernel
theorem dX12_knew_92 : decode cX12_knew 92 = .ok (.iconst 1, 1) := by decide +kernel
theorem dX12_knew_93 : decode cX12_knew 93 = .ok (.invokevirtual 267, 3) := by decide +kernel
theorem dX12_knew_96 : decode cX12_knew 96 = .ok (.iload 7, 2) := by decide +kernel
theorem dX12_knew_98 : decode cX12_knew 98 = .ok (.aload_n 0, 1) := by decide +kernel
theorem dX12_knew_99 : decode cX12_knew 99 = .ok (.invokevirtual 262, 3) := by decide +kernel
theorem dX12_knew_102 : decode cX12_knew 102 = .ok (.isub, 1) := by decide +kernel
theorem dX12_knew_103 : decode cX12_knew 103 = .ok (.ireturn, 1) := by decide +kernel
theorem dX12_two_0 : decode cX12_two 0 = .ok (.aload_n 0, 1) := by decide +kernel
theorem dX12_two_1 : decode cX12_two 1 = .ok (.iload_n 1, 1) := by decide +kernel
theorem dX12_two_2 : decode cX12_two 2 = .ok (.invokevirtual 149, 3) := by decide +kernel
theorem dX12_two_5 : decode cX12_two 5 = .ok (.ifCond .eq 44, 3) := by decide +kernel
theorem dX12_two_8 : decode cX12_two 8 = .ok (.aload_n 0, 1) := by decide +kernel
theorem dX12_two_9 : decode cX12_two 9 = .ok (.iload_n 2, 1) := by decide +kernel
theorem dX12_two_10 : decode cX12_two 10 = .ok (.invokevirtual 149, 3) := by decide +kernel
theorem dX12_two_13 : decode cX12_two 13 = .ok (.ifCond .eq 36, 3) := by decide +kernel
theorem dX12_two_16 : decode cX12_two 16 = .ok (.iload_n 1, 1) := by decide +kernel
theorem dX12_two_17 : decode cX12_two 17 = .ok (.iload_n 2, 1) := by decide +kernel
theorem dX12_two_18 : decode cX12_two 18 = .ok (.if_icmp .eq 31, 3) := by decide +kernel
theorem dX12_two_21 : decode cX12_two 21 = .ok (.iload_n 3, 1) := by decide +kernel
theorem dX12_two_22 : decode cX12_two 22 = .ok (.i2l, 1) := by decide +kernel
theorem dX12_two_23 : decode cX12_two 23 = .ok (.lconst 1, 1) := by decide +kernel
theorem dX12_two_24 : decode cX12_two 24 = .ok (.ldc2_w 281, 3) := by decide +kernel
theorem dX12_two_27 : decode cX12_two 27 = .ok (.invokestatic 56, 3) := by decide +kernel
theorem dX12_two_30 : decode cX12_two 30 = .ok (.ifCond .eq 19, 3) := by decide +kernel
theorem dX12_two_33 : decode cX12_two 33 = .ok (.iload 4, 2) := by decide +kernel
theorem dX12_two_35 : decode cX12_two 35 = .ok (.invokestatic 184, 3) := by decide +kernel
theorem dX12_two_38 : decode cX12_two 38 = .ok (.ifCond .eq 11, 3) := by decide +kernel
theorem dX12_two_41 : decode cX12_two 41 = .ok (.iload 5, 2) := by decide +kernel
theorem dX12_two_43 : decode cX12_two 43 = .ok (.invokestatic 184, 3) := by decide +kernel
theorem dX12_two_46 : decode cX12_two 46 = .ok (.ifCond .ne 5, 3) := by decide +kernel
theorem dX12_two_49 : decode cX12_two 49 = .ok (.iconst (-1), 1) := by decide +kernel
theorem dX12_two_50 : decode cX12_two 50 = .ok (.ireturn, 1) := by decide +kernel
theorem dX12_two_51 : decode cX12_two 51 = .ok (.iload 4, 2) := by decide +kernel
theorem dX12_two_53 : decode cX12_two 53 = .ok (.aload_n 0, 1) := by decide +kernel
theorem dX12_two_54 : decode cX12_two 54 = .ok (.getfield 9, 3) := by decide +kernel
theorem dX12_two_57 : decode cX12_two 57 = .ok (.iconst 1, 1) := by decide +kernel
theorem dX12_two_58 : decode cX12_two 58 = .ok (.iaload, 1) := by decide +kernel
theorem dX12_two_59 : decode cX12_two 59 = .ok (.iload_n 3, 1) := by decide +kernel
theorem dX12_two_60 : decode cX12_two 60 = .ok (.imul, 1) := by decide +kernel
theorem dX12_two_61 : decode cX12_two 61 = .ok (.iadd, 1) := by decide +kernel
theorem dX12_two_62 : decode cX12_two 62 = .ok (.invokestatic 230, 3) := by decide +kernel
theorem dX12_two_65 : decode cX12_two 65 = .ok (.istore 6, 2) := by decide +kernel
theorem dX12_two_67 : decode cX12_two 67 = .ok (.bipush (-4), 2) := by decide +kernel
theorem dX12_two_69 : decode cX12_two 69 = .ok (.istore 7, 2) := by decide +kernel
theorem dX12_two_71 : decode cX12_two 71 = .ok (.iconst 0, 1) := by decide +kernel
theorem dX12_two_72 : decode cX12_two 72 = .ok (.istore 8, 2) := by decide +kernel
theorem dX12_two_74 : decode cX12_two 74 = .ok (.iload 8, 2) := by decide +kernel
theorem dX12_two_76 : decode cX12_two 76 = .ok (.sipush 400, 3) := by decide +kernel
theorem dX12_two_79 : decode cX12_two 79 = .ok (.if_icmp .gt 178, 3) := by decide +kernel
theorem dX12_two_82 : decode cX12_two 82 = .ok (.aload_n 0, 1) := by decide +kernel
theorem dX12_two_83 : decode cX12_two 83 = .ok (.iload_n 1, 1) := by decide +kernel
theorem dX12_two_84 : decode cX12_two 84 = .ok (.iload 4, 2) := by decide +kernel
theorem dX12_two_86 : decode cX12_two 86 = .ok (.iload 5, 2) := by decide +kernel
theorem dX12_two_88 : decode cX12_two 88 = .ok (.iconst 1, 1) := by decide +kernel
theorem dX12_two_89 : decode cX12_two 89 = .ok (.invokevirtual 255, 3) := by decide +kernel
theorem dX12_two_92 : decode cX12_two 92 = .ok (.iconst 0, 1) := by decide +kernel
theorem dX12_two_93 : decode cX12_two 93 = .ok (.istore 9, 2) := by decide +kernel
theorem dX12_two_95 : decode cX12_two 95 = .ok (.iload 9, 2) := by decide +kernel
theorem dX12_two_97 : decode cX12_two 97 = .ok (.iload_n 3, 1) := by decide +kernel
theorem dX12_two_98 : decode cX12_two 98 = .ok (.iload 8, 2) := by decide +kernel
theorem dX12_two_100 : decode cX12_two 100 = .ok (.iadd, 1) := by decide +kernel
theorem dX12_two_101 : decode cX12_two 101 = .ok (.if_icmp .ge 20, 3) := by decide +kernel
theorem dX12_two_104 : decode cX12_two 104 = .ok (.aload_n 0, 1) := by decide +kernel
theorem dX12_two_105 : decode cX12_two 105 = .ok (.invokevirtual 249, 3) := by decide +kernel
theorem dX12_two_108 : decode cX12_two 108 = .ok (.ifCond .ne 13, 3) := by decide +kernel
theorem dX12_two_111 : decode cX12_two 111 = .ok (.aload_n 0, 1) := by decide +kernel
theorem dX12_two_112 : decode cX12_two 112 = .ok (.invokevirtual 252, 3) := by decide +kernel
theorem dX12_two_115 : decode cX12_two 115 = .ok (.iinc 9 1, 3) := by decide +kernel
theorem dX12_two_118 : decode cX12_two 118 = .ok (.goto (-23), 3) := by decide +kernel
theorem dX12_two_121 : decode cX12_two 121 = .ok (.aload_n 0, 1) := by decide +kernel
theorem dX12_two_122 : decode cX12_two 122 = .ok (.invokevirtual 249, 3) := by decide +kernel
theorem dX12_two_125 : decode cX12_two 125 = .ok (.ifCond .eq 6, 3) := by decide +kernel
theorem dX12_two_128 : decode cX12_two 128 = .ok (.iload 7, 2) := by decide +kernel
theorem dX12_two_130 : decode cX12_two 130 = .ok (.ireturn, 1) := by decide +kernel
theorem dX12_two_131 : decode cX12_two 131 = .ok (.aload_n 0, 1) := by decide +kernel
theorem dX12_two_132 : decode cX12_two 132 = .ok (.getfield 206, 3) := by decide +kernel
theorem dX12_two_135 : decode cX12_two 135 = .ok (.istore 9, 2) := by decide +kernel
theorem dX12_two_137 : decode cX12_two 137 = .ok (.aload_n 0, 1) := by decide +kernel
theorem dX12_two_138 : decode cX12_two 138 = .ok (.getfield 209, 3) := by decide +kernel
theorem dX12_two_141 : decode cX12_two 141 = .ok (.istore 10, 2) := by decide +kernel
theorem dX12_two_143 : decode cX12_two 143 = .ok (.aload_n 0, 1) := by decide +kernel
theorem dX12_two_144 : decode cX12_two 144 = .ok (.getfield 212, 3) := by decide +kernel
theorem dX12_two_147 : decode cX12_two 147 = .ok (.istore 11, 2) := by decide +kernel
theorem dX12_two_149 : decode cX12_two 149 = .ok (.aload_n 0, 1) := by decide +kernel
theorem dX12_two_150 : decode cX12_two 150 = .ok (.iload_n 2, 1) := by decide +kernel
theorem dX12_two_151 : decode cX12_two 151 = .ok (.iload 6, 2) := by decide +kernel
theorem dX12_two_153 : decode cX12_two 153 = .ok (.iload 5, 2) := by decide +kernel
theorem dX12_two_155 : decode cX12_two 155 = .ok (.iconst 1, 1) := by decide +kernel
theorem dX12_two_156 : decode cX12_two 156 = .ok (.invokevirtual 255, 3) := by decide +kernel
theorem dX12_two_159 : decode cX12_two 159 = .ok (.iconst 0, 1) := by decide +kernel
theorem dX12_two_160 : decode cX12_two 160 = .ok (.istore 12, 2) := by decide +kernel
theorem dX12_two_162 : decode cX12_two 162 = .ok (.iload 12, 2) := by decide +kernel
theorem dX12_two_164 : decode cX12_two 164 = .ok (.iload 8, 2) := by decide +kernel
theorem dX12_two_166 : decode cX12_two 166 = .ok (.if_icmp .ge 20, 3) := by decide +kernel
theorem dX12_two_169 : decode cX12_two 169 = .ok (.aload_n 0, 1) := by decide +kernel
theorem dX12_two_170 : decode cX12_two 170 = .ok (.invokevirtual 249, 3) := by decide +kernel
theorem dX12_two_173 : decode cX12_two 173 = .ok (.ifCond .ne 13, 3) := by decide +kernel
theorem dX12_two_176 : decode cX12_two 176 = .ok (.aload_n 0, 1) := by decide +kernel
theorem dX12_two_177 : decode cX12_two 177 = .ok (.invokevirtual 252, 3) := by decide +kernel
theorem dX12_two_180 : decode cX12_two 180 = .ok (.iinc 12 1, 3) := by decide +kernel
theorem dX12_two_183 : decode cX12_two 183 = .ok (.goto (-21), 3) := by decide +kernel
theorem dX12_two_186 : decode cX12_two 186 = .ok (.aload_n 0, 1) := by decide +kernel
theorem dX12_two_187 : decode cX12_two 187 = .ok (.invokevirtual 249, 3) := by decide +kernel
theorem dX12_two_190 : decode cX12_two 190 = .ok (.ifCond .eq 6, 3) := by decide +kernel
theorem dX12_two_193 : decode cX12_two 193 = .ok (.iload 7, 2) := by decide +kernel
theorem dX12_two_195 : decode cX12_two 195 = .ok (.ireturn, 1) := by decide +kernel
theorem dX12_two_196 : decode cX12_two 196 = .ok (.iload 9, 2) := by decide +kernel
theorem dX12_two_198 : decode cX12_two 198 = .ok (.aload_n 0, 1) := by decide +kernel
theorem dX12_two_199 : decode cX12_two 199 = .ok (.getfield 206, 3) := by decide +kernel
theorem dX12_two_202 : decode cX12_two 202 = .ok (.isub, 1) := by decide +kernel
theorem dX12_two_203 : decode cX12_two 203 = .ok (.invokestatic 171, 3) := by decide +kernel
theorem dX12_two_206 : decode cX12_two 206 = .ok (.iload 10, 2) := by decide +kernel
theorem dX12_two_208 : decode cX12_two 208 = .ok (.aload_n 0, 1) := by decide +kernel
theorem dX12_two_209 : decode cX12_two 209 = .ok (.getfield 209, 3) := by decide +kernel
theorem dX12_two_212 : decode cX12_two 212 = .ok (.isub, 1) := by decide +kernel
theorem dX12_two_213 : decode cX12_two 213 = .ok (.invokestatic 171, 3) := by decide +kernel
theorem dX12_two_216 : decode cX12_two 216 = .ok (.iadd, 1) := by decide +kernel
theorem dX12_two_217 : decode cX12_two 217 = .ok (.iload 11, 2) := by decide +kernel
theorem dX12_two_219 : decode cX12_two 219 = .ok (.aload_n 0, 1) := by decide +kernel
theorem dX12_two_220 : decode cX12_two 220 = .ok (.getfield 212, 3) := by decide +kernel
theorem dX12_two_223 : decode cX12_two 223 = .ok (.isub, 1) := by decide +kernel
theorem dX12_two_224 : decode cX12_two 224 = .ok (.invokestatic 171, 3) := by decide +kernel
theorem dX12_two_227 : decode cX12_two 227 = .ok (.iadd, 1) := by decide +kernel
theorem dX12_two_228 : decode cX12_two 228 = .ok (.istore 12, 2) := by decide +kernel
theorem dX12_two_230 : decode cX12_two 230 = .ok (.iload 7, 2) := by decide +kernel
theorem dX12_two_232 : decode cX12_two 232 = .ok (.ifCond .lt 10, 3) := by decide +kernel
theorem dX12_two_235 : decode cX12_two 235 = .ok (.iload 12, 2) := by decide +kernel
theorem dX12_two_237 : decode cX12_two 237 = .ok (.iload 7, 2) := by decide +kernel
theorem dX12_two_239 : decode cX12_two 239 = .ok (.if_icmp .ge 8, 3) := by decide +kernel
theorem dX12_two_242 : decode cX12_two 242 = .ok (.iload 12, 2) := by decide +kernel
theorem dX12_two_244 : decode cX12_two 244 = .ok (.goto 5, 3) := by decide +kernel
theorem dX12_two_247 : decode cX12_two 247 = .ok (.iload 7, 2) := by decide +kernel
theorem dX12_two_249 : decode cX12_two 249 = .ok (.istore 7, 2) := by decide +kernel
theorem dX12_two_251 : decode cX12_two 251 = .ok (.iinc 8 1, 3) := by decide +kernel
theorem dX12_two_254 : decode cX12_two 254 = .ok (.goto (-180), 3) := by decide +kernel
theorem dX12_two_257 : decode cX12_two 257 = .ok (.iload 7, 2) := by decide +kernel
theorem dX12_two_259 : decode cX12_two 259 = .ok (.ireturn, 1) := by decide +kernel
theorem dX12_habits_0 : decode cX12_habits 0 = .ok (.iload_n 1, 1) := by decide +kernel
theorem dX12_habits_1 : decode cX12_habits 1 = .ok (.i2l, 1) := by decide +kernel
theorem dX12_habits_2 : decode cX12_habits 2 = .ok (.lconst 0, 1) := by decide +kernel
theorem dX12_habits_3 : decode cX12_habits 3 = .ok (.ldc2_w 310, 3) := by decide +kernel
theorem dX12_habits_6 : decode cX12_habits 6 = .ok (.invokestatic 56, 3) := by decide +kernel
theorem dX12_habits_9 : decode cX12_habits 9 = .ok (.ifCond .eq 59, 3) := by decide +kernel
theorem dX12_habits_12 : decode cX12_habits 12 = .ok (.iload_n 1, 1) := by decide +kernel
theorem dX12_habits_13 : decode cX12_habits 13 = .ok (.bipush 100, 2) := by decide +kernel
theorem dX12_habits_15 : decode cX12_habits 15 = .ok (.irem, 1) := by decide +kernel
theorem dX12_habits_16 : decode cX12_habits 16 = .ok (.bipush 20, 2) := by decide +kernel
theorem dX12_habits_18 : decode cX12_habits 18 = .ok (.if_icmp .gt 50, 3) := by decide +kernel
theorem dX12_habits_21 : decode cX12_habits 21 = .ok (.iload_n 2, 1) := by decide +kernel
theorem dX12_habits_22 : decode cX12_habits 22 = .ok (.invokestatic 184, 3) := by decide +kernel
theorem dX12_habits_25 : decode cX12_habits 25 = .ok (.ifCond .eq 43, 3) := by decide +kernel
theorem dX12_habits_28 : decode cX12_habits 28 = .ok (.iload_n 3, 1) := by decide +kernel
theorem dX12_habits_29 : decode cX12_habits 29 = .ok (.invokestatic 184, 3) := by decide +kernel
theorem dX12_habits_32 : decode cX12_habits 32 = .ok (.ifCond .eq 36, 3) := by decide +kernel
theorem dX12_habits_35 : decode cX12_habits 35 = .ok (.iload 4, 2) := by decide +kernel
theorem dX12_habits_37 : decode cX12_habits 37 = .ok (.invokestatic 184, 3) := by decide +kernel
theorem dX12_habits_40 : decode cX12_habits 40 = .ok (.ifCond .eq 28, 3) := by decide +kernel
theorem dX12_habits_43 : decode cX12_habits 43 = .ok (.iload 5, 2) := by decide +kernel
theorem dX12_habits_45 : decode cX12_habits 45 = .ok (.invokestatic 184, 3) := by decide +kernel
theorem dX12_habits_48 : decode cX12_habits 48 = .ok (.ifCond .eq 20, 3) := by decide +kernel
theorem dX12_habits_51 : decode cX12_habits 51 = .ok (.iload 6, 2) := by decide +kernel
theorem dX12_habits_53 : decode cX12_habits 53 = .ok (.i2l, 1) := by decide +kernel
theorem dX12_habits_54 : decode cX12_habits 54 = .ok (.lconst 0, 1) := by decide +kernel
theorem dX12_habits_55 : decode cX12_habits 55 = .ok (.ldc2_w 312, 3) := by decide +kernel
theorem dX12_habits_58 : decode cX12_habits 58 = .ok (.invokestatic 56, 3) := by decide +kernel
theorem dX12_habits_61 : decode cX12_habits 61 = .ok (.ifCond .eq 7, 3) := by decide +kernel
theorem dX12_habits_64 : decode cX12_habits 64 = .ok (.iconst 1, 1) := by decide +kernel
theorem dX12_habits_65 : decode cX12_habits 65 = .ok (.goto 4, 3) := by decide +kernel
theorem dX12_habits_68 : decode cX12_habits 68 = .ok (.iconst 0, 1) := by decide +kernel
theorem dX12_habits_69 : decode cX12_habits 69 = .ok (.istore 7, 2) := by decide +kernel
theorem dX12_habits_71 : decode cX12_habits 71 = .ok (.iload 7, 2) := by decide +kernel
theorem dX12_habits_73 : decode cX12_habits 73 = .ok (.ifCond .ne 5, 3) := by decide +kernel
theorem dX12_habits_76 : decode cX12_habits 76 = .ok (.iconst (-1), 1) := by decide +kernel
theorem dX12_habits_77 : decode cX12_habits 77 = .ok (.ireturn, 1) := by decide +kernel
theorem dX12_habits_78 : decode cX12_habits 78 = .ok (.iconst 0, 1) := by decide +kernel
theorem dX12_habits_79 : decode cX12_habits 79 = .ok (.istore 8, 2) := by decide +kernel
theorem dX12_habits_81 : decode cX12_habits 81 = .ok (.iconst 0, 1) := by decide +kernel
theorem dX12_habits_82 : decode cX12_habits 82 = .ok (.istore 9, 2) := by decide +kernel
theorem dX12_habits_84 : decode cX12_habits 84 = .ok (.iload 9, 2) := by decide +kernel
theorem dX12_habits_86 : decode cX12_habits 86 = .ok (.bipush 8, 2) := by decide +kernel
theorem dX12_habits_88 : decode cX12_habits 88 = .ok (.if_icmp .ge 73, 3) := by decide +kernel
theorem dX12_habits_91 : decode cX12_habits 91 = .ok (.aload_n 0, 1) := by decide +kernel
theorem dX12_habits_92 : decode cX12_habits 92 = .ok (.iload 9, 2) := by decide +kernel
theorem dX12_habits_94 : decode cX12_habits 94 = .ok (.iload_n 1, 1) := by decide +kernel
theorem dX12_habits_95 : decode cX12_habits 95 = .ok (.bipush 100, 2) := by decide +kernel
theorem dX12_habits_97 : decode cX12_habits 97 = .ok (.idiv, 1) := by decide +kernel
theorem dX12_habits_98 : decode cX12_habits 98 = .ok (.iload_n 1, 1) := by decide +kernel
theorem dX12_habits_99 : decode cX12_habits 99 = .ok (.bipush 100, 2) := by decide +kernel
theorem dX12_habits_101 : decode cX12_habits 101 = .ok (.irem, 1) := by decide +kernel
theorem dX12_habits_102 : decode cX12_habits 102 = .ok (.iload_n 2, 1) := by decide +kernel
theorem dX12_habits_103 : decode cX12_habits 103 = .ok (.iload_n 3, 1) := by decide +kernel
theorem dX12_habits_104 : decode cX12_habits 104 = .ok (.iconst 1, 1) := by decide +kernel
theorem dX12_habits_105 : decode cX12_habits 105 = .ok (.invokevirtual 224, 3) := by decide +kernel
theorem dX12_habits_108 : decode cX12_habits 108 = .ok (.aload_n 0, 1) := by decide +kernel
theorem dX12_habits_109 : decode cX12_habits 109 = .ok (.invokevirtual 259, 3) := by decide +kernel
theorem dX12_habits_112 : decode cX12_habits 112 = .ok (.iload 8, 2) := by decide +kernel
theorem dX12_habits_114 : decode cX12_habits 114 = .ok (.aload_n 0, 1) := by decide +kernel
theorem dX12_habits_115 : decode cX12_habits 115 = .ok (.getfield 206, 3) := by decide +kernel
theorem dX12_habits_118 : decode cX12_habits 118 = .ok (.iload 4, 2) := by decide +kernel
theorem dX12_habits_120 : decode cX12_habits 120 = .ok (.isub, 1) := by decide +kernel
theorem dX12_habits_121 : decode cX12_habits 121 = .ok (.invokestatic 171, 3) := by decide +kernel
theorem dX12_habits_124 : decode cX12_habits 124 = .ok (.iload 6, 2) := by decide +kernel
theorem dX12_habits_126 : decode cX12_habits 126 = .ok (.if_icmp .gt 25, 3) := by decide +kernel
theorem dX12_habits_129 : decode cX12_habits 129 = .ok (.aload_n 0, 1) := by decide +kernel
theorem dX12_habits_130 : decode cX12_habits 130 = .ok (.getfield 209, 3) := by decide +kernel
theorem dX12_habits_133 : decode cX12_habits 133 = .ok (.iload 5, 2) := by decide +kernel
theorem dX12_habits_135 : decode cX12_habits 135 = .ok (.isub, 1) := by decide +kernel
theorem dX12_habits_136 : decode cX12_habits 136 = .ok (.invokestatic 171, 3) := by decide +kernel
theorem dX12_habits_139 : decode cX12_habits 139 = .ok (.iload 6, 2) := by decide +kernel
theorem dX12_habits_141 : decode cX12_habits 141 = .ok (.if_icmp .gt 10, 3) := by decide +kernel
theorem dX12_habits_144 : decode cX12_habits 144 = .ok (.iconst 1, 1) := by decide +kernel
theorem dX12_habits_145 : decode cX12_habits 145 = .ok (.iload 9, 2) := by decide +kernel
theorem dX12_habits_147 : decode cX12_habits 147 = .ok (.ishl, 1) := by decide +kernel
theorem dX12_habits_148 : decode cX12_habits 148 = .ok (.goto 4, 3) := by decide +kernel
theorem dX12_habits_151 : decode cX12_habits 151 = .ok (.iconst 0, 1) := by decide +kernel
theorem dX12_habits_152 : decode cX12_habits 152 = .ok (.ior, 1) := by decide +kernel
theorem dX12_habits_153 : decode cX12_habits 153 = .ok (.istore 8, 2) := by decide +kernel
theorem dX12_habits_155 : decode cX12_habits 155 = .ok (.iinc 9 1, 3) := by decide +kernel
theorem dX12_habits_158 : decode cX12_habits 158 = .ok (.goto (-74), 3) := by decide +kernel
theorem dX12_habits_161 : decode cX12_habits 161 = .ok (.iload 8, 2) := by decide +kernel
theorem dX12_habits_163 : decode cX12_habits 163 = .ok (.ireturn, 1) := by decide +kernel
theorem dX12_crates_0 : decode cX12_crates 0 = .ok (.iload_n 1, 1) := by decide +kernel
theorem dX12_crates_1 : decode cX12_crates 1 = .ok (.i2l, 1) := by decide +kernel
theorem dX12_crates_2 : decode cX12_crates 2 = .ok (.lconst 1, 1) := by decide +kernel
theorem dX12_crates_3 : decode cX12_crates 3 = .ok (.ldc2_w 279, 3) := by decide +kernel
theorem dX12_crates_6 : decode cX12_crates 6 = .ok (.invokestatic 56, 3) := by decide +kernel
theorem dX12_crates_9 : decode cX12_crates 9 = .ok (.ifCond .eq 17, 3) := by decide +kernel
theorem dX12_crates_12 : decode cX12_crates 12 = .ok (.iload_n 2, 1) := by decide +kernel
theorem dX12_crates_13 : decode cX12_crates 13 = .ok (.invokestatic 184, 3) := by decide +kernel
theorem dX12_crates_16 : decode cX12_crates 16 = .ok (.ifCond .eq 10, 3) := by decide +kernel
theorem dX12_crates_19 : decode cX12_crates 19 = .ok (.iload_n 3, 1) := by decide +kernel
theorem dX12_crates_20 : decode cX12_crates 20 = .ok (.invokestatic 184, 3) := by decide +kernel
theorem dX12_crates_23 : decode cX12_crates 23 = .ok (.ifCond .ne 5, 3) := by decide +kernel
theorem dX12_crates_26 : decode cX12_crates 26 = .ok (.iconst (-1), 1) := by decide +kernel
theorem dX12_crates_27 : decode cX12_crates 27 = .ok (.ireturn, 1) := by decide +kernel
theorem dX12_crates_28 : decode cX12_crates 28 = .ok (.iconst 0, 1) := by decide +kernel
theorem dX12_crates_29 : decode cX12_crates 29 = .ok (.istore 5, 2) := by decide +kernel
theorem dX12_crates_31 : decode cX12_crates 31 = .ok (.iconst 0, 1) := by decide +kernel
theorem dX12_crates_32 : decode cX12_crates 32 = .ok (.istore 6, 2) := by decide +kernel
theorem dX12_crates_34 : decode cX12_crates 34 = .ok (.iload 6, 2) := by decide +kernel
theorem dX12_crates_36 : decode cX12_crates 36 = .ok (.iload_n 1, 1) := by decide +kernel
theorem dX12_crates_37 : decode cX12_crates 37 = .ok (.if_icmp .ge 114, 3) := by decide +kernel
theorem dX12_crates_40 : decode cX12_crates 40 = .ok (.aload_n 0, 1) := by decide +kernel
theorem dX12_crates_41 : decode cX12_crates 41 = .ok (.iconst 1, 1) := by decide +kernel
theorem dX12_crates_42 : decode cX12_crates 42 = .ok (.iconst 0, 1) := by decide +kernel
theorem dX12_crates_43 : decode cX12_crates 43 = .ok (.iconst 0, 1) := by decide +kernel
theorem dX12_crates_44 : decode cX12_crates 44 = .ok (.iload_n 2, 1) := by decide +kernel
theorem dX12_crates_45 : decode cX12_crates 45 = .ok (.iload_n 3, 1) := by decide +kernel
theorem dX12_crates_46 : decode cX12_crates 46 = .ok (.iload 4, 2) := by decide +kernel
theorem dX12_crates_48 : decode cX12_crates 48 = .ok (.iload 6, 2) := by decide +kernel
theorem dX12_crates_50 : decode cX12_crates 50 = .ok (.iadd, 1) := by decide +kernel
theorem dX12_crates_51 : decode cX12_crates 51 = .ok (.invokevirtual 224, 3) := by decide +kernel
theorem dX12_crates_54 : decode cX12_crates 54 = .ok (.aload_n 0, 1) := by decide +kernel
theorem dX12_crates_55 : decode cX12_crates 55 = .ok (.invokevirtual 259, 3) := by decide +kernel
theorem dX12_crates_58 : decode cX12_crates 58 = .ok (.aload_n 0, 1) := by decide +kernel
theorem dX12_crates_59 : decode cX12_crates 59 = .ok (.getfield 46, 3) := by decide +kernel
theorem dX12_crates_62 : decode cX12_crates 62 = .ok (.iload 6, 2) := by decide +kernel
theorem dX12_crates_64 : decode cX12_crates 64 = .ok (.aload_n 0, 1) := by decide +kernel
theorem dX12_crates_65 : decode cX12_crates 65 = .ok (.getfield 206, 3) := by decide +kernel
theorem dX12_crates_68 : decode cX12_crates 68 = .ok (.iastore, 1) := by decide +kernel
theorem dX12_crates_69 : decode cX12_crates 69 = .ok (.aload_n 0, 1) := by decide +kernel
theorem dX12_crates_70 : decode cX12_crates 70 = .ok (.getfield 49, 3) := by decide +kernel
theorem dX12_crates_73 : decode cX12_crates 73 = .ok (.iload 6, 2) := by decide +kernel
theorem dX12_crates_75 : decode cX12_crates 75 = .ok (.aload_n 0, 1) := by decide +kernel
theorem dX12_crates_76 : decode cX12_crates 76 = .ok (.getfield 209, 3) := by decide +kernel
theorem dX12_crates_79 : decode cX12_crates 79 = .ok (.iastore, 1) := by decide +kernel
theorem dX12_crates_80 : decode cX12_crates 80 = .ok (.iconst 0, 1) := by decide +kernel
theorem dX12_crates_81 : decode cX12_crates 81 = .ok (.istore 7, 2) := by decide +kernel
theorem dX12_crates_83 : decode cX12_crates 83 = .ok (.iload 7, 2) := by decide +kernel
theorem dX12_crates_85 : decode cX12_crates 85 = .ok (.iload 6, 2) := by decide +kernel
theorem dX12_crates_87 : decode cX12_crates 87 = .ok (.if_icmp .ge 58, 3) := by decide +kernel
theorem dX12_crates_90 : decode cX12_crates 90 = .ok (.aload_n 0, 1) := by decide +kernel
theorem dX12_crates_91 : decode cX12_crates 91 = .ok (.getfield 46, 3) := by decide +kernel
theorem dX12_crates_94 : decode cX12_crates 94 = .ok (.iload 7, 2) := by decide +kernel
theorem dX12_crates_96 : decode cX12_crates 96 = .ok (.iaload, 1) := by decide +kernel
theorem dX12_crates_97 : decode cX12_crates 97 = .ok (.aload_n 0, 1) := by decide +kernel
theorem dX12_crates_98 : decode cX12_crates 98 = .ok (.getfield 206, 3) := by decide +kernel
theorem dX12_crates_101 : decode cX12_crates 101 = .ok (.isub, 1) := by decide +kernel
theorem dX12_crates_102 : decode cX12_crates 102 = .ok (.invokestatic 171, 3) := by decide +kernel
theorem dX12_crates_105 : decode cX12_crates 105 = .ok (.aload_n 0, 1) := by decide +kernel
theorem dX12_crates_106 : decode cX12_crates 106 = .ok (.getfield 49, 3) := by decide +kernel
theorem dX12_crates_109 : decode cX12_crates 109 = .ok (.iload 7, 2) := by decide +kernel
theorem dX12_crates_111 : decode cX12_crates 111 = .ok (.iaload, 1) := by decide +kernel
theorem dX12_crates_112 : decode cX12_crates 112 = .ok (.aload_n 0, 1) := by decide +kernel
theorem dX12_crates_113 : decode cX12_crates 113 = .ok (.getfield 209, 3) := by decide +kernel
theorem dX12_crates_116 : decode cX12_crates 116 = .ok (.isub, 1) := by decide +kernel
theorem dX12_crates_117 : decode cX12_crates 117 = .ok (.invokestatic 171, 3) := by decide +kernel
theorem dX12_crates_120 : decode cX12_crates 120 = .ok (.iadd, 1) := by decide +kernel
theorem dX12_crates_121 : decode cX12_crates 121 = .ok (.istore 8, 2) := by decide +kernel
theorem dX12_crates_123 : decode cX12_crates 123 = .ok (.iload 8, 2) := by decide +kernel
theorem dX12_crates_125 : decode cX12_crates 125 = .ok (.iload 5, 2) := by decide +kernel
theorem dX12_crates_127 : decode cX12_crates 127 = .ok (.if_icmp .le 8, 3) := by decide +kernel
theorem dX12_crates_130 : decode cX12_crates 130 = .ok (.iload 8, 2) := by decide +kernel
theorem dX12_crates_132 : decode cX12_crates 132 = .ok (.goto 5, 3) := by decide +kernel
theorem dX12_crates_135 : decode cX12_crates 135 = .ok (.iload 5, 2) := by decide +kernel
theorem dX12_crates_137 : decode cX12_crates 137 = .ok (.istore 5, 2) := by decide +kernel
theorem dX12_crates_139 : decode cX12_crates 139 = .ok (.iinc 7 1, 3) := by decide +kernel
theorem dX12_crates_142 : decode cX12_crates 142 = .ok (.goto (-59), 3) := by decide +kernel
theorem dX12_crates_145 : decode cX12_crates 145 = .ok (.iinc 6 1, 3) := by decide +kernel
theorem dX12_crates_148 : decode cX12_crates 148 = .ok (.goto (-114), 3) := by decide +kernel
theorem dX12_crates_151 : decode cX12_crates 151 = .ok (.iload 5, 2) := by decide +kernel
theorem dX12_crates_153 : decode cX12_crates 153 = .ok (.ireturn, 1) := by decide +kernel
theorem dX12_leastOf_0 : decode cX12_leastOf 0 = .ok (.aload_n 0, 1) := by decide +kernel
theorem dX12_leastOf_1 : decode cX12_leastOf 1 = .ok (.getfield 22, 3) := by decide +kernel
theorem dX12_leastOf_4 : decode cX12_leastOf 4 = .ok (.iload_n 1, 1) := by decide +kernel
theorem dX12_leastOf_5 : decode cX12_leastOf 5 = .ok (.iaload, 1) := by decide +kernel
theorem dX12_leastOf_6 : decode cX12_leastOf 6 = .ok (.ifCond .ne 8, 3) := by decide +kernel
theorem dX12_leastOf_9 : decode cX12_leastOf 9 = .ok (.bipush (-128), 2) := by decide +kernel
theorem dX12_leastOf_11 : decode cX12_leastOf 11 = .ok (.goto 22, 3) := by decide +kernel
theorem dX12_leastOf_14 : decode cX12_leastOf 14 = .ok (.aload_n 0, 1) := by decide +kernel
theorem dX12_leastOf_15 : decode cX12_leastOf 15 = .ok (.getfield 22, 3) := by decide +kernel
theorem dX12_leastOf_18 : decode cX12_leastOf 18 = .ok (.iload_n 1, 1) := by decide +kernel
theorem dX12_leastOf_19 : decode cX12_leastOf 19 = .ok (.iaload, 1) := by decide +kernel
theorem dX12_leastOf_20 : decode cX12_leastOf 20 = .ok (.iconst 1, 1) := by decide +kernel
theorem dX12_leastOf_21 : decode cX12_leastOf 21 = .ok (.if_icmp .ne 9, 3) := by decide +kernel
theorem dX12_leastOf_24 : decode cX12_leastOf 24 = .ok (.sipush (-32768), 3) := by decide +kernel
theorem dX12_leastOf_27 : decode cX12_leastOf 27 = .ok (.goto 6, 3) := by decide +kernel
theorem dX12_leastOf_30 : decode cX12_leastOf 30 = .ok (.ldc_w 314, 3) := by decide +kernel
theorem dX12_leastOf_33 : decode cX12_leastOf 33 = .ok (.ireturn, 1) := by decide +kernel
theorem dX12_judge_0 : decode cX12_judge 0 = .ok (.aload_n 0, 1) := by decide +kernel
theorem dX12_judge_1 : decode cX12_judge 1 = .ok (.iload_n 1, 1) := by decide +kernel
theorem dX12_judge_2 : decode cX12_judge 2 = .ok (.invokevirtual 149, 3) := by decide +kernel
theorem dX12_judge_5 : decode cX12_judge 5 = .ok (.ifCond .eq 17, 3) := by decide +kernel
theorem dX12_judge_8 : decode cX12_judge 8 = .ok (.iload_n 2, 1) := by decide +kernel
theorem dX12_judge_9 : decode cX12_judge 9 = .ok (.invokestatic 184, 3) := by decide +kernel
theorem dX12_judge_12 : decode cX12_judge 12 = .ok (.ifCond .eq 10, 3) := by decide +kernel
theorem dX12_judge_15 : decode cX12_judge 15 = .ok (.iload_n 3, 1) := by decide +kernel
theorem dX12_judge_16 : decode cX12_judge 16 = .ok (.invokestatic 125, 3) := by decide +kernel
theorem dX12_judge_19 : decode cX12_judge 19 = .ok (.ifCond .ne 5, 3) := by decide +kernel
theorem dX12_judge_22 : decode cX12_judge 22 = .ok (.iconst (-1), 1) := by decide +kernel
theorem dX12_judge_23 : decode cX12_judge 23 = .ok (.ireturn, 1) := by decide +kernel
theorem dX12_judge_24 : decode cX12_judge 24 = .ok (.aload_n 0, 1) := by decide +kernel
theorem dX12_judge_25 : decode cX12_judge 25 = .ok (.iload_n 3, 1) := by decide +kernel
theorem dX12_judge_26 : decode cX12_judge 26 = .ok (.iconst (-1), 1) := by decide +kernel
theorem dX12_judge_27 : decode cX12_judge 27 = .ok (.invokevirtual 128, 3) := by decide +kernel
theorem dX12_judge_30 : decode cX12_judge 30 = .ok (.istore 4, 2) := by decide +kernel
theorem dX12_judge_32 : decode cX12_judge 32 = .ok (.iload 4, 2) := by decide +kernel
theorem dX12_judge_34 : decode cX12_judge 34 = .ok (.ifCond .eq 6, 3) := by decide +kernel
theorem dX12_judge_37 : decode cX12_judge 37 = .ok (.iload 4, 2) := by decide +kernel
theorem dX12_judge_39 : decode cX12_judge 39 = .ok (.ireturn, 1) := by decide +kernel
theorem dX12_judge_40 : decode cX12_judge 40 = .ok (.aload_n 0, 1) := by decide +kernel
theorem dX12_judge_41 : decode cX12_judge 41 = .ok (.getfield 25, 3) := by decide +kernel
theorem dX12_judge_44 : decode cX12_judge 44 = .ok (.iload_n 3, 1) := by decide +kernel
theorem dX12_judge_45 : decode cX12_judge 45 = .ok (.iaload, 1) := by decide +kernel
theorem dX12_judge_46 : decode cX12_judge 46 = .ok (.bipush 31, 2) := by decide +kernel
theorem dX12_judge_48 : decode cX12_judge 48 = .ok (.if_icmp .le 6, 3) := by decide +kernel
theorem dX12_judge_51 : decode cX12_judge 51 = .ok (.bipush (-13), 2) := by decide +kernel
theorem dX12_judge_53 : decode cX12_judge 53 = .ok (.ireturn, 1) := by decide +kernel
theorem dX12_judge_54 : decode cX12_judge 54 = .ok (.iconst 0, 1) := by decide +kernel
theorem dX12_judge_55 : decode cX12_judge 55 = .ok (.istore 5, 2) := by decide +kernel
theorem dX12_judge_57 : decode cX12_judge 57 = .ok (.iload 5, 2) := by decide +kernel
theorem dX12_judge_59 : decode cX12_judge 59 = .ok (.aload_n 0, 1) := by decide +kernel
theorem dX12_judge_60 : decode cX12_judge 60 = .ok (.getfield 25, 3) := by decide +kernel
theorem dX12_judge_63 : decode cX12_judge 63 = .ok (.iload_n 3, 1) := by decide +kernel
theorem dX12_judge_64 : decode cX12_judge 64 = .ok (.iaload, 1) := by decide +kernel
theorem dX12_judge_65 : decode cX12_judge 65 = .ok (.if_icmp .ge 61, 3) := by decide +kernel
theorem dX12_judge_68 : decode cX12_judge 68 = .ok (.aload_n 0, 1) := by decide +kernel
theorem dX12_judge_69 : decode cX12_judge 69 = .ok (.getfield 28, 3) := by decide +kernel
theorem dX12_judge_72 : decode cX12_judge 72 = .ok (.bipush 100, 2) := by decide +kernel
theorem dX12_judge_74 : decode cX12_judge 74 = .ok (.iload_n 3, 1) := by decide +kernel
theorem dX12_judge_75 : decode cX12_judge 75 = .ok (.imul, 1) := by decide +kernel
theorem dX12_judge_76 : decode cX12_judge 76 = .ok (.iload 5, 2) := by decide +kernel
theorem dX12_judge_78 : decode cX12_judge 78 = .ok (.iadd, 1) := by decide +kernel
theorem dX12_judge_79 : decode cX12_judge 79 = .ok (.iaload, 1) := by decide +kernel
theorem dX12_judge_80 : decode cX12_judge 80 = .ok (.istore 6, 2) := by decide +kernel
theorem dX12_judge_82 : decode cX12_judge 82 = .ok (.iload 6, 2) := by decide +kernel
theorem dX12_judge_84 : decode cX12_judge 84 = .ok (.aload_n 0, 1) := by decide +kernel
theorem dX12_judge_85 : decode cX12_judge 85 = .ok (.iload_n 3, 1) := by decide +kernel
theorem dX12_judge_86 : decode cX12_judge 86 = .ok (.invokevirtual 315, 3) := by decide +kernel
theorem dX12_judge_89 : decode cX12_judge 89 = .ok (.if_icmp .ne 6, 3) := by decide +kernel
theorem dX12_judge_92 : decode cX12_judge 92 = .ok (.goto 28, 3) := by decide +kernel
theorem dX12_judge_95 : decode cX12_judge 95 = .ok (.aload_n 0, 1) := by decide +kernel
theorem dX12_judge_96 : decode cX12_judge 96 = .ok (.iload_n 1, 1) := by decide +kernel
theorem dX12_judge_97 : decode cX12_judge 97 = .ok (.sipush 1000, 3) := by decide +kernel
theorem dX12_judge_100 : decode cX12_judge 100 = .ok (.iload 5, 2) := by decide +kernel
theorem dX12_judge_102 : decode cX12_judge 102 = .ok (.imul, 1) := by decide +kernel
theorem dX12_judge_103 : decode cX12_judge 103 = .ok (.iload_n 2, 1) := by decide +kernel
theorem dX12_judge_104 : decode cX12_judge 104 = .ok (.iconst 1, 1) := by decide +kernel
theorem dX12_judge_105 : decode cX12_judge 105 = .ok (.invokevirtual 267, 3) := by decide +kernel
theorem dX12_judge_108 : decode cX12_judge 108 = .ok (.iload 6, 2) := by decide +kernel
theorem dX12_judge_110 : decode cX12_judge 110 = .ok (.aload_n 0, 1) := by decide +kernel
theorem dX12_judge_111 : decode cX12_judge 111 = .ok (.invokevirtual 262, 3) := by decide +kernel
theorem dX12_judge_114 : decode cX12_judge 114 = .ok (.if_icmp .eq 6, 3) := by decide +kernel
theorem dX12_judge_117 : decode cX12_judge 117 = .ok (.iload 5, 2) := by decide +kernel
theorem dX12_judge_119 : decode cX12_judge 119 = .ok (.ireturn, 1) := by decide +kernel
theorem dX12_judge_120 : decode cX12_judge 120 = .ok (.iinc 5 1, 3) := by decide +kernel
theorem dX12_judge_123 : decode cX12_judge 123 = .ok (.goto (-66), 3) := by decide +kernel
theorem dX12_judge_126 : decode cX12_judge 126 = .ok (.bipush (-4), 2) := by decide +kernel
theorem dX12_judge_128 : decode cX12_judge 128 = .ok (.ireturn, 1) := by decide +kernel
theorem dX12_image_0 : decode cX12_image 0 = .ok (.iconst 0, 1) := by decide +kernel
theorem dX12_image_1 : decode cX12_image 1 = .ok (.istore_n 1, 1) := by decide +kernel
theorem dX12_image_2 : decode cX12_image 2 = .ok (.iload_n 1, 1) := by decide +kernel
theorem dX12_image_3 : decode cX12_image 3 = .ok (.bipush 73, 2) := by decide +kernel
theorem dX12_image_5 : decode cX12_image 5 = .ok (.if_icmp .ge 21, 3) := by decide +kernel
theorem dX12_image_8 : decode cX12_image 8 = .ok (.aload_n 0, 1) := by decide +kernel
theorem dX12_image_9 : decode cX12_image 9 = .ok (.getfield 13, 3) := by decide +kernel
theorem dX12_image_12 : decode cX12_image 12 = .ok (.iload_n 1, 1) := by decide +kernel
theorem dX12_image_13 : decode cX12_image 13 = .ok (.aload_n 0, 1) := by decide +kernel
theorem dX12_image_14 : decode cX12_image 14 = .ok (.getfield 9, 3) := by decide +kernel
theorem dX12_image_17 : decode cX12_image 17 = .ok (.iload_n 1, 1) := by decide +kernel
theorem dX12_image_18 : decode cX12_image 18 = .ok (.iaload, 1) := by decide +kernel
theorem dX12_image_19 : decode cX12_image 19 = .ok (.iastore, 1) := by decide +kernel
theorem dX12_image_20 : decode cX12_image 20 = .ok (.iinc 1 1, 3) := by decide +kernel
theorem dX12_image_23 : decode cX12_image 23 = .ok (.goto (-21), 3) := by decide +kernel
theorem dX12_image_26 : decode cX12_image 26 = .ok (.aload_n 0, 1) := by decide +kernel
theorem dX12_image_27 : decode cX12_image 27 = .ok (.iconst 1, 1) := by decide +kernel
theorem dX12_image_28 : decode cX12_image 28 = .ok (.putfield 318, 3) := by decide +kernel
theorem dX12_image_31 : decode cX12_image 31 = .ok (.aload_n 0, 1) := by decide +kernel
theorem dX12_image_32 : decode cX12_image 32 = .ok (.getfield 9, 3) := by decide +kernel
theorem dX12_image_35 : decode cX12_image 35 = .ok (.iconst 3, 1) := by decide +kernel
theorem dX12_image_36 : decode cX12_image 36 = .ok (.iaload, 1) := by decide +kernel
theorem dX12_image_37 : decode cX12_image 37 = .ok (.ireturn, 1) := by decide +kernel
theorem dX12_restore_0 : decode cX12_restore 0 = .ok (.aload_n 0, 1) := by decide +kernel
theorem dX12_restore_1 : decode cX12_restore 1 = .ok (.getfield 318, 3) := by decide +kernel
theorem dX12_restore_4 : decode cX12_restore 4 = .ok (.ifCond .ne 6, 3) := by decide +kernel
theorem dX12_restore_7 : decode cX12_restore 7 = .ok (.bipush (-3), 2) := by decide +kernel
theorem dX12_restore_9 : decode cX12_restore 9 = .ok (.ireturn, 1) := by decide +kernel
theorem dX12_restore_10 : decode cX12_restore 10 = .ok (.iconst 0, 1) := by decide +kernel
theorem dX12_restore_11 : decode cX12_restore 11 = .ok (.istore_n 1, 1) := by decide +kernel
theorem dX12_restore_12 : decode cX12_restore 12 = .ok (.iload_n 1, 1) := by decide +kernel
theorem dX12_restore_13 : decode cX12_restore 13 = .ok (.bipush 73, 2) := by decide +kernel
theorem dX12_restore_15 : decode cX12_restore 15 = .ok (.if_icmp .ge 21, 3) := by decide +kernel
theorem dX12_restore_18 : decode cX12_restore 18 = .ok (.aload_n 0, 1) := by decide +kernel
theorem dX12_restore_19 : decode cX12_restore 19 = .ok (.getfield 9, 3) := by decide +kernel
theorem dX12_restore_22 : decode cX12_restore 22 = .ok (.iload_n 1, 1) := by decide +kernel
theorem dX12_restore_23 : decode cX12_restore 23 = .ok (.aload_n 0, 1) := by decide +kernel
theorem dX12_restore_24 : decode cX12_restore 24 = .ok (.getfield 13, 3) := by decide +kernel
theorem dX12_restore_27 : decode cX12_restore 27 = .ok (.iload_n 1, 1) := by decide +kernel
theorem dX12_restore_28 : decode cX12_restore 28 = .ok (.iaload, 1) := by decide +kernel
theorem dX12_restore_29 : decode cX12_restore 29 = .ok (.iastore, 1) := by decide +kernel
theorem dX12_restore_30 : decode cX12_restore 30 = .ok (.iinc 1 1, 3) := by decide +kernel
theorem dX12_restore_33 : decode cX12_restore 33 = .ok (.goto (-21), 3) := by decide +kernel
theorem dX12_restore_36 : decode cX12_restore 36 = .ok (.aload_n 0, 1) := by decide +kernel
theorem dX12_restore_37 : decode cX12_restore 37 = .ok (.getfield 9, 3) := by decide +kernel
theorem dX12_restore_40 : decode cX12_restore 40 = .ok (.iconst 3, 1) := by decide +kernel
theorem dX12_restore_41 : decode cX12_restore 41 = .ok (.iaload, 1) := by decide +kernel
theorem dX12_restore_42 : decode cX12_restore 42 = .ok (.ireturn, 1) := by decide +kernel
theorem dX12_count_0 : decode cX12_count 0 = .ok (.iconst 0, 1) := by decide +kernel
theorem dX12_count_1 : decode cX12_count 1 = .ok (.istore_n 2, 1) := by decide +kernel
theorem dX12_count_2 : decode cX12_count 2 = .ok (.iload_n 1, 1) := by decide +kernel
theorem dX12_count_3 : decode cX12_count 3 = .ok (.tableswitch 112 0 5 #[37, 44, 51, 91, 98, 105], 37) := by decide +kernel
theorem dX12_count_40 : decode cX12_count 40 = .ok (.aload_n 0, 1) := by decide +kernel
theorem dX12_count_41 : decode cX12_count 41 = .ok (.getfield 9, 3) := by decide +kernel
theorem dX12_count_44 : decode cX12_count 44 = .ok (.iconst 3, 1) := by decide +kernel
theorem dX12_count_45 : decode cX12_count 45 = .ok (.iaload, 1) := by decide +kernel
theorem dX12_count_46 : decode cX12_count 46 = .ok (.ireturn, 1) := by decide +kernel
theorem dX12_count_47 : decode cX12_count 47 = .ok (.aload_n 0, 1) := by decide +kernel
theorem dX12_count_48 : decode cX12_count 48 = .ok (.getfield 9, 3) := by decide +kernel
theorem dX12_count_51 : decode cX12_count 51 = .ok (.iconst 4, 1) := by decide +kernel
theorem dX12_count_52 : decode cX12_count 52 = .ok (.iaload, 1) := by decide +kernel
theorem dX12_count_53 : decode cX12_count 53 = .ok (.ireturn, 1) := by decide +kernel
theorem dX12_count_54 : decode cX12_count 54 = .ok (.iconst 0, 1) := by decide +kernel
theorem dX12_count_55 : decode cX12_count 55 = .ok (.istore_n 3, 1) := by decide +kernel
theorem dX12_count_56 : decode cX12_count 56 = .ok (.iload_n 3, 1) := by decide +kernel
theorem dX12_count_57 : decode cX12_count 57 = .ok (.bipush 10, 2) := by decide +kernel
theorem dX12_count_59 : decode cX12_count 59 = .ok (.if_icmp .ge 33, 3) := by decide +kernel
theorem dX12_count_62 : decode cX12_count 62 = .ok (.iload_n 2, 1) := by decide +kernel
theorem dX12_count_63 : decode cX12_count 63 = .ok (.aload_n 0, 1) := by decide +kernel
theorem dX12_count_64 : decode cX12_count 64 = .ok (.iload_n 3, 1) := by decide +kernel
theorem dX12_count_65 : decode cX12_count 65 = .ok (.invokevirtual 144, 3) := by decide +kernel
theorem dX12_count_68 : decode cX12_count 68 = .ok (.ifCond .ne 11, 3) := by decide +kernel
theorem dX12_count_71 : decode cX12_count 71 = .ok (.aload_n 0, 1) := by decide +kernel
theorem dX12_count_72 : decode cX12_count 72 = .ok (.iload_n 3, 1) := by decide +kernel
theorem dX12_count_73 : decode cX12_count 73 = .ok (.invokevirtual 140, 3) := by decide +kernel
theorem dX12_count_76 : decode cX12_count 76 = .ok (.ifCond .eq 7, 3) := by decide +kernel
theorem dX12_count_79 : decode cX12_count 79 = .ok (.iconst 1, 1) := by decide +kernel
theorem dX12_count_80 : decode cX12_count 80 = .ok (.goto 4, 3) := by decide +kernel
theorem dX12_count_83 : decode cX12_count 83 = .ok (.iconst 0, 1) := by decide +kernel
theorem dX12_count_84 : decode cX12_count 84 = .ok (.iadd, 1) := by decide +kernel
theorem dX12_count_85 : decode cX12_count 85 = .ok (.istore_n 2, 1) := by decide +kernel
theorem dX12_count_86 : decode cX12_count 86 = .ok (.iinc 3 1, 3) := by decide +kernel
theorem dX12_count_89 : decode cX12_count 89 = .ok (.goto (-33), 3) := by decide +kernel
theorem dX12_count_92 : decode cX12_count 92 = .ok (.iload_n 2, 1) := by decide +kernel
theorem dX12_count_93 : decode cX12_count 93 = .ok (.ireturn, 1) := by decide +kernel
theorem dX12_count_94 : decode cX12_count 94 = .ok (.aload_n 0, 1) := by decide +kernel
theorem dX12_count_95 : decode cX12_count 95 = .ok (.getfield 9, 3) := by decide +kernel
theorem dX12_count_98 : decode cX12_count 98 = .ok (.iconst 0, 1) := by decide +kernel
theorem dX12_count_99 : decode cX12_count 99 = .ok (.iaload, 1) := by decide +kernel
theorem dX12_count_100 : decode cX12_count 100 = .ok (.ireturn, 1) := by decide +kernel
theorem dX12_count_101 : decode cX12_count 101 = .ok (.aload_n 0, 1) := by decide +kernel
theorem dX12_count_102 : decode cX12_count 102 = .ok (.getfield 9, 3) := by decide +kernel
theorem dX12_count_105 : decode cX12_count 105 = .ok (.iconst 1, 1) := by decide +kernel
theorem dX12_count_106 : decode cX12_count 106 = .ok (.iaload, 1) := by decide +kernel
theorem dX12_count_107 : decode cX12_count 107 = .ok (.ireturn, 1) := by decide +kernel
theorem dX12_count_108 : decode cX12_count 108 = .ok (.aload_n 0, 1) := by decide +kernel
theorem dX12_count_109 : decode cX12_count 109 = .ok (.getfield 9, 3) := by decide +kernel
theorem dX12_count_112 : decode cX12_count 112 = .ok (.iconst 2, 1) := by decide +kernel
theorem dX12_count_113 : decode cX12_count 113 = .ok (.iaload, 1) := by decide +kernel
theorem dX12_count_114 : decode cX12_count 114 = .ok (.ireturn, 1) := by decide +kernel
theorem dX12_count_115 : decode cX12_count 115 = .ok (.iconst (-1), 1) := by decide +kernel
theorem dX12_count_116 : decode cX12_count 116 = .ok (.ireturn, 1) := by decide +kernel
theorem dX12_careOf_0 : decode cX12_careOf 0 = .ok (.aload_n 0, 1) := by decide +kernel
theorem dX12_careOf_1 : decode cX12_careOf 1 = .ok (.iload_n 1, 1) := by decide +kernel
theorem dX12_careOf_2 : decode cX12_careOf 2 = .ok (.iconst 1, 1) := by decide +kernel
theorem dX12_careOf_3 : decode cX12_careOf 3 = .ok (.invokevirtual 152, 3) := by decide +kernel
theorem dX12_careOf_6 : decode cX12_careOf 6 = .ok (.istore_n 2, 1) := by decide +kernel
theorem dX12_careOf_7 : decode cX12_careOf 7 = .ok (.aload_n 0, 1) := by decide +kernel
theorem dX12_careOf_8 : decode cX12_careOf 8 = .ok (.iload_n 1, 1) := by decide +kernel
theorem dX12_careOf_9 : decode cX12_careOf 9 = .ok (.iconst 0, 1) := by decide +kernel
theorem dX12_careOf_10 : decode cX12_careOf 10 = .ok (.invokevirtual 152, 3) := by decide +kernel
theorem dX12_careOf_13 : decode cX12_careOf 13 = .ok (.tableswitch 81 1 7 #[43, 45, 50, 53, 63, 73, 78], 43) := by decide +kernel
theorem dX12_careOf_56 : decode cX12_careOf 56 = .ok (.iconst 1, 1) := by decide +kernel
theorem dX12_careOf_57 : decode cX12_careOf 57 = .ok (.ireturn, 1) := by decide +kernel
theorem dX12_careOf_58 : decode cX12_careOf 58 = .ok (.bipush 10, 2) := by decide +kernel
theorem dX12_careOf_60 : decode cX12_careOf 60 = .ok (.iload_n 2, 1) := by decide +kernel
theorem dX12_careOf_61 : decode cX12_careOf 61 = .ok (.iadd, 1) := by decide +kernel
theorem dX12_careOf_62 : decode cX12_careOf 62 = .ok (.ireturn, 1) := by decide +kernel
theorem dX12_careOf_63 : decode cX12_careOf 63 = .ok (.bipush 20, 2) := by decide +kernel
theorem dX12_careOf_65 : decode cX12_careOf 65 = .ok (.ireturn, 1) := by decide +kernel
theorem dX12_careOf_66 : decode cX12_careOf 66 = .ok (.bipush 10, 2) := by decide +kernel
theorem dX12_careOf_68 : decode cX12_careOf 68 = .ok (.aload_n 0, 1) := by decide +kernel
theorem dX12_careOf_69 : decode cX12_careOf 69 = .ok (.iload_n 1, 1) := by decide +kernel
theorem dX12_careOf_70 : decode cX12_careOf 70 = .ok (.iconst 2, 1) := by decide +kernel
theorem dX12_careOf_71 : decode cX12_careOf 71 = .ok (.invokevirtual 152, 3) := by decide +kernel
theorem dX12_careOf_74 : decode cX12_careOf 74 = .ok (.iadd, 1) := by decide +kernel
theorem dX12_careOf_75 : decode cX12_careOf 75 = .ok (.ireturn, 1) := by decide +kernel
theorem dX12_careOf_76 : decode cX12_careOf 76 = .ok (.bipush 13, 2) := by decide +kernel
theorem dX12_careOf_78 : decode cX12_careOf 78 = .ok (.aload_n 0, 1) := by decide +kernel
theorem dX12_careOf_79 : decode cX12_careOf 79 = .ok (.iload_n 1, 1) := by decide +kernel
theorem dX12_careOf_80 : decode cX12_careOf 80 = .ok (.iconst 2, 1) := by decide +kernel
theorem dX12_careOf_81 : decode cX12_careOf 81 = .ok (.invokevirtual 152, 3) := by decide +kernel
theorem dX12_careOf_84 : decode cX12_careOf 84 = .ok (.iadd, 1) := by decide +kernel
theorem dX12_careOf_85 : decode cX12_careOf 85 = .ok (.ireturn, 1) := by decide +kernel
theorem dX12_careOf_86 : decode cX12_careOf 86 = .ok (.bipush 10, 2) := by decide +kernel
theorem dX12_careOf_88 : decode cX12_careOf 88 = .ok (.iload_n 2, 1) := by decide +kernel
theorem dX12_careOf_89 : decode cX12_careOf 89 = .ok (.imul, 1) := by decide +kernel
theorem dX12_careOf_90 : decode cX12_careOf 90 = .ok (.ireturn, 1) := by decide +kernel
theorem dX12_careOf_91 : decode cX12_careOf 91 = .ok (.bipush 70, 2) := by decide +kernel
theorem dX12_careOf_93 : decode cX12_careOf 93 = .ok (.ireturn, 1) := by decide +kernel
theorem dX12_careOf_94 : decode cX12_careOf 94 = .ok (.bipush 10, 2) := by decide +kernel
theorem dX12_careOf_96 : decode cX12_careOf 96 = .ok (.ireturn, 1) := by decide +kernel
theorem dX12_keep_0 : decode cX12_keep 0 = .ok (.iload_n 1, 1) := by decide +kernel
theorem dX12_keep_1 : decode cX12_keep 1 = .ok (.invokestatic 125, 3) := by decide +kernel
theorem dX12_keep_4 : decode cX12_keep 4 = .ok (.ifCond .eq 26, 3) := by decide +kernel
theorem dX12_keep_7 : decode cX12_keep 7 = .ok (.iload_n 2, 1) := by decide +kernel
theorem dX12_keep_8 : decode cX12_keep 8 = .ok (.i2l, 1) := by decide +kernel
theorem dX12_keep_9 : decode cX12_keep 9 = .ok (.lconst 0, 1) := by decide +kernel
theorem dX12_keep_10 : decode cX12_keep 10 = .ok (.lconst 1, 1) := by decide +kernel
theorem dX12_keep_11 : decode cX12_keep 11 = .ok (.invokestatic 56, 3) := by decide +kernel
theorem dX12_keep_14 : decode cX12_keep 14 = .ok (.ifCond .eq 16, 3) := by decide +kernel
theorem dX12_keep_17 : decode cX12_keep 17 = .ok (.iload_n 2, 1) := by decide +kernel
theorem dX12_keep_18 : decode cX12_keep 18 = .ok (.iconst 1, 1) := by decide +kernel
theorem dX12_keep_19 : decode cX12_keep 19 = .ok (.if_icmp .ne 13, 3) := by decide +kernel
theorem dX12_keep_22 : decode cX12_keep 22 = .ok (.aload_n 0, 1) := by decide +kernel
theorem dX12_keep_23 : decode cX12_keep 23 = .ok (.iload_n 3, 1) := by decide +kernel
theorem dX12_keep_24 : decode cX12_keep 24 = .ok (.invokevirtual 149, 3) := by decide +kernel
theorem dX12_keep_27 : decode cX12_keep 27 = .ok (.ifCond .ne 5, 3) := by decide +kernel
theorem dX12_keep_30 : decode cX12_keep 30 = .ok (.iconst (-1), 1) := by decide +kernel
theorem dX12_keep_31 : decode cX12_keep 31 = .ok (.ireturn, 1) := by decide +kernel
theorem dX12_keep_32 : decode cX12_keep 32 = .ok (.aload_n 0, 1) := by decide +kernel
theorem dX12_keep_33 : decode cX12_keep 33 = .ok (.getfield 19, 3) := by decide +kernel
theorem dX12_keep_36 : decode cX12_keep 36 = .ok (.iload_n 1, 1) := by decide +kernel
theorem dX12_keep_37 : decode cX12_keep 37 = .ok (.iload_n 2, 1) := by decide +kernel
theorem dX12_keep_38 : decode cX12_keep 38 = .ok (.iastore, 1) := by decide +kernel
theorem dX12_keep_39 : decode cX12_keep 39 = .ok (.iload_n 2, 1) := by decide +kernel
theorem dX12_keep_40 : decode cX12_keep 40 = .ok (.ifCond .ne 5, 3) := by decide +kernel
theorem dX12_keep_43 : decode cX12_keep 43 = .ok (.iconst 0, 1) := by decide +kernel
theorem dX12_keep_44 : decode cX12_keep 44 = .ok (.ireturn, 1) := by decide +kernel
theorem dX12_keep_45 : decode cX12_keep 45 = .ok (.aload_n 0, 1) := by decide +kernel
theorem dX12_keep_46 : decode cX12_keep 46 = .ok (.iload_n 3, 1) := by decide +kernel
theorem dX12_keep_47 : decode cX12_keep 47 = .ok (.iconst 0, 1) := by decide +kernel
theorem dX12_keep_48 : decode cX12_keep 48 = .ok (.invokevirtual 152, 3) := by decide +kernel
theorem dX12_keep_51 : decode cX12_keep 51 = .ok (.istore 4, 2) := by decide +kernel
theorem dX12_keep_53 : decode cX12_keep 53 = .ok (.aload_n 0, 1) := by decide +kernel
theorem dX12_keep_54 : decode cX12_keep 54 = .ok (.getfield 31, 3) := by decide +kernel
theorem dX12_keep_57 : decode cX12_keep 57 = .ok (.iload_n 1, 1) := by decide +kernel
theorem dX12_keep_58 : decode cX12_keep 58 = .ok (.aload_n 0, 1) := by decide +kernel
theorem dX12_keep_59 : decode cX12_keep 59 = .ok (.iload_n 3, 1) := by decide +kernel
theorem dX12_keep_60 : decode cX12_keep 60 = .ok (.invokevirtual 322, 3) := by decide +kernel
theorem dX12_keep_63 : decode cX12_keep 63 = .ok (.iastore, 1) := by decide +kernel
theorem dX12_keep_64 : decode cX12_keep 64 = .ok (.aload_n 0, 1) := by decide +kernel
theorem dX12_keep_65 : decode cX12_keep 65 = .ok (.getfield 34, 3) := by decide +kernel
theorem dX12_keep_68 : decode cX12_keep 68 = .ok (.iload_n 1, 1) := by decide +kernel
theorem dX12_keep_69 : decode cX12_keep 69 = .ok (.iload 4, 2) := by decide +kernel
theorem dX12_keep_71 : decode cX12_keep 71 = .ok (.iconst 1, 1) := by decide +kernel
theorem dX12_keep_72 : decode cX12_keep 72 = .ok (.if_icmp .eq 12, 3) := by decide +kernel
theorem dX12_keep_75 : decode cX12_keep 75 = .ok (.aload_n 0, 1) := by decide +kernel
theorem dX12_keep_76 : decode cX12_keep 76 = .ok (.iload_n 3, 1) := by decide +kernel
theorem dX12_keep_77 : decode cX12_keep 77 = .ok (.iconst 1, 1) := by decide +kernel
theorem dX12_keep_78 : decode cX12_keep 78 = .ok (.invokevirtual 152, 3) := by decide +kernel
theorem dX12_keep_81 : decode cX12_keep 81 = .ok (.ifCond .ne 8, 3) := by decide +kernel
theorem dX12_keep_84 : decode cX12_keep 84 = .ok (.bipush (-15), 2) := by decide +kernel
theorem dX12_keep_86 : decode cX12_keep 86 = .ok (.goto 36, 3) := by decide +kernel
theorem dX12_keep_89 : decode cX12_keep 89 = .ok (.iload 4, 2) := by decide +kernel
theorem dX12_keep_91 : decode cX12_keep 91 = .ok (.iconst 5, 1) := by decide +kernel
theorem dX12_keep_92 : decode cX12_keep 92 = .ok (.if_icmp .ne 10, 3) := by decide +kernel
theorem dX12_keep_95 : decode cX12_keep 95 = .ok (.bipush 100, 2) := by decide +kernel
theorem dX12_keep_97 : decode cX12_keep 97 = .ok (.iload_n 3, 1) := by decide +kernel
theorem dX12_keep_98 : decode cX12_keep 98 = .ok (.iadd, 1) := by decide +kernel
theorem dX12_keep_99 : decode cX12_keep 99 = .ok (.goto 23, 3) := by decide +kernel
theorem dX12_keep_102 : decode cX12_keep 102 = .ok (.iload 4, 2) := by decide +kernel
theorem dX12_keep_104 : decode cX12_keep 104 = .ok (.bipush 7, 2) := by decide +kernel
theorem dX12_keep_106 : decode cX12_keep 106 = .ok (.if_icmp .ne 15, 3) := by decide +kernel
theorem dX12_keep_109 : decode cX12_keep 109 = .ok (.sipush 200, 3) := by decide +kernel
theorem dX12_keep_112 : decode cX12_keep 112 = .ok (.aload_n 0, 1) := by decide +kernel
theorem dX12_keep_113 : decode cX12_keep 113 = .ok (.iload_n 3, 1) := by decide +kernel
theorem dX12_keep_114 : decode cX12_keep 114 = .ok (.invokevirtual 322, 3) := by decide +kernel
theorem dX12_keep_117 : decode cX12_keep 117 = .ok (.iadd, 1) := by decide +kernel
theorem dX12_keep_118 : decode cX12_keep 118 = .ok (.goto 4, 3) := by decide +kernel
theorem dX12_keep_121 : decode cX12_keep 121 = .ok (.iload_n 3, 1) := by decide +kernel
theorem dX12_keep_122 : decode cX12_keep 122 = .ok (.iastore, 1) := by decide +kernel
theorem dX12_keep_123 : decode cX12_keep 123 = .ok (.iconst 0, 1) := by decide +kernel
theorem dX12_keep_124 : decode cX12_keep 124 = .ok (.ireturn, 1) := by decide +kernel
theorem dX12_row_0 : decode cX12_row 0 = .ok (.iload_n 1, 1) := by decide +kernel
theorem dX12_row_1 : decode cX12_row 1 = .ok (.invokestatic 125, 3) := by decide +kernel
theorem dX12_row_4 : decode cX12_row 4 = .ok (.ifCond .eq 21, 3) := by decide +kernel
theorem dX12_row_7 : decode cX12_row 7 = .ok (.iload_n 2, 1) := by decide +kernel
theorem dX12_row_8 : decode cX12_row 8 = .ok (.i2l, 1) := by decide +kernel
theorem dX12_row_9 : decode cX12_row 9 = .ok (.lconst 0, 1) := by decide +kernel
theorem dX12_row_10 : decode cX12_row 10 = .ok (.ldc2_w 147, 3) := by decide +kernel
theorem dX12_row_13 : decode cX12_row 13 = .ok (.invokestatic 56, 3) := by decide +kernel
theorem dX12_row_16 : decode cX12_row 16 = .ok (.ifCond .eq 9, 3) := by decide +kernel
theorem dX12_row_19 : decode cX12_row 19 = .ok (.iload_n 3, 1) := by decide +kernel
theorem dX12_row_20 : decode cX12_row 20 = .ok (.bipush 100, 2) := by decide +kernel
theorem dX12_row_22 : decode cX12_row 22 = .ok (.if_icmp .le 5, 3) := by decide +kernel
theorem dX12_row_25 : decode cX12_row 25 = .ok (.iconst (-1), 1) := by decide +kernel
theorem dX12_row_26 : decode cX12_row 26 = .ok (.ireturn, 1) := by decide +kernel
theorem dX12_row_27 : decode cX12_row 27 = .ok (.iload_n 3, 1) := by decide +kernel
theorem dX12_row_28 : decode cX12_row 28 = .ok (.ifCond .ge 6, 3) := by decide +kernel
theorem dX12_row_31 : decode cX12_row 31 = .ok (.bipush (-14), 2) := by decide +kernel
theorem dX12_row_33 : decode cX12_row 33 = .ok (.ireturn, 1) := by decide +kernel
theorem dX12_row_34 : decode cX12_row 34 = .ok (.aload_n 0, 1) := by decide +kernel
theorem dX12_row_35 : decode cX12_row 35 = .ok (.getfield 19, 3) := by decide +kernel
theorem dX12_row_38 : decode cX12_row 38 = .ok (.iload_n 1, 1) := by decide +kernel
theorem dX12_row_39 : decode cX12_row 39 = .ok (.iconst 2, 1) := by decide +kernel
theorem dX12_row_40 : decode cX12_row 40 = .ok (.iastore, 1) := by decide +kernel
theorem dX12_row_41 : decode cX12_row 41 = .ok (.aload_n 0, 1) := by decide +kernel
theorem dX12_row_42 : decode cX12_row 42 = .ok (.getfield 22, 3) := by decide +kernel
theorem dX12_row_45 : decode cX12_row 45 = .ok (.iload_n 1, 1) := by decide +kernel
theorem dX12_row_46 : decode cX12_row 46 = .ok (.iload_n 2, 1) := by decide +kernel
theorem dX12_row_47 : decode cX12_row 47 = .ok (.iastore, 1) := by decide +kernel
theorem dX12_row_48 : decode cX12_row 48 = .ok (.aload_n 0, 1) := by decide +kernel
theorem dX12_row_49 : decode cX12_row 49 = .ok (.getfield 25, 3) := by decide +kernel
theorem dX12_row_52 : decode cX12_row 52 = .ok (.iload_n 1, 1) := by decide +kernel
theorem dX12_row_53 : decode cX12_row 53 = .ok (.iload_n 3, 1) := by decide +kernel
theorem dX12_row_54 : decode cX12_row 54 = .ok (.iastore, 1) := by decide +kernel
theorem dX12_row_55 : decode cX12_row 55 = .ok (.iconst 0, 1) := by decide +kernel
theorem dX12_row_56 : decode cX12_row 56 = .ok (.istore 4, 2) := by decide +kernel
theorem dX12_row_58 : decode cX12_row 58 = .ok (.iload 4, 2) := by decide +kernel
theorem dX12_row_60 : decode cX12_row 60 = .ok (.bipush 100, 2) := by decide +kernel
theorem dX12_row_62 : decode cX12_row 62 = .ok (.if_icmp .ge 22, 3) := by decide +kernel
theorem dX12_row_65 : decode cX12_row 65 = .ok (.aload_n 0, 1) := by decide +kernel
theorem dX12_row_66 : decode cX12_row 66 = .ok (.getfield 28, 3) := by decide +kernel
theorem dX12_row_69 : decode cX12_row 69 = .ok (.bipush 100, 2) := by decide +kernel
theorem dX12_row_71 : decode cX12_row 71 = .ok (.iload_n 1, 1) := by decide +kernel
theorem dX12_row_72 : decode cX12_row 72 = .ok (.imul, 1) := by decide +kernel
theorem dX12_row_73 : decode cX12_row 73 = .ok (.iload 4, 2) := by decide +kernel
theorem dX12_row_75 : decode cX12_row 75 = .ok (.iadd, 1) := by decide +kernel
theorem dX12_row_76 : decode cX12_row 76 = .ok (.iconst 0, 1) := by decide +kernel
theorem dX12_row_77 : decode cX12_row 77 = .ok (.iastore, 1) := by decide +kernel
theorem dX12_row_78 : decode cX12_row 78 = .ok (.iinc 4 1, 3) := by decide +kernel
theorem dX12_row_81 : decode cX12_row 81 = .ok (.goto (-23), 3) := by decide +kernel
theorem dX12_row_84 : decode cX12_row 84 = .ok (.iconst 0, 1) := by decide +kernel
theorem dX12_row_85 : decode cX12_row 85 = .ok (.ireturn, 1) := by decide +kernel
theorem dX12_put_0 : decode cX12_put 0 = .ok (.aload_n 0, 1) := by decide +kernel
theorem dX12_put_1 : decode cX12_put 1 = .ok (.iload_n 1, 1) := by decide +kernel
theorem dX12_put_2 : decode cX12_put 2 = .ok (.iconst (-1), 1) := by decide +kernel
theorem dX12_put_3 : decode cX12_put 3 = .ok (.invokevirtual 128, 3) := by decide +kernel
theorem dX12_put_6 : decode cX12_put 6 = .ok (.istore 4, 2) := by decide +kernel
theorem dX12_put_8 : decode cX12_put 8 = .ok (.iload 4, 2) := by decide +kernel
theorem dX12_put_10 : decode cX12_put 10 = .ok (.ifCond .eq 6, 3) := by decide +kernel
theorem dX12_put_13 : decode cX12_put 13 = .ok (.iload 4, 2) := by decide +kernel
theorem dX12_put_15 : decode cX12_put 15 = .ok (.ireturn, 1) := by decide +kernel
theorem dX12_put_16 : decode cX12_put 16 = .ok (.iload_n 2, 1) := by decide +kernel
theorem dX12_put_17 : decode cX12_put 17 = .ok (.i2l, 1) := by decide +kernel
theorem dX12_put_18 : decode cX12_put 18 = .ok (.lconst 0, 1) := by decide +kernel
theorem dX12_put_19 : decode cX12_put 19 = .ok (.aload_n 0, 1) := by decide +kernel
theorem dX12_put_20 : decode cX12_put 20 = .ok (.getfield 25, 3) := by decide +kernel
theorem dX12_put_23 : decode cX12_put 23 = .ok (.iload_n 1, 1) := by decide +kernel
theorem dX12_put_24 : decode cX12_put 24 = .ok (.iaload, 1) := by decide +kernel
theorem dX12_put_25 : decode cX12_put 25 = .ok (.iconst 1, 1) := by decide +kernel
theorem dX12_put_26 : decode cX12_put 26 = .ok (.isub, 1) := by decide +kernel
theorem dX12_put_27 : decode cX12_put 27 = .ok (.i2l, 1) := by decide +kernel
theorem dX12_put_28 : decode cX12_put 28 = .ok (.invokestatic 56, 3) := by decide +kernel
theorem dX12_put_31 : decode cX12_put 31 = .ok (.ifCond .ne 6, 3) := by decide +kernel
theorem dX12_put_34 : decode cX12_put 34 = .ok (.bipush (-13), 2) := by decide +kernel
theorem dX12_put_36 : decode cX12_put 36 = .ok (.ireturn, 1) := by decide +kernel
theorem dX12_put_37 : decode cX12_put 37 = .ok (.aload_n 0, 1) := by decide +kernel
theorem dX12_put_38 : decode cX12_put 38 = .ok (.getfield 28, 3) := by decide +kernel
theorem dX12_put_41 : decode cX12_put 41 = .ok (.bipush 100, 2) := by decide +kernel
theorem dX12_put_43 : decode cX12_put 43 = .ok (.iload_n 1, 1) := by decide +kernel
theorem dX12_put_44 : decode cX12_put 44 = .ok (.imul, 1) := by decide +kernel
theorem dX12_put_45 : decode cX12_put 45 = .ok (.iload_n 2, 1) := by decide +kernel
theorem dX12_put_46 : decode cX12_put 46 = .ok (.iadd, 1) := by decide +kernel
theorem dX12_put_47 : decode cX12_put 47 = .ok (.aload_n 0, 1) := by decide +kernel
theorem dX12_put_48 : decode cX12_put 48 = .ok (.getfield 22, 3) := by decide +kernel
theorem dX12_put_51 : decode cX12_put 51 = .ok (.iload_n 1, 1) := by decide +kernel
theorem dX12_put_52 : decode cX12_put 52 = .ok (.iaload, 1) := by decide +kernel
theorem dX12_put_53 : decode cX12_put 53 = .ok (.ifCond .ne 8, 3) := by decide +kernel
theorem dX12_put_56 : decode cX12_put 56 = .ok (.iload_n 3, 1) := by decide +kernel
theorem dX12_put_57 : decode cX12_put 57 = .ok (.i2b, 1) := by decide +kernel
theorem dX12_put_58 : decode cX12_put 58 = .ok (.goto 19, 3) := by decide +kernel
theorem dX12_put_61 : decode cX12_put 61 = .ok (.aload_n 0, 1) := by decide +kernel
theorem dX12_put_62 : decode cX12_put 62 = .ok (.getfield 22, 3) := by decide +kernel
theorem dX12_put_65 : decode cX12_put 65 = .ok (.iload_n 1, 1) := by decide +kernel
theorem dX12_put_66 : decode cX12_put 66 = .ok (.iaload, 1) := by decide +kernel
theorem dX12_put_67 : decode cX12_put 67 = .ok (.iconst 1, 1) := by decide +kernel
theorem dX12_put_68 : decode cX12_put 68 = .ok (.if_icmp .ne 8, 3) := by decide +kernel
theorem dX12_put_71 : decode cX12_put 71 = .ok (.iload_n 3, 1) := by decide +kernel
theorem dX12_put_72 : decode cX12_put 72 = .ok (.i2s, 1) := by decide +kernel
theorem dX12_put_73 : decode cX12_put 73 = .ok (.goto 4, 3) := by decide +kernel
theorem dX12_put_76 : decode cX12_put 76 = .ok (.iload_n 3, 1) := by decide +kernel
theorem dX12_put_77 : decode cX12_put 77 = .ok (.iastore, 1) := by decide +kernel
theorem dX12_put_78 : decode cX12_put 78 = .ok (.iconst 0, 1) := by decide +kernel
theorem dX12_put_79 : decode cX12_put 79 = .ok (.ireturn, 1) := by decide +kernel
theorem dX12_element_0 : decode cX12_element 0 = .ok (.aload_n 0, 1) := by decide +kernel
theorem dX12_element_1 : decode cX12_element 1 = .ok (.iload_n 1, 1) := by decide +kernel
theorem dX12_element_2 : decode cX12_element 2 = .ok (.invokestatic 125, 3) := by decide +kernel
theorem dX12_element_5 : decode cX12_element 5 = .ok (.ifCond .ne 7, 3) := by decide +kernel
theorem dX12_element_8 : decode cX12_element 8 = .ok (.iconst 1, 1) := by decide +kernel
theorem dX12_element_9 : decode cX12_element 9 = .ok (.goto 36, 3) := by decide +kernel
theorem dX12_element_12 : decode cX12_element 12 = .ok (.aload_n 0, 1) := by decide +kernel
theorem dX12_element_13 : decode cX12_element 13 = .ok (.getfield 19, 3) := by decide +kernel
theorem dX12_element_16 : decode cX12_element 16 = .ok (.iload_n 1, 1) := by decide +kernel
theorem dX12_element_17 : decode cX12_element 17 = .ok (.iaload, 1) := by decide +kernel
theorem dX12_element_18 : decode cX12_element 18 = .ok (.iconst 2, 1) := by decide +kernel
theorem dX12_element_19 : decode cX12_element 19 = .ok (.if_icmp .ne 21, 3) := by decide +kernel
theorem dX12_element_22 : decode cX12_element 22 = .ok (.iload_n 2, 1) := by decide +kernel
theorem dX12_element_23 : decode cX12_element 23 = .ok (.i2l, 1) := by decide +kernel
theorem dX12_element_24 : decode cX12_element 24 = .ok (.lconst 0, 1) := by decide +kernel
theorem dX12_element_25 : decode cX12_element 25 = .ok (.aload_n 0, 1) := by decide +kernel
theorem dX12_element_26 : decode cX12_element 26 = .ok (.getfield 25, 3) := by decide +kernel
theorem dX12_element_29 : decode cX12_element 29 = .ok (.iload_n 1, 1) := by decide +kernel
theorem dX12_element_30 : decode cX12_element 30 = .ok (.iaload, 1) := by decide +kernel
theorem dX12_element_31 : decode cX12_element 31 = .ok (.iconst 1, 1) := by decide +kernel
theorem dX12_element_32 : decode cX12_element 32 = .ok (.isub, 1) := by decide +kernel
theorem dX12_element_33 : decode cX12_element 33 = .ok (.i2l, 1) := by decide +kernel
theorem dX12_element_34 : decode cX12_element 34 = .ok (.invokestatic 56, 3) := by decide +kernel
theorem dX12_element_37 : decode cX12_element 37 = .ok (.ifCond .ne 7, 3) := by decide +kernel
theorem dX12_element_40 : decode cX12_element 40 = .ok (.iconst 2, 1) := by decide +kernel
theorem dX12_element_41 : decode cX12_element 41 = .ok (.goto 4, 3) := by decide +kernel
theorem dX12_element_44 : decode cX12_element 44 = .ok (.iconst 0, 1) := by decide +kernel
theorem dX12_element_45 : decode cX12_element 45 = .ok (.putfield 52, 3) := by decide +kernel
theorem dX12_element_48 : decode cX12_element 48 = .ok (.aload_n 0, 1) := by decide +kernel
theorem dX12_element_49 : decode cX12_element 49 = .ok (.getfield 52, 3) := by decide +kernel
theorem dX12_element_52 : decode cX12_element 52 = .ok (.ifCond .ne 18, 3) := by decide +kernel
theorem dX12_element_55 : decode cX12_element 55 = .ok (.aload_n 0, 1) := by decide +kernel
theorem dX12_element_56 : decode cX12_element 56 = .ok (.getfield 28, 3) := by decide +kernel
theorem dX12_element_59 : decode cX12_element 59 = .ok (.bipush 100, 2) := by decide +kernel
theorem dX12_element_61 : decode cX12_element 61 = .ok (.iload_n 1, 1) := by decide +kernel
theorem dX12_element_62 : decode cX12_element 62 = .ok (.imul, 1) := by decide +kernel
theorem dX12_element_63 : decode cX12_element 63 = .ok (.iload_n 2, 1) := by decide +kernel
theorem dX12_element_64 : decode cX12_element 64 = .ok (.iadd, 1) := by decide +kernel
theorem dX12_element_65 : decode cX12_element 65 = .ok (.iaload, 1) := by decide +kernel
theorem dX12_element_66 : decode cX12_element 66 = .ok (.i2l, 1) := by decide +kernel
theorem dX12_element_67 : decode cX12_element 67 = .ok (.goto 4, 3) := by decide +kernel
theorem dX12_element_70 : decode cX12_element 70 = .ok (.lconst 0, 1) := by decide +kernel
theorem dX12_element_71 : decode cX12_element 71 = .ok (.lreturn, 1) := by decide +kernel
theorem dX12_copy_0 : decode cX12_copy 0 = .ok (.iload_n 1, 1) := by decide +kernel
theorem dX12_copy_1 : decode cX12_copy 1 = .ok (.invokestatic 125, 3) := by decide +kernel
theorem dX12_copy_4 : decode cX12_copy 4 = .ok (.ifCond .eq 10, 3) := by decide +kernel
theorem dX12_copy_7 : decode cX12_copy 7 = .ok (.iload_n 3, 1) := by decide +kernel
theorem dX12_copy_8 : decode cX12_copy 8 = .ok (.invokestatic 125, 3) := by decide +kernel
theorem dX12_copy_11 : decode cX12_copy 11 = .ok (.ifCond .ne 5, 3) := by decide +kernel
theorem dX12_copy_14 : decode cX12_copy 14 = .ok (.iconst (-1), 1) := by decide +kernel
theorem dX12_copy_15 : decode cX12_copy 15 = .ok (.ireturn, 1) := by decide +kernel
theorem dX12_copy_16 : decode cX12_copy 16 = .ok (.aload_n 0, 1) := by decide +kernel
theorem dX12_copy_17 : decode cX12_copy 17 = .ok (.getfield 19, 3) := by decide +kernel
theorem dX12_copy_20 : decode cX12_copy 20 = .ok (.iload_n 1, 1) := by decide +kernel
theorem dX12_copy_21 : decode cX12_copy 21 = .ok (.iaload, 1) := by decide +kernel
theorem dX12_copy_22 : decode cX12_copy 22 = .ok (.ifCond .eq 12, 3) := by decide +kernel
theorem dX12_copy_25 : decode cX12_copy 25 = .ok (.aload_n 0, 1) := by decide +kernel
theorem dX12_copy_26 : decode cX12_copy 26 = .ok (.getfield 19, 3) := by decide +kernel
theorem dX12_copy_29 : decode cX12_copy 29 = .ok (.iload_n 3, 1) := by decide +kernel
theorem dX12_copy_30 : decode cX12_copy 30 = .ok (.iaload, 1) := by decide +kernel
theorem dX12_copy_31 : decode cX12_copy 31 = .ok (.ifCond .ne 6, 3) := by decide +kernel
theorem dX12_copy_34 : decode cX12_copy 34 = .ok (.bipush (-11), 2) := by decide +kernel
theorem dX12_copy_36 : decode cX12_copy 36 = .ok (.ireturn, 1) := by decide +kernel
theorem dX12_copy_37 : decode cX12_copy 37 = .ok (.aload_n 0, 1) := by decide +kernel
theorem dX12_copy_38 : decode cX12_copy 38 = .ok (.getfield 19, 3) := by decide +kernel
theorem dX12_copy_41 : decode cX12_copy 41 = .ok (.iload_n 1, 1) := by decide +kernel
theorem dX12_copy_42 : decode cX12_copy 42 = .ok (.iaload, 1) := by decide +kernel
theorem dX12_copy_43 : decode cX12_copy 43 = .ok (.iconst 2, 1) := by decide +kernel
theorem dX12_copy_44 : decode cX12_copy 44 = .ok (.if_icmp .ne 28, 3) := by decide +kernel
theorem dX12_copy_47 : decode cX12_copy 47 = .ok (.aload_n 0, 1) := by decide +kernel
theorem dX12_copy_48 : decode cX12_copy 48 = .ok (.getfield 19, 3) := by decide +kernel
theorem dX12_copy_51 : decode cX12_copy 51 = .ok (.iload_n 3, 1) := by decide +kernel
theorem dX12_copy_52 : decode cX12_copy 52 = .ok (.iaload, 1) := by decide +kernel
theorem dX12_copy_53 : decode cX12_copy 53 = .ok (.iconst 2, 1) := by decide +kernel
theorem dX12_copy_54 : decode cX12_copy 54 = .ok (.if_icmp .ne 18, 3) := by decide +kernel
theorem dX12_copy_57 : decode cX12_copy 57 = .ok (.aload_n 0, 1) := by decide +kernel
theorem dX12_copy_58 : decode cX12_copy 58 = .ok (.getfield 22, 3) := by decide +kernel
theorem dX12_copy_61 : decode cX12_copy 61 = .ok (.iload_n 1, 1) := by decide +kernel
theorem dX12_copy_62 : decode cX12_copy 62 = .ok (.iaload, 1) := by decide +kernel
theorem dX12_copy_63 : decode cX12_copy 63 = .ok (.aload_n 0, 1) := by decide +kernel
theorem dX12_copy_64 : decode cX12_copy 64 = .ok (.getfield 22, 3) := by decide +kernel
theorem dX12_copy_67 : decode cX12_copy 67 = .ok (.iload_n 3, 1) := by decide +kernel
theorem dX12_copy_68 : decode cX12_copy 68 = .ok (.iaload, 1) := by decide +kernel
theorem dX12_copy_69 : decode cX12_copy 69 = .ok (.if_icmp .eq 6, 3) := by decide +kernel
theorem dX12_copy_72 : decode cX12_copy 72 = .ok (.bipush (-12), 2) := by decide +kernel
theorem dX12_copy_74 : decode cX12_copy 74 = .ok (.ireturn, 1) := by decide +kernel
theorem dX12_copy_75 : decode cX12_copy 75 = .ok (.iload 5, 2) := by decide +kernel
theorem dX12_copy_77 : decode cX12_copy 77 = .ok (.ifCond .lt 39, 3) := by decide +kernel
theorem dX12_copy_80 : decode cX12_copy 80 = .ok (.iload_n 2, 1) := by decide +kernel
theorem dX12_copy_81 : decode cX12_copy 81 = .ok (.ifCond .lt 35, 3) := by decide +kernel
theorem dX12_copy_84 : decode cX12_copy 84 = .ok (.iload 4, 2) := by decide +kernel
theorem dX12_copy_86 : decode cX12_copy 86 = .ok (.ifCond .lt 30, 3) := by decide +kernel
theorem dX12_copy_89 : decode cX12_copy 89 = .ok (.iload 5, 2) := by decide +kernel
theorem dX12_copy_91 : decode cX12_copy 91 = .ok (.aload_n 0, 1) := by decide +kernel
theorem dX12_copy_92 : decode cX12_copy 92 = .ok (.getfield 25, 3) := by decide +kernel
theorem dX12_copy_95 : decode cX12_copy 95 = .ok (.iload_n 1, 1) := by decide +kernel
theorem dX12_copy_96 : decode cX12_copy 96 = .ok (.iaload, 1) := by decide +kernel
theorem dX12_copy_97 : decode cX12_copy 97 = .ok (.iload_n 2, 1) := by decide +kernel
theorem dX12_copy_98 : decode cX12_copy 98 = .ok (.isub, 1) := by decide +kernel
theorem dX12_copy_99 : decode cX12_copy 99 = .ok (.if_icmp .gt 17, 3) := by decide +kernel
theorem dX12_copy_102 : decode cX12_copy 102 = .ok (.iload 5, 2) := by decide +kernel
theorem dX12_copy_104 : decode cX12_copy 104 = .ok (.aload_n 0, 1) := by decide +kernel
theorem dX12_copy_105 : decode cX12_copy 105 = .ok (.getfield 25, 3) := by decide +kernel
theorem dX12_copy_108 : decode cX12_copy 108 = .ok (.iload_n 3, 1) := by decide +kernel
theorem dX12_copy_109 : decode cX12_copy 109 = .ok (.iaload, 1) := by decide +kernel
theorem dX12_copy_110 : decode cX12_copy 110 = .ok (.iload 4, 2) := by decide +kernel
theorem dX12_copy_112 : decode cX12_copy 112 = .ok (.isub, 1) := by decide +kernel
theorem dX12_copy_113 : decode cX12_copy 113 = .ok (.if_icmp .le 6, 3) := by decide +kernel
theorem dX12_copy_116 : decode cX12_copy 116 = .ok (.bipush (-13), 2) := by decide +kernel
theorem dX12_copy_118 : decode cX12_copy 118 = .ok (.ireturn, 1) := by decide +kernel
theorem dX12_copy_119 : decode cX12_copy 119 = .ok (.iconst 0, 1) := by decide +kernel
theorem dX12_copy_120 : decode cX12_copy 120 = .ok (.istore 6, 2) := by decide +kernel
theorem dX12_copy_122 : decode cX12_copy 122 = .ok (.iload 6, 2) := by decide +kernel
theorem dX12_copy_124 : decode cX12_copy 124 = .ok (.iload 5, 2) := by decide +kernel
theorem dX12_copy_126 : decode cX12_copy 126 = .ok (.if_icmp .ge 58, 3) := by decide +kernel
theorem dX12_copy_129 : decode cX12_copy 129 = .ok (.iload_n 2, 1) := by decide +kernel
theorem dX12_copy_130 : decode cX12_copy 130 = .ok (.iload 4, 2) := by decide +kernel
theorem dX12_copy_132 : decode cX12_copy 132 = .ok (.if_icmp .le 8, 3) := by decide +kernel
theorem dX12_copy_135 : decode cX12_copy 135 = .ok (.iload 6, 2) := by decide +kernel
theorem dX12_copy_137 : decode cX12_copy 137 = .ok (.goto 10, 3) := by decide +kernel
theorem dX12_copy_140 : decode cX12_copy 140 = .ok (.iload 5, 2) := by decide +kernel
theorem dX12_copy_142 : decode cX12_copy 142 = .ok (.iconst 1, 1) := by decide +kernel
theorem dX12_copy_143 : decode cX12_copy 143 = .ok (.isub, 1) := by decide +kernel
theorem dX12_copy_144 : decode cX12_copy 144 = .ok (.iload 6, 2) := by decide +kernel
theorem dX12_copy_146 : decode cX12_copy 146 = .ok (.isub, 1) := by decide +kernel
theorem dX12_copy_147 : decode cX12_copy 147 = .ok (.istore 7, 2) := by decide +kernel
theorem dX12_copy_149 : decode cX12_copy 149 = .ok (.aload_n 0, 1) := by decide +kernel
theorem dX12_copy_150 : decode cX12_copy 150 = .ok (.getfield 28, 3) := by decide +kernel
theorem dX12_copy_153 : decode cX12_copy 153 = .ok (.bipush 100, 2) := by decide +kernel
theorem dX12_copy_155 : decode cX12_copy 155 = .ok (.iload_n 3, 1) := by decide +kernel
theorem dX12_copy_156 : decode cX12_copy 156 = .ok (.imul, 1) := by decide +kernel
theorem dX12_copy_157 : decode cX12_copy 157 = .ok (.iload 4, 2) := by decide +kernel
theorem dX12_copy_159 : decode cX12_copy 159 = .ok (.iadd, 1) := by decide +kernel
theorem dX12_copy_160 : decode cX12_copy 160 = .ok (.iload 7, 2) := by decide +kernel
theorem dX12_copy_162 : decode cX12_copy 162 = .ok (.iadd, 1) := by decide +kernel
theorem dX12_copy_163 : decode cX12_copy 163 = .ok (.aload_n 0, 1) := by decide +kernel
theorem dX12_copy_164 : decode cX12_copy 164 = .ok (.getfield 28, 3) := by decide +kernel
theorem dX12_copy_167 : decode cX12_copy 167 = .ok (.bipush 100, 2) := by decide +kernel
theorem dX12_copy_169 : decode cX12_copy 169 = .ok (.iload_n 1, 1) := by decide +kernel
theorem dX12_copy_170 : decode cX12_copy 170 = .ok (.imul, 1) := by decide +kernel
theorem dX12_copy_171 : decode cX12_copy 171 = .ok (.iload_n 2, 1) := by decide +kernel
theorem dX12_copy_172 : decode cX12_copy 172 = .ok (.iadd, 1) := by decide +kernel
theorem dX12_copy_173 : decode cX12_copy 173 = .ok (.iload 7, 2) := by decide +kernel
theorem dX12_copy_175 : decode cX12_copy 175 = .ok (.iadd, 1) := by decide +kernel
theorem dX12_copy_176 : decode cX12_copy 176 = .ok (.iaload, 1) := by decide +kernel
theorem dX12_copy_177 : decode cX12_copy 177 = .ok (.iastore, 1) := by decide +kernel
theorem dX12_copy_178 : decode cX12_copy 178 = .ok (.iinc 6 1, 3) := by decide +kernel
theorem dX12_copy_181 : decode cX12_copy 181 = .ok (.goto (-59), 3) := by decide +kernel
theorem dX12_copy_184 : decode cX12_copy 184 = .ok (.iload 5, 2) := by decide +kernel
theorem dX12_copy_186 : decode cX12_copy 186 = .ok (.ireturn, 1) := by decide +kernel
theorem dX12_wrongKept_0 : decode cX12_wrongKept 0 = .ok (.iload_n 1, 1) := by decide +kernel
theorem dX12_wrongKept_1 : decode cX12_wrongKept 1 = .ok (.invokestatic 125, 3) := by decide +kernel
theorem dX12_wrongKept_4 : decode cX12_wrongKept 4 = .ok (.ifCond .ne 7, 3) := by decide +kernel
theorem dX12_wrongKept_7 : decode cX12_wrongKept 7 = .ok (.iconst (-1), 1) := by decide +kernel
theorem dX12_wrongKept_8 : decode cX12_wrongKept 8 = .ok (.goto 33, 3) := by decide +kernel
theorem dX12_wrongKept_11 : decode cX12_wrongKept 11 = .ok (.aload_n 0, 1) := by decide +kernel
theorem dX12_wrongKept_12 : decode cX12_wrongKept 12 = .ok (.getfield 19, 3) := by decide +kernel
theorem dX12_wrongKept_15 : decode cX12_wrongKept 15 = .ok (.iload_n 1, 1) := by decide +kernel
theorem dX12_wrongKept_16 : decode cX12_wrongKept 16 = .ok (.iaload, 1) := by decide +kernel
theorem dX12_wrongKept_17 : decode cX12_wrongKept 17 = .ok (.ifCond .ne 8, 3) := by decide +kernel
theorem dX12_wrongKept_20 : decode cX12_wrongKept 20 = .ok (.bipush (-11), 2) := by decide +kernel
theorem dX12_wrongKept_22 : decode cX12_wrongKept 22 = .ok (.goto 19, 3) := by decide +kernel
theorem dX12_wrongKept_25 : decode cX12_wrongKept 25 = .ok (.aload_n 0, 1) := by decide +kernel
theorem dX12_wrongKept_26 : decode cX12_wrongKept 26 = .ok (.getfield 19, 3) := by decide +kernel
theorem dX12_wrongKept_29 : decode cX12_wrongKept 29 = .ok (.iload_n 1, 1) := by decide +kernel
theorem dX12_wrongKept_30 : decode cX12_wrongKept 30 = .ok (.iaload, 1) := by decide +kernel
theorem dX12_wrongKept_31 : decode cX12_wrongKept 31 = .ok (.iconst 1, 1) := by decide +kernel
theorem dX12_wrongKept_32 : decode cX12_wrongKept 32 = .ok (.if_icmp .ne 7, 3) := by decide +kernel
theorem dX12_wrongKept_35 : decode cX12_wrongKept 35 = .ok (.iconst 0, 1) := by decide +kernel
theorem dX12_wrongKept_36 : decode cX12_wrongKept 36 = .ok (.goto 5, 3) := by decide +kernel
theorem dX12_wrongKept_39 : decode cX12_wrongKept 39 = .ok (.bipush (-12), 2) := by decide +kernel
theorem dX12_wrongKept_41 : decode cX12_wrongKept 41 = .ok (.ireturn, 1) := by decide +kernel
theorem dX12_care_0 : decode cX12_care 0 = .ok (.aload_n 0, 1) := by decide +kernel
theorem dX12_care_1 : decode cX12_care 1 = .ok (.iload_n 1, 1) := by decide +kernel
theorem dX12_care_2 : decode cX12_care 2 = .ok (.invokevirtual 325, 3) := by decide +kernel
theorem dX12_care_5 : decode cX12_care 5 = .ok (.istore_n 2, 1) := by decide +kernel
theorem dX12_care_6 : decode cX12_care 6 = .ok (.iload_n 2, 1) := by decide +kernel
theorem dX12_care_7 : decode cX12_care 7 = .ok (.ifCond .eq 7, 3) := by decide +kernel
theorem dX12_care_10 : decode cX12_care 10 = .ok (.iload_n 2, 1) := by decide +kernel
theorem dX12_care_11 : decode cX12_care 11 = .ok (.goto 9, 3) := by decide +kernel
theorem dX12_care_14 : decode cX12_care 14 = .ok (.aload_n 0, 1) := by decide +kernel
theorem dX12_care_15 : decode cX12_care 15 = .ok (.getfield 31, 3) := by decide +kernel
theorem dX12_care_18 : decode cX12_care 18 = .ok (.iload_n 1, 1) := by decide +kernel
theorem dX12_care_19 : decode cX12_care 19 = .ok (.iaload, 1) := by decide +kernel
theorem dX12_care_20 : decode cX12_care 20 = .ok (.ireturn, 1) := by decide +kernel
theorem dX12_toss_0 : decode cX12_toss 0 = .ok (.aload_n 0, 1) := by decide +kernel
theorem dX12_toss_1 : decode cX12_toss 1 = .ok (.iload_n 1, 1) := by decide +kernel
theorem dX12_toss_2 : decode cX12_toss 2 = .ok (.invokevirtual 325, 3) := by decide +kernel
theorem dX12_toss_5 : decode cX12_toss 5 = .ok (.istore_n 2, 1) := by decide +kernel
theorem dX12_toss_6 : decode cX12_toss 6 = .ok (.iload_n 2, 1) := by decide +kernel
theorem dX12_toss_7 : decode cX12_toss 7 = .ok (.ifCond .eq 7, 3) := by decide +kernel
theorem dX12_toss_10 : decode cX12_toss 10 = .ok (.iload_n 2, 1) := by decide +kernel
theorem dX12_toss_11 : decode cX12_toss 11 = .ok (.goto 9, 3) := by decide +kernel
theorem dX12_toss_14 : decode cX12_toss 14 = .ok (.aload_n 0, 1) := by decide +kernel
theorem dX12_toss_15 : decode cX12_toss 15 = .ok (.getfield 34, 3) := by decide +kernel
theorem dX12_toss_18 : decode cX12_toss 18 = .ok (.iload_n 1, 1) := by decide +kernel
theorem dX12_toss_19 : decode cX12_toss 19 = .ok (.iaload, 1) := by decide +kernel
theorem dX12_toss_20 : decode cX12_toss 20 = .ok (.ireturn, 1) := by decide +kernel
end
section
/-! ===== BEGIN exceptions that leave a method, and their catching by the caller (launches without stack traces) ===== -/
section VXA
/-! The laws vx_back, vx_callV, vx_callS, vx_callSW, vx_throw0, vx_throwS follow proofs of the library, with one case more: JvmDerived/Free/Laws.lean (Back.of_free), Shelf42/LK1.lean (callV, callS), Shelf/KitTraced.lean (throwNew0V, throwNewS). -/
/-- where a method has thrown q: the class by its name, the cell, what was written, the world -/
def vx_T (XC : String → State → State → Prop) (st : State) (q : Addr) (t : State) (mc ms : Nat) (free : Addr → Prop) : Prop :=
  ∃ (E : String) (ce : Cell) (L : List Loc), XC E st t ∧ t.heap[q]? = some ce ∧ ce.vm = .none ∧ st.vm.findClass E = some ce.cls ∧ st.WarmedH t.vm ∧ st.sameButNew ({ t with vm := st.vm } : State) L mc ms ∧ ∀ z ∈ L, free z.base
def vx_Q (Qc : Array Value → State → Outcome → State → Prop) (XC : String → State → State → Prop) (mc ms : Nat) (free : Addr → Prop) : Array Value → State → Outcome → State → Prop := fun a st o t =>
  (Qc a st o t ∧ ∃ L, FrameEnd st o t L mc ms ∧ ∀ q ∈ L, free q.base) ∨ ∃ q, o = .threw q ∧ vx_T XC st q t mc ms free
/-- a callee that returns or throws -/
def vx_Met (l : Launch) (y : MethodName) (ws : List Cond) (rm : Room) (Pc : Array Value → State → Prop) (Qc : Array Value → State → Outcome → State → Prop) (XC : String → State → State → Prop) (mc ms : Nat) (free : Addr → Prop) : Prop :=
  MetFree l y (headSpec ws rm) Pc (fun _ _ _ _ _ => True) (vx_Q Qc XC mc ms free)
def vx_Post (XC : String → State → State → Prop) (mc ms : Nat) (free : Addr → Prop) : Pt → Array Value → Addr → Pt → Prop := fun A a q B =>
  ∃ (g : JFrame) (mk : MethodId) (t : State) (L : List Loc) (E : String) (ce : Cell), B.U.heap = t.heap ∧ B.U.vm = t.vm ∧ XC E (A.U.calling g mk a) t ∧ t.heap[q]? = some ce ∧ ce.vm = .none ∧ A.U.vm.findClass E = some ce.cls ∧ B.locs = A.locs ++ L ∧ (∀ z ∈ L, free z.base) ∧ B.cells = A.cells + mc ∧ B.slots = A.slots + ms
def vx_Back (l : Launch) (R : Room) (p : Program) (e : Env) (below : List Frame) (s : State) (sargs : Array Value) (y : MethodName) (len W9 : Nat)
    (Pre : Pt → Array Value → Prop) (Post : Pt → Array Value → Option Value → Pt → Prop) (PostX : Pt → Array Value → Addr → Pt → Prop) : Prop :=
  ∀ (m : MethodId) (meth : Method) (c : Code) (A : Pt) (g : JFrame) (ig : Instr) (mk : MethodId) (a : Array Value),
    Stand p l e R s m sargs below meth c A.U A.locs A.cells A.slots → g.method = m → g.locals.size = c.maxLocals → decode c.code g.pc = .ok (ig, len) →
    2 * g.monitorRoom + (g.stack.map fun v => v.category).sum ≤ W9 → A.U.methodNamed? y = some mk → Pre A a →
    (∃ (v : Option Value) (B : Pt), Stand p l e R s m sargs below meth c B.U B.locs B.cells B.slots ∧ Post A a v B ∧
      Steps p.tables e below (doInvoke e (A.U.setTop g) [] mk a).1 (B.U.setTop { g with pc := g.pc + len, stack := v.toList ++ g.stack })) ∨
    (∃ (q : Addr) (B : Pt), Stand p l e R s m sargs below meth c B.U B.locs B.cells B.slots ∧ PostX A a q B ∧
      Steps p.tables e below (doInvoke e (A.U.setTop g) [] mk a).1 ((B.U.setTop g).pushFrame (.throwing q)))
section Payer
variable {l : Launch} {R : Room} {p : Program} {e : Env} {below : List Frame} {s : State} {sargs : Array Value} {y : MethodName} {len W9 : Nat}
theorem vx_back {ws : List Cond} {rm : Room} {Pc : Array Value → State → Prop} {Qc : Array Value → State → Outcome → State → Prop} {XC : String → State → State → Prop} {mc ms : Nat} {free : Addr → Prop} {bytes : ByteArray} {maxL : Nat} {ret : Option FieldType}
    (hM : vx_Met l y ws rm Pc Qc XC mc ms free) (hblind : FrameBlind Pc) (hrc : rm.cells = mc) (hrs : rm.slots = ms)
    (hframes : rm.frames + 1 ≤ R.frames) (hlocals : W9 + (maxL + 11) + rm.locals ≤ R.locals)
    (hws : ∀ w ∈ ws, ∀ a' U, s.WarmedH U.vm → w.before a' U = true) (hcode : Cond.code y bytes maxL ret ∈ ws) (hinit : ∀ a' U, s.WarmedH U.vm → (Cond.initialized y.cls).before a' U = true) :
    vx_Back l R p e below s sargs y len W9 (PreOf R mc ms Pc) (PostOf Qc mc ms free) (vx_Post XC mc ms free) := by
  intro m meth c A g ig mk a X hg hsize hdg hW hn hp
  have h1 : (headSpec ws rm).pre.before a A.U = true := atoms_intro fun w hw => hws w hw _ _ X.warmed
  have h2 : (Cond.code y bytes maxL ret).before a A.U = true := hws _ hcode _ _ X.warmed
  have h3 : (Cond.initialized y.cls).before a A.U = true := hinit _ _ X.warmed
  have h4 : A.cells + (headSpec ws rm).room.cells ≤ R.cells := by rw [show (headSpec ws rm).room.cells = mc from hrc]; exact hp.1
  have h5 : A.slots + (headSpec ws rm).room.slots ≤ R.slots := by rw [show (headSpec ws rm).room.slots = ms from hrs]; exact hp.2.1
  have hPc : Pc a (A.U.calling g mk a) := hblind _ _ _ _ hp.2.2
  obtain ⟨U, Ls, c0, s0⟩ := A
  dsimp only [Pt.U, Pt.locs, Pt.cells, Pt.slots] at h1 h2 h3 h4 h5 X hn hPc ⊢
  obtain ⟨methY, cY, hmY, hcY, -, hlY, -, -, -, -⟩ := Cond.code_spec hn h2
  obtain ⟨kY, hkY, -⟩ := className_of_methodNamed hn
  have hinitY : kY.init = .initialized := Cond.initialized_spec (findClass_of_methodNamed hn) hkY h3
  have h : At U g.method c below := by rw [hg]; exact X.here
  have hlocals9 : W9 + (maxL + 11) + (headSpec ws rm).room.locals ≤ R.locals := hlocals
  have happ : (headSpec ws rm).appliesLoose y e.platform (U.calling g mk a) = true :=
    Spec.appliesLoose_calling (g := g) h hdg hn hkY hinitY
      (X.room_calling (g := g) (R' := (headSpec ws rm).room) hsize hmY hcY hframes (by rw [hlY]; omega) h4 h5) h1
  obtain ⟨mid, hmid⟩ := h.above
  have hfr : (U.setTop g).frames = (.java g :: mid) ++ below := by rw [State.frames_setTop' g h.top, hmid]; rfl
  obtain ⟨o, s₂, hsteps, -, hend, hq⟩ := Steps.callFree hM p X.admits X.cas X.clock (acts := []) hfr happ hPc trivial
  have hq' : vx_Q Qc XC mc ms free a (U.calling g mk a) o s₂ := hq
  rw [State.frames_setTop' g h.top] at hend
  obtain ⟨g₀, hg0⟩ := Option.isSome_iff_exists.mp h.top
  obtain ⟨r, hr⟩ := State.topJava?_eq_some.mp hg0
  have hr' : (({ U with heap := s₂.heap, slotsUsed := s₂.slotsUsed } : State).setVm s₂.vm).frames = .java g₀ :: r := hr
  rcases hq' with ⟨hqc, L, hfe, hL⟩ | ⟨q, rfl, E, ce, L, hx, hce, hcv, hcl, hW₂, hsm, hL⟩
  · obtain ⟨⟨v, rfl⟩, hW₂, e2, q2, q3, q4, q5, q6⟩ := id hfe
    have e3 : s₂ = ({ (U.calling g mk a).setFrames s₂.frames with heap := s₂.heap, slotsUsed := s₂.slotsUsed } : State).setVm s₂.vm := by
      have : s₂ = ({ s₂ with vm := (U.calling g mk a).vm } : State).setVm s₂.vm := rfl
      rw [e2] at this
      exact this
    obtain ⟨c₂, i₂, len₂, hc₂, hd₂, hf₂⟩ := hend
    have hW' : U.WarmedH s₂.vm := hW₂
    have hcc : c₂ = c := by
      have h1 : s₂.code? g.method = U.code? g.method := by
        rw [State.code?_eq, State.code?_eq, hW'.alike.method?]
      exact Option.some.inj (hc₂.symm.trans (h1.trans h.code))
    subst hcc
    have hlen : len₂ = len := by rw [hdg] at hd₂; cases hd₂; rfl
    subst hlen
    have hs₂ : s₂ = (({ U with heap := s₂.heap, slotsUsed := s₂.slotsUsed } : State).setVm s₂.vm).setTop { g with pc := g.pc + len₂, stack := v.toList ++ g.stack } := by
      refine e3.trans ?_
      rw [hf₂, State.calling_eq h.top, State.setFrames_setFrames, State.setTop_of_frames _ hr', hr]
      rfl
    have hsame : U.sameButNew ({ U with heap := s₂.heap, slotsUsed := s₂.slotsUsed } : State) L mc ms := by
      refine ⟨?_, q2, q3, q4, q5, q6⟩
      obtain ⟨t, ht, -⟩ := State.frames_cons hr
      show ({ U with heap := s₂.heap, slotsUsed := s₂.slotsUsed } : State) = { U.setFrames U.frames with heap := s₂.heap, slotsUsed := s₂.slotsUsed }
      rw [State.setFrames_self ht]
    subst hg
    refine Or.inl ⟨v, ⟨(({ U with heap := s₂.heap, slotsUsed := s₂.slotsUsed } : State).setVm s₂.vm), Ls ++ L, c0 + mc, s0 + ms⟩,
      ⟨X.admits, X.cas, X.clock, X.frames, X.room, X.hears, X.method, X.code, (X.here.setHeapUsed s₂.heap s₂.slotsUsed).setVm hW'.alike, X.tail, State.WarmedH.trans X.warmed hW', X.limits, X.bytes, X.same.trans (hsame.setVm s.vm)⟩,
      ⟨g, mk, s₂, L, rfl, rfl, hqc, rfl, hL, rfl, rfl⟩, ?_⟩
    show Steps p.tables e below _ ((({ U with heap := s₂.heap, slotsUsed := s₂.slotsUsed } : State).setVm s₂.vm).setTop { g with pc := g.pc + len₂, stack := v.toList ++ g.stack })
    rw [← hs₂]
    exact hsteps
  · obtain ⟨e2, q2, q3, q4, q5, q6⟩ := id hsm
    have e3 : s₂ = ({ (U.calling g mk a).setFrames s₂.frames with heap := s₂.heap, slotsUsed := s₂.slotsUsed } : State).setVm s₂.vm := by
      have : s₂ = ({ s₂ with vm := (U.calling g mk a).vm } : State).setVm s₂.vm := rfl
      rw [e2] at this
      exact this
    have hf₂ : s₂.frames = .throwing q :: .java g :: U.frames.tail := hend
    have hW' : U.WarmedH s₂.vm := hW₂
    have hs₂ : s₂ = ((({ U with heap := s₂.heap, slotsUsed := s₂.slotsUsed } : State).setVm s₂.vm).setTop g).pushFrame (.throwing q) := by
      refine e3.trans ?_
      rw [hf₂, State.calling_eq h.top, State.setFrames_setFrames, State.pushFrame, State.frames_setTop _ hr', State.setTop_of_frames _ hr', State.setFrames_setFrames, hr]
      rfl
    have hsame : U.sameButNew ({ U with heap := s₂.heap, slotsUsed := s₂.slotsUsed } : State) L mc ms := by
      refine ⟨?_, q2, q3, q4, q5, q6⟩
      obtain ⟨t, ht, -⟩ := State.frames_cons hr
      show ({ U with heap := s₂.heap, slotsUsed := s₂.slotsUsed } : State) = { U.setFrames U.frames with heap := s₂.heap, slotsUsed := s₂.slotsUsed }
      rw [State.setFrames_self ht]
    subst hg
    refine Or.inr ⟨q, ⟨(({ U with heap := s₂.heap, slotsUsed := s₂.slotsUsed } : State).setVm s₂.vm), Ls ++ L, c0 + mc, s0 + ms⟩,
      ⟨X.admits, X.cas, X.clock, X.frames, X.room, X.hears, X.method, X.code, (X.here.setHeapUsed s₂.heap s₂.slotsUsed).setVm hW'.alike, X.tail, State.WarmedH.trans X.warmed hW', X.limits, X.bytes, X.same.trans (hsame.setVm s.vm)⟩,
      ⟨g, mk, s₂, L, E, ce, rfl, rfl, hx, hce, hcv, hcl, rfl, hL, rfl, rfl⟩, ?_⟩
    show Steps p.tables e below _ (((({ U with heap := s₂.heap, slotsUsed := s₂.slotsUsed } : State).setVm s₂.vm).setTop g).pushFrame (.throwing q))
    rw [← hs₂]
    exact hsteps
end Payer
section Calls
variable {p : Program} {l : Launch} {e : Env} {R : Room} {s : State} {m : MethodId} {args : Array Value} {below : List Frame} {meth : Method} {c : Code} {T : State} {locs : List Loc} {cells slots : Nat}
theorem vx_callV (X : Stand p l e R s m args below meth c T locs cells slots) (hexec : p.tables.exec = Jvm.exec) {own C : String} {index : Nat} {y : MethodName} {bytes : ByteArray} {maxL : Nat} {ret : Option FieldType}
    (hown : s.vm.findClass own = some m.cls) (hlink : (Cond.methodLink own index y).before args s = true) (hinst : (Cond.instanceMethod y).before args s = true) (hsel : (Cond.selects C y y).before args s = true)
    (hcode : (Cond.code y bytes maxL ret).before args s = true) (hy : y.cls ≠ "java/lang/invoke/MethodHandle" ∧ y.cls ≠ "java/lang/invoke/VarHandle")
    {W9 : Nat} {Pre : Pt → Array Value → Prop} {Post : Pt → Array Value → Option Value → Pt → Prop} {PostX : Pt → Array Value → Addr → Pt → Prop} (hK : vx_Back l R p e below s args y 3 W9 Pre Post PostX)
    {b : Addr} {cellB : Cell} (hcell : T.heap[b]? = some cellB) (hobj : cellB.vm.isStatics = false) (hcls : s.vm.findClass C = some cellB.cls)
    {g : JFrame} (hg : g.method = m) (hsize : g.locals.size = c.maxLocals) {argsL rest : List Value} (hlen : ∀ sig, parseMethodDescriptor y.desc = some sig → argsL.length = sig.parameters.length)
    (hstack : g.stack = argsL.reverse ++ .ref b :: rest) (hW : 2 * g.monitorRoom + (rest.map fun v => v.category).sum ≤ W9) (hdg : decode c.code g.pc = .ok (.invokevirtual index, 3))
    (hpre : ∀ vm₁, s.WarmedH vm₁ → Pre ⟨T.setVm vm₁, locs, cells, slots⟩ (Value.ref b :: argsL).toArray) :
    (∃ (v : Option Value) (vm₁ : Vm) (B : Pt), s.WarmedH vm₁ ∧ Stand p l e R s m args below meth c B.U B.locs B.cells B.slots ∧ Post ⟨T.setVm vm₁, locs, cells, slots⟩ (Value.ref b :: argsL).toArray v B ∧
      ∀ target, Steps p.tables e below (B.U.setTop { g with pc := g.pc + 3, stack := v.toList ++ rest }) target → Steps p.tables e below (T.setTop g) target) ∨
    (∃ (q : Addr) (vm₁ : Vm) (B : Pt), s.WarmedH vm₁ ∧ Stand p l e R s m args below meth c B.U B.locs B.cells B.slots ∧ PostX ⟨T.setVm vm₁, locs, cells, slots⟩ (Value.ref b :: argsL).toArray q B ∧
      Steps p.tables e below (T.setTop g) ((B.U.setTop { g with stack := rest }).pushFrame (.throwing q))) := by
  obtain ⟨mk, methM, hnamed, hmethM, hstM, habM⟩ := Cond.instanceMethod_spec hinst
  obtain ⟨methM', cM, hmethM', -, -, -, -, -, -, hsigM⟩ := Cond.code_spec hnamed hcode
  cases hmethM.symm.trans hmethM'
  obtain ⟨c2, r2, m2, q1, q2, q3, q4, kP, hkP, hkPi⟩ := Cond.selects_spec hsel
  cases hcls.symm.trans q1
  cases (State.methodFound?_of_named hnamed hy).symm.trans q2
  cases hnamed.symm.trans q3
  have hselP : selectMethod e.platform s.vm cellB.cls mk = .method mk := by rw [Launch.admits_selectMethod X.admits]; exact q4
  obtain ⟨vm₁, X₁, hstep₁⟩ := X.invokevirtual hexec hown hlink hnamed hmethM hstM hkP hkPi hy (a := b) (cell := cellB) hcell
    (fun z h => by rw [h] at hobj; cases hobj) hselP hmethM habM hkP hkPi (g := g) hg (argsL := argsL) (rest := rest) (hlen _ hsigM) hstack hdg
  rcases hK m meth c ⟨T.setVm vm₁, locs, cells, slots⟩ { g with stack := rest } (.invokevirtual index) mk (Value.ref b :: argsL).toArray X₁ hg hsize hdg hW (X₁.named hnamed) (hpre vm₁ X₁.warmed) with ⟨v, B, X', hpost, hsteps⟩ | ⟨q, B, X', hpost, hsteps⟩
  · exact Or.inl ⟨v, vm₁, B, X₁.warmed, X', hpost, fun target h => hstep₁ _ fun acts => by rw [doInvoke_state]; exact hsteps.trans h⟩
  · exact Or.inr ⟨q, vm₁, B, X₁.warmed, X', hpost, hstep₁ _ fun acts => by rw [doInvoke_state]; exact hsteps⟩
theorem vx_callS (X : Stand p l e R s m args below meth c T locs cells slots) (hexec : p.tables.exec = Jvm.exec) {own : String} {index : Nat} {y : MethodName} {bytes : ByteArray} {maxL : Nat} {ret : Option FieldType}
    (hown : s.vm.findClass own = some m.cls) (hlink : (Cond.methodLink own index y).before args s = true) (hstat : (Cond.static y).before args s = true) (hinit : (Cond.initialized y.cls).before args s = true)
    (hcode : (Cond.code y bytes maxL ret).before args s = true) (hy : y.cls ≠ "java/lang/invoke/MethodHandle" ∧ y.cls ≠ "java/lang/invoke/VarHandle")
    {W9 : Nat} {Pre : Pt → Array Value → Prop} {Post : Pt → Array Value → Option Value → Pt → Prop} {PostX : Pt → Array Value → Addr → Pt → Prop} (hK : vx_Back l R p e below s args y 3 W9 Pre Post PostX)
    {g : JFrame} (hg : g.method = m) (hsize : g.locals.size = c.maxLocals) {argsL rest : List Value} (hlen : ∀ sig, parseMethodDescriptor y.desc = some sig → argsL.length = sig.parameters.length)
    (hstack : g.stack = argsL.reverse ++ rest) (hW : 2 * g.monitorRoom + (rest.map fun v => v.category).sum ≤ W9) (hdg : decode c.code g.pc = .ok (.invokestatic index, 3))
    (hpre : ∀ vm₁, s.WarmedH vm₁ → Pre ⟨T.setVm vm₁, locs, cells, slots⟩ argsL.toArray) :
    (∃ (v : Option Value) (vm₁ : Vm) (B : Pt), s.WarmedH vm₁ ∧ Stand p l e R s m args below meth c B.U B.locs B.cells B.slots ∧ Post ⟨T.setVm vm₁, locs, cells, slots⟩ argsL.toArray v B ∧
      ∀ target, Steps p.tables e below (B.U.setTop { g with pc := g.pc + 3, stack := v.toList ++ rest }) target → Steps p.tables e below (T.setTop g) target) ∨
    (∃ (q : Addr) (vm₁ : Vm) (B : Pt), s.WarmedH vm₁ ∧ Stand p l e R s m args below meth c B.U B.locs B.cells B.slots ∧ PostX ⟨T.setVm vm₁, locs, cells, slots⟩ argsL.toArray q B ∧
      Steps p.tables e below (T.setTop g) ((B.U.setTop { g with stack := rest }).pushFrame (.throwing q))) := by
  obtain ⟨mk, hnamed⟩ := Cond.code_named hcode
  obtain ⟨methM, cM, hmethM, -, -, -, -, -, -, hsigM⟩ := Cond.code_spec hnamed hcode
  have hstatic : methM.isStatic = true := Cond.static_spec hnamed hmethM hstat
  obtain ⟨kP, hkP, -⟩ := className_of_methodNamed hnamed
  have hinitP : kP.init = .initialized := Cond.initialized_spec (findClass_of_methodNamed hnamed) hkP hinit
  obtain ⟨vm₁, X₁, hstep₁⟩ := X.invokestatic hexec hown hlink hnamed hmethM hstatic hkP hinitP hy (g := g) hg (argsL := argsL) (rest := rest) (hlen _ hsigM) hstack hdg
  rcases hK m meth c ⟨T.setVm vm₁, locs, cells, slots⟩ { g with stack := rest } (.invokestatic index) mk argsL.toArray X₁ hg hsize hdg hW (X₁.named hnamed) (hpre vm₁ X₁.warmed) with ⟨v, B, X', hpost, hsteps⟩ | ⟨q, B, X', hpost, hsteps⟩
  · exact Or.inl ⟨v, vm₁, B, X₁.warmed, X', hpost, fun target h => hstep₁ _ fun acts => by rw [doInvoke_state]; exact hsteps.trans h⟩
  · exact Or.inr ⟨q, vm₁, B, X₁.warmed, X', hpost, hstep₁ _ fun acts => by rw [doInvoke_state]; exact hsteps⟩
end Calls
theorem vx_cls {s : State} {T : State} {vm₁ : Vm} {E : String} {k : ClassId} (hW : s.WarmedH vm₁) (h : (T.setVm vm₁).vm.findClass E = some k) : s.vm.findClass E = some k := by
  have h1 : vm₁.findClass E = some k := h
  rw [hW.alike.findClass] at h1
  exact h1
/-- the method's frame g, with q thrown over it -/
def vx_W (p : Program) (l : Launch) (e : Env) (R : Room) (s : State) (m : MethodId) (args : Array Value) (below : List Frame) (meth : Method) (c : Code) (H : Heap) (locs : List Loc) (cells slots : Nat) (Q : State → Prop) (g : JFrame) (q : Addr) : Prop :=
  ∀ T : State, T.heap = H → Stand p l e R s m args below meth c T locs cells slots → ∃ t, Steps p.tables e below ((T.setTop g).pushFrame (.throwing q)) t ∧ Q t
def vx_Run (p : Program) (l : Launch) (e : Env) (R : Room) (s : State) (m : MethodId) (args : Array Value) (below : List Frame) (meth : Method) (c : Code) (H : Heap) (locs : List Loc) (cells slots mc ms : Nat) (g : JFrame) (rest : List Value) (Qa : State → Outcome → State → Prop) (XC : String → State → State → Prop) (free : Addr → Prop) : Prop :=
  ∀ T : State, T.heap = H → Stand p l e R s m args below meth c T locs cells slots →
    (∃ (v : Option Value) (st₀ t T' : State) (L : List Loc), st₀.heap = H ∧ Stand p l e R s m args below meth c T' (locs ++ L) (cells + mc) (slots + ms) ∧ (∀ q ∈ L, free q.base) ∧ T'.heap = t.heap ∧ T'.vm = t.vm ∧ Qa st₀ (.returned v) t ∧
      Goes p e below T g T' { g with pc := g.pc + 3, stack := v.toList ++ rest }) ∨
    (∃ (q : Addr) (st₀ t T' : State) (L : List Loc) (E : String) (ce : Cell), st₀.heap = H ∧ Stand p l e R s m args below meth c T' (locs ++ L) (cells + mc) (slots + ms) ∧ (∀ z ∈ L, free z.base) ∧ T'.heap = t.heap ∧ T'.vm = t.vm ∧ XC E st₀ t ∧ t.heap[q]? = some ce ∧ ce.vm = .none ∧ s.vm.findClass E = some ce.cls ∧
      Steps p.tables e below (T.setTop g) ((T'.setTop { g with stack := rest }).pushFrame (.throwing q)))
def vx_X {S : Type} (px : S → Prop) (B : String → S → State → Prop) (A : Nat → Prop) : String → State → State → Prop := fun E st t => ∃ u : S, px u ∧ B E u t ∧ va_F A st t
section Runs
variable {p : Program} {l : Launch} {e : Env} {R : Room} {s : State} {m : MethodId} {args : Array Value} {below : List Frame} {meth : Method} {c : Code} {H : Heap} {locs : List Loc} {cells slots : Nat}
variable {y : MethodName} {bytes cc : ByteArray} {maxL nL mc ms n index : Nat} {ret : Option FieldType} {ws : List Cond} {rm : Room} {Pc : Array Value → State → Prop} {Qc : Array Value → State → Outcome → State → Prop} {XC : String → State → State → Prop} {free : Addr → Prop} {Ts : List Cond} {own C : String} {b : Addr} {As rest : List Value} {g : JFrame}
theorem vx_callBack (cb : CallB R s args own index y bytes maxL ret ws rm mc ms n) (hM : vx_Met l y ws rm Pc Qc XC mc ms free) (hbl : FrameBlind Pc) : vx_Back l R p e below s args y 3 8 (PreOf R mc ms Pc) (PostOf Qc mc ms free) (vx_Post XC mc ms free) := by
  obtain ⟨hrc, hrs, hfr, hlo, hws, hcw, -, hini, -⟩ := cb
  exact vx_back (bytes := bytes) (maxL := maxL) (ret := ret) hM hbl hrc hrs hfr hlo hws hcw (fun a' U hW => word_at hW (Or.inl (by first | rfl | simp [Cond.onTables, Cond.keeps, Cond.steady])) hini)
theorem vx_runV (S : CallFix p m c cc nL s args Ts own) (hM : vx_Met l y ws rm Pc Qc XC mc ms free) (cw : CallW R s args own C index y bytes maxL ret ws rm mc ms n) (hp : PreV s H C b Pc As)
    (hg : g.method = m) (hn : As.length = n) (hsize : g.locals.size = nL) (hstack : g.stack = As.reverse ++ .ref b :: rest) (hW : 2 * g.monitorRoom + (rest.map fun v => v.category).sum ≤ 8) (hdg : decode cc g.pc = .ok (.invokevirtual index, 3)) (hf : cells + mc ≤ R.cells ∧ slots + ms ≤ R.slots) :
    vx_Run p l e R s m args below meth c H locs cells slots mc ms g rest (Qc (Value.ref b :: As).toArray) XC free := by
  have hK : vx_Back l R p e below s args y 3 8 (PreOf R mc ms Pc) (PostOf Qc mc ms free) (vx_Post XC mc ms free) := vx_callBack cw.1 hM hp.1
  obtain ⟨⟨-, -, -, -, -, -, hcode, -, hy, hlen, hl⟩, hin, hse⟩ := cw
  obtain ⟨hx, hb, hml, ho, -⟩ := S
  obtain ⟨-, ⟨cellB, hcB, hoB, hclB⟩, hPc⟩ := hp
  intro T hT X
  rcases vx_callV X hx (C := C) (bytes := bytes) (maxL := maxL) (ret := ret) ho hl hin hse hcode hy hK (by rw [hT]; exact hcB) hoB hclB hg (hsize.trans hml.symm) (argsL := As) (rest := rest) (fun sig h => hn.trans (hlen sig h)) hstack hW (by rw [hb]; exact hdg)
    (fun vm₁ hW₁ => ⟨hf.1, hf.2, hPc (T.setVm vm₁) hT hW₁⟩) with ⟨v, vm₁, ⟨U', l2, c2, s2⟩, hW₁, X', ⟨g', mk, t, L, e1, e2, hq, h1, hL, h2, h3⟩, st⟩ | ⟨q, vm₁, ⟨U', l2, c2, s2⟩, hW₁, X', ⟨g', mk, t, L, E, ce, e1, e2, hq, hce, hcv, hcl, h1, hL, h2, h3⟩, st⟩
  · dsimp only [Pt.U, Pt.locs, Pt.cells, Pt.slots] at X' e1 e2 h1 h2 h3 st
    subst h1; subst h2; subst h3
    exact Or.inl ⟨v, (T.setVm vm₁).calling g' mk (Value.ref b :: As).toArray, t, U', L, hT, X', hL, e1, e2, hq, st⟩
  · dsimp only [Pt.U, Pt.locs, Pt.cells, Pt.slots] at X' e1 e2 h1 h2 h3 st hcl
    subst h1; subst h2; subst h3
    exact Or.inr ⟨q, (T.setVm vm₁).calling g' mk (Value.ref b :: As).toArray, t, U', L, E, ce, hT, X', hL, e1, e2, hq, hce, hcv, vx_cls hW₁ hcl, st⟩
theorem vx_runS (S : CallFix p m c cc nL s args Ts own) (hM : vx_Met l y ws rm Pc Qc XC mc ms free) (cw : CallB R s args own index y bytes maxL ret ws rm mc ms n ∧ (Cond.static y).before args s = true) (hp : PreS s H Pc As)
    (hg : g.method = m) (hn : As.length = n) (hsize : g.locals.size = nL) (hstack : g.stack = As.reverse ++ rest) (hW : 2 * g.monitorRoom + (rest.map fun v => v.category).sum ≤ 8) (hdg : decode cc g.pc = .ok (.invokestatic index, 3)) (hf : cells + mc ≤ R.cells ∧ slots + ms ≤ R.slots) :
    vx_Run p l e R s m args below meth c H locs cells slots mc ms g rest (Qc As.toArray) XC free := by
  have hK : vx_Back l R p e below s args y 3 8 (PreOf R mc ms Pc) (PostOf Qc mc ms free) (vx_Post XC mc ms free) := vx_callBack cw.1 hM hp.1
  obtain ⟨⟨-, -, -, -, -, -, hcode, hini, hy, hlen, hl⟩, hstt⟩ := cw
  obtain ⟨hx, hb, hml, ho, -⟩ := S
  intro T hT X
  rcases vx_callS X hx (bytes := bytes) (maxL := maxL) (ret := ret) ho hl hstt hini hcode hy hK hg (hsize.trans hml.symm) (argsL := As) (rest := rest) (fun sig h => hn.trans (hlen sig h)) hstack hW (by rw [hb]; exact hdg)
    (fun vm₁ hW₁ => ⟨hf.1, hf.2, hp.2 (T.setVm vm₁) hT hW₁⟩) with ⟨v, vm₁, ⟨U', l2, c2, s2⟩, hW₁, X', ⟨g', mk, t, L, e1, e2, hq, h1, hL, h2, h3⟩, st⟩ | ⟨q, vm₁, ⟨U', l2, c2, s2⟩, hW₁, X', ⟨g', mk, t, L, E, ce, e1, e2, hq, hce, hcv, hcl, h1, hL, h2, h3⟩, st⟩
  · dsimp only [Pt.U, Pt.locs, Pt.cells, Pt.slots] at X' e1 e2 h1 h2 h3 st
    subst h1; subst h2; subst h3
    exact Or.inl ⟨v, (T.setVm vm₁).calling g' mk As.toArray, t, U', L, hT, X', hL, e1, e2, hq, st⟩
  · dsimp only [Pt.U, Pt.locs, Pt.cells, Pt.slots] at X' e1 e2 h1 h2 h3 st hcl
    subst h1; subst h2; subst h3
    exact Or.inr ⟨q, (T.setVm vm₁).calling g' mk As.toArray, t, U', L, E, ce, hT, X', hL, e1, e2, hq, hce, hcv, vx_cls hW₁ hcl, st⟩
end Runs
section Rows
variable {p : Program} {l : Launch} {e : Env} {R : Room} {s : State} {m : MethodId} {args : Array Value} {below : List Frame} {meth : Method} {c : Code} {H : Heap} {locs : List Loc} {cells slots : Nat} {Q : State → Prop}
variable {mc ms : Nat} {free : Addr → Prop} {A0 A1 : Nat → Prop} {H0 : Heap} {a : Array Value} {pc : Nat} {ls : Array Slot} {st0 rest : List Value}
theorem vx_keep {st₀ t T' : State} {L : List Loc} (h0 : st₀.heap = H) (e1 : T'.heap = t.heap) (hS : va_S A0 H0 H locs) (hA : ∀ q, q < H.size → A1 q → A0 q) (hf : ∀ q, free q → A0 q) (hL : ∀ q ∈ L, free q.base) (hF : va_F A1 st₀ t) :
    H.size ≤ T'.heap.size ∧ (∀ q : Nat, q < H.size → ¬ A1 q → T'.heap[q]? = H[q]?) ∧ va_S A0 H0 T'.heap (locs ++ L) := by
  obtain ⟨hz, hk⟩ := hF
  rw [h0] at hz hk
  exact ⟨by rw [e1]; exact hz, fun q h1 h2 => by rw [e1]; exact hk q h1 h2,
    ⟨Nat.le_trans hS.1 (by rw [e1]; exact hz), fun q h1 h2 => by rw [e1, hk q (Nat.lt_of_lt_of_le h1 hS.1) (fun z => h2 (hA q (Nat.lt_of_lt_of_le h1 hS.1) z))]; exact hS.2.1 q h1 h2, fun q hq => by
      rcases List.mem_append.mp hq with h | h
      · exact hS.2.2 q h
      · exact hf _ (hL q h)⟩⟩
theorem vx_calli {S SX : Type} {post : Int32 → S → Prop} {px : SX → Prop} {B : S → State → Prop} {BX : String → SX → State → Prop} {AX : Nat → Prop} (hr : vx_Run p l e R s m args below meth c H locs cells slots mc ms (F0 m pc ls st0) rest (va_Qi post B A1 a) (vx_X px BX AX) free) (hS : va_S A0 H0 H locs) (hA : ∀ q, q < H.size → A1 q → A0 q) (hf : ∀ q, free q → A0 q) (hAX : ∀ q, q < H.size → AX q → A0 q)
    (kx : ∀ (E : String) (ce : Cell) (q9 : Addr) (u : SX) (t : State) (H1 : Heap) (locs1 : List Loc), t.heap = H1 → s.vm.Alike t.vm → px u → BX E u t → H.size ≤ H1.size → (∀ q : Nat, q < H.size → ¬ AX q → H1[q]? = H[q]?) → va_S A0 H0 H1 locs1 → H1[q9]? = some ce → ce.vm = .none → s.vm.findClass E = some ce.cls → vx_W p l e R s m args below meth c H1 locs1 (cells + mc) (slots + ms) Q (F0 m pc ls rest) q9)
    (kk : ∀ (r : Int32) (u : S) (t : State) (H1 : Heap) (locs1 : List Loc), t.heap = H1 → s.vm.Alike t.vm → post r u → B u t → H.size ≤ H1.size → (∀ q : Nat, q < H.size → ¬ A1 q → H1[q]? = H[q]?) → va_S A0 H0 H1 locs1 → W p l e R s m args below meth c H1 locs1 (cells + mc) (slots + ms) Q (F0 m (pc + 3) ls (.int r :: rest))) : W p l e R s m args below meth c H locs cells slots Q (F0 m pc ls st0) := by
  intro T hT X
  rcases hr T hT X with ⟨v, st₀, t, T', L, h0, X', hL, e1, e2, ⟨⟨r, u, hv, hp, hb⟩, hF⟩, st⟩ | ⟨q, st₀, t, T', L, E, ce, h0, X', hL, e1, e2, ⟨u, hp, hb, hF⟩, hce, hcv, hcl, st⟩
  · cases hv
    obtain ⟨k1, k2, k3⟩ := vx_keep h0 e1 hS hA hf hL hF
    obtain ⟨t2, a1, b1⟩ := kk r u t T'.heap (locs ++ L) e1.symm (by rw [← e2]; exact X'.warmed.alike) hp hb k1 k2 k3 T' rfl X'
    exact ⟨t2, st t2 a1, b1⟩
  · obtain ⟨k1, k2, k3⟩ := vx_keep h0 e1 hS hAX hf hL hF
    obtain ⟨t2, a1, b1⟩ := kx E ce q u t T'.heap (locs ++ L) e1.symm (by rw [← e2]; exact X'.warmed.alike) hp hb k1 k2 k3 (by rw [e1]; exact hce) hcv hcl T' rfl X'
    exact ⟨t2, st.trans a1, b1⟩
theorem vx_calll {S SX : Type} {post : Int64 → S → Prop} {px : SX → Prop} {B : S → State → Prop} {BX : String → SX → State → Prop} {AX : Nat → Prop} (hr : vx_Run p l e R s m args below meth c H locs cells slots mc ms (F0 m pc ls st0) rest (va_Ql post B A1 a) (vx_X px BX AX) free) (hS : va_S A0 H0 H locs) (hA : ∀ q, q < H.size → A1 q → A0 q) (hf : ∀ q, free q → A0 q) (hAX : ∀ q, q < H.size → AX q → A0 q)
    (kx : ∀ (E : String) (ce : Cell) (q9 : Addr) (u : SX) (t : State) (H1 : Heap) (locs1 : List Loc), t.heap = H1 → s.vm.Alike t.vm → px u → BX E u t → H.size ≤ H1.size → (∀ q : Nat, q < H.size → ¬ AX q → H1[q]? = H[q]?) → va_S A0 H0 H1 locs1 → H1[q9]? = some ce → ce.vm = .none → s.vm.findClass E = some ce.cls → vx_W p l e R s m args below meth c H1 locs1 (cells + mc) (slots + ms) Q (F0 m pc ls rest) q9)
    (kk : ∀ (r : Int64) (u : S) (t : State) (H1 : Heap) (locs1 : List Loc), t.heap = H1 → s.vm.Alike t.vm → post r u → B u t → H.size ≤ H1.size → (∀ q : Nat, q < H.size → ¬ A1 q → H1[q]? = H[q]?) → va_S A0 H0 H1 locs1 → W p l e R s m args below meth c H1 locs1 (cells + mc) (slots + ms) Q (F0 m (pc + 3) ls (.long r :: rest))) : W p l e R s m args below meth c H locs cells slots Q (F0 m pc ls st0) := by
  intro T hT X
  rcases hr T hT X with ⟨v, st₀, t, T', L, h0, X', hL, e1, e2, ⟨⟨r, u, hv, hp, hb⟩, hF⟩, st⟩ | ⟨q, st₀, t, T', L, E, ce, h0, X', hL, e1, e2, ⟨u, hp, hb, hF⟩, hce, hcv, hcl, st⟩
  · cases hv
    obtain ⟨k1, k2, k3⟩ := vx_keep h0 e1 hS hA hf hL hF
    obtain ⟨t2, a1, b1⟩ := kk r u t T'.heap (locs ++ L) e1.symm (by rw [← e2]; exact X'.warmed.alike) hp hb k1 k2 k3 T' rfl X'
    exact ⟨t2, st t2 a1, b1⟩
  · obtain ⟨k1, k2, k3⟩ := vx_keep h0 e1 hS hAX hf hL hF
    obtain ⟨t2, a1, b1⟩ := kx E ce q u t T'.heap (locs ++ L) e1.symm (by rw [← e2]; exact X'.warmed.alike) hp hb k1 k2 k3 (by rw [e1]; exact hce) hcv hcl T' rfl X'
    exact ⟨t2, st.trans a1, b1⟩
theorem vx_callf {S SX : Type} {post : UInt32 → S → Prop} {px : SX → Prop} {B : S → State → Prop} {BX : String → SX → State → Prop} {AX : Nat → Prop} (hr : vx_Run p l e R s m args below meth c H locs cells slots mc ms (F0 m pc ls st0) rest (va_Qf post B A1 a) (vx_X px BX AX) free) (hS : va_S A0 H0 H locs) (hA : ∀ q, q < H.size → A1 q → A0 q) (hf : ∀ q, free q → A0 q) (hAX : ∀ q, q < H.size → AX q → A0 q)
    (kx : ∀ (E : String) (ce : Cell) (q9 : Addr) (u : SX) (t : State) (H1 : Heap) (locs1 : List Loc), t.heap = H1 → s.vm.Alike t.vm → px u → BX E u t → H.size ≤ H1.size → (∀ q : Nat, q < H.size → ¬ AX q → H1[q]? = H[q]?) → va_S A0 H0 H1 locs1 → H1[q9]? = some ce → ce.vm = .none → s.vm.findClass E = some ce.cls → vx_W p l e R s m args below meth c H1 locs1 (cells + mc) (slots + ms) Q (F0 m pc ls rest) q9)
    (kk : ∀ (r : UInt32) (u : S) (t : State) (H1 : Heap) (locs1 : List Loc), t.heap = H1 → s.vm.Alike t.vm → post r u → B u t → H.size ≤ H1.size → (∀ q : Nat, q < H.size → ¬ A1 q → H1[q]? = H[q]?) → va_S A0 H0 H1 locs1 → W p l e R s m args below meth c H1 locs1 (cells + mc) (slots + ms) Q (F0 m (pc + 3) ls (.float r :: rest))) : W p l e R s m args below meth c H locs cells slots Q (F0 m pc ls st0) := by
  intro T hT X
  rcases hr T hT X with ⟨v, st₀, t, T', L, h0, X', hL, e1, e2, ⟨⟨r, u, hv, hp, hb⟩, hF⟩, st⟩ | ⟨q, st₀, t, T', L, E, ce, h0, X', hL, e1, e2, ⟨u, hp, hb, hF⟩, hce, hcv, hcl, st⟩
  · cases hv
    obtain ⟨k1, k2, k3⟩ := vx_keep h0 e1 hS hA hf hL hF
    obtain ⟨t2, a1, b1⟩ := kk r u t T'.heap (locs ++ L) e1.symm (by rw [← e2]; exact X'.warmed.alike) hp hb k1 k2 k3 T' rfl X'
    exact ⟨t2, st t2 a1, b1⟩
  · obtain ⟨k1, k2, k3⟩ := vx_keep h0 e1 hS hAX hf hL hF
    obtain ⟨t2, a1, b1⟩ := kx E ce q u t T'.heap (locs ++ L) e1.symm (by rw [← e2]; exact X'.warmed.alike) hp hb k1 k2 k3 (by rw [e1]; exact hce) hcv hcl T' rfl X'
    exact ⟨t2, st.trans a1, b1⟩
theorem vx_calld {S SX : Type} {post : UInt64 → S → Prop} {px : SX → Prop} {B : S → State → Prop} {BX : String → SX → State → Prop} {AX : Nat → Prop} (hr : vx_Run p l e R s m args below meth c H locs cells slots mc ms (F0 m pc ls st0) rest (va_Qd post B A1 a) (vx_X px BX AX) free) (hS : va_S A0 H0 H locs) (hA : ∀ q, q < H.size → A1 q → A0 q) (hf : ∀ q, free q → A0 q) (hAX : ∀ q, q < H.size → AX q → A0 q)
    (kx : ∀ (E : String) (ce : Cell) (q9 : Addr) (u : SX) (t : State) (H1 : Heap) (locs1 : List Loc), t.heap = H1 → s.vm.Alike t.vm → px u → BX E u t → H.size ≤ H1.size → (∀ q : Nat, q < H.size → ¬ AX q → H1[q]? = H[q]?) → va_S A0 H0 H1 locs1 → H1[q9]? = some ce → ce.vm = .none → s.vm.findClass E = some ce.cls → vx_W p l e R s m args below meth c H1 locs1 (cells + mc) (slots + ms) Q (F0 m pc ls rest) q9)
    (kk : ∀ (r : UInt64) (u : S) (t : State) (H1 : Heap) (locs1 : List Loc), t.heap = H1 → s.vm.Alike t.vm → post r u → B u t → H.size ≤ H1.size → (∀ q : Nat, q < H.size → ¬ A1 q → H1[q]? = H[q]?) → va_S A0 H0 H1 locs1 → W p l e R s m args below meth c H1 locs1 (cells + mc) (slots + ms) Q (F0 m (pc + 3) ls (.double r :: rest))) : W p l e R s m args below meth c H locs cells slots Q (F0 m pc ls st0) := by
  intro T hT X
  rcases hr T hT X with ⟨v, st₀, t, T', L, h0, X', hL, e1, e2, ⟨⟨r, u, hv, hp, hb⟩, hF⟩, st⟩ | ⟨q, st₀, t, T', L, E, ce, h0, X', hL, e1, e2, ⟨u, hp, hb, hF⟩, hce, hcv, hcl, st⟩
  · cases hv
    obtain ⟨k1, k2, k3⟩ := vx_keep h0 e1 hS hA hf hL hF
    obtain ⟨t2, a1, b1⟩ := kk r u t T'.heap (locs ++ L) e1.symm (by rw [← e2]; exact X'.warmed.alike) hp hb k1 k2 k3 T' rfl X'
    exact ⟨t2, st t2 a1, b1⟩
  · obtain ⟨k1, k2, k3⟩ := vx_keep h0 e1 hS hAX hf hL hF
    obtain ⟨t2, a1, b1⟩ := kx E ce q u t T'.heap (locs ++ L) e1.symm (by rw [← e2]; exact X'.warmed.alike) hp hb k1 k2 k3 (by rw [e1]; exact hce) hcv hcl T' rfl X'
    exact ⟨t2, st.trans a1, b1⟩
theorem vx_callv {S SX : Type} {post : S → Prop} {px : SX → Prop} {B : S → State → Prop} {BX : String → SX → State → Prop} {AX : Nat → Prop} (hr : vx_Run p l e R s m args below meth c H locs cells slots mc ms (F0 m pc ls st0) rest (va_Qv post B A1 a) (vx_X px BX AX) free) (hS : va_S A0 H0 H locs) (hA : ∀ q, q < H.size → A1 q → A0 q) (hf : ∀ q, free q → A0 q) (hAX : ∀ q, q < H.size → AX q → A0 q)
    (kx : ∀ (E : String) (ce : Cell) (q9 : Addr) (u : SX) (t : State) (H1 : Heap) (locs1 : List Loc), t.heap = H1 → s.vm.Alike t.vm → px u → BX E u t → H.size ≤ H1.size → (∀ q : Nat, q < H.size → ¬ AX q → H1[q]? = H[q]?) → va_S A0 H0 H1 locs1 → H1[q9]? = some ce → ce.vm = .none → s.vm.findClass E = some ce.cls → vx_W p l e R s m args below meth c H1 locs1 (cells + mc) (slots + ms) Q (F0 m pc ls rest) q9)
    (kk : ∀ (u : S) (t : State) (H1 : Heap) (locs1 : List Loc), t.heap = H1 → s.vm.Alike t.vm → post u → B u t → H.size ≤ H1.size → (∀ q : Nat, q < H.size → ¬ A1 q → H1[q]? = H[q]?) → va_S A0 H0 H1 locs1 → W p l e R s m args below meth c H1 locs1 (cells + mc) (slots + ms) Q (F0 m (pc + 3) ls (rest))) : W p l e R s m args below meth c H locs cells slots Q (F0 m pc ls st0) := by
  intro T hT X
  rcases hr T hT X with ⟨v, st₀, t, T', L, h0, X', hL, e1, e2, ⟨⟨u, hv, hp, hb⟩, hF⟩, st⟩ | ⟨q, st₀, t, T', L, E, ce, h0, X', hL, e1, e2, ⟨u, hp, hb, hF⟩, hce, hcv, hcl, st⟩
  · cases hv
    obtain ⟨k1, k2, k3⟩ := vx_keep h0 e1 hS hA hf hL hF
    obtain ⟨t2, a1, b1⟩ := kk u t T'.heap (locs ++ L) e1.symm (by rw [← e2]; exact X'.warmed.alike) hp hb k1 k2 k3 T' rfl X'
    exact ⟨t2, st t2 a1, b1⟩
  · obtain ⟨k1, k2, k3⟩ := vx_keep h0 e1 hS hAX hf hL hF
    obtain ⟨t2, a1, b1⟩ := kx E ce q u t T'.heap (locs ++ L) e1.symm (by rw [← e2]; exact X'.warmed.alike) hp hb k1 k2 k3 (by rw [e1]; exact hce) hcv hcl T' rfl X'
    exact ⟨t2, st.trans a1, b1⟩
/-- caught by the row x of this method's table; the rows ahead don't take it -/
theorem vx_catch {own name : String} {E : String} {ce : Cell} {q : Addr} (hown : s.vm.findClass own = some m.cls) (pre : List ExceptionTableEntry) (x : ExceptionTableEntry) (suf : List ExceptionTableEntry) (hsplit : c.exceptionTable.toList = pre ++ x :: suf)
    (hpass : ∀ z ∈ pre, covers z pc = false ∨ (z.catchType ≠ 0 ∧ ∃ nm : String, (Cond.classLink own z.catchType nm).before args s = true ∧ va_Nc E nm s)) (hx : covers x pc = true) (h0 : x.catchType ≠ 0)
    (hlink : (Cond.classLink own x.catchType name).before args s = true) (hcast : (Cond.castable E name).before args s = true) (hcell : H[q]? = some ce) (hv : ce.vm = .none) (hcl : s.vm.findClass E = some ce.cls)
    (kk : W p l e R s m args below meth c H locs cells slots Q (F0 m x.handlerPc ls [.ref q])) : vx_W p l e R s m args below meth c H locs cells slots Q (F0 m pc ls rest) q := by
  intro T hT X
  have hpl : e.platform.magicAccessors = ({} : Platform).magicAccessors := by rw [X.admits.platform]
  obtain ⟨c3, c4, hc3, hc4, hasg⟩ := Cond.castable_spec hcast
  cases Option.some.inj (hc3.symm.trans hcl)
  obtain ⟨c5, hc5, hcl5⟩ := Cond.classLink_spec hown hlink e.platform hpl
  cases Option.some.inj (hc4.symm.trans hc5)
  obtain ⟨vm', X', st⟩ := X.thenCaughtThrough q (g := F0 m pc ls rest) rfl (Steps.refl _) (by rw [hT]; exact hcell) (by rw [hv]; rfl) (by obtain ⟨k9, h9, -⟩ := Vm.findClass_spec hcl; exact ⟨k9, h9⟩) pre x suf hsplit
    (fun z hz => by
      rcases hpass z hz with h | ⟨hz0, nm, hl1, hn1⟩
      · exact Or.inl h
      · obtain ⟨c6, hc6, hcl6⟩ := Cond.classLink_spec hown hl1 e.platform hpl
        obtain ⟨a8, b8, h1, h2, h3⟩ := hn1
        cases Option.some.inj (h1.symm.trans hcl)
        cases Option.some.inj (h2.symm.trans hc6)
        exact Or.inr ⟨hz0, _, hcl6, h3⟩) hx (Or.inr ⟨h0, c4, hcl5, hasg⟩)
  obtain ⟨t, a1, b1⟩ := kk (T.setVm vm') hT X'
  exact ⟨t, st.trans a1, b1⟩
end Rows
section Ends
variable {p : Program} {l : Launch} {e : Env} {R : Room} {s : State} {m : MethodId} {args : Array Value} {below : List Frame} {meth : Method} {c : Code} {H : Heap} {locs : List Loc} {cells slots : Nat} {Q : State → Prop}
variable {mc ms : Nat} {free : Addr → Prop} {A0 A1 : Nat → Prop} {H0 : Heap} {a : Array Value} {ls : Array Slot} {st0 rest : List Value}
variable {Qc : Array Value → State → Outcome → State → Prop} {XC : String → State → State → Prop}
/-- what a body that may throw owes at its end -/
def vx_MQ (below : List Frame) (Qc : Array Value → State → Outcome → State → Prop) (XC : String → State → State → Prop) (a : Array Value) (s : State) (mc ms : Nat) (free : Addr → Prop) : State → Prop := fun t =>
  ∃ o, t.status = .running ∧ Ended t below o ∧ vx_Q Qc XC mc ms free a s o t
theorem vx_ret {g : JFrame} {mc ms : Nat} (k : W p l e R s m args below meth c H locs cells slots (MQ below Qc args s mc ms free) g) : W p l e R s m args below meth c H locs cells slots (vx_MQ below Qc XC args s mc ms free) g := by
  intro T hT X
  obtain ⟨t, a1, o, b1, b2, b3, b4⟩ := k T hT X
  exact ⟨t, a1, o, b1, b2, Or.inl ⟨b3, b4⟩⟩
/-- not caught here: it goes on to the caller -/
theorem vx_widen {g : JFrame} {q : Addr} {k n : Nat} (h1 : cells ≤ k) (h2 : slots ≤ n) (kk : vx_W p l e R s m args below meth c H locs k n Q g q) : vx_W p l e R s m args below meth c H locs cells slots Q g q := fun T hT X => kk T hT (stand_widen X h1 h2)
theorem vx_out {pc : Nat} {E : String} {ce : Cell} {q : Addr} {mc ms : Nat} (hout : ∀ x ∈ c.exceptionTable.toList, covers x pc = false) (hlocks : meth.locks = false) (hcell : H[q]? = some ce) (hv : ce.vm = .none) (hcl : s.vm.findClass E = some ce.cls)
    (hx : ∀ t : State, t.heap = H → s.vm.Alike t.vm → XC E s t) (hf : ∀ z ∈ locs, free z.base) (hc : cells ≤ mc) (hs : slots ≤ ms) :
    vx_W p l e R s m args below meth c H locs cells slots (vx_MQ below Qc XC args s mc ms free) (F0 m pc ls rest) q := by
  intro T hT X
  obtain ⟨st1, hrun, hend, hW, hsm⟩ := X.leaveThrown q (g := F0 m pc ls rest) rfl rfl rfl hout hlocks
  have hcell9 : (T.setFrames (.throwing q :: below)).heap[q]? = some ce := by
    show T.heap[q]? = some ce
    rw [hT]; exact hcell
  exact ⟨_, st1, .threw q, hrun, hend, Or.inr ⟨q, rfl, E, ce, locs, hx _ hT hW.alike, hcell9, hv, hcl, hW, hsm.mono hc hs, hf⟩⟩
theorem vx_frame {U : State} {k n : Nat} (h : s.sameButNew ({ U with vm := s.vm } : State) locs k n) : s.heap.size ≤ U.heap.size ∧ ∀ q : Nat, q < s.heap.size → (∀ z ∈ locs, z.base ≠ q) → U.heap[q]? = s.heap[q]? := by
  obtain ⟨-, h2, -, -, -, h6⟩ := h
  refine ⟨h2, fun q hq hz => ?_⟩
  obtain ⟨c9, e1, e2, e3, e4⟩ := h6 q _ (Array.getElem?_eq_getElem hq)
  have hs : c9.slots = (s.heap[q]).slots := Array.ext_getElem? fun i => e4 i fun hm => hz _ hm rfl
  have h9 : c9 = s.heap[q] := by
    rw [hs] at e2
    exact e2
  have e5 : U.heap[q]? = some c9 := e1
  rw [e5, h9, Array.getElem?_eq_getElem hq]
/-- the words of a throw but the four that speak of the heap -/
def vx_no (w : Cond) : Bool := decide (w ≠ .isRef (.static Bundle.tN "UNASSIGNED_STACK" Bundle.steD)) && decide (w ≠ .isRef (.static Bundle.tN "SUPPRESSED_SENTINEL" Bundle.listD)) && decide (w ≠ .laysStatic Bundle.tN "UNASSIGNED_STACK" Bundle.steD) && decide (w ≠ .laysStatic Bundle.tN "SUPPRESSED_SENTINEL" Bundle.listD)
def vx_at0 (own : String) (ic : Nat) (X : String) (names : List String) : List Cond := (Bundle.ownAtoms0 own ic X names).filter vx_no
def vx_atS (own : String) (ic : Nat) (X : String) (names : List String) : List Cond := (Bundle.ownAtoms own ic X names).filter vx_no
/-- a word that the tables alone decide, or a good one -/
def vx_ot (w : Cond) : Bool := w.onTables || goodWord w
theorem vx_ot_at {args a' : Array Value} {s U : State} {w : Cond} (hW : s.WarmedH U.vm) (hvm : s.vm = U.vm) (hg : vx_ot w = true) (h : w.before args s = true) : w.before a' U = true := by
  simp only [vx_ot, Bool.or_eq_true] at hg
  rcases hg with hg | hg
  · exact va_tabs hg hvm h
  · exact word_at hW (good_of_word hg) h
/-- a list's words: the good ones out of the method's own list, the others by premises of their own -/
theorem vx_hat {args : Array Value} {s : State} {L B : List Cond} (h1 : ∀ w ∈ L.filter goodWord, w.before args s = true) (h2 : ∀ w ∈ L.filter (fun w => !goodWord w), w ∈ B) (h3 : ∀ w ∈ B, w.before args s = true) : ∀ w ∈ L, w.before args s = true := by
  intro w hw
  by_cases g : goodWord w = true
  · exact h1 w (List.mem_filter.mpr ⟨hw, g⟩)
  · refine h3 w (h2 w (List.mem_filter.mpr ⟨hw, ?_⟩))
    show (!goodWord w) = true
    cases hgw : goodWord w
    · rfl
    · exact absurd hgw g
theorem vx_c {args : Array Value} {s : State} {w : Cond} {B : List Cond} (h : w.before args s = true) (t : ∀ w ∈ B, w.before args s = true) : ∀ w' ∈ w :: B, w'.before args s = true := fun w' h' => (List.mem_cons.mp h').elim (fun e => by rw [e]; exact h) (t w')
theorem vx_n {args : Array Value} {s : State} : ∀ w ∈ ([] : List Cond), w.before args s = true := fun _ h => nomatch h
theorem vx_own {args : Array Value} {s : State} {L : List Cond} (h1 : ∀ w ∈ L.filter vx_no, w.before args s = true)
    (hU : (Cond.isRef (.static Bundle.tN "UNASSIGNED_STACK" Bundle.steD)).before args s = true) (hN : (Cond.isRef (.static Bundle.tN "SUPPRESSED_SENTINEL" Bundle.listD)).before args s = true)
    (lU : (Cond.laysStatic Bundle.tN "UNASSIGNED_STACK" Bundle.steD).before args s = true) (lN : (Cond.laysStatic Bundle.tN "SUPPRESSED_SENTINEL" Bundle.listD).before args s = true) : ∀ w ∈ L, w.before args s = true := by
  intro w hw
  by_cases e1 : w = .isRef (.static Bundle.tN "UNASSIGNED_STACK" Bundle.steD)
  · rw [e1]; exact hU
  · by_cases e2 : w = .isRef (.static Bundle.tN "SUPPRESSED_SENTINEL" Bundle.listD)
    · rw [e2]; exact hN
    · by_cases e3 : w = .laysStatic Bundle.tN "UNASSIGNED_STACK" Bundle.steD
      · rw [e3]; exact lU
      · by_cases e4 : w = .laysStatic Bundle.tN "SUPPRESSED_SENTINEL" Bundle.listD
        · rw [e4]; exact lN
        · exact h1 w (List.mem_filter.mpr ⟨hw, by unfold vx_no; rw [decide_eq_true e1, decide_eq_true e2, decide_eq_true e3, decide_eq_true e4]; rfl⟩)
/-- where a static field lies, its class's statics cell in H -/
def vx_L (C n d : String) (A : Nat → Prop) (U : State) (H : Heap) : Prop := ∃ (c : ClassId) (k : Class) (i : Nat) (f : Field) (a : Nat) (cell : Cell), U.vm.findClass C = some c ∧ U.fieldFound? C n d = some (c, k, i, f) ∧ f.isStatic = true ∧ k.statics = some a ∧ H[a]? = some cell ∧ cell.vm.isStatics = true ∧ cell.cls = c ∧ f.slot < cell.slots.size ∧ k.staticTypes[f.slot]? = some f.type ∧ ¬ A a
theorem vx_L.moved {C n d : String} {A : Nat → Prop} {u U : State} {H : Heap} (hvm : u.vm.Alike U.vm) (h : vx_L C n d A u H) : vx_L C n d A U H := by
  obtain ⟨c, k, i, f, a, cell, h1, h2, h3, h4, h5, h6, h7, h8, h9, h10⟩ := h
  obtain ⟨k', hi', he⟩ := State.fieldFound?_setVm hvm h2
  exact ⟨c, k', i, f, a, cell, by rw [hvm.findClass]; exact h1, hi', h3, by rw [he]; exact h4, h5, h6, h7, h8, by rw [he]; exact h9, h10⟩
theorem vx_L.kept {C n d : String} {A : Nat → Prop} {U : State} {H H1 : Heap} (h : vx_L C n d A U H) (hq : ∀ a : Nat, a < H.size → ¬ A a → H1[a]? = H[a]?) : vx_L C n d A U H1 := by
  obtain ⟨c, k, i, f, a, cell, h1, h2, h3, h4, h5, h6, h7, h8, h9, h10⟩ := h
  exact ⟨c, k, i, f, a, cell, h1, h2, h3, h4, by rw [hq a (Array.getElem?_eq_some_iff.mp h5).1 h10]; exact h5, h6, h7, h8, h9, h10⟩
theorem vx_L.narrow {C n d : String} {A B : Nat → Prop} {U : State} {H : Heap} (h : vx_L C n d A U H) (hAB : ∀ q, B q → A q) : vx_L C n d B U H := by
  obtain ⟨c, k, i, f, a, cell, h1, h2, h3, h4, h5, h6, h7, h8, h9, h10⟩ := h
  exact ⟨c, k, i, f, a, cell, h1, h2, h3, h4, h5, h6, h7, h8, h9, fun z => h10 (hAB _ z)⟩
theorem vx_L.word {C n d : String} {A : Nat → Prop} {s : State} {args : Array Value} (h : vx_L C n d A s s.heap) : (Cond.laysStatic C n d).before args s = true := by
  obtain ⟨c, k, i, f, a, cell, h1, h2, h3, h4, h5, h6, h7, h8, h9, -⟩ := h
  show (Cond.laysStatic C n d).holds args s none s [] = true
  exact Cond.laysStatic_of h1 h2 h3 h4 h5 h6 h7 h8 h9
/-- .. and what it holds: null or some reference -/
def vx_Zq (C n d : String) (A : Nat → Prop) (U : State) (H : Heap) : Prop := va_Zq C n d A U H ∧ vx_L C n d A U H
theorem vx_Zq.moved {C n d : String} {A : Nat → Prop} {u U : State} {H : Heap} (hvm : u.vm.Alike U.vm) (h : vx_Zq C n d A u H) : vx_Zq C n d A U H := ⟨va_Zq.moved hvm h.1, vx_L.moved hvm h.2⟩
theorem vx_Zq.kept {C n d : String} {A : Nat → Prop} {U : State} {H H1 : Heap} (h : vx_Zq C n d A U H) (hq : ∀ a : Nat, a < H.size → ¬ A a → H1[a]? = H[a]?) : vx_Zq C n d A U H1 := ⟨va_Zq.kept h.1 hq, vx_L.kept h.2 hq⟩
theorem vx_Zq.narrow {C n d : String} {A B : Nat → Prop} {U : State} {H : Heap} (h : vx_Zq C n d A U H) (hAB : ∀ q, B q → A q) : vx_Zq C n d B U H := ⟨va_Zq.narrow h.1 hAB, vx_L.narrow h.2 hAB⟩
theorem vx_Zqof {args : Array Value} {s : State} {C n d : String} {A : Nat → Prop} (hl : (Cond.laysStatic C n d).before args s = true) (hini : (Cond.initialized C).before args s = true) (h : (Cond.isRef (.static C n d)).before args s = true) (hA : ∀ a : Nat, a < s.heap.size → ¬ A a) : vx_Zq C n d A s s.heap := by
  refine ⟨va_Zqof hl hini h hA, ?_⟩
  obtain ⟨c, k, i, f, a, cell, h1, h2, h3, h4, h5, h6, h7, h8, h9⟩ := Cond.laysStatic_spec hl
  exact ⟨c, k, i, f, a, cell, h1, h2, h3, h4, h5, h6, h7, h8, h9, hA a (Array.getElem?_eq_some_iff.mp h5).1⟩
theorem vx_isRef {C n d : String} {v : Value} {A : Nat → Prop} {s : State} {args : Array Value} (h : va_Z C n d v A s s.heap) (hv : v.isRef = true) : (Cond.isRef (.static C n d)).before args s = true := by
  obtain ⟨cf, kf, fi, f, a, cell, h1, h2, h3, h4, h5, h6, h7, -⟩ := h
  have he : (Term.static C n d).eval args s none [] s = some v := by
    simp [Term.eval, State.fieldNamed?, h1, h2, h4, h5, h6, h7]
  simp only [Cond.before, Cond.holds, Cond.value, he]
  cases v <;> simp_all [Value.isRef]
theorem vx_isRefq {C n d : String} {A : Nat → Prop} {s : State} {args : Array Value} (h : va_Zq C n d A s s.heap) : (Cond.isRef (.static C n d)).before args s = true := by
  rcases h with h | ⟨t, h⟩
  · exact vx_isRef h rfl
  · exact vx_isRef h rfl
/-- the same frame, seen from here: as if the method were called anew in this heap -/
theorem vx_rebase {T : State} (X : Stand p l e R s m args below meth c T locs cells slots) {R' : Room} (hf : R'.frames ≤ R.frames) (hl : R'.locals ≤ R.locals) (hc : cells + R'.cells ≤ R.cells) (hs : slots + R'.slots ≤ R.slots) :
    Stand p l e R' ((T.setVm s.vm).setFrames (.invoking m args :: below)) m args below meth c T [] 0 0 := by
  have htop : (T.setVm s.vm).topJava?.isSome := X.here.top
  have hF : ((T.setVm s.vm).setFrames (.invoking m args :: below)).frames = .invoking m args :: below := State.frames_setFrames _ (State.cur_lt_of_top htop)
  obtain ⟨g₀, hg0⟩ := Option.isSome_iff_exists.mp htop
  obtain ⟨r, hr⟩ := State.topJava?_eq_some.mp hg0
  have hl9 : e.platform.stackLimits (T.setVm s.vm).me = e.platform.stackLimits s.me := X.limits
  have hb9 : (T.setVm s.vm).me.stackBytes = s.me.stackBytes := X.bytes
  refine ⟨X.admits, X.cas, X.clock, hF, ?_, X.hears, X.method, X.code, X.here, X.tail, X.warmed, ?_, ?_, ?_⟩
  · have h := X.room
    have hU : ((T.setVm s.vm).setFrames (.invoking m args :: below)).localsInUse = s.localsInUse := by
      rw [State.localsInUse_invoking hF (meth := meth) (c := c) X.method X.code, State.localsInUse_invoking X.frames X.method X.code]
    simp only [State.hasRoom, Bool.and_eq_true, decide_eq_true_eq] at h ⊢
    obtain ⟨⟨⟨⟨h1, h2, h3, h4, h5, h6⟩, h7⟩, h8⟩, h9⟩ := h
    rw [X.frames, List.length_cons] at h2 h3
    have q1 := X.heapSize
    have q2 := X.used
    simp only [hF, hU, List.length_cons, State.stackLimits_setFrames, State.stackBytes_setFrames, hl9, hb9]
    refine ⟨⟨⟨⟨by omega, by omega, by omega, by omega, by omega, h6⟩, ?_⟩, ?_⟩, X.book⟩
    · show T.heap.size + R'.cells ≤ e.platform.maxCells
      omega
    · show T.slotsUsed + R'.slots ≤ e.platform.maxSlots
      omega
  · rw [State.stackLimits_setFrames]; rfl
  · rw [State.stackBytes_setFrames]; rfl
  · refine ⟨?_, Nat.le_refl _, Nat.le_refl _, ?_, ?_, fun a c9 h9 => ⟨c9, h9, rfl, rfl, fun _ _ => rfl⟩⟩
    · obtain ⟨t, ht, -⟩ := State.frames_cons hr
      show T.setVm s.vm = { ((T.setVm s.vm).setFrames (.invoking m args :: below)).setFrames (T.setVm s.vm).frames with heap := T.heap, slotsUsed := T.slotsUsed }
      rw [State.setFrames_setFrames, State.setFrames_self ht]
      rfl
    · show T.slotsUsed = T.slotsUsed + ((T.heap.toList.drop T.heap.size).map (·.slots.size)).sum
      rw [List.drop_eq_nil_of_le (Nat.le_of_eq Array.length_toList)]
      rfl
    · show ((T.heap.toList.drop T.heap.size).map (·.slots.size)).sum ≤ 0
      rw [List.drop_eq_nil_of_le (Nat.le_of_eq Array.length_toList)]
      exact Nat.le_refl _
/-- 'throw new E()': new; dup; invokespecial; athrow -/
theorem vx_throw0 {cc : ByteArray} {pc : Nat} (hexec : p.tables.exec = Jvm.exec) (hb : c.code = cc) (hl : l.stackTraces = false) {own cls : String} {names : List String} {ik ic mc ms : Nat} {A : Nat → Prop}
    (hown : s.vm.findClass own = some m.cls) (hcls : Bundle.fit cls = true) (hnames : ∀ n ∈ names, Bundle.fit n = true)
    (hk : (Cond.classLink own ik cls).before args s = true) (hini : (Cond.initialized cls).before args s = true) (hat : ∀ w ∈ vx_at0 own ic cls names, w.before args s = true)
    (hgood : ∀ w ∈ Cond.classLink own ik cls :: Cond.initialized cls :: vx_at0 own ic cls names, vx_ot w = true)
    (hU : vx_Zq Bundle.tN "UNASSIGNED_STACK" Bundle.steD A s s.heap) (hN : vx_Zq Bundle.tN "SUPPRESSED_SENTINEL" Bundle.listD A s s.heap) (hS : va_S A s.heap H locs) (hsize : ls.size = c.maxLocals)
    (d0 : decode cc pc = .ok (.new ik, 3)) (d3 : decode cc (pc + 3) = .ok (.dup, 1)) (d4 : decode cc (pc + 4) = .ok (.invokespecial ic, 3)) (d7 : decode cc (pc + 7) = .ok (.athrow, 1))
    (hout : ∀ x ∈ c.exceptionTable.toList, covers x (pc + 7) = false)
    (hRframes : names.length + 3 < R.frames) (hRlocals : (rest.map fun v => v.category).sum + (13 * (names.length + 1) + 42) ≤ R.locals) (hRcells : cells + 1 ≤ R.cells) (hRslots : slots + 6 ≤ R.slots) (hlocks : meth.locks = false)
    (hx : ∀ t : State, s.vm.Alike t.vm → H.size ≤ t.heap.size → (∀ q : Nat, q < H.size → t.heap[q]? = H[q]?) → XC cls s t)
    (hf : ∀ z ∈ locs, free z.base) (hc : cells + 1 ≤ mc) (hs : slots + 6 ≤ ms) :
    W p l e R s m args below meth c H locs cells slots (vx_MQ below Qc XC args s mc ms free) (F0 m pc ls rest) := by
  intro T hT X
  have htr : e.platform.stackTraces = false := (show e.platform.stackTraces = l.stackTraces by rw [X.admits.platform]).trans hl
  have Y := vx_rebase X (R' := { frames := R.frames, locals := R.locals, cells := 1, slots := 6 }) (Nat.le_refl _) (Nat.le_refl _) hRcells hRslots
  obtain ⟨s', hA⟩ : ∃ z, z = (T.setVm s.vm).setFrames (.invoking m args :: below) := ⟨_, rfl⟩
  rw [← hA] at Y
  have hvm : s'.vm = s.vm := by rw [hA]; rfl
  have hhp : s'.heap = H := by rw [hA]; exact hT
  have hW0 : s.WarmedH s'.vm := by rw [hvm]; exact State.WarmedH.refl s
  have hat' : ∀ w ∈ vx_at0 own ic cls names, w.before args s' = true := fun w hw => vx_ot_at hW0 hvm.symm (hgood w (List.mem_cons_of_mem _ (List.mem_cons_of_mem _ hw))) (hat w hw)
  have hk' : (Cond.classLink own ik cls).before args s' = true := vx_ot_at hW0 hvm.symm (hgood _ List.mem_cons_self) hk
  have hini' : (Cond.initialized cls).before args s' = true := vx_ot_at hW0 hvm.symm (hgood _ (List.mem_cons_of_mem _ List.mem_cons_self)) hini
  have hU' : vx_Zq Bundle.tN "UNASSIGNED_STACK" Bundle.steD A s' s'.heap := by rw [hhp]; exact vx_Zq.moved hW0.alike (hU.kept hS.2.1)
  have hN' : vx_Zq Bundle.tN "SUPPRESSED_SENTINEL" Bundle.listD A s' s'.heap := by rw [hhp]; exact vx_Zq.moved hW0.alike (hN.kept hS.2.1)
  have h : ∀ w ∈ Bundle.ownAtoms0 own ic cls names, w.before args s' = true := vx_own hat' (vx_isRefq hU'.1) (vx_isRefq hN'.1) hU'.2.word hN'.2.word
  have hown' : s'.vm.findClass own = some m.cls := by rw [hvm]; exact hown
  have hins : (Cond.instantiable cls 6).before args s' = true := h _ (by simp [Bundle.ownAtoms0])
  obtain ⟨vm₁, cX, kX, hfX, hkX, -, -, X₁, st1⟩ := Y.newCold hexec (own := own) (C := cls) (index := ik) (n := 6) hown' hk' hins hini'
    (g := F0 m pc ls rest) rfl (by rw [hb]; exact d0) (Nat.le_refl _) (Nat.le_refl _)
  generalize hT1 : (T.setVm vm₁).pushCell { cls := cX, slots := kX.instanceTypes.map defaultValue, vm := .none } = T1 at X₁ st1
  have hcat : (Value.ref T.heap.size).category = 1 := rfl
  have hcellA : T1.heap[T.heap.size]? = some (freshCell cX kX) := by rw [← hT1]; exact State.heap_pushCell_size _ _
  have d3' : decode c.code (pc + 3) = .ok (.dup, 1) := by rw [hb]; exact d3
  obtain ⟨U, hsteps, hrun, hend, hW, hsame, ce, hce, hO⟩ := X₁.ctorThrow0 hexec htr (own := own) (cls := cls) (names := names) (ic := ic) hown' hcls hnames h (fun x hx => nomatch hx) hfX hkX hcellA (by rw [hhp, hT]; exact Nat.le_refl _)
    (g := { method := m, pc := pc + 4, locals := ls, stack := .ref T.heap.size :: .ref T.heap.size :: rest, locked := none }) rfl hsize rfl rfl (rest := rest) rfl
    (by rw [hb]; exact d4) (by rw [hb]; exact d7) hout hRframes (by simp only [List.map_cons, List.sum_cons, hcat]; omega) hlocks
  obtain ⟨f1, f2⟩ := vx_frame hsame
  rw [hhp] at f1 f2
  have hWs : s.WarmedH U.vm := State.WarmedH.trans hW0 hW
  have hcl : s.vm.findClass cls = some ce.cls := by
    have h9 := hO.cls
    rw [hvm] at h9
    exact h9
  have hall : s.sameButNew ({ U with vm := s.vm } : State) locs mc ms := by
    subst hA
    obtain ⟨e1, e2⟩ := hsame
    rw [State.setFrames_setFrames] at e1
    have h2 : (T.setVm s.vm).sameButNew ({ U with vm := s.vm } : State) [] (0 + 1) (0 + 6) := ⟨e1, e2⟩
    have h3 := X.same.trans h2
    rw [List.append_nil] at h3
    exact h3.mono hc hs
  refine ⟨U, ?_, .threw T.heap.size, hrun, hend, Or.inr ⟨T.heap.size, rfl, cls, ce, locs, hx U hWs.alike f1 (fun q hq => f2 q hq (fun z hz => nomatch hz)), hce, hO.vm, hcl, hWs, hall, hf⟩⟩
  refine st1 _ ?_
  show Steps p.tables e below (T1.setTop { method := m, pc := pc + 3, locals := ls, stack := .ref T.heap.size :: rest, locked := none }) _
  jvm_step X₁.here [X₁.here.top, hexec, d3', Value.category]
  exact hsteps
/-- 'throw new E("text")': new; dup; ldc; invokespecial; athrow -/
theorem vx_throwS {cc : ByteArray} {pc : Nat} (hexec : p.tables.exec = Jvm.exec) (hb : c.code = cc) (hl : l.stackTraces = false) {own cls text : String} {names : List String} {ik is ic mc ms sa : Nat} {A : Nat → Prop}
    (hown : s.vm.findClass own = some m.cls) (hcls : Bundle.fit cls = true) (hnames : ∀ n ∈ names, Bundle.fit n = true)
    (hk : (Cond.classLink own ik cls).before args s = true) (hini : (Cond.initialized cls).before args s = true) (hstr : vk_R own is text sa s) (hat : ∀ w ∈ vx_atS own ic cls names, w.before args s = true)
    (hgood : ∀ w ∈ Cond.classLink own ik cls :: Cond.initialized cls :: vx_atS own ic cls names, vx_ot w = true)
    (hU : vx_Zq Bundle.tN "UNASSIGNED_STACK" Bundle.steD A s s.heap) (hN : vx_Zq Bundle.tN "SUPPRESSED_SENTINEL" Bundle.listD A s s.heap) (hS : va_S A s.heap H locs) (hsize : ls.size = c.maxLocals)
    (d0 : decode cc pc = .ok (.new ik, 3)) (d3 : decode cc (pc + 3) = .ok (.dup, 1)) (d4 : decode cc (pc + 4) = .ok (.ldc is, 2)) (d6 : decode cc (pc + 6) = .ok (.invokespecial ic, 3)) (d9 : decode cc (pc + 9) = .ok (.athrow, 1))
    (hout : ∀ x ∈ c.exceptionTable.toList, covers x (pc + 9) = false)
    (hRframes : names.length + 3 < R.frames) (hRlocals : (rest.map fun v => v.category).sum + (13 * (names.length + 1) + 43) ≤ R.locals) (hRcells : cells + 1 ≤ R.cells) (hRslots : slots + 6 ≤ R.slots) (hlocks : meth.locks = false)
    (hx : ∀ t : State, s.vm.Alike t.vm → H.size ≤ t.heap.size → (∀ q : Nat, q < H.size → t.heap[q]? = H[q]?) → XC cls s t)
    (hf : ∀ z ∈ locs, free z.base) (hc : cells + 1 ≤ mc) (hs : slots + 6 ≤ ms) :
    W p l e R s m args below meth c H locs cells slots (vx_MQ below Qc XC args s mc ms free) (F0 m pc ls rest) := by
  intro T hT X
  have htr : e.platform.stackTraces = false := (show e.platform.stackTraces = l.stackTraces by rw [X.admits.platform]).trans hl
  have Y := vx_rebase X (R' := { frames := R.frames, locals := R.locals, cells := 1, slots := 6 }) (Nat.le_refl _) (Nat.le_refl _) hRcells hRslots
  obtain ⟨s', hA⟩ : ∃ z, z = (T.setVm s.vm).setFrames (.invoking m args :: below) := ⟨_, rfl⟩
  rw [← hA] at Y
  have hvm : s'.vm = s.vm := by rw [hA]; rfl
  have hhp : s'.heap = H := by rw [hA]; exact hT
  have hW0 : s.WarmedH s'.vm := by rw [hvm]; exact State.WarmedH.refl s
  have hat' : ∀ w ∈ vx_atS own ic cls names, w.before args s' = true := fun w hw => vx_ot_at hW0 hvm.symm (hgood w (List.mem_cons_of_mem _ (List.mem_cons_of_mem _ hw))) (hat w hw)
  have hk' : (Cond.classLink own ik cls).before args s' = true := vx_ot_at hW0 hvm.symm (hgood _ List.mem_cons_self) hk
  have hini' : (Cond.initialized cls).before args s' = true := vx_ot_at hW0 hvm.symm (hgood _ (List.mem_cons_of_mem _ List.mem_cons_self)) hini
  have hU' : vx_Zq Bundle.tN "UNASSIGNED_STACK" Bundle.steD A s' s'.heap := by rw [hhp]; exact vx_Zq.moved hW0.alike (hU.kept hS.2.1)
  have hN' : vx_Zq Bundle.tN "SUPPRESSED_SENTINEL" Bundle.listD A s' s'.heap := by rw [hhp]; exact vx_Zq.moved hW0.alike (hN.kept hS.2.1)
  have h : ∀ w ∈ Bundle.ownAtoms own ic cls names, w.before args s' = true := vx_own hat' (vx_isRefq hU'.1) (vx_isRefq hN'.1) hU'.2.word hN'.2.word
  have hown' : s'.vm.findClass own = some m.cls := by rw [hvm]; exact hown
  have hins : (Cond.instantiable cls 6).before args s' = true := h _ (by simp [Bundle.ownAtoms])
  obtain ⟨vm₁, cX, kX, hfX, hkX, -, -, X₁, st1⟩ := Y.newCold hexec (own := own) (C := cls) (index := ik) (n := 6) hown' hk' hins hini'
    (g := F0 m pc ls rest) rfl (by rw [hb]; exact d0) (Nat.le_refl _) (Nat.le_refl _)
  generalize hT1 : (T.setVm vm₁).pushCell { cls := cX, slots := kX.instanceTypes.map defaultValue, vm := .none } = T1 at X₁ st1
  have hcat : (Value.ref T.heap.size).category = 1 := rfl
  have hcellA : T1.heap[T.heap.size]? = some (freshCell cX kX) := by rw [← hT1]; exact State.heap_pushCell_size _ _
  have d3' : decode c.code (pc + 3) = .ok (.dup, 1) := by rw [hb]; exact d3
  have d4' : decode c.code (pc + 4) = .ok (.ldc is, 2) := by rw [hb]; exact d4
  have hstr' : vk_R own is text sa s' := vk_R.warm hW0 hstr
  obtain ⟨U, hsteps, hrun, hend, hW, hsame, ce, hce, hO⟩ := X₁.ctorThrowS hexec htr (own := own) (cls := cls) (names := names) (ic := ic) hown' hcls hnames h (fun x hx => nomatch hx) hfX hkX hcellA (by rw [hhp, hT]; exact Nat.le_refl _) (msg := .ref sa) rfl
    (g := { method := m, pc := pc + 6, locals := ls, stack := .ref sa :: .ref T.heap.size :: .ref T.heap.size :: rest, locked := none }) rfl hsize rfl rfl (rest := rest) rfl
    (by rw [hb]; exact d6) (by rw [hb]; exact d9) hout hRframes (by simp only [List.map_cons, List.sum_cons, hcat]; omega) hlocks
  obtain ⟨f1, f2⟩ := vx_frame hsame
  rw [hhp] at f1 f2
  have hWs : s.WarmedH U.vm := State.WarmedH.trans hW0 hW
  have hcl : s.vm.findClass cls = some ce.cls := by
    have h9 := hO.cls
    rw [hvm] at h9
    exact h9
  have hall : s.sameButNew ({ U with vm := s.vm } : State) locs mc ms := by
    subst hA
    obtain ⟨e1, e2⟩ := hsame
    rw [State.setFrames_setFrames] at e1
    have h2 : (T.setVm s.vm).sameButNew ({ U with vm := s.vm } : State) [] (0 + 1) (0 + 6) := ⟨e1, e2⟩
    have h3 := X.same.trans h2
    rw [List.append_nil] at h3
    exact h3.mono hc hs
  refine ⟨U, ?_, .threw T.heap.size, hrun, hend, Or.inr ⟨T.heap.size, rfl, cls, ce, locs, hx U hWs.alike f1 (fun q hq => f2 q hq (fun z hz => nomatch hz)), hce, hO.vm, hcl, hWs, hall, hf⟩⟩
  refine st1 _ ?_
  show Steps p.tables e below (T1.setTop { method := m, pc := pc + 3, locals := ls, stack := .ref T.heap.size :: rest, locked := none }) _
  jvm_step X₁.here [X₁.here.top, hexec, d3', Value.category]
  exact X₁.ldcString hexec (own := own) (text := text) (index := is) (a := sa) hown' hstr'.1 hstr'.2
    (g := { method := m, pc := pc + 4, locals := ls, stack := .ref T.heap.size :: .ref T.heap.size :: rest, locked := none }) rfl d4' _ hsteps
/-- 'throw new E("text")', the text by a wide index -/
theorem vx_throwSW {cc : ByteArray} {pc : Nat} (hexec : p.tables.exec = Jvm.exec) (hb : c.code = cc) (hl : l.stackTraces = false) {own cls text : String} {names : List String} {ik is ic mc ms sa : Nat} {A : Nat → Prop}
    (hown : s.vm.findClass own = some m.cls) (hcls : Bundle.fit cls = true) (hnames : ∀ n ∈ names, Bundle.fit n = true)
    (hk : (Cond.classLink own ik cls).before args s = true) (hini : (Cond.initialized cls).before args s = true) (hstr : vk_R own is text sa s) (hat : ∀ w ∈ vx_atS own ic cls names, w.before args s = true)
    (hgood : ∀ w ∈ Cond.classLink own ik cls :: Cond.initialized cls :: vx_atS own ic cls names, vx_ot w = true)
    (hU : vx_Zq Bundle.tN "UNASSIGNED_STACK" Bundle.steD A s s.heap) (hN : vx_Zq Bundle.tN "SUPPRESSED_SENTINEL" Bundle.listD A s s.heap) (hS : va_S A s.heap H locs) (hsize : ls.size = c.maxLocals)
    (d0 : decode cc pc = .ok (.new ik, 3)) (d3 : decode cc (pc + 3) = .ok (.dup, 1)) (d4 : decode cc (pc + 4) = .ok (.ldc_w is, 3)) (d7 : decode cc (pc + 7) = .ok (.invokespecial ic, 3)) (d10 : decode cc (pc + 10) = .ok (.athrow, 1))
    (hout : ∀ x ∈ c.exceptionTable.toList, covers x (pc + 10) = false)
    (hRframes : names.length + 3 < R.frames) (hRlocals : (rest.map fun v => v.category).sum + (13 * (names.length + 1) + 43) ≤ R.locals) (hRcells : cells + 1 ≤ R.cells) (hRslots : slots + 6 ≤ R.slots) (hlocks : meth.locks = false)
    (hx : ∀ t : State, s.vm.Alike t.vm → H.size ≤ t.heap.size → (∀ q : Nat, q < H.size → t.heap[q]? = H[q]?) → XC cls s t)
    (hf : ∀ z ∈ locs, free z.base) (hc : cells + 1 ≤ mc) (hs : slots + 6 ≤ ms) :
    W p l e R s m args below meth c H locs cells slots (vx_MQ below Qc XC args s mc ms free) (F0 m pc ls rest) := by
  intro T hT X
  have htr : e.platform.stackTraces = false := (show e.platform.stackTraces = l.stackTraces by rw [X.admits.platform]).trans hl
  have Y := vx_rebase X (R' := { frames := R.frames, locals := R.locals, cells := 1, slots := 6 }) (Nat.le_refl _) (Nat.le_refl _) hRcells hRslots
  obtain ⟨s', hA⟩ : ∃ z, z = (T.setVm s.vm).setFrames (.invoking m args :: below) := ⟨_, rfl⟩
  rw [← hA] at Y
  have hvm : s'.vm = s.vm := by rw [hA]; rfl
  have hhp : s'.heap = H := by rw [hA]; exact hT
  have hW0 : s.WarmedH s'.vm := by rw [hvm]; exact State.WarmedH.refl s
  have hat' : ∀ w ∈ vx_atS own ic cls names, w.before args s' = true := fun w hw => vx_ot_at hW0 hvm.symm (hgood w (List.mem_cons_of_mem _ (List.mem_cons_of_mem _ hw))) (hat w hw)
  have hk' : (Cond.classLink own ik cls).before args s' = true := vx_ot_at hW0 hvm.symm (hgood _ List.mem_cons_self) hk
  have hini' : (Cond.initialized cls).before args s' = true := vx_ot_at hW0 hvm.symm (hgood _ (List.mem_cons_of_mem _ List.mem_cons_self)) hini
  have hU' : vx_Zq Bundle.tN "UNASSIGNED_STACK" Bundle.steD A s' s'.heap := by rw [hhp]; exact vx_Zq.moved hW0.alike (hU.kept hS.2.1)
  have hN' : vx_Zq Bundle.tN "SUPPRESSED_SENTINEL" Bundle.listD A s' s'.heap := by rw [hhp]; exact vx_Zq.moved hW0.alike (hN.kept hS.2.1)
  have h : ∀ w ∈ Bundle.ownAtoms own ic cls names, w.before args s' = true := vx_own hat' (vx_isRefq hU'.1) (vx_isRefq hN'.1) hU'.2.word hN'.2.word
  have hown' : s'.vm.findClass own = some m.cls := by rw [hvm]; exact hown
  have hins : (Cond.instantiable cls 6).before args s' = true := h _ (by simp [Bundle.ownAtoms])
  obtain ⟨vm₁, cX, kX, hfX, hkX, -, -, X₁, st1⟩ := Y.newCold hexec (own := own) (C := cls) (index := ik) (n := 6) hown' hk' hins hini'
    (g := F0 m pc ls rest) rfl (by rw [hb]; exact d0) (Nat.le_refl _) (Nat.le_refl _)
  generalize hT1 : (T.setVm vm₁).pushCell { cls := cX, slots := kX.instanceTypes.map defaultValue, vm := .none } = T1 at X₁ st1
  have hcat : (Value.ref T.heap.size).category = 1 := rfl
  have hcellA : T1.heap[T.heap.size]? = some (freshCell cX kX) := by rw [← hT1]; exact State.heap_pushCell_size _ _
  have d3' : decode c.code (pc + 3) = .ok (.dup, 1) := by rw [hb]; exact d3
  have d4' : decode c.code (pc + 4) = .ok (.ldc_w is, 3) := by rw [hb]; exact d4
  have hstr' : vk_R own is text sa s' := vk_R.warm hW0 hstr
  obtain ⟨U, hsteps, hrun, hend, hW, hsame, ce, hce, hO⟩ := X₁.ctorThrowS hexec htr (own := own) (cls := cls) (names := names) (ic := ic) hown' hcls hnames h (fun x hx => nomatch hx) hfX hkX hcellA (by rw [hhp, hT]; exact Nat.le_refl _) (msg := .ref sa) rfl
    (g := { method := m, pc := pc + 7, locals := ls, stack := .ref sa :: .ref T.heap.size :: .ref T.heap.size :: rest, locked := none }) rfl hsize rfl rfl (rest := rest) rfl
    (by rw [hb]; exact d7) (by rw [hb]; exact d10) hout hRframes (by simp only [List.map_cons, List.sum_cons, hcat]; omega) hlocks
  obtain ⟨f1, f2⟩ := vx_frame hsame
  rw [hhp] at f1 f2
  have hWs : s.WarmedH U.vm := State.WarmedH.trans hW0 hW
  have hcl : s.vm.findClass cls = some ce.cls := by
    have h9 := hO.cls
    rw [hvm] at h9
    exact h9
  have hall : s.sameButNew ({ U with vm := s.vm } : State) locs mc ms := by
    subst hA
    obtain ⟨e1, e2⟩ := hsame
    rw [State.setFrames_setFrames] at e1
    have h2 : (T.setVm s.vm).sameButNew ({ U with vm := s.vm } : State) [] (0 + 1) (0 + 6) := ⟨e1, e2⟩
    have h3 := X.same.trans h2
    rw [List.append_nil] at h3
    exact h3.mono hc hs
  refine ⟨U, ?_, .threw T.heap.size, hrun, hend, Or.inr ⟨T.heap.size, rfl, cls, ce, locs, hx U hWs.alike f1 (fun q hq => f2 q hq (fun z hz => nomatch hz)), hce, hO.vm, hcl, hWs, hall, hf⟩⟩
  refine st1 _ ?_
  show Steps p.tables e below (T1.setTop { method := m, pc := pc + 3, locals := ls, stack := .ref T.heap.size :: rest, locked := none }) _
  jvm_step X₁.here [X₁.here.top, hexec, d3', Value.category]
  exact X₁.ldcStringW hexec (own := own) (text := text) (index := is) (a := sa) hown' hstr'.1 hstr'.2
    (g := { method := m, pc := pc + 4, locals := ls, stack := .ref T.heap.size :: .ref T.heap.size :: rest, locked := none }) rfl d4' _ hsteps
end Ends
section Bodies
variable {l : Launch}
theorem vx_ofW {y : MethodName} {ws ws' : List Cond} {rm : Room} {Pc : Array Value → State → Prop} {Qc : Array Value → State → Outcome → State → Prop} {XC : String → State → State → Prop} {mc ms : Nat} {free : Addr → Prop} {cc : ByteArray} {maxL : Nat} {ret : Option FieldType}
    (hy : plainName y.cls = true) (hw : ws = Cond.code y cc maxL ret :: ws')
    (body : ∀ p e s m args below meth c s₁, BodyLoose p l y (headSpec ws rm) cc maxL ret e s m args below meth c s₁ → c.maxLocals = maxL → (∀ x ∈ c.exceptionTable.toList, False) → Pc args s →
      W p l e (headSpec ws rm).room s m args below meth c s.heap [] 0 0 (vx_MQ below Qc XC args s mc ms free) (entryFrame m args maxL)) : vx_Met l y ws rm Pc Qc XC mc ms free := by
  refine MetFree.of_bodyS (code := cc) (maxLocals := maxL) (ret := ret) hy ?_ ?_
  · intro args s m h hn
    obtain ⟨meth, c, h1, h2, h3, h4, h5, h6, -, -⟩ := Cond.code_spec hn (atoms_spec (ws := ws) h _ (by rw [hw]; exact List.mem_cons_self))
    exact ⟨meth, c, h1, h2, h3, h4, h5, h6⟩
  · intro p e s m args below meth c s₁ B hml hP _
    have hh0 : s₁.heap = s.heap := by rw [B.state]; rfl
    have ht : ∀ x ∈ c.exceptionTable.toList, False := by
      obtain ⟨meth9, c9, h1, h2, -, -, -, -, h7, -⟩ := Cond.code_spec B.named (atoms_spec (ws := ws) B.pre _ (by rw [hw]; exact List.mem_cons_self))
      cases Option.some.inj (h1.symm.trans B.method)
      cases Option.some.inj (h2.symm.trans (Stand.of_body B).code)
      intro x hx
      rw [Array.isEmpty_iff.mp h7] at hx
      cases hx
    obtain ⟨t, a1, o, b1, b2, b3⟩ := body p e s m args below meth c s₁ B hml ht hP s₁ hh0 (Stand.of_body B)
    exact ⟨t, o, a1, b1, b2, b3⟩
/-- the table of a body with handlers -/
theorem vx_table {p : Program} {x y : MethodName} {S : Spec} {cc bytes : ByteArray} {maxL maxL' : Nat} {ret ret' : Option FieldType} {e : Env} {s s₁ : State} {m : MethodId} {args : Array Value} {below : List Frame} {meth : Method} {c : Code} {hh : List (Nat × Nat × Nat × Nat)}
    (B : BodyLoose p l y S cc maxL ret e s m args below meth c s₁) (h : (Cond.codeWith y bytes maxL' ret' hh).before args s = true) : c.exceptionTable.toList = tableOf hh := by
  obtain ⟨m9, meth9, c9, hn9, h1, h2, -, -, h6, -⟩ := Cond.codeWith_spec h
  cases Option.some.inj (hn9.symm.trans B.named)
  cases Option.some.inj (h1.symm.trans B.method)
  cases Option.some.inj (h2.symm.trans (Stand.of_body B).code)
  rw [← h6, table_eq]
end Bodies
end VXA
/-! ===== END ===== -/
/-! ===== BEGIN a static call of a method with an exception table ===== -/
section VXS
variable {p : Program} {l : Launch} {e : Env} {R : Room} {s : State} {m : MethodId} {args : Array Value} {below : List Frame} {meth : Method} {c : Code} {T : State} {H : Heap} {locs : List Loc} {cells slots : Nat}
abbrev vx_CSW (R : Room) (s : State) (args : Array Value) (own : String) (index : Nat) (y : MethodName) (bytes : ByteArray) (maxL : Nat) (ret : Option FieldType) (hh : List (Nat × Nat × Nat × Nat)) (ws : List Cond) (rm : Room) (mc ms n : Nat) : Prop :=
  (rm.cells = mc ∧ rm.slots = ms ∧ rm.frames + 1 ≤ R.frames ∧ 8 + (maxL + 11) + rm.locals ≤ R.locals ∧ (∀ w ∈ ws, ∀ (a' : Array Value) (U : State), s.WarmedH U.vm → w.before a' U = true) ∧ Cond.codeWith y bytes maxL ret hh ∈ ws) ∧
  (Cond.codeWith y bytes maxL ret hh).before args s = true ∧ (Cond.initialized y.cls).before args s = true ∧ (y.cls ≠ "java/lang/invoke/MethodHandle" ∧ y.cls ≠ "java/lang/invoke/VarHandle") ∧
  (∀ sig, parseMethodDescriptor y.desc = some sig → n = sig.parameters.length) ∧ (Cond.methodLink own index y).before args s = true ∧ (Cond.static y).before args s = true
theorem vx_cwSW {own : String} {index maxL mc ms : Nat} {y : MethodName} {bytes : ByteArray} {ret : Option FieldType} {hh : List (Nat × Nat × Nat × Nat)} {Ts ws ws' : List Cond} {rm : Room} (n : Nat) (ht : ∀ w ∈ Ts, w.before args s = true) (hT : GoodIn Ts (va_wsS own index y ws)) (hw : ws = Cond.codeWith y bytes maxL ret hh :: ws') (hrc : rm.cells = mc) (hrs : rm.slots = ms)
    (hd : y.cls ≠ "java/lang/invoke/MethodHandle" ∧ y.cls ≠ "java/lang/invoke/VarHandle" ∧ (parseMethodDescriptor y.desc).map (fun d => d.parameters.length) = some n) (hR : rm.frames + 1 ≤ R.frames ∧ 8 + (maxL + 11) + rm.locals ≤ R.locals) :
    vx_CSW R s args own index y bytes maxL ret hh ws rm mc ms n := by
  have ok : ∀ w ∈ va_wsS own index y ws, w.before args s = true := fun w h => ht w (hT w h).1
  have hG : GoodIn Ts ws := fun w h => hT w (by unfold va_wsS; exact List.mem_append_right _ h)
  have hc : Cond.codeWith y bytes maxL ret hh ∈ ws := by rw [hw]; exact List.mem_cons_self
  refine ⟨⟨hrc, hrs, hR.1, hR.2, pay_in ht hG, hc⟩, ht _ (hG _ hc).1, ok _ (by simp [va_wsS]), ⟨hd.1, hd.2.1⟩, fun sig h => ?_, ok _ (by simp [va_wsS]), ok _ (by simp [va_wsS])⟩
  have h2 := hd.2.2
  rw [h] at h2
  exact (Option.some.inj h2).symm
theorem vx_callSW (X : Stand p l e R s m args below meth c T locs cells slots) (hexec : p.tables.exec = Jvm.exec) {own : String} {index : Nat} {y : MethodName} {bytes : ByteArray} {maxL : Nat} {ret : Option FieldType} {hh : List (Nat × Nat × Nat × Nat)}
    (hown : s.vm.findClass own = some m.cls) (hlink : (Cond.methodLink own index y).before args s = true) (hstat : (Cond.static y).before args s = true) (hinit : (Cond.initialized y.cls).before args s = true)
    (hcode : (Cond.codeWith y bytes maxL ret hh).before args s = true) (hy : y.cls ≠ "java/lang/invoke/MethodHandle" ∧ y.cls ≠ "java/lang/invoke/VarHandle")
    {W9 : Nat} {Pre : Pt → Array Value → Prop} {Post : Pt → Array Value → Option Value → Pt → Prop} (hK : Back l R p e below s args y 3 W9 Pre Post)
    {g : JFrame} (hg : g.method = m) (hsize : g.locals.size = c.maxLocals) {argsL rest : List Value} (hlen : ∀ sig, parseMethodDescriptor y.desc = some sig → argsL.length = sig.parameters.length)
    (hstack : g.stack = argsL.reverse ++ rest) (hW : 2 * g.monitorRoom + (rest.map fun v => v.category).sum ≤ W9) (hdg : decode c.code g.pc = .ok (.invokestatic index, 3))
    (hpre : ∀ vm₁, s.WarmedH vm₁ → Pre ⟨T.setVm vm₁, locs, cells, slots⟩ argsL.toArray) :
    ∃ (v : Option Value) (vm₁ : Vm) (B : Pt), s.WarmedH vm₁ ∧ Stand p l e R s m args below meth c B.U B.locs B.cells B.slots ∧ Post ⟨T.setVm vm₁, locs, cells, slots⟩ argsL.toArray v B ∧
      ∀ target, Steps p.tables e below (B.U.setTop { g with pc := g.pc + 3, stack := v.toList ++ rest }) target → Steps p.tables e below (T.setTop g) target := by
  obtain ⟨mk, methM, cM, hnamed, hmethM, -, -, -, -, -, -, hsigM⟩ := Cond.codeWith_spec hcode
  have hstatic : methM.isStatic = true := Cond.static_spec hnamed hmethM hstat
  obtain ⟨kP, hkP, -⟩ := className_of_methodNamed hnamed
  have hinitP : kP.init = .initialized := Cond.initialized_spec (findClass_of_methodNamed hnamed) hkP hinit
  obtain ⟨vm₁, X₁, hstep₁⟩ := X.invokestatic hexec hown hlink hnamed hmethM hstatic hkP hinitP hy (g := g) hg (argsL := argsL) (rest := rest) (hlen _ hsigM) hstack hdg
  obtain ⟨v, B, X', hpost, hsteps⟩ := hK m meth c ⟨T.setVm vm₁, locs, cells, slots⟩ { g with stack := rest } (.invokestatic index) mk argsL.toArray X₁ hg hsize hdg hW (X₁.named hnamed) (hpre vm₁ X₁.warmed)
  exact ⟨v, vm₁, B, X₁.warmed, X', hpost, fun target h => hstep₁ _ fun acts => by rw [doInvoke_state]; exact hsteps.trans h⟩
theorem vx_runSW {y : MethodName} {bytes cc : ByteArray} {maxL nL mc ms n index : Nat} {ret : Option FieldType} {hh : List (Nat × Nat × Nat × Nat)} {ws : List Cond} {rm : Room} {Pc : Array Value → State → Prop} {Qc : Array Value → State → Outcome → State → Prop} {free : Addr → Prop} {Ts : List Cond} {own : String} {As rest : List Value} {g : JFrame}
    (S : CallFix p m c cc nL s args Ts own) (hM : Met l y ws rm Pc Qc mc ms free) (cw : vx_CSW R s args own index y bytes maxL ret hh ws rm mc ms n) (hp : PreS s H Pc As)
    (hg : g.method = m) (hn : As.length = n) (hsize : g.locals.size = nL) (hstack : g.stack = As.reverse ++ rest) (hW : 2 * g.monitorRoom + (rest.map fun v => v.category).sum ≤ 8) (hdg : decode cc g.pc = .ok (.invokestatic index, 3)) (hf : cells + mc ≤ R.cells ∧ slots + ms ≤ R.slots) :
    va_Run p l e R s m args below meth c H locs cells slots mc ms g rest (Qc As.toArray) (free) := by
  obtain ⟨⟨hrc, hrs, hfr, hlo, hws, hcw⟩, hcode, hini, hy, hlen, hl, hstt⟩ := cw
  have hK : Back l R p e below s args y 3 8 (PreOf R mc ms Pc) (PostOf Qc mc ms free) := va_backW (hh := hh) (bytes := bytes) (maxL := maxL) (ret := ret) hM hp.1 hrc hrs hfr hlo hws hcw (fun a' U hW => word_at hW (Or.inl (by first | rfl | simp [Cond.onTables, Cond.keeps, Cond.steady])) hini)
  obtain ⟨hx, hb, hml, ho, -⟩ := S
  intro T hT X
  obtain ⟨v, vm₁, ⟨U', l2, c2, s2⟩, hW₁, X', ⟨g', mk, t, L, e1, e2, hq, h1, hL, h2, h3⟩, st⟩ := vx_callSW X hx (hh := hh) (bytes := bytes) (maxL := maxL) (ret := ret) ho hl hstt hini hcode hy hK hg (hsize.trans hml.symm) (argsL := As) (rest := rest) (fun sig h => hn.trans (hlen sig h)) hstack hW (by rw [hb]; exact hdg)
    (fun vm₁ hW₁ => ⟨hf.1, hf.2, hp.2 (T.setVm vm₁) hT hW₁⟩)
  dsimp only [Pt.U, Pt.locs, Pt.cells, Pt.slots] at X' e1 e2 h1 h2 h3 st
  subst h1; subst h2; subst h3
  exact ⟨v, (T.setVm vm₁).calling g' mk As.toArray, t, U', L, hT, X', hL, e1, e2, hq, st⟩
/-- not caught here, past rows that name other classes: it goes on to the caller -/
theorem vx_outP {p : Program} {l : Launch} {e : Env} {R : Room} {s : State} {m : MethodId} {args : Array Value} {below : List Frame} {meth : Method} {c : Code} {H : Heap} {locs : List Loc} {cells slots : Nat} {free : Addr → Prop} {ls : Array Slot} {rest : List Value} {Qc : Array Value → State → Outcome → State → Prop} {XC : String → State → State → Prop}
    {pc : Nat} {own E : String} {ce : Cell} {q : Addr} {mc ms : Nat} (hown : s.vm.findClass own = some m.cls) (hlocks : meth.locks = false)
    (hpass : ∀ z ∈ c.exceptionTable.toList, covers z pc = false ∨ (z.catchType ≠ 0 ∧ ∃ nm : String, (Cond.classLink own z.catchType nm).before args s = true ∧ va_Nc E nm s)) (hcell : H[q]? = some ce) (hv : ce.vm = .none) (hcl : s.vm.findClass E = some ce.cls)
    (hx : ∀ t : State, t.heap = H → s.vm.Alike t.vm → XC E s t) (hf : ∀ z ∈ locs, free z.base) (hc : cells ≤ mc) (hs : slots ≤ ms) :
    vx_W p l e R s m args below meth c H locs cells slots (vx_MQ below Qc XC args s mc ms free) (F0 m pc ls rest) q := by
  intro T hT X
  have hpl : e.platform.magicAccessors = ({} : Platform).magicAccessors := by rw [X.admits.platform]
  obtain ⟨vm', hW', X', st⟩ := X.outThrough hlocks q (g := F0 m pc ls rest) rfl rfl rfl (cell := ce) (by rw [hT]; exact hcell) (by rw [hv]; rfl)
    (by obtain ⟨k9, h9, -⟩ := Vm.findClass_spec hcl; exact ⟨k9, h9⟩) (fun z hz => by
      rcases hpass z hz with h | ⟨hz0, nm, hl1, hn1⟩
      · exact Or.inl h
      · obtain ⟨c6, hc6, hcl6⟩ := Cond.classLink_spec hown hl1 e.platform hpl
        obtain ⟨a8, b8, h1, h2, h3⟩ := hn1
        cases Option.some.inj (h1.symm.trans hcl)
        cases Option.some.inj (h2.symm.trans hc6)
        exact Or.inr ⟨hz0, _, hcl6, h3⟩)
  obtain ⟨g₀, hfr⟩ := X'.frames_eq
  have hcell9 : ((T.setVm vm').setFrames (.throwing q :: below)).heap[q]? = some ce := by
    show T.heap[q]? = some ce
    rw [hT]; exact hcell
  have hend : Ended ((T.setVm vm').setFrames (.throwing q :: below)) below (.threw q) := State.frames_setFrames _ (State.cur_lt_of_frames hfr)
  refine ⟨(T.setVm vm').setFrames (.throwing q :: below), ?_, .threw q, X'.here.running, hend, Or.inr ⟨q, rfl, E, ce, locs, hx _ hT (X'.ends _).1.alike, hcell9, hv, hcl, (X'.ends _).1, (X'.ends _).2.mono hc hs, hf⟩⟩
  rw [X.pushThrowing_eq]
  exact st
/-- a thing of a world lies in the heap -/
theorem vx_lt {D : va_G} {cl : List vw_C} {ws : va_W} {H1 : Heap} (h : va_P D cl ws H1) {k : Nat} {q : Nat × va_E} (hk : ws[k]? = some q) : q.1 < H1.size := (h k q hk).lt
end VXS
/-! ===== END ===== -/
/-! ===== BEGIN methods with a table of their own: called by a name, returning or throwing ===== -/
section VXH
/-! vx_backW, vx_callVX, vx_callSX, vx_callVW, vx_runVW, vx_runVX, vx_runSX, vx_ofWH follow the same proofs as their sisters above (Free/Laws.lean, Shelf42/LK1.lean); vx_outP calls Shelf42/NT130.lean (outThrough). -/
section
variable {l : Launch} {R : Room} {p : Program} {e : Env} {below : List Frame} {s : State} {sargs : Array Value} {y : MethodName} {len W9 : Nat}
theorem vx_backW {ws : List Cond} {rm : Room} {Pc : Array Value → State → Prop} {Qc : Array Value → State → Outcome → State → Prop} {XC : String → State → State → Prop} {mc ms : Nat} {free : Addr → Prop} {bytes : ByteArray} {maxL : Nat} {ret : Option FieldType} {hh : List (Nat × Nat × Nat × Nat)}
    (hM : vx_Met l y ws rm Pc Qc XC mc ms free) (hblind : FrameBlind Pc) (hrc : rm.cells = mc) (hrs : rm.slots = ms)
    (hframes : rm.frames + 1 ≤ R.frames) (hlocals : W9 + (maxL + 11) + rm.locals ≤ R.locals)
    (hws : ∀ w ∈ ws, ∀ a' U, s.WarmedH U.vm → w.before a' U = true) (hcode : Cond.codeWith y bytes maxL ret hh ∈ ws) (hinit : ∀ a' U, s.WarmedH U.vm → (Cond.initialized y.cls).before a' U = true) :
    vx_Back l R p e below s sargs y len W9 (PreOf R mc ms Pc) (PostOf Qc mc ms free) (vx_Post XC mc ms free) := by
  intro m meth c A g ig mk a X hg hsize hdg hW hn hp
  have h1 : (headSpec ws rm).pre.before a A.U = true := atoms_intro fun w hw => hws w hw _ _ X.warmed
  have h2 : (Cond.codeWith y bytes maxL ret hh).before a A.U = true := hws _ hcode _ _ X.warmed
  have h3 : (Cond.initialized y.cls).before a A.U = true := hinit _ _ X.warmed
  have h4 : A.cells + (headSpec ws rm).room.cells ≤ R.cells := by rw [show (headSpec ws rm).room.cells = mc from hrc]; exact hp.1
  have h5 : A.slots + (headSpec ws rm).room.slots ≤ R.slots := by rw [show (headSpec ws rm).room.slots = ms from hrs]; exact hp.2.1
  have hPc : Pc a (A.U.calling g mk a) := hblind _ _ _ _ hp.2.2
  obtain ⟨U, Ls, c0, s0⟩ := A
  dsimp only [Pt.U, Pt.locs, Pt.cells, Pt.slots] at h1 h2 h3 h4 h5 X hn hPc ⊢
  obtain ⟨m9, methY, cY, hn9, hmY, hcY, -, hlY, -⟩ := Cond.codeWith_spec h2
  cases Option.some.inj (hn9.symm.trans hn)
  obtain ⟨kY, hkY, -⟩ := className_of_methodNamed hn
  have hinitY : kY.init = .initialized := Cond.initialized_spec (findClass_of_methodNamed hn) hkY h3
  have h : At U g.method c below := by rw [hg]; exact X.here
  have hlocals9 : W9 + (maxL + 11) + (headSpec ws rm).room.locals ≤ R.locals := hlocals
  have happ : (headSpec ws rm).appliesLoose y e.platform (U.calling g mk a) = true :=
    Spec.appliesLoose_calling (g := g) h hdg hn hkY hinitY
      (X.room_calling (g := g) (R' := (headSpec ws rm).room) hsize hmY hcY hframes (by rw [hlY]; omega) h4 h5) h1
  obtain ⟨mid, hmid⟩ := h.above
  have hfr : (U.setTop g).frames = (.java g :: mid) ++ below := by rw [State.frames_setTop' g h.top, hmid]; rfl
  obtain ⟨o, s₂, hsteps, -, hend, hq⟩ := Steps.callFree hM p X.admits X.cas X.clock (acts := []) hfr happ hPc trivial
  have hq' : vx_Q Qc XC mc ms free a (U.calling g mk a) o s₂ := hq
  rw [State.frames_setTop' g h.top] at hend
  obtain ⟨g₀, hg0⟩ := Option.isSome_iff_exists.mp h.top
  obtain ⟨r, hr⟩ := State.topJava?_eq_some.mp hg0
  have hr' : (({ U with heap := s₂.heap, slotsUsed := s₂.slotsUsed } : State).setVm s₂.vm).frames = .java g₀ :: r := hr
  rcases hq' with ⟨hqc, L, hfe, hL⟩ | ⟨q, rfl, E, ce, L, hx, hce, hcv, hcl, hW₂, hsm, hL⟩
  · obtain ⟨⟨v, rfl⟩, hW₂, e2, q2, q3, q4, q5, q6⟩ := id hfe
    have e3 : s₂ = ({ (U.calling g mk a).setFrames s₂.frames with heap := s₂.heap, slotsUsed := s₂.slotsUsed } : State).setVm s₂.vm := by
      have : s₂ = ({ s₂ with vm := (U.calling g mk a).vm } : State).setVm s₂.vm := rfl
      rw [e2] at this
      exact this
    obtain ⟨c₂, i₂, len₂, hc₂, hd₂, hf₂⟩ := hend
    have hW' : U.WarmedH s₂.vm := hW₂
    have hcc : c₂ = c := by
      have h1 : s₂.code? g.method = U.code? g.method := by
        rw [State.code?_eq, State.code?_eq, hW'.alike.method?]
      exact Option.some.inj (hc₂.symm.trans (h1.trans h.code))
    subst hcc
    have hlen : len₂ = len := by rw [hdg] at hd₂; cases hd₂; rfl
    subst hlen
    have hs₂ : s₂ = (({ U with heap := s₂.heap, slotsUsed := s₂.slotsUsed } : State).setVm s₂.vm).setTop { g with pc := g.pc + len₂, stack := v.toList ++ g.stack } := by
      refine e3.trans ?_
      rw [hf₂, State.calling_eq h.top, State.setFrames_setFrames, State.setTop_of_frames _ hr', hr]
      rfl
    have hsame : U.sameButNew ({ U with heap := s₂.heap, slotsUsed := s₂.slotsUsed } : State) L mc ms := by
      refine ⟨?_, q2, q3, q4, q5, q6⟩
      obtain ⟨t, ht, -⟩ := State.frames_cons hr
      show ({ U with heap := s₂.heap, slotsUsed := s₂.slotsUsed } : State) = { U.setFrames U.frames with heap := s₂.heap, slotsUsed := s₂.slotsUsed }
      rw [State.setFrames_self ht]
    subst hg
    refine Or.inl ⟨v, ⟨(({ U with heap := s₂.heap, slotsUsed := s₂.slotsUsed } : State).setVm s₂.vm), Ls ++ L, c0 + mc, s0 + ms⟩,
      ⟨X.admits, X.cas, X.clock, X.frames, X.room, X.hears, X.method, X.code, (X.here.setHeapUsed s₂.heap s₂.slotsUsed).setVm hW'.alike, X.tail, State.WarmedH.trans X.warmed hW', X.limits, X.bytes, X.same.trans (hsame.setVm s.vm)⟩,
      ⟨g, mk, s₂, L, rfl, rfl, hqc, rfl, hL, rfl, rfl⟩, ?_⟩
    show Steps p.tables e below _ ((({ U with heap := s₂.heap, slotsUsed := s₂.slotsUsed } : State).setVm s₂.vm).setTop { g with pc := g.pc + len₂, stack := v.toList ++ g.stack })
    rw [← hs₂]
    exact hsteps
  · obtain ⟨e2, q2, q3, q4, q5, q6⟩ := id hsm
    have e3 : s₂ = ({ (U.calling g mk a).setFrames s₂.frames with heap := s₂.heap, slotsUsed := s₂.slotsUsed } : State).setVm s₂.vm := by
      have : s₂ = ({ s₂ with vm := (U.calling g mk a).vm } : State).setVm s₂.vm := rfl
      rw [e2] at this
      exact this
    have hf₂ : s₂.frames = .throwing q :: .java g :: U.frames.tail := hend
    have hW' : U.WarmedH s₂.vm := hW₂
    have hs₂ : s₂ = ((({ U with heap := s₂.heap, slotsUsed := s₂.slotsUsed } : State).setVm s₂.vm).setTop g).pushFrame (.throwing q) := by
      refine e3.trans ?_
      rw [hf₂, State.calling_eq h.top, State.setFrames_setFrames, State.pushFrame, State.frames_setTop _ hr', State.setTop_of_frames _ hr', State.setFrames_setFrames, hr]
      rfl
    have hsame : U.sameButNew ({ U with heap := s₂.heap, slotsUsed := s₂.slotsUsed } : State) L mc ms := by
      refine ⟨?_, q2, q3, q4, q5, q6⟩
      obtain ⟨t, ht, -⟩ := State.frames_cons hr
      show ({ U with heap := s₂.heap, slotsUsed := s₂.slotsUsed } : State) = { U.setFrames U.frames with heap := s₂.heap, slotsUsed := s₂.slotsUsed }
      rw [State.setFrames_self ht]
    subst hg
    refine Or.inr ⟨q, ⟨(({ U with heap := s₂.heap, slotsUsed := s₂.slotsUsed } : State).setVm s₂.vm), Ls ++ L, c0 + mc, s0 + ms⟩,
      ⟨X.admits, X.cas, X.clock, X.frames, X.room, X.hears, X.method, X.code, (X.here.setHeapUsed s₂.heap s₂.slotsUsed).setVm hW'.alike, X.tail, State.WarmedH.trans X.warmed hW', X.limits, X.bytes, X.same.trans (hsame.setVm s.vm)⟩,
      ⟨g, mk, s₂, L, E, ce, rfl, rfl, hx, hce, hcv, hcl, rfl, hL, rfl, rfl⟩, ?_⟩
    show Steps p.tables e below _ (((({ U with heap := s₂.heap, slotsUsed := s₂.slotsUsed } : State).setVm s₂.vm).setTop g).pushFrame (.throwing q))
    rw [← hs₂]
    exact hsteps
end
variable {p : Program} {l : Launch} {e : Env} {R : Room} {s : State} {m : MethodId} {args : Array Value} {below : List Frame} {meth : Method} {c : Code} {T : State} {H : Heap} {locs : List Loc} {cells slots : Nat}
theorem vx_callVX (X : Stand p l e R s m args below meth c T locs cells slots) (hexec : p.tables.exec = Jvm.exec) {own C : String} {index : Nat} {y : MethodName} {bytes : ByteArray} {maxL : Nat} {ret : Option FieldType} {hh : List (Nat × Nat × Nat × Nat)}
    (hown : s.vm.findClass own = some m.cls) (hlink : (Cond.methodLink own index y).before args s = true) (hinst : (Cond.instanceMethod y).before args s = true) (hsel : (Cond.selects C y y).before args s = true)
    (hcode : (Cond.codeWith y bytes maxL ret hh).before args s = true) (hy : y.cls ≠ "java/lang/invoke/MethodHandle" ∧ y.cls ≠ "java/lang/invoke/VarHandle")
    {W9 : Nat} {Pre : Pt → Array Value → Prop} {Post : Pt → Array Value → Option Value → Pt → Prop} {PostX : Pt → Array Value → Addr → Pt → Prop} (hK : vx_Back l R p e below s args y 3 W9 Pre Post PostX)
    {b : Addr} {cellB : Cell} (hcell : T.heap[b]? = some cellB) (hobj : cellB.vm.isStatics = false) (hcls : s.vm.findClass C = some cellB.cls)
    {g : JFrame} (hg : g.method = m) (hsize : g.locals.size = c.maxLocals) {argsL rest : List Value} (hlen : ∀ sig, parseMethodDescriptor y.desc = some sig → argsL.length = sig.parameters.length)
    (hstack : g.stack = argsL.reverse ++ .ref b :: rest) (hW : 2 * g.monitorRoom + (rest.map fun v => v.category).sum ≤ W9) (hdg : decode c.code g.pc = .ok (.invokevirtual index, 3))
    (hpre : ∀ vm₁, s.WarmedH vm₁ → Pre ⟨T.setVm vm₁, locs, cells, slots⟩ (Value.ref b :: argsL).toArray) :
    (∃ (v : Option Value) (vm₁ : Vm) (B : Pt), s.WarmedH vm₁ ∧ Stand p l e R s m args below meth c B.U B.locs B.cells B.slots ∧ Post ⟨T.setVm vm₁, locs, cells, slots⟩ (Value.ref b :: argsL).toArray v B ∧
      ∀ target, Steps p.tables e below (B.U.setTop { g with pc := g.pc + 3, stack := v.toList ++ rest }) target → Steps p.tables e below (T.setTop g) target) ∨
    (∃ (q : Addr) (vm₁ : Vm) (B : Pt), s.WarmedH vm₁ ∧ Stand p l e R s m args below meth c B.U B.locs B.cells B.slots ∧ PostX ⟨T.setVm vm₁, locs, cells, slots⟩ (Value.ref b :: argsL).toArray q B ∧
      Steps p.tables e below (T.setTop g) ((B.U.setTop { g with stack := rest }).pushFrame (.throwing q))) := by
  obtain ⟨mk, methM, hnamed, hmethM, hstM, habM⟩ := Cond.instanceMethod_spec hinst
  obtain ⟨m8, methM', cM, hn8, hmethM', -, -, -, -, -, -, hsigM⟩ := Cond.codeWith_spec hcode
  cases Option.some.inj (hn8.symm.trans hnamed)
  cases hmethM.symm.trans hmethM'
  obtain ⟨c2, r2, m2, q1, q2, q3, q4, kP, hkP, hkPi⟩ := Cond.selects_spec hsel
  cases hcls.symm.trans q1
  cases (State.methodFound?_of_named hnamed hy).symm.trans q2
  cases hnamed.symm.trans q3
  have hselP : selectMethod e.platform s.vm cellB.cls mk = .method mk := by rw [Launch.admits_selectMethod X.admits]; exact q4
  obtain ⟨vm₁, X₁, hstep₁⟩ := X.invokevirtual hexec hown hlink hnamed hmethM hstM hkP hkPi hy (a := b) (cell := cellB) hcell
    (fun z h => by rw [h] at hobj; cases hobj) hselP hmethM habM hkP hkPi (g := g) hg (argsL := argsL) (rest := rest) (hlen _ hsigM) hstack hdg
  rcases hK m meth c ⟨T.setVm vm₁, locs, cells, slots⟩ { g with stack := rest } (.invokevirtual index) mk (Value.ref b :: argsL).toArray X₁ hg hsize hdg hW (X₁.named hnamed) (hpre vm₁ X₁.warmed) with ⟨v, B, X', hpost, hsteps⟩ | ⟨q, B, X', hpost, hsteps⟩
  · exact Or.inl ⟨v, vm₁, B, X₁.warmed, X', hpost, fun target h => hstep₁ _ fun acts => by rw [doInvoke_state]; exact hsteps.trans h⟩
  · exact Or.inr ⟨q, vm₁, B, X₁.warmed, X', hpost, hstep₁ _ fun acts => by rw [doInvoke_state]; exact hsteps⟩
theorem vx_callSX (X : Stand p l e R s m args below meth c T locs cells slots) (hexec : p.tables.exec = Jvm.exec) {own : String} {index : Nat} {y : MethodName} {bytes : ByteArray} {maxL : Nat} {ret : Option FieldType} {hh : List (Nat × Nat × Nat × Nat)}
    (hown : s.vm.findClass own = some m.cls) (hlink : (Cond.methodLink own index y).before args s = true) (hstat : (Cond.static y).before args s = true) (hinit : (Cond.initialized y.cls).before args s = true)
    (hcode : (Cond.codeWith y bytes maxL ret hh).before args s = true) (hy : y.cls ≠ "java/lang/invoke/MethodHandle" ∧ y.cls ≠ "java/lang/invoke/VarHandle")
    {W9 : Nat} {Pre : Pt → Array Value → Prop} {Post : Pt → Array Value → Option Value → Pt → Prop} {PostX : Pt → Array Value → Addr → Pt → Prop} (hK : vx_Back l R p e below s args y 3 W9 Pre Post PostX)
    {g : JFrame} (hg : g.method = m) (hsize : g.locals.size = c.maxLocals) {argsL rest : List Value} (hlen : ∀ sig, parseMethodDescriptor y.desc = some sig → argsL.length = sig.parameters.length)
    (hstack : g.stack = argsL.reverse ++ rest) (hW : 2 * g.monitorRoom + (rest.map fun v => v.category).sum ≤ W9) (hdg : decode c.code g.pc = .ok (.invokestatic index, 3))
    (hpre : ∀ vm₁, s.WarmedH vm₁ → Pre ⟨T.setVm vm₁, locs, cells, slots⟩ argsL.toArray) :
    (∃ (v : Option Value) (vm₁ : Vm) (B : Pt), s.WarmedH vm₁ ∧ Stand p l e R s m args below meth c B.U B.locs B.cells B.slots ∧ Post ⟨T.setVm vm₁, locs, cells, slots⟩ argsL.toArray v B ∧
      ∀ target, Steps p.tables e below (B.U.setTop { g with pc := g.pc + 3, stack := v.toList ++ rest }) target → Steps p.tables e below (T.setTop g) target) ∨
    (∃ (q : Addr) (vm₁ : Vm) (B : Pt), s.WarmedH vm₁ ∧ Stand p l e R s m args below meth c B.U B.locs B.cells B.slots ∧ PostX ⟨T.setVm vm₁, locs, cells, slots⟩ argsL.toArray q B ∧
      Steps p.tables e below (T.setTop g) ((B.U.setTop { g with stack := rest }).pushFrame (.throwing q))) := by
  obtain ⟨mk, methM, cM, hnamed, hmethM, -, -, -, -, -, -, hsigM⟩ := Cond.codeWith_spec hcode
  have hstatic : methM.isStatic = true := Cond.static_spec hnamed hmethM hstat
  obtain ⟨kP, hkP, -⟩ := className_of_methodNamed hnamed
  have hinitP : kP.init = .initialized := Cond.initialized_spec (findClass_of_methodNamed hnamed) hkP hinit
  obtain ⟨vm₁, X₁, hstep₁⟩ := X.invokestatic hexec hown hlink hnamed hmethM hstatic hkP hinitP hy (g := g) hg (argsL := argsL) (rest := rest) (hlen _ hsigM) hstack hdg
  rcases hK m meth c ⟨T.setVm vm₁, locs, cells, slots⟩ { g with stack := rest } (.invokestatic index) mk argsL.toArray X₁ hg hsize hdg hW (X₁.named hnamed) (hpre vm₁ X₁.warmed) with ⟨v, B, X', hpost, hsteps⟩ | ⟨q, B, X', hpost, hsteps⟩
  · exact Or.inl ⟨v, vm₁, B, X₁.warmed, X', hpost, fun target h => hstep₁ _ fun acts => by rw [doInvoke_state]; exact hsteps.trans h⟩
  · exact Or.inr ⟨q, vm₁, B, X₁.warmed, X', hpost, hstep₁ _ fun acts => by rw [doInvoke_state]; exact hsteps⟩
theorem vx_callVW (X : Stand p l e R s m args below meth c T locs cells slots) (hexec : p.tables.exec = Jvm.exec) {own C : String} {index : Nat} {y : MethodName} {bytes : ByteArray} {maxL : Nat} {ret : Option FieldType} {hh : List (Nat × Nat × Nat × Nat)}
    (hown : s.vm.findClass own = some m.cls) (hlink : (Cond.methodLink own index y).before args s = true) (hinst : (Cond.instanceMethod y).before args s = true) (hsel : (Cond.selects C y y).before args s = true)
    (hcode : (Cond.codeWith y bytes maxL ret hh).before args s = true) (hy : y.cls ≠ "java/lang/invoke/MethodHandle" ∧ y.cls ≠ "java/lang/invoke/VarHandle")
    {W9 : Nat} {Pre : Pt → Array Value → Prop} {Post : Pt → Array Value → Option Value → Pt → Prop} (hK : Back l R p e below s args y 3 W9 Pre Post)
    {b : Addr} {cellB : Cell} (hcell : T.heap[b]? = some cellB) (hobj : cellB.vm.isStatics = false) (hcls : s.vm.findClass C = some cellB.cls)
    {g : JFrame} (hg : g.method = m) (hsize : g.locals.size = c.maxLocals) {argsL rest : List Value} (hlen : ∀ sig, parseMethodDescriptor y.desc = some sig → argsL.length = sig.parameters.length)
    (hstack : g.stack = argsL.reverse ++ .ref b :: rest) (hW : 2 * g.monitorRoom + (rest.map fun v => v.category).sum ≤ W9) (hdg : decode c.code g.pc = .ok (.invokevirtual index, 3))
    (hpre : ∀ vm₁, s.WarmedH vm₁ → Pre ⟨T.setVm vm₁, locs, cells, slots⟩ (Value.ref b :: argsL).toArray) :
    ∃ (v : Option Value) (vm₁ : Vm) (B : Pt), s.WarmedH vm₁ ∧ Stand p l e R s m args below meth c B.U B.locs B.cells B.slots ∧ Post ⟨T.setVm vm₁, locs, cells, slots⟩ (Value.ref b :: argsL).toArray v B ∧
      ∀ target, Steps p.tables e below (B.U.setTop { g with pc := g.pc + 3, stack := v.toList ++ rest }) target → Steps p.tables e below (T.setTop g) target := by
  obtain ⟨mk, methM, hnamed, hmethM, hstM, habM⟩ := Cond.instanceMethod_spec hinst
  obtain ⟨m8, methM', cM, hn8, hmethM', -, -, -, -, -, -, hsigM⟩ := Cond.codeWith_spec hcode
  cases Option.some.inj (hn8.symm.trans hnamed)
  cases hmethM.symm.trans hmethM'
  obtain ⟨c2, r2, m2, q1, q2, q3, q4, kP, hkP, hkPi⟩ := Cond.selects_spec hsel
  cases hcls.symm.trans q1
  cases (State.methodFound?_of_named hnamed hy).symm.trans q2
  cases hnamed.symm.trans q3
  have hselP : selectMethod e.platform s.vm cellB.cls mk = .method mk := by rw [Launch.admits_selectMethod X.admits]; exact q4
  obtain ⟨vm₁, X₁, hstep₁⟩ := X.invokevirtual hexec hown hlink hnamed hmethM hstM hkP hkPi hy (a := b) (cell := cellB) hcell
    (fun z h => by rw [h] at hobj; cases hobj) hselP hmethM habM hkP hkPi (g := g) hg (argsL := argsL) (rest := rest) (hlen _ hsigM) hstack hdg
  obtain ⟨v, B, X', hpost, hsteps⟩ := hK m meth c ⟨T.setVm vm₁, locs, cells, slots⟩ { g with stack := rest } (.invokevirtual index) mk (Value.ref b :: argsL).toArray X₁ hg hsize hdg hW (X₁.named hnamed) (hpre vm₁ X₁.warmed)
  exact ⟨v, vm₁, B, X₁.warmed, X', hpost, fun target h => hstep₁ _ fun acts => by rw [doInvoke_state]; exact hsteps.trans h⟩
abbrev vx_CVW (R : Room) (s : State) (args : Array Value) (own C : String) (index : Nat) (y : MethodName) (bytes : ByteArray) (maxL : Nat) (ret : Option FieldType) (hh : List (Nat × Nat × Nat × Nat)) (ws : List Cond) (rm : Room) (mc ms n : Nat) : Prop :=
  (rm.cells = mc ∧ rm.slots = ms ∧ rm.frames + 1 ≤ R.frames ∧ 8 + (maxL + 11) + rm.locals ≤ R.locals ∧ (∀ w ∈ ws, ∀ (a' : Array Value) (U : State), s.WarmedH U.vm → w.before a' U = true) ∧ Cond.codeWith y bytes maxL ret hh ∈ ws) ∧
  (Cond.codeWith y bytes maxL ret hh).before args s = true ∧ (Cond.initialized y.cls).before args s = true ∧ (y.cls ≠ "java/lang/invoke/MethodHandle" ∧ y.cls ≠ "java/lang/invoke/VarHandle") ∧
  (∀ sig, parseMethodDescriptor y.desc = some sig → n = sig.parameters.length) ∧ (Cond.methodLink own index y).before args s = true ∧ (Cond.instanceMethod y).before args s = true ∧ (Cond.selects C y y).before args s = true
theorem vx_cwVW {own C : String} {index maxL mc ms : Nat} {y : MethodName} {bytes : ByteArray} {ret : Option FieldType} {hh : List (Nat × Nat × Nat × Nat)} {Ts ws ws' : List Cond} {rm : Room} (n : Nat) (ht : ∀ w ∈ Ts, w.before args s = true) (hT : GoodIn Ts (wsV own index C y ws)) (hw : ws = Cond.codeWith y bytes maxL ret hh :: ws') (hrc : rm.cells = mc) (hrs : rm.slots = ms)
    (hd : y.cls = C ∧ y.cls ≠ "java/lang/invoke/MethodHandle" ∧ y.cls ≠ "java/lang/invoke/VarHandle" ∧ (parseMethodDescriptor y.desc).map (fun d => d.parameters.length) = some n) (hR : rm.frames + 1 ≤ R.frames ∧ 8 + (maxL + 11) + rm.locals ≤ R.locals) :
    vx_CVW R s args own C index y bytes maxL ret hh ws rm mc ms n := by
  obtain ⟨hC, hd⟩ := hd
  subst hC
  have ok : ∀ w ∈ wsV own index y.cls y ws, w.before args s = true := fun w h => ht w (hT w h).1
  have hG : GoodIn Ts ws := fun w h => hT w (by unfold wsV; exact List.mem_append_right _ h)
  have hc : Cond.codeWith y bytes maxL ret hh ∈ ws := by rw [hw]; exact List.mem_cons_self
  refine ⟨⟨hrc, hrs, hR.1, hR.2, pay_in ht hG, hc⟩, ht _ (hG _ hc).1, ok _ (by simp [wsV]), ⟨hd.1, hd.2.1⟩, fun sig h => ?_, ok _ (by simp [wsV]), ok _ (by simp [wsV]), ok _ (by simp [wsV])⟩
  have h2 := hd.2.2
  rw [h] at h2
  exact (Option.some.inj h2).symm
theorem vx_runVW {y : MethodName} {bytes cc : ByteArray} {maxL nL mc ms n index : Nat} {ret : Option FieldType} {hh : List (Nat × Nat × Nat × Nat)} {ws : List Cond} {rm : Room} {Pc : Array Value → State → Prop} {Qc : Array Value → State → Outcome → State → Prop} {free : Addr → Prop} {Ts : List Cond} {own C : String} {b : Addr} {As rest : List Value} {g : JFrame}
    (S : CallFix p m c cc nL s args Ts own) (hM : Met l y ws rm Pc Qc mc ms free) (cw : vx_CVW R s args own C index y bytes maxL ret hh ws rm mc ms n) (hp : PreV s H C b Pc As)
    (hg : g.method = m) (hn : As.length = n) (hsize : g.locals.size = nL) (hstack : g.stack = As.reverse ++ .ref b :: rest) (hW : 2 * g.monitorRoom + (rest.map fun v => v.category).sum ≤ 8) (hdg : decode cc g.pc = .ok (.invokevirtual index, 3)) (hf : cells + mc ≤ R.cells ∧ slots + ms ≤ R.slots) :
    va_Run p l e R s m args below meth c H locs cells slots mc ms g rest (Qc (Value.ref b :: As).toArray) free := by
  obtain ⟨⟨hrc, hrs, hfr, hlo, hws, hcw⟩, hcode, hini, hy, hlen, hl, hin, hse⟩ := cw
  have hK : Back l R p e below s args y 3 8 (PreOf R mc ms Pc) (PostOf Qc mc ms free) := va_backW (hh := hh) (bytes := bytes) (maxL := maxL) (ret := ret) hM hp.1 hrc hrs hfr hlo hws hcw (fun a' U hW => word_at hW (Or.inl (by first | rfl | simp [Cond.onTables, Cond.keeps, Cond.steady])) hini)
  obtain ⟨hx, hb, hml, ho, -⟩ := S
  obtain ⟨-, ⟨cellB, hcB, hoB, hclB⟩, hPc⟩ := hp
  intro T hT X
  obtain ⟨v, vm₁, ⟨U', l2, c2, s2⟩, hW₁, X', ⟨g', mk, t, L, e1, e2, hq, h1, hL, h2, h3⟩, st⟩ := vx_callVW X hx (C := C) (hh := hh) (bytes := bytes) (maxL := maxL) (ret := ret) ho hl hin hse hcode hy hK (by rw [hT]; exact hcB) hoB hclB hg (hsize.trans hml.symm) (argsL := As) (rest := rest) (fun sig h => hn.trans (hlen sig h)) hstack hW (by rw [hb]; exact hdg)
    (fun vm₁ hW₁ => ⟨hf.1, hf.2, hPc (T.setVm vm₁) hT hW₁⟩)
  dsimp only [Pt.U, Pt.locs, Pt.cells, Pt.slots] at X' e1 e2 h1 h2 h3 st
  subst h1; subst h2; subst h3
  exact ⟨v, (T.setVm vm₁).calling g' mk (Value.ref b :: As).toArray, t, U', L, hT, X', hL, e1, e2, hq, st⟩
section
variable {y : MethodName} {bytes cc : ByteArray} {maxL nL mc ms n index : Nat} {ret : Option FieldType} {ws : List Cond} {rm : Room} {Pc : Array Value → State → Prop} {Qc : Array Value → State → Outcome → State → Prop} {XC : String → State → State → Prop} {free : Addr → Prop} {Ts : List Cond} {own C : String} {b : Addr} {As rest : List Value} {g : JFrame}
theorem vx_runVX {hh : List (Nat × Nat × Nat × Nat)} (S : CallFix p m c cc nL s args Ts own) (hM : vx_Met l y ws rm Pc Qc XC mc ms free) (cw : vx_CVW R s args own C index y bytes maxL ret hh ws rm mc ms n) (hp : PreV s H C b Pc As)
    (hg : g.method = m) (hn : As.length = n) (hsize : g.locals.size = nL) (hstack : g.stack = As.reverse ++ .ref b :: rest) (hW : 2 * g.monitorRoom + (rest.map fun v => v.category).sum ≤ 8) (hdg : decode cc g.pc = .ok (.invokevirtual index, 3)) (hf : cells + mc ≤ R.cells ∧ slots + ms ≤ R.slots) :
    vx_Run p l e R s m args below meth c H locs cells slots mc ms g rest (Qc (Value.ref b :: As).toArray) XC free := by
  obtain ⟨⟨hrc, hrs, hfr, hlo, hws, hcw⟩, hcode, hini, hy, hlen, hl, hin, hse⟩ := cw
  have hK : vx_Back l R p e below s args y 3 8 (PreOf R mc ms Pc) (PostOf Qc mc ms free) (vx_Post XC mc ms free) := vx_backW (hh := hh) (bytes := bytes) (maxL := maxL) (ret := ret) hM hp.1 hrc hrs hfr hlo hws hcw (fun a' U hW => word_at hW (Or.inl (by first | rfl | simp [Cond.onTables, Cond.keeps, Cond.steady])) hini)
  obtain ⟨hx, hb, hml, ho, -⟩ := S
  obtain ⟨-, ⟨cellB, hcB, hoB, hclB⟩, hPc⟩ := hp
  intro T hT X
  rcases vx_callVX X hx (C := C) (hh := hh) (bytes := bytes) (maxL := maxL) (ret := ret) ho hl hin hse hcode hy hK (by rw [hT]; exact hcB) hoB hclB hg (hsize.trans hml.symm) (argsL := As) (rest := rest) (fun sig h => hn.trans (hlen sig h)) hstack hW (by rw [hb]; exact hdg)
    (fun vm₁ hW₁ => ⟨hf.1, hf.2, hPc (T.setVm vm₁) hT hW₁⟩) with ⟨v, vm₁, ⟨U', l2, c2, s2⟩, hW₁, X', ⟨g', mk, t, L, e1, e2, hq, h1, hL, h2, h3⟩, st⟩ | ⟨q, vm₁, ⟨U', l2, c2, s2⟩, hW₁, X', ⟨g', mk, t, L, E, ce, e1, e2, hq, hce, hcv, hcl, h1, hL, h2, h3⟩, st⟩
  · dsimp only [Pt.U, Pt.locs, Pt.cells, Pt.slots] at X' e1 e2 h1 h2 h3 st
    subst h1; subst h2; subst h3
    exact Or.inl ⟨v, (T.setVm vm₁).calling g' mk (Value.ref b :: As).toArray, t, U', L, hT, X', hL, e1, e2, hq, st⟩
  · dsimp only [Pt.U, Pt.locs, Pt.cells, Pt.slots] at X' e1 e2 h1 h2 h3 st hcl
    subst h1; subst h2; subst h3
    exact Or.inr ⟨q, (T.setVm vm₁).calling g' mk (Value.ref b :: As).toArray, t, U', L, E, ce, hT, X', hL, e1, e2, hq, hce, hcv, vx_cls hW₁ hcl, st⟩
theorem vx_runSX {hh : List (Nat × Nat × Nat × Nat)} (S : CallFix p m c cc nL s args Ts own) (hM : vx_Met l y ws rm Pc Qc XC mc ms free) (cw : vx_CSW R s args own index y bytes maxL ret hh ws rm mc ms n) (hp : PreS s H Pc As)
    (hg : g.method = m) (hn : As.length = n) (hsize : g.locals.size = nL) (hstack : g.stack = As.reverse ++ rest) (hW : 2 * g.monitorRoom + (rest.map fun v => v.category).sum ≤ 8) (hdg : decode cc g.pc = .ok (.invokestatic index, 3)) (hf : cells + mc ≤ R.cells ∧ slots + ms ≤ R.slots) :
    vx_Run p l e R s m args below meth c H locs cells slots mc ms g rest (Qc As.toArray) XC free := by
  obtain ⟨⟨hrc, hrs, hfr, hlo, hws, hcw⟩, hcode, hini, hy, hlen, hl, hstt⟩ := cw
  have hK : vx_Back l R p e below s args y 3 8 (PreOf R mc ms Pc) (PostOf Qc mc ms free) (vx_Post XC mc ms free) := vx_backW (hh := hh) (bytes := bytes) (maxL := maxL) (ret := ret) hM hp.1 hrc hrs hfr hlo hws hcw (fun a' U hW => word_at hW (Or.inl (by first | rfl | simp [Cond.onTables, Cond.keeps, Cond.steady])) hini)
  obtain ⟨hx, hb, hml, ho, -⟩ := S
  intro T hT X
  rcases vx_callSX X hx (hh := hh) (bytes := bytes) (maxL := maxL) (ret := ret) ho hl hstt hini hcode hy hK hg (hsize.trans hml.symm) (argsL := As) (rest := rest) (fun sig h => hn.trans (hlen sig h)) hstack hW (by rw [hb]; exact hdg)
    (fun vm₁ hW₁ => ⟨hf.1, hf.2, hp.2 (T.setVm vm₁) hT hW₁⟩) with ⟨v, vm₁, ⟨U', l2, c2, s2⟩, hW₁, X', ⟨g', mk, t, L, e1, e2, hq, h1, hL, h2, h3⟩, st⟩ | ⟨q, vm₁, ⟨U', l2, c2, s2⟩, hW₁, X', ⟨g', mk, t, L, E, ce, e1, e2, hq, hce, hcv, hcl, h1, hL, h2, h3⟩, st⟩
  · dsimp only [Pt.U, Pt.locs, Pt.cells, Pt.slots] at X' e1 e2 h1 h2 h3 st
    subst h1; subst h2; subst h3
    exact Or.inl ⟨v, (T.setVm vm₁).calling g' mk As.toArray, t, U', L, hT, X', hL, e1, e2, hq, st⟩
  · dsimp only [Pt.U, Pt.locs, Pt.cells, Pt.slots] at X' e1 e2 h1 h2 h3 st hcl
    subst h1; subst h2; subst h3
    exact Or.inr ⟨q, (T.setVm vm₁).calling g' mk As.toArray, t, U', L, E, ce, hT, X', hL, e1, e2, hq, hce, hcv, vx_cls hW₁ hcl, st⟩
end
end VXH
theorem vx_ofWH {l : Launch} {y : MethodName} {ws ws' : List Cond} {rm : Room} {Pc : Array Value → State → Prop} {Qc : Array Value → State → Outcome → State → Prop} {XC : String → State → State → Prop} {mc ms : Nat} {free : Addr → Prop} {cc : ByteArray} {maxL : Nat} {ret : Option FieldType} {hh : List (Nat × Nat × Nat × Nat)}
    (hy : plainName y.cls = true) (hw : ws = Cond.codeWith y cc maxL ret hh :: ws')
    (body : ∀ p e s m args below meth c s₁, BodyLoose p l y (headSpec ws rm) cc maxL ret e s m args below meth c s₁ → c.maxLocals = maxL → Pc args s →
      W p l e (headSpec ws rm).room s m args below meth c s.heap [] 0 0 (vx_MQ below Qc XC args s mc ms free) (entryFrame m args maxL)) : vx_Met l y ws rm Pc Qc XC mc ms free := by
  refine MetFree.of_bodyS (code := cc) (maxLocals := maxL) (ret := ret) hy ?_ ?_
  · intro args s m h hn
    obtain ⟨m9, meth, c, hn9, h1, h2, h3, h4, -, h5, h6, -⟩ := Cond.codeWith_spec (atoms_spec (ws := ws) h _ (by rw [hw]; exact List.mem_cons_self))
    cases hn.symm.trans hn9
    exact ⟨meth, c, h1, h2, h3, h4, h5, h6⟩
  · intro p e s m args below meth c s₁ B hml hP _
    have hh0 : s₁.heap = s.heap := by rw [B.state]; rfl
    obtain ⟨t, a1, o, b1, b2, b3⟩ := body p e s m args below meth c s₁ B hml hP s₁ hh0 (Stand.of_body B)
    exact ⟨t, o, a1, b1, b2, b3⟩
/-! ===== END ===== -/
end
section
/-! THE WORLD. One list of cells for both sides (the class, the reference) and the law's own long array: objects 0 TenYards, 1..3 Air (air, draft, pictured), 4, 5 Fall, 6..13 Shelf, 14 TenYardsModel; the key (o, 100) is the object o, (o, k) the array in its field k, (15, 0) the law's array; behind them the pool of Fallers. -/
-- the words of all contracts: the good words of the tables
def W0 : List Cond := lw_tbl.filter goodWord
theorem w0_in {w : Cond} (h : w ∈ lw_tbl) (g : goodWord w = true) : w ∈ W0 := List.mem_filter.mpr ⟨h, g⟩
theorem w0_lw : ∀ w ∈ W0, w ∈ lw_tbl := fun _ h => (List.mem_filter.mp h).1
theorem w0_good : GoodIn W0 W0 := fun _ h => ⟨h, good_of_word (List.mem_filter.mp h).2⟩
theorem w0_t (i : Nat) {w : Cond} (h : tables_1[i]? = some w) (g : goodWord w = true) : w ∈ W0 := w0_in (List.mem_append_right _ (List.mem_of_getElem? h)) g
theorem w0_s (i : Nat) {w : Cond} (h : (k2_sels lw_privs)[i]? = some w) (g : goodWord w = true) : w ∈ W0 := w0_in (List.mem_append_left _ (List.mem_of_getElem? h)) g
theorem w0_c {w : Cond} (h : w ∈ W0) : GoodIn W0 (w :: W0) := fun v hv => (List.mem_cons.mp hv).elim (fun e => by rw [e]; exact w0_good w h) (fun h => w0_good v h)
-- the classes
abbrev cls : List vw_C := [(RX0, TX0, 10), (RX1, TX1, 8), (RX2, TX2, 8), (RX3, TX3, 12), (RX4, TX4, 8), (RX5, TX5, 8), (RX6, TX6, 8), (RX7, TX7, 8), (RX8, TX8, 8), (RX9, TX9, 5), (RX10, TX10, 8), (RX11, TX11, 11), (RX12, TX12, 36)]
theorem in_0 : ∀ w ∈ u_ws RX0 TX0 10, w ∈ W0 := fun w h => w0_in ((by decide +kernel : ∀ w ∈ u_ws RX0 TX0 10, w ∈ lw_tbl) w h) ((by decide +kernel : ∀ w ∈ u_ws RX0 TX0 10, goodWord w = true) w h)
theorem in_1 : ∀ w ∈ u_ws RX1 TX1 8, w ∈ W0 := fun w h => w0_in ((by decide +kernel : ∀ w ∈ u_ws RX1 TX1 8, w ∈ lw_tbl) w h) ((by decide +kernel : ∀ w ∈ u_ws RX1 TX1 8, goodWord w = true) w h)
theorem in_2 : ∀ w ∈ u_ws RX2 TX2 8, w ∈ W0 := fun w h => w0_in ((by decide +kernel : ∀ w ∈ u_ws RX2 TX2 8, w ∈ lw_tbl) w h) ((by decide +kernel : ∀ w ∈ u_ws RX2 TX2 8, goodWord w = true) w h)
theorem in_3 : ∀ w ∈ u_ws RX3 TX3 12, w ∈ W0 := fun w h => w0_in ((by decide +kernel : ∀ w ∈ u_ws RX3 TX3 12, w ∈ lw_tbl) w h) ((by decide +kernel : ∀ w ∈ u_ws RX3 TX3 12, goodWord w = true) w h)
theorem in_4 : ∀ w ∈ u_ws RX4 TX4 8, w ∈ W0 := fun w h => w0_in ((by decide +kernel : ∀ w ∈ u_ws RX4 TX4 8, w ∈ lw_tbl) w h) ((by decide +kernel : ∀ w ∈ u_ws RX4 TX4 8, goodWord w = true) w h)
theorem in_5 : ∀ w ∈ u_ws RX5 TX5 8, w ∈ W0 := fun w h => w0_in ((by decide +kernel : ∀ w ∈ u_ws RX5 TX5 8, w ∈ lw_tbl) w h) ((by decide +kernel : ∀ w ∈ u_ws RX5 TX5 8, goodWord w = true) w h)
theorem in_6 : ∀ w ∈ u_ws RX6 TX6 8, w ∈ W0 := fun w h => w0_in ((by decide +kernel : ∀ w ∈ u_ws RX6 TX6 8, w ∈ lw_tbl) w h) ((by decide +kernel : ∀ w ∈ u_ws RX6 TX6 8, goodWord w = true) w h)
theorem in_7 : ∀ w ∈ u_ws RX7 TX7 8, w ∈ W0 := fun w h => w0_in ((by decide +kernel : ∀ w ∈ u_ws RX7 TX7 8, w ∈ lw_tbl) w h) ((by decide +kernel : ∀ w ∈ u_ws RX7 TX7 8, goodWord w = true) w h)
theorem in_8 : ∀ w ∈ u_ws RX8 TX8 8, w ∈ W0 := fun w h => w0_in ((by decide +kernel : ∀ w ∈ u_ws RX8 TX8 8, w ∈ lw_tbl) w h) ((by decide +kernel : ∀ w ∈ u_ws RX8 TX8 8, goodWord w = true) w h)
theorem in_9 : ∀ w ∈ u_ws RX9 TX9 5, w ∈ W0 := fun w h => w0_in ((by decide +kernel : ∀ w ∈ u_ws RX9 TX9 5, w ∈ lw_tbl) w h) ((by decide +kernel : ∀ w ∈ u_ws RX9 TX9 5, goodWord w = true) w h)
theorem in_10 : ∀ w ∈ u_ws RX10 TX10 8, w ∈ W0 := fun w h => w0_in ((by decide +kernel : ∀ w ∈ u_ws RX10 TX10 8, w ∈ lw_tbl) w h) ((by decide +kernel : ∀ w ∈ u_ws RX10 TX10 8, goodWord w = true) w h)
theorem in_11 : ∀ w ∈ u_ws RX11 TX11 11, w ∈ W0 := fun w h => w0_in ((by decide +kernel : ∀ w ∈ u_ws RX11 TX11 11, w ∈ lw_tbl) w h) ((by decide +kernel : ∀ w ∈ u_ws RX11 TX11 11, goodWord w = true) w h)
theorem in_12 : ∀ w ∈ u_ws RX12 TX12 36, w ∈ W0 := fun w h => w0_in ((by decide +kernel : ∀ w ∈ u_ws RX12 TX12 36, w ∈ lw_tbl) w h) ((by decide +kernel : ∀ w ∈ u_ws RX12 TX12 36, goodWord w = true) w h)
end
section
-- a class by its number: name, table, how many fields, types
def cC (c : Nat) : String := match c with
  | 0 => RX0 | 3 => RX3 | 9 => RX9 | 11 => RX11 | _ => RX12
def cT (c : Nat) : u_T := match c with
  | 0 => TX0 | 3 => TX3 | 9 => TX9 | 11 => TX11 | _ => TX12
def cN (c : Nat) : Nat := match c with
  | 0 => 10 | 3 => 12 | 9 => 5 | 11 => 11 | _ => 36
def cY (c : Nat) : Nat → FieldType := match c with
  | 0 => tyX0 | 3 => tyX3 | 9 => tyX9 | 11 => tyX11 | _ => tyX12
/-- c is one of the classes whose objects are numbered -/
def cOK (c : Nat) : Prop := c = 0 ∨ c = 3 ∨ c = 9 ∨ c = 11 ∨ c = 12
theorem cls_at {c : Nat} (h : cOK c) : cls[c]? = some (cC c, cT c, cN c) := by
  rcases h with rfl | rfl | rfl | rfl | rfl <;> rfl
theorem cin_at {c : Nat} (h : cOK c) : ∀ w ∈ u_ws (cC c) (cT c) (cN c), w ∈ W0 := by
  rcases h with rfl | rfl | rfl | rfl | rfl
  · exact in_0
  · exact in_3
  · exact in_9
  · exact in_11
  · exact in_12
theorem cty_at {c : Nat} (h : cOK c) : ∀ k, k < cN c → parseFieldDescriptor (cT c k).2.2.1 = some (cY c k) := by
  rcases h with rfl | rfl | rfl | rfl | rfl
  · exact tyX0_ok
  · exact tyX3_ok
  · exact tyX9_ok
  · exact tyX11_ok
  · exact tyX12_ok
theorem cnm_at {c : Nat} (h : cOK c) : ∀ a, a < cN c → ∀ b, b < cN c → a ≠ b → (cT c a).2.1 ≠ (cT c b).2.1 := by
  rcases h with rfl | rfl | rfl | rfl | rfl
  · exact nmX0
  · exact nmX3
  · exact nmX9
  · exact nmX11
  · exact nmX12
-- the class of an object by its number
def ci (o : Nat) : Nat := if o = 0 then 11 else if o < 4 then 0 else if o < 6 then 3 else if o < 14 then 9 else 12
theorem ci_ok (o : Nat) : cOK (ci o) := by
  unfold ci cOK
  split
  · simp
  · split
    · simp
    · split
      · simp
      · split <;> simp
-- kinds of fields: 0 an int, 1 a reference that stays, 2 a reference that may change
def fk (c k : Nat) : Nat := match c with
  | 0 => if k = 2 ∨ k = 3 ∨ k = 4 ∨ k = 6 ∨ k = 8 then 0 else 1
  | 3 => if k = 0 then 1 else if k = 1 then 2 else 0
  | 9 => if k = 0 then 2 else if k = 4 then 1 else 0
  | 11 => if k = 3 then 0 else 1
  | _ => if k < 9 ∨ k = 15 ∨ k = 30 ∨ k = 31 ∨ k = 34 ∨ k = 35 then 1 else 0
-- what a reference that stays leads to: the key
def rf (c o k : Nat) : Nat × Nat := match c with
  | 3 => (1, 100)
  | 11 => if k < 3 then (k + 1, 100) else if k = 4 then (4, 100) else if k = 5 then (5, 100) else (o, k)
  | _ => (o, k)
-- arrays of ints: how long
def al (c k : Nat) : Nat := match c with
  | 0 => if k < 2 then 10 else if k = 7 then 24 else 4
  | 9 => 100
  | 11 => if k = 7 then 25 else 5
  | _ => if k < 3 then 73 else if k = 6 then 800 else if k < 9 then 8 else if k = 15 then 4 else if k = 30 then 25 else 5
-- the state: ints of objects; arrays of ints; references that change; arrays of Fallers; the pool: addresses, kinds, fields; the law's long
abbrev ZS : Type := (Nat → Nat → Int32) × (Nat → Nat → Nat → Int32) × (Nat → Nat → Option Nat) × (Nat → Nat → Option Nat) × List Nat × (Nat → Nat) × (Nat → Nat → Int32) × Int64
def zI (z : ZS) : Nat → Nat → Int32 := z.1
def zR (z : ZS) : Nat → Nat → Nat → Int32 := z.2.1
def zG (z : ZS) : Nat → Nat → Option Nat := z.2.2.1
def zQ (z : ZS) : Nat → Nat → Option Nat := z.2.2.2.1
def zP (z : ZS) : List Nat := z.2.2.2.2.1
def zK (z : ZS) : Nat → Nat := z.2.2.2.2.2.1
def zF (z : ZS) : Nat → Nat → Int32 := z.2.2.2.2.2.2.1
def zO (z : ZS) : Int64 := z.2.2.2.2.2.2.2
def wI (z : ZS) (o k : Nat) (v : Int32) : ZS := (fun a b => if a = o ∧ b = k then v else zI z a b, z.2)
def wA (z : ZS) (o k : Nat) (f : Nat → Int32) : ZS := (z.1, fun a b => if a = o ∧ b = k then f else zR z a b, z.2.2)
def wR (z : ZS) (o k i : Nat) (v : Int32) : ZS := wA z o k (upd (zR z o k) i v)
def wG (z : ZS) (o k : Nat) (r : Option Nat) : ZS := (z.1, z.2.1, fun a b => if a = o ∧ b = k then r else zG z a b, z.2.2.2)
def wB (z : ZS) (o : Nat) (f : Nat → Option Nat) : ZS := (z.1, z.2.1, z.2.2.1, fun a => if a = o then f else zQ z a, z.2.2.2.2)
def wQ (z : ZS) (o i : Nat) (r : Option Nat) : ZS := wB z o (va_up (zQ z o) i r)
def wP (z : ZS) (q k : Nat) (f : Nat → Int32) : ZS := (z.1, z.2.1, z.2.2.1, z.2.2.2.1, zP z ++ [q], va_up (zK z) q k, va_up (zF z) q f, z.2.2.2.2.2.2.2)
def wO (z : ZS) (x : Int64) : ZS := (z.1, z.2.1, z.2.2.1, z.2.2.2.1, z.2.2.2.2.1, z.2.2.2.2.2.1, z.2.2.2.2.2.2.1, x)
-- the cells
def fv (ad : Nat → Nat → Nat) (z : ZS) (o k : Nat) : Value := match fk (ci o) k with
  | 0 => .int (zI z o k)
  | 1 => .ref (ad (rf (ci o) o k).1 (rf (ci o) o k).2)
  | _ => va_rf (zG z o k)
def fl (ad : Nat → Nat → Nat) (z : ZS) (o : Nat) : List Value := (List.range (cN (ci o))).map (fv ad z o)
-- kinds of arrays: 0 ints, 1 shelves, 2 Fallers, 3 the law's long
def ak (q : Nat × Nat) : Nat := if q.1 = 15 then 3 else if q = (0, 6) then 1 else if ci q.1 = 0 ∧ q.2 = 5 then 2 else 0
def ae (ad : Nat → Nat → Nat) (cs : Nat → ClassId) (z : ZS) (q : Nat × Nat) : va_E := match ak q with
  | 0 => .inl (cs 0, al (ci q.1) q.2, .inl (zR z q.1 q.2))
  | 1 => .inl (cs 1, 8, .inr (.inr (.inr (.inr (fun i => if i < 8 then some (ad (6 + i) 100) else none)))))
  | 2 => .inl (cs 2, 8, .inr (.inr (.inr (.inr (zQ z q.1)))))
  | _ => .inl (cs 3, 1, .inr (.inl (fun _ => zO z)))
def ce (ad : Nat → Nat → Nat) (cs : Nat → ClassId) (z : ZS) (q : Nat × Nat) : va_E := if q.2 = 100 then .inr (ci q.1, fl ad z q.1) else ae ad cs z q
def KY : List (Nat × Nat) := [(0, 100), (1, 100), (2, 100), (3, 100), (4, 100), (5, 100), (6, 100), (7, 100), (8, 100), (9, 100), (10, 100), (11, 100), (12, 100), (13, 100), (14, 100), (0, 6), (0, 7), (0, 8), (0, 9), (0, 10), (1, 0), (1, 1), (1, 5), (1, 7), (1, 9), (2, 0), (2, 1), (2, 5), (2, 7), (2, 9), (3, 0), (3, 1), (3, 5), (3, 7), (3, 9), (6, 4), (7, 4), (8, 4), (9, 4), (10, 4), (11, 4), (12, 4), (13, 4), (14, 0), (14, 1), (14, 2), (14, 3), (14, 4), (14, 5), (14, 6), (14, 7), (14, 8), (14, 15), (14, 30), (14, 31), (14, 34), (14, 35), (15, 0)]
theorem KY_nd : KY.Nodup := by decide +kernel
-- the class of a Faller by its kind's number
def fc (k : Nat) : Nat := match k with
  | 1 => 8 | 2 => 7 | 3 => 5 | 4 => 6 | 5 => 1 | 6 => 2 | 7 => 10 | _ => 4
def fe (k : Nat) (f : Nat → Int32) : va_E := .inr (fc k, [.int (f 0), .int (f 1), .int (f 2), .int (f 3), .int (f 4), .int (f 5), .int (f 6), .int (f 7)])
def sw (ad : Nat → Nat → Nat) (cs : Nat → ClassId) (z : ZS) : va_W := KY.map (fun q => (ad q.1 q.2, ce ad cs z q))
def wd (ad : Nat → Nat → Nat) (cs : Nat → ClassId) (z : ZS) : va_W := sw ad cs z ++ va_pl (zP z) (fun a => fe (zK z a) (zF z a))
-- finding and changing a cell
theorem wd_at (ad : Nat → Nat → Nat) (cs : Nat → ClassId) (z : ZS) {q : Nat × Nat} (h : q ∈ KY) : ∃ j : Nat, KY[j]? = some q ∧ (wd ad cs z)[j]? = some (ad q.1 q.2, ce ad cs z q) := by
  obtain ⟨j, hj⟩ := List.getElem?_of_mem h
  refine ⟨j, hj, ?_⟩
  have hl : j < KY.length := (List.getElem?_eq_some_iff.mp hj).1
  unfold wd sw
  rw [List.getElem?_append_left (by rw [List.length_map]; exact hl), List.getElem?_map, hj]
  rfl
theorem map_set_nd {α β : Type} (f : α → β) (l : List α) (hn : l.Nodup) (j : Nat) (q : α) (hj : l[j]? = some q) (e : β) (g : α → β) (hg : ∀ x ∈ l, x ≠ q → g x = f x) (hq : g q = e) : (l.map f).set j e = l.map g := by
  apply List.ext_getElem?
  intro i
  have hl : j < l.length := (List.getElem?_eq_some_iff.mp hj).1
  rw [List.getElem?_set]
  by_cases hij : j = i
  · subst hij
    rw [if_pos rfl, if_pos (by rw [List.length_map]; exact hl), List.getElem?_map, hj]
    simp [hq]
  · rw [if_neg hij, List.getElem?_map, List.getElem?_map]
    cases hi : l[i]? with
    | none => rfl
    | some x =>
      have hx : x ∈ l := List.mem_of_getElem? hi
      have hne : x ≠ q := fun hxq => hij ((List.getElem?_inj hl hn).mp (by rw [hj, hi, hxq]))
      simp [hg x hx hne]
theorem wd_set (ad : Nat → Nat → Nat) (cs : Nat → ClassId) {z z1 : ZS} {q : Nat × Nat} {j : Nat} (hj : KY[j]? = some q) (e : va_E) (hp : zP z1 = zP z ∧ zK z1 = zK z ∧ zF z1 = zF z) (hq : ce ad cs z1 q = e) (hg : ∀ x ∈ KY, x ≠ q → ce ad cs z1 x = ce ad cs z x) : (wd ad cs z).set j (ad q.1 q.2, e) = wd ad cs z1 := by
  have hl : j < KY.length := (List.getElem?_eq_some_iff.mp hj).1
  unfold wd
  rw [List.set_append_left (h := by unfold sw; rw [List.length_map]; exact hl), hp.1, hp.2.1, hp.2.2]
  congr 1
  unfold sw
  exact map_set_nd _ KY KY_nd j q hj _ _ (fun x hx hne => by show (ad x.1 x.2, ce ad cs z1 x) = (ad x.1 x.2, ce ad cs z x); rw [hg x hx hne]) (by show (ad q.1 q.2, ce ad cs z1 q) = _; rw [hq])
theorem fl_at (ad : Nat → Nat → Nat) (z : ZS) (o : Nat) {k : Nat} (h : k < cN (ci o)) : (fl ad z o)[k]? = some (fv ad z o k) := by
  unfold fl
  rw [List.getElem?_map, List.getElem?_range h]
  rfl
theorem fl_len (ad : Nat → Nat → Nat) (z : ZS) (o : Nat) : (fl ad z o).length = cN (ci o) := by unfold fl; rw [List.length_map, List.length_range]
theorem fl_set (ad : Nat → Nat → Nat) {z z1 : ZS} {o k : Nat} {v : Value} (h : k < cN (ci o)) (hv : fv ad z1 o k = v) (hg : ∀ j, j ≠ k → fv ad z1 o j = fv ad z o j) : (fl ad z o).set k v = fl ad z1 o := by
  unfold fl
  exact map_set_nd _ _ List.nodup_range k k (List.getElem?_range h) v _ (fun x _ hx => hg x hx) hv
theorem ce_obj (ad : Nat → Nat → Nat) (cs : Nat → ClassId) (z : ZS) (o : Nat) : ce ad cs z (o, 100) = .inr (ci o, fl ad z o) := if_pos rfl
theorem ce_arr (ad : Nat → Nat → Nat) (cs : Nat → ClassId) (z : ZS) {o k : Nat} (hk : k ≠ 100) (ha : ak (o, k) = 0) : ce ad cs z (o, k) = .inl (cs 0, al (ci o) k, .inl (zR z o k)) := by
  unfold ce
  rw [if_neg hk]
  unfold ae
  rw [ha]
  rfl
theorem ce_sh (ad : Nat → Nat → Nat) (cs : Nat → ClassId) (z : ZS) : ce ad cs z (0, 6) = .inl (cs 1, 8, .inr (.inr (.inr (.inr (fun i => if i < 8 then some (ad (6 + i) 100) else none))))) := rfl
theorem ce_fa (ad : Nat → Nat → Nat) (cs : Nat → ClassId) (z : ZS) {o : Nat} (h : ci o = 0) (h5 : o ≠ 15) (h0 : o ≠ 0) : ce ad cs z (o, 5) = .inl (cs 2, 8, .inr (.inr (.inr (.inr (zQ z o))))) := by
  unfold ce
  rw [if_neg (show ¬ (5 : Nat) = 100 by decide)]
  unfold ae
  have e : ak (o, 5) = 2 := by
    unfold ak
    rw [if_neg h5, if_neg (fun q => h0 (congrArg Prod.fst q)), if_pos ⟨h, rfl⟩]
  rw [e]
  rfl
-- an int field gets a value
theorem fv_wI (ad : Nat → Nat → Nat) (z : ZS) (o k : Nat) (v : Int32) (o' k' : Nat) (h : ¬ (o' = o ∧ k' = k)) : fv ad (wI z o k v) o' k' = fv ad z o' k' := by
  unfold fv
  have e : zI (wI z o k v) o' k' = zI z o' k' := if_neg h
  rw [e]
  rfl
theorem fv_wI_self (ad : Nat → Nat → Nat) (z : ZS) (o k : Nat) (v : Int32) (h : fk (ci o) k = 0) : fv ad (wI z o k v) o k = .int v := by
  unfold fv
  rw [h]
  have e : zI (wI z o k v) o k = v := if_pos ⟨rfl, rfl⟩
  rw [e]
  rfl
theorem fl_ne {ad : Nat → Nat → Nat} {z z1 : ZS} {o : Nat} (h : ∀ k, fv ad z1 o k = fv ad z o k) : fl ad z1 o = fl ad z o := by
  unfold fl
  exact List.map_congr_left (fun k _ => h k)
theorem set_wI (ad : Nat → Nat → Nat) (cs : Nat → ClassId) (z : ZS) {o k j : Nat} (v : Int32) (hj : KY[j]? = some (o, 100)) (hk : k < cN (ci o)) (hf : fk (ci o) k = 0) : (wd ad cs z).set j (ad o 100, .inr (ci o, (fl ad z o).set k (.int v))) = wd ad cs (wI z o k v) := by
  refine wd_set ad cs (q := (o, 100)) hj _ ⟨rfl, rfl, rfl⟩ ?_ ?_
  · rw [ce_obj, fl_set ad hk (fv_wI_self ad z o k v hf) (fun i hi => fv_wI ad z o k v o i (fun q => hi q.2))]
  · intro x _ hx
    unfold ce
    by_cases h : x.2 = 100
    · rw [if_pos h, if_pos h, fl_ne (fun i => fv_wI ad z o k v x.1 i (fun q => hx (Prod.ext q.1 h)))]
    · rw [if_neg h, if_neg h]; rfl
-- a reference field gets a value
theorem fv_wG (ad : Nat → Nat → Nat) (z : ZS) (o k : Nat) (r : Option Nat) (o' k' : Nat) (h : ¬ (o' = o ∧ k' = k)) : fv ad (wG z o k r) o' k' = fv ad z o' k' := by
  unfold fv
  have e : zG (wG z o k r) o' k' = zG z o' k' := if_neg h
  rw [e]
  rfl
theorem fv_wG_self (ad : Nat → Nat → Nat) (z : ZS) (o k : Nat) (r : Option Nat) (h : fk (ci o) k = 2) : fv ad (wG z o k r) o k = va_rf r := by
  unfold fv
  rw [h]
  have e : zG (wG z o k r) o k = r := if_pos ⟨rfl, rfl⟩
  rw [e]
  rfl
theorem set_wG (ad : Nat → Nat → Nat) (cs : Nat → ClassId) (z : ZS) {o k j : Nat} (r : Option Nat) (hj : KY[j]? = some (o, 100)) (hk : k < cN (ci o)) (hf : fk (ci o) k = 2) : (wd ad cs z).set j (ad o 100, .inr (ci o, (fl ad z o).set k (va_rf r))) = wd ad cs (wG z o k r) := by
  refine wd_set ad cs (q := (o, 100)) hj _ ⟨rfl, rfl, rfl⟩ ?_ ?_
  · rw [ce_obj, fl_set ad hk (fv_wG_self ad z o k r hf) (fun i hi => fv_wG ad z o k r o i (fun q => hi q.2))]
  · intro x _ hx
    unfold ce
    by_cases h : x.2 = 100
    · rw [if_pos h, if_pos h, fl_ne (fun i => fv_wG ad z o k r x.1 i (fun q => hx (Prod.ext q.1 h)))]
    · rw [if_neg h, if_neg h]; rfl
-- an array of ints
theorem fv_wA (ad : Nat → Nat → Nat) (z : ZS) (o k : Nat) (f : Nat → Int32) (o' k' : Nat) : fv ad (wA z o k f) o' k' = fv ad z o' k' := rfl
theorem set_wA (ad : Nat → Nat → Nat) (cs : Nat → ClassId) (z : ZS) {o k j : Nat} (f : Nat → Int32) (hj : KY[j]? = some (o, k)) (hk : k ≠ 100) (ha : ak (o, k) = 0) : (wd ad cs z).set j (ad o k, .inl (cs 0, al (ci o) k, .inl f)) = wd ad cs (wA z o k f) := by
  refine wd_set ad cs (q := (o, k)) hj _ ⟨rfl, rfl, rfl⟩ ?_ ?_
  · rw [ce_arr ad cs _ hk ha]
    have e : zR (wA z o k f) o k = f := if_pos ⟨rfl, rfl⟩
    rw [e]
  · intro x _ hx
    unfold ce
    by_cases h : x.2 = 100
    · rw [if_pos h, if_pos h]; rfl
    · rw [if_neg h, if_neg h]
      unfold ae
      have e : zR (wA z o k f) x.1 x.2 = zR z x.1 x.2 := if_neg (fun q => hx (Prod.ext q.1 q.2))
      rw [e]
      rfl
-- an array of Fallers
theorem set_wB (ad : Nat → Nat → Nat) (cs : Nat → ClassId) (z : ZS) {o j : Nat} (f : Nat → Option Nat) (hj : KY[j]? = some (o, 5)) (h : ci o = 0) (h5 : o ≠ 15) (h0 : o ≠ 0) : (wd ad cs z).set j (ad o 5, .inl (cs 2, 8, .inr (.inr (.inr (.inr f))))) = wd ad cs (wB z o f) := by
  refine wd_set ad cs (q := (o, 5)) hj _ ⟨rfl, rfl, rfl⟩ ?_ ?_
  · rw [ce_fa ad cs _ h h5 h0]
    have e : zQ (wB z o f) o = f := if_pos rfl
    rw [e]
  · intro x _ hx
    unfold ce
    by_cases h1 : x.2 = 100
    · rw [if_pos h1, if_pos h1]; rfl
    · rw [if_neg h1, if_neg h1]
      unfold ae
      by_cases h2 : x.1 = o
      · have hk : ak x ≠ 2 := fun q => by
          unfold ak at q
          split at q
          · cases q
          · split at q
            · cases q
            · split at q
              · rename_i q2; exact hx (Prod.ext h2 q2.2)
              · cases q
        generalize ak x = kx at hk
        match kx, hk with
        | 0, _ => rfl
        | 1, _ => rfl
        | 2, hk => exact absurd rfl hk
        | (n + 3), _ => rfl
      · have e : zQ (wB z o f) x.1 = zQ z x.1 := if_neg h2
        rw [e]
        rfl
end
section
/-! ROWS over the world: each takes E (the method's own facts) and hw (the world as it is now). -/
abbrev tyx (cs : Nat → ClassId) : List (ClassId × FieldType) := [(cs 0, .int), (cs 1, .object "TenYards$Shelf"), (cs 2, .object "TenYards$Faller"), (cs 3, .long)]
def EXI : String := "java/lang/IllegalStateException"
def EXU : String := "java/lang/UnsupportedOperationException"
def EXA : String := "java/lang/IllegalArgumentException"
/-- the tables: classes, private members of nest mates, casts -/
def KX (D : va_G) (cs : Nat → ClassId) (U : State) : Prop := va_K D cls (tyx cs) U ∧ va_Nw (.methodLinkNest RX0 52 yX11_isFrom RX11) U ∧ va_Nw (.methodLinkNest RX0 121 yX11_isLayer RX11) U ∧ (∀ c ∈ [RX8, RX7, RX5, RX6, RX1, RX2, RX10], va_Nw (.castable c RX4) U) ∧ (∀ c ∈ [EXI, EXU, EXA], va_Nw (.castable c c) U) ∧ va_Nc EXU EXI U ∧ va_Nc EXA EXI U ∧ va_Nc EXA EXU U ∧ va_Nc EXI EXA U
theorem KX.warm {D : va_G} {cs : Nat → ClassId} {s U : State} (h : KX D cs s) (hW : s.WarmedH U.vm) : KX D cs U := ⟨va_K.moved hW.alike h.1, va_Nw.warmM hW h.2.1, va_Nw.warmM hW h.2.2.1, fun c hc => va_Nw.warmC hW (h.2.2.2.1 c hc), fun c hc => va_Nw.warmC hW (h.2.2.2.2.1 c hc), va_Nc.moved hW.alike h.2.2.2.2.2.1, va_Nc.moved hW.alike h.2.2.2.2.2.2.1, va_Nc.moved hW.alike h.2.2.2.2.2.2.2.1, va_Nc.moved hW.alike h.2.2.2.2.2.2.2.2⟩
theorem KX.call {D : va_G} {cs : Nat → ClassId} {U : State} (h : KX D cs U) (g : JFrame) (mk : MethodId) (a : Array Value) : KX D cs (U.calling g mk a) := ⟨va_K.moved (u := U) (U := U.calling g mk a) (Vm.Alike.refl U.vm) h.1, va_Nw.same (u := U) (U := U.calling g mk a) rfl rfl h.2.1, va_Nw.same (u := U) (U := U.calling g mk a) rfl rfl h.2.2.1, fun c hc => va_Nw.same (u := U) (U := U.calling g mk a) rfl rfl (h.2.2.2.1 c hc), fun c hc => va_Nw.same (u := U) (U := U.calling g mk a) rfl rfl (h.2.2.2.2.1 c hc), va_Nc.moved (u := U) (U := U.calling g mk a) (Vm.Alike.refl U.vm) h.2.2.2.2.2.1, va_Nc.moved (u := U) (U := U.calling g mk a) (Vm.Alike.refl U.vm) h.2.2.2.2.2.2.1, va_Nc.moved (u := U) (U := U.calling g mk a) (Vm.Alike.refl U.vm) h.2.2.2.2.2.2.2.1, va_Nc.moved (u := U) (U := U.calling g mk a) (Vm.Alike.refl U.vm) h.2.2.2.2.2.2.2.2⟩
/-- the text constants: six forms of statements (0 .. 5), six messages (6 .. 11): class, entry, text -/
def slT (i : Nat) : String × Nat × String := match i with
  | 0 => (RX0, 106, "dsnsn;") | 1 => (RX0, 108, "n;") | 2 => (RX0, 110, "n n;") | 3 => (RX0, 112, "dd n;") | 4 => (RX0, 114, "snsnsnsn;") | 5 => (RX0, 116, "")
  | 6 => (RX1, 33, "a crabbing one fails") | 7 => (RX10, 31, "a stalled one fails") | 8 => (RX4, 81, "a faller fails") | 9 => (RX11, 291, "no such shelf") | 10 => (RX11, 301, "no row on the shelf") | _ => (RX11, 304, "no such place in the row")
def sLen : List Nat := [6, 2, 4, 5, 9, 0]
def sByt : List (List Int32) := [[100, 115, 110, 115, 110, 59], [110, 59], [110, 32, 110, 59], [100, 100, 32, 110, 59], [115, 110, 115, 110, 115, 110, 115, 110, 59], []]
/-- texts, and the statics that throwing and texts read -/
def SX (sk : (Nat → Nat) × (Nat → Nat)) (A : Nat → Prop) (U : State) : Prop := vk_S 6 sLen sByt sk.1 sk.2 A U U.heap ∧ va_Z "java/lang/String" "COMPACT_STRINGS" "Z" (.int 1) A U U.heap ∧ (∀ i, i < 12 → vk_R (slT i).1 (slT i).2.1 (slT i).2.2 (sk.1 i) U) ∧ vx_Zq Bundle.tN "UNASSIGNED_STACK" Bundle.steD A U U.heap ∧ vx_Zq Bundle.tN "SUPPRESSED_SENTINEL" Bundle.listD A U U.heap
theorem SX.at {sk : (Nat → Nat) × (Nat → Nat)} {A : Nat → Prop} {s U : State} {H : Heap} {locs : List Loc} (h : SX sk A s) (hS : va_S A s.heap H locs) (hU : U.heap = H) (hW : s.WarmedH U.vm) : SX sk A U := by
  subst hU
  exact ⟨(h.1.kept hS.2.1).moved hW.alike, va_Z.moved hW.alike (h.2.1.kept hS.2.1), fun i hi => (h.2.2.1 i hi).warm hW, vx_Zq.moved hW.alike (h.2.2.2.1.kept hS.2.1), vx_Zq.moved hW.alike (h.2.2.2.2.kept hS.2.1)⟩
theorem SX.call {sk : (Nat → Nat) × (Nat → Nat)} {A : Nat → Prop} {U : State} (h : SX sk A U) (g : JFrame) (mk : MethodId) (a : Array Value) : SX sk A (U.calling g mk a) := ⟨vk_S.moved (u := U) (U := U.calling g mk a) (Vm.Alike.refl U.vm) h.1, va_Z.moved (u := U) (U := U.calling g mk a) (Vm.Alike.refl U.vm) h.2.1, fun i hi => vk_R.same (u := U) (U := U.calling g mk a) rfl (h.2.2.1 i hi), vx_Zq.moved (u := U) (U := U.calling g mk a) (Vm.Alike.refl U.vm) h.2.2.2.1, vx_Zq.moved (u := U) (U := U.calling g mk a) (Vm.Alike.refl U.vm) h.2.2.2.2⟩
/-- the world z, in A, nothing else changed since H0 -/
def OW (D : va_G) (ad : Nat → Nat → Nat) (cs : Nat → ClassId) (A : Nat → Prop) (H0 : Heap) (z : ZS) (H : Heap) (locs : List Loc) : Prop := va_P D cls (wd ad cs z) H ∧ va_D A (wd ad cs z) ∧ va_S A H0 H locs
/-- a method's own facts: the machine, its code, its locals, its class, the words, the tables -/
def EN (p : Program) (m : MethodId) (c : Code) (cc : ByteArray) (nL : Nat) (s : State) (args : Array Value) (own : String) (D : va_G) (cs : Nat → ClassId) (A : Nat → Prop) (sk : (Nat → Nat) × (Nat → Nat)) : Prop := CallFix p m c cc nL s args W0 own ∧ KX D cs s ∧ SX sk A s
section XR
variable {p : Program} {l : Launch} {e : Env} {R : Room} {s : State} {m : MethodId} {args : Array Value} {below : List Frame} {meth : Method} {c : Code} {H : Heap} {locs : List Loc} {cells slots : Nat} {Q : State → Prop}
variable {cc : ByteArray} {nL pc : Nat} {ls : Array Slot} {rest : List Value} {D : va_G} {ad : Nat → Nat → Nat} {cs : Nat → ClassId} {A : Nat → Prop} {sk : (Nat → Nat) × (Nat → Nat)} {H0 : Heap} {z : ZS} {own : String}
-- fields
theorem xgI (E : EN p m c cc nL s args own D cs A sk) (hw : OW D ad cs A H0 z H locs) {o k c1 idx : Nat} (hc : ci o = c1) (ho : (o, 100) ∈ KY) (hk : k < cN c1 ∧ fk c1 k = 0) (hq : Cond.fieldLink own idx (cT c1 k).1 (cT c1 k).2.1 (cT c1 k).2.2.1 ∈ W0) (hdg : decode cc pc = .ok (.getfield idx, 3))
    (kk : W p l e R s m args below meth c H locs cells slots Q (F0 m (pc + 3) ls (.int (zI z o k) :: rest))) : W p l e R s m args below meth c H locs cells slots Q (F0 m pc ls (.ref (ad o 100) :: rest)) := by
  subst hc
  obtain ⟨j, -, hj⟩ := wd_at ad cs z ho
  rw [ce_obj] at hj
  exact va_get E.1.1 E.1.2.1 E.1.2.2.2.2 (cin_at (ci_ok o)) E.1.2.2.2.1 E.2.1.1 hw.1 j hj (cls_at (ci_ok o)) k hk.1 (E.1.2.2.2.2 _ hq) (fun _ h => h) (by rw [fl_at ad z o hk.1]; unfold fv; rw [hk.2]; rfl) hdg kk
theorem xgC (E : EN p m c cc nL s args own D cs A sk) (hw : OW D ad cs A H0 z H locs) {o k c1 idx : Nat} (hc : ci o = c1) (ho : (o, 100) ∈ KY) (hk : k < cN c1 ∧ fk c1 k = 1) {t : Nat × Nat} (ht : rf c1 o k = t) (hq : Cond.fieldLink own idx (cT c1 k).1 (cT c1 k).2.1 (cT c1 k).2.2.1 ∈ W0) (hdg : decode cc pc = .ok (.getfield idx, 3))
    (kk : W p l e R s m args below meth c H locs cells slots Q (F0 m (pc + 3) ls (.ref (ad t.1 t.2) :: rest))) : W p l e R s m args below meth c H locs cells slots Q (F0 m pc ls (.ref (ad o 100) :: rest)) := by
  subst hc; subst ht
  obtain ⟨j, -, hj⟩ := wd_at ad cs z ho
  rw [ce_obj] at hj
  exact va_get E.1.1 E.1.2.1 E.1.2.2.2.2 (cin_at (ci_ok o)) E.1.2.2.2.1 E.2.1.1 hw.1 j hj (cls_at (ci_ok o)) k hk.1 (E.1.2.2.2.2 _ hq) (fun _ h => h) (by rw [fl_at ad z o hk.1]; unfold fv; rw [hk.2]; rfl) hdg kk
theorem xgG (E : EN p m c cc nL s args own D cs A sk) (hw : OW D ad cs A H0 z H locs) {o k c1 idx : Nat} (hc : ci o = c1) (ho : (o, 100) ∈ KY) (hk : k < cN c1 ∧ fk c1 k = 2) (hq : Cond.fieldLink own idx (cT c1 k).1 (cT c1 k).2.1 (cT c1 k).2.2.1 ∈ W0) (hdg : decode cc pc = .ok (.getfield idx, 3))
    (kk : W p l e R s m args below meth c H locs cells slots Q (F0 m (pc + 3) ls (va_rf (zG z o k) :: rest))) : W p l e R s m args below meth c H locs cells slots Q (F0 m pc ls (.ref (ad o 100) :: rest)) := by
  subst hc
  obtain ⟨j, -, hj⟩ := wd_at ad cs z ho
  rw [ce_obj] at hj
  exact va_get E.1.1 E.1.2.1 E.1.2.2.2.2 (cin_at (ci_ok o)) E.1.2.2.2.1 E.2.1.1 hw.1 j hj (cls_at (ci_ok o)) k hk.1 (E.1.2.2.2.2 _ hq) (fun _ h => h) (by rw [fl_at ad z o hk.1]; unfold fv; rw [hk.2]; rfl) hdg kk
theorem xpI (E : EN p m c cc nL s args own D cs A sk) (hw : OW D ad cs A H0 z H locs) {o k c1 idx : Nat} {v : Int32} {ty : FieldType} (hc : ci o = c1) (ho : (o, 100) ∈ KY) (hk : k < cN c1 ∧ fk c1 k = 0 ∧ (cT c1 k).2.2.2 = false ∧ parseFieldDescriptor (cT c1 k).2.2.1 = some ty) (hn : narrow ty (.int v) = .int v) (hft : fits ty (.int v) = true) (hq : Cond.fieldLink own idx (cT c1 k).1 (cT c1 k).2.1 (cT c1 k).2.2.1 ∈ W0) (hdg : decode cc pc = .ok (.putfield idx, 3))
    (kk : ∀ (z1 : ZS), z1 = wI z o k v → ∀ (H1 : Heap) (locs1 : List Loc), OW D ad cs A H0 z1 H1 locs1 → W p l e R s m args below meth c H1 locs1 cells slots Q (F0 m (pc + 3) ls rest)) : W p l e R s m args below meth c H locs cells slots Q (F0 m pc ls (.int v :: .ref (ad o 100) :: rest)) := by
  subst hc
  obtain ⟨j, hj0, hj⟩ := wd_at ad cs z ho
  rw [ce_obj] at hj
  refine va_put E.1.1 E.1.2.1 E.1.2.2.2.2 (cin_at (ci_ok o)) (cY (ci o)) (cty_at (ci_ok o)) (cnm_at (ci_ok o)) E.1.2.2.2.1 E.2.1.1 hw.1 hw.2.1 hw.2.2 j hj (cls_at (ci_ok o)) k hk.1 (E.1.2.2.2.2 _ hq) (fun _ h => h) hk.2.2.1 hk.2.2.2 hn hft (by rw [fl_len]; exact hk.1) hdg (fun H1 locs1 hP1 hD1 hS1 => ?_)
  rw [set_wI ad cs z v hj0 hk.1 hk.2.1] at hP1 hD1
  exact kk _ rfl H1 locs1 ⟨hP1, hD1, hS1⟩
theorem xpG (E : EN p m c cc nL s args own D cs A sk) (hw : OW D ad cs A H0 z H locs) {o k c1 idx : Nat} {r : Option Nat} {cn : String} (hc : ci o = c1) (ho : (o, 100) ∈ KY) (hk : k < cN c1 ∧ fk c1 k = 2 ∧ (cT c1 k).2.2.2 = false ∧ parseFieldDescriptor (cT c1 k).2.2.1 = some (.object cn)) (hq : Cond.fieldLink own idx (cT c1 k).1 (cT c1 k).2.1 (cT c1 k).2.2.1 ∈ W0) (hdg : decode cc pc = .ok (.putfield idx, 3))
    (kk : ∀ (z1 : ZS), z1 = wG z o k r → ∀ (H1 : Heap) (locs1 : List Loc), OW D ad cs A H0 z1 H1 locs1 → W p l e R s m args below meth c H1 locs1 cells slots Q (F0 m (pc + 3) ls rest)) : W p l e R s m args below meth c H locs cells slots Q (F0 m pc ls (va_rf r :: .ref (ad o 100) :: rest)) := by
  subst hc
  obtain ⟨j, hj0, hj⟩ := wd_at ad cs z ho
  rw [ce_obj] at hj
  refine va_put E.1.1 E.1.2.1 E.1.2.2.2.2 (cin_at (ci_ok o)) (cY (ci o)) (cty_at (ci_ok o)) (cnm_at (ci_ok o)) E.1.2.2.2.1 E.2.1.1 hw.1 hw.2.1 hw.2.2 j hj (cls_at (ci_ok o)) k hk.1 (E.1.2.2.2.2 _ hq) (fun _ h => h) hk.2.2.1 hk.2.2.2 (by cases r <;> rfl) (by cases r <;> rfl) (by rw [fl_len]; exact hk.1) hdg (fun H1 locs1 hP1 hD1 hS1 => ?_)
  rw [set_wG ad cs z r hj0 hk.1 hk.2.1] at hP1 hD1
  exact kk _ rfl H1 locs1 ⟨hP1, hD1, hS1⟩
-- arrays of ints
theorem xal (E : EN p m c cc nL s args own D cs A sk) (hw : OW D ad cs A H0 z H locs) {o k n : Nat} (ho : (o, k) ∈ KY) (ha : k ≠ 100 ∧ ak (o, k) = 0 ∧ al (ci o) k = n) {i : Int32} (hin : vp_in i n) (hdg : decode cc pc = .ok (.iaload, 1))
    (kk : W p l e R s m args below meth c H locs cells slots Q (F0 m (pc + 1) ls (.int (zR z o k i.toNatClampNeg) :: rest))) : W p l e R s m args below meth c H locs cells slots Q (F0 m pc ls (.int i :: .ref (ad o k) :: rest)) := by
  obtain ⟨h1, h2, rfl⟩ := ha
  obtain ⟨j, -, hj⟩ := wd_at ad cs z ho
  rw [ce_arr ad cs z h1 h2] at hj
  exact va_iald E.1.1 E.1.2.1 E.2.1.1 hw.1 j 0 hj rfl hin hdg kk
theorem xas (E : EN p m c cc nL s args own D cs A sk) (hw : OW D ad cs A H0 z H locs) {o k n : Nat} (ho : (o, k) ∈ KY) (ha : k ≠ 100 ∧ ak (o, k) = 0 ∧ al (ci o) k = n) {i v : Int32} (hin : vp_in i n) (hdg : decode cc pc = .ok (.iastore, 1))
    (kk : ∀ (z1 : ZS), z1 = wR z o k i.toNatClampNeg v → ∀ (H1 : Heap) (locs1 : List Loc), OW D ad cs A H0 z1 H1 locs1 → W p l e R s m args below meth c H1 locs1 cells slots Q (F0 m (pc + 1) ls rest)) : W p l e R s m args below meth c H locs cells slots Q (F0 m pc ls (.int v :: .int i :: .ref (ad o k) :: rest)) := by
  obtain ⟨h1, h2, rfl⟩ := ha
  obtain ⟨j, hj0, hj⟩ := wd_at ad cs z ho
  rw [ce_arr ad cs z h1 h2] at hj
  refine va_iast E.1.1 E.1.2.1 E.2.1.1 hw.1 hw.2.1 hw.2.2 j 0 hj rfl hin hdg (fun H1 locs1 hP1 hD1 hS1 => ?_)
  rw [set_wA ad cs z _ hj0 h1 h2] at hP1 hD1
  exact kk _ rfl H1 locs1 ⟨hP1, hD1, hS1⟩
theorem xln (E : EN p m c cc nL s args own D cs A sk) (hw : OW D ad cs A H0 z H locs) {o k n : Nat} (ho : (o, k) ∈ KY) (ha : k ≠ 100 ∧ ak (o, k) = 0 ∧ al (ci o) k = n) {v : Int32} (hv : Int32.ofNat n = v) (hdg : decode cc pc = .ok (.arraylength, 1))
    (kk : W p l e R s m args below meth c H locs cells slots Q (F0 m (pc + 1) ls (.int v :: rest))) : W p l e R s m args below meth c H locs cells slots Q (F0 m pc ls (.ref (ad o k) :: rest)) := by
  obtain ⟨h1, h2, rfl⟩ := ha
  obtain ⟨j, -, hj⟩ := wd_at ad cs z ho
  rw [ce_arr ad cs z h1 h2] at hj
  exact va_alen E.1.1 E.1.2.1 E.2.1.1 hw.1 j 0 hj rfl hv hdg kk
-- arrays of references
theorem xsh (E : EN p m c cc nL s args own D cs A sk) (hw : OW D ad cs A H0 z H locs) {i : Int32} (hin : vp_in i 8) (hdg : decode cc pc = .ok (.aaload, 1))
    (kk : W p l e R s m args below meth c H locs cells slots Q (F0 m (pc + 1) ls (.ref (ad (6 + i.toNatClampNeg) 100) :: rest))) : W p l e R s m args below meth c H locs cells slots Q (F0 m pc ls (.int i :: .ref (ad 0 6) :: rest)) := by
  obtain ⟨j, -, hj⟩ := wd_at ad cs z (q := (0, 6)) (by decide)
  rw [ce_sh] at hj
  refine va_aldq E.1.1 E.1.2.1 E.2.1.1 hw.1 j 1 hj rfl hin hdg ?_
  have h8 : i.toNatClampNeg < 8 := Nat.lt_of_not_le (fun q => hin (Or.inr q))
  rw [if_pos h8]
  exact kk
theorem xfl (E : EN p m c cc nL s args own D cs A sk) (hw : OW D ad cs A H0 z H locs) {o : Nat} (ho : (o, 5) ∈ KY) (hc : ci o = 0) (h5 : o ≠ 15) (h0 : o ≠ 0) {i : Int32} (hin : vp_in i 8) (hdg : decode cc pc = .ok (.aaload, 1))
    (kk : W p l e R s m args below meth c H locs cells slots Q (F0 m (pc + 1) ls (va_rf (zQ z o i.toNatClampNeg) :: rest))) : W p l e R s m args below meth c H locs cells slots Q (F0 m pc ls (.int i :: .ref (ad o 5) :: rest)) := by
  obtain ⟨j, -, hj⟩ := wd_at ad cs z ho
  rw [ce_fa ad cs z hc h5 h0] at hj
  exact va_aldq E.1.1 E.1.2.1 E.2.1.1 hw.1 j 2 hj rfl hin hdg kk
-- the end of a method
abbrev BB (D : va_G) (ad : Nat → Nat → Nat) (cs : Nat → ClassId) (A : Nat → Prop) (u : ZS) (t : State) : Prop := va_P D cls (wd ad cs u) t.heap ∧ va_D A (wd ad cs u)
theorem xrI (hx : p.tables.exec = Jvm.exec) (hb : c.code = cc) (hr : meth.sig.returnType = some .int) (hlocks : meth.locks = false) (hw : OW D ad cs A s.heap z H locs) {post : Int32 → ZS → Prop} {v : Int32} (hp : post v z) (hdg : decode cc pc = .ok (.ireturn, 1)) : W p l e R s m args below meth c H locs cells slots (MQ below (va_Qi post (BB D ad cs A) A) args s cells slots A) (F0 m pc ls [.int v]) :=
  W.iret (v := v) hx hb hr (fun t ht _ => ⟨⟨v, z, rfl, hp, by rw [ht]; exact hw.1, hw.2.1⟩, hw.2.2.F ht⟩) hw.2.2.2.2 hdg hlocks
theorem xrZ (hx : p.tables.exec = Jvm.exec) (hb : c.code = cc) {ty : FieldType} (hr : meth.sig.returnType = some ty) (hlocks : meth.locks = false) (hw : OW D ad cs A s.heap z H locs) {post : Int32 → ZS → Prop} {v : Int32} (hn : narrow ty (.int v) = .int v) (hp : post v z) (hdg : decode cc pc = .ok (.ireturn, 1)) : W p l e R s m args below meth c H locs cells slots (MQ below (va_Qi post (BB D ad cs A) A) args s cells slots A) (F0 m pc ls [.int v]) :=
  W.zret (v := v) hx hb hr hn (fun t ht _ => ⟨⟨v, z, rfl, hp, by rw [ht]; exact hw.1, hw.2.1⟩, hw.2.2.F ht⟩) hw.2.2.2.2 hdg hlocks
theorem xrV (hx : p.tables.exec = Jvm.exec) (hb : c.code = cc) (hr : meth.sig.returnType = none) (hlocks : meth.locks = false) (hw : OW D ad cs A s.heap z H locs) {post : ZS → Prop} (hp : post z) (hdg : decode cc pc = .ok (.return_, 1)) : W p l e R s m args below meth c H locs cells slots (MQ below (va_Qv post (BB D ad cs A) A) args s cells slots A) (F0 m pc ls []) :=
  W.vret hx hb hr (fun t ht _ => ⟨⟨z, rfl, hp, by rw [ht]; exact hw.1, hw.2.1⟩, hw.2.2.F ht⟩) hw.2.2.2.2 hdg hlocks
theorem xrL (hx : p.tables.exec = Jvm.exec) (hb : c.code = cc) (hr : meth.sig.returnType = some .long) (hlocks : meth.locks = false) (hw : OW D ad cs A s.heap z H locs) {post : Int64 → ZS → Prop} {v : Int64} (hp : post v z) (hdg : decode cc pc = .ok (.lreturn, 1)) : W p l e R s m args below meth c H locs cells slots (MQ below (va_Ql post (BB D ad cs A) A) args s cells slots A) (F0 m pc ls [.long v]) :=
  W.lret (v := v) hx hb hr (fun t ht _ => ⟨⟨v, z, rfl, hp, by rw [ht]; exact hw.1, hw.2.1⟩, hw.2.2.F ht⟩) hw.2.2.2.2 hdg hlocks
theorem xrA (hx : p.tables.exec = Jvm.exec) (hb : c.code = cc) {cn : String} (hr : meth.sig.returnType = some (.object cn)) (hlocks : meth.locks = false) (hw : OW D ad cs A s.heap z H locs) {post : Option Nat → ZS → Prop} {r : Option Nat} (hp : post r z) (hdg : decode cc pc = .ok (.areturn, 1)) : W p l e R s m args below meth c H locs cells slots (MQ below (va_Qq post (BB D ad cs A) A) args s cells slots A) (F0 m pc ls [va_rf r]) :=
  W.aret hx hb hr (Or.inl ⟨_, rfl⟩) (by cases r; exact Or.inl rfl; exact Or.inr ⟨_, rfl⟩) (fun t ht _ => ⟨⟨r, z, rfl, hp, by rw [ht]; exact hw.1, hw.2.1⟩, hw.2.2.F ht⟩) hw.2.2.2.2 hdg hlocks
end XR
-- contracts
abbrev PP (D : va_G) (ad : Nat → Nat → Nat) (cs : Nat → ClassId) (A : Nat → Prop) (sk : (Nat → Nat) × (Nat → Nat)) (sz : Nat) (z : ZS) (vs : List Value) : Array Value → State → Prop := va_Pc vs (fun U => U.heap.size = sz ∧ va_P D cls (wd ad cs z) U.heap ∧ KX D cs U ∧ va_D A (wd ad cs z) ∧ SX sk A U)
theorem PP.blind {D : va_G} {ad : Nat → Nat → Nat} {cs : Nat → ClassId} {A : Nat → Prop} {sk : (Nat → Nat) × (Nat → Nat)} {sz : Nat} {z : ZS} {vs : List Value} : FrameBlind (PP D ad cs A sk sz z vs) := fun a U g mk q => ⟨q.1, q.2.1, q.2.2.1, q.2.2.2.1.call g mk a, q.2.2.2.2.1, q.2.2.2.2.2.call g mk a⟩
theorem PP.pre {D : va_G} {ad : Nat → Nat → Nat} {cs : Nat → ClassId} {A : Nat → Prop} {sk : (Nat → Nat) × (Nat → Nat)} {z : ZS} {vs : List Value} {s : State} {H : Heap} {locs : List Loc} (hK : KX D cs s) (hX : SX sk A s) (hw : OW D ad cs A s.heap z H locs) : ∀ U : State, U.heap = H → s.WarmedH U.vm → PP D ad cs A sk H.size z vs vs.toArray U := fun U hU hW => ⟨rfl, by rw [hU], by rw [hU]; exact hw.1, hK.warm hW, hw.2.1, hX.at hw.2.2 hU hW⟩
def MI (l : Launch) (D : va_G) (ad : Nat → Nat → Nat) (cs : Nat → ClassId) (sk : (Nat → Nat) × (Nat → Nat)) (y : MethodName) (bs : ByteArray) (n : Nat) (ty : FieldType) (rm : Room) (vs : List Value) (z : ZS) (post : Int32 → ZS → Prop) : Prop :=
  ∀ (A : Nat → Prop) (sz : Nat), (∀ q, sz ≤ q → A q) → Met l y (.code y bs n (some ty) :: W0) rm (PP D ad cs A sk sz z vs) (va_Qi post (BB D ad cs A) A) rm.cells rm.slots A
def ML (l : Launch) (D : va_G) (ad : Nat → Nat → Nat) (cs : Nat → ClassId) (sk : (Nat → Nat) × (Nat → Nat)) (y : MethodName) (bs : ByteArray) (n : Nat) (rm : Room) (vs : List Value) (z : ZS) (post : Int64 → ZS → Prop) : Prop :=
  ∀ (A : Nat → Prop) (sz : Nat), (∀ q, sz ≤ q → A q) → Met l y (.code y bs n (some .long) :: W0) rm (PP D ad cs A sk sz z vs) (va_Ql post (BB D ad cs A) A) rm.cells rm.slots A
def MV (l : Launch) (D : va_G) (ad : Nat → Nat → Nat) (cs : Nat → ClassId) (sk : (Nat → Nat) × (Nat → Nat)) (y : MethodName) (bs : ByteArray) (n : Nat) (rm : Room) (vs : List Value) (z : ZS) (post : ZS → Prop) : Prop :=
  ∀ (A : Nat → Prop) (sz : Nat), (∀ q, sz ≤ q → A q) → Met l y (.code y bs n none :: W0) rm (PP D ad cs A sk sz z vs) (va_Qv post (BB D ad cs A) A) rm.cells rm.slots A
def MA (l : Launch) (D : va_G) (ad : Nat → Nat → Nat) (cs : Nat → ClassId) (sk : (Nat → Nat) × (Nat → Nat)) (y : MethodName) (bs : ByteArray) (n : Nat) (cn : String) (rm : Room) (vs : List Value) (z : ZS) (post : Option Nat → ZS → Prop) : Prop :=
  ∀ (A : Nat → Prop) (sz : Nat), (∀ q, sz ≤ q → A q) → Met l y (.code y bs n (some (.object cn)) :: W0) rm (PP D ad cs A sk sz z vs) (va_Qq post (BB D ad cs A) A) rm.cells rm.slots A
/-- a level: how deep the calls go, what is made -/
abbrev rmq (d k n : Nat) : Room := { frames := d, cells := k, slots := n, locals := 40 * d }
-- the words of a call
abbrev cV (own : String) (idx : Nat) (C : String) (y : MethodName) (bs : ByteArray) (n : Nat) (ret : Option FieldType) : Prop := Cond.methodLink own idx y ∈ W0 ∧ Cond.instanceMethod y ∈ W0 ∧ Cond.selects C y y ∈ W0 ∧ Cond.initialized y.cls ∈ W0 ∧ Cond.code y bs n ret ∈ W0
abbrev cS (own : String) (idx : Nat) (y : MethodName) (bs : ByteArray) (n : Nat) (ret : Option FieldType) : Prop := Cond.methodLink own idx y ∈ W0 ∧ Cond.static y ∈ W0 ∧ Cond.initialized y.cls ∈ W0 ∧ Cond.code y bs n ret ∈ W0
abbrev yOK (y : MethodName) (n : Nat) : Prop := y.cls ≠ "java/lang/invoke/MethodHandle" ∧ y.cls ≠ "java/lang/invoke/VarHandle" ∧ (parseMethodDescriptor y.desc).map (fun d => d.parameters.length) = some n
section XC
variable {p : Program} {l : Launch} {e : Env} {R : Room} {s : State} {m : MethodId} {args : Array Value} {below : List Frame} {meth : Method} {c : Code} {H : Heap} {locs : List Loc} {cells slots : Nat} {Q : State → Prop}
variable {cc : ByteArray} {nL pc : Nat} {ls : Array Slot} {rest st0 : List Value} {D : va_G} {ad : Nat → Nat → Nat} {cs : Nat → ClassId} {A : Nat → Prop} {sk : (Nat → Nat) × (Nat → Nat)} {z : ZS} {own C : String} {y : MethodName} {bs : ByteArray} {n na idx : Nat} {rm : Room} {As : List Value} {b : Nat}
theorem xwV (E : EN p m c cc nL s args own D cs A sk) {ret : Option FieldType} (hq : cV own idx C y bs n ret) (hy : yOK y na) (hR : rm.frames + 1 ≤ R.frames ∧ 8 + (n + 11) + rm.locals ≤ R.locals) : CallW R s args own C idx y bs n ret (.code y bs n ret :: W0) rm rm.cells rm.slots na :=
  ⟨callB_of na E.1.2.2.2.2 (w0_c hq.2.2.2.2) rfl rfl rfl (E.1.2.2.2.2 _ hq.2.2.2.1) (E.1.2.2.2.2 _ hq.1) hy hR, E.1.2.2.2.2 _ hq.2.1, E.1.2.2.2.2 _ hq.2.2.1⟩
theorem xwS (E : EN p m c cc nL s args own D cs A sk) {ret : Option FieldType} (hq : cS own idx y bs n ret) (hy : yOK y na) (hR : rm.frames + 1 ≤ R.frames ∧ 8 + (n + 11) + rm.locals ≤ R.locals) : CallB R s args own idx y bs n ret (.code y bs n ret :: W0) rm rm.cells rm.slots na ∧ (Cond.static y).before args s = true :=
  ⟨callB_of na E.1.2.2.2.2 (w0_c hq.2.2.2) rfl rfl rfl (E.1.2.2.2.2 _ hq.2.2.1) (E.1.2.2.2.2 _ hq.1) hy hR, E.1.2.2.2.2 _ hq.2.1⟩
theorem xwN (E : EN p m c cc nL s args own D cs A sk) {ret : Option FieldType} {host : String} (hl : va_Nw (.methodLinkNest own idx y host) s) (hq : Cond.static y ∈ W0 ∧ Cond.initialized y.cls ∈ W0 ∧ Cond.code y bs n ret ∈ W0) (hy : yOK y na) (hR : rm.frames + 1 ≤ R.frames ∧ 8 + (n + 11) + rm.locals ≤ R.locals) : va_CN R s args own idx y host bs n ret (.code y bs n ret :: W0) rm rm.cells rm.slots na ∧ (Cond.static y).before args s = true ∧ True :=
  ⟨va_cnB na E.1.2.2.2.2 (w0_c hq.2.2) rfl rfl rfl hl (E.1.2.2.2.2 _ hq.2.1) hy hR, E.1.2.2.2.2 _ hq.1, trivial⟩
/-- the receiver among the numbered objects -/
theorem xrc (E : EN p m c cc nL s args own D cs A sk) (hw : OW D ad cs A s.heap z H locs) {o : Nat} (ho : (o, 100) ∈ KY) {c1 : Nat} (hc : ci o = c1) : ∃ cell : Cell, H[ad o 100]? = some cell ∧ cell.vm.isStatics = false ∧ s.vm.findClass (cC c1) = some cell.cls := by
  subst hc
  obtain ⟨j, -, hj⟩ := wd_at ad cs z ho
  rw [ce_obj] at hj
  exact va_recv E.2.1.1 hw.1 (cls_at (ci_ok o)) hj
theorem xA (hw : OW D ad cs A s.heap z H locs) (hA : ∀ q, s.heap.size ≤ q → A q) : ∀ q, H.size ≤ q → A q := fun q h => hA q (Nat.le_trans hw.2.2.1 h)
-- calls that answer an int or a boolean
theorem xcVI (E : EN p m c cc nL s args own D cs A sk) (hw : OW D ad cs A s.heap z H locs) (hA : ∀ q, s.heap.size ≤ q → A q) {ty : FieldType} {post : Int32 → ZS → Prop} (hM : MI l D ad cs sk y bs n ty rm (.ref b :: As) z post) (hq : cV own idx C y bs n (some ty)) (hy : yOK y na) (hR : rm.frames + 1 ≤ R.frames ∧ 8 + (n + 11) + rm.locals ≤ R.locals) (hrc : ∃ cell : Cell, H[b]? = some cell ∧ cell.vm.isStatics = false ∧ s.vm.findClass C = some cell.cls) (hna : As.length = na) (hsz : ls.size = nL) (hst : st0 = As.reverse ++ .ref b :: rest) (h8 : (rest.map fun v => v.category).sum ≤ 8) (hdg : decode cc pc = .ok (.invokevirtual idx, 3)) (hf : cells + rm.cells ≤ R.cells ∧ slots + rm.slots ≤ R.slots)
    (kk : ∀ (r : Int32) (z1 : ZS) (H1 : Heap) (locs1 : List Loc), post r z1 → OW D ad cs A s.heap z1 H1 locs1 → W p l e R s m args below meth c H1 locs1 (cells + rm.cells) (slots + rm.slots) Q (F0 m (pc + 3) ls (.int r :: rest))) : W p l e R s m args below meth c H locs cells slots Q (F0 m pc ls st0) :=
  va_calli (va_runV E.1 (hM A H.size (xA hw hA)) (xwV E hq hy hR) ⟨PP.blind, hrc, PP.pre E.2.1 E.2.2 hw⟩ rfl hna hsz hst (lv_room h8) hdg hf) hw.2.2 (fun _ _ h => h) (fun _ h => h) (fun r u t H1 locs1 ht _ hp hB _ _ hS1 => kk r u H1 locs1 hp ⟨by rw [← ht]; exact hB.1, hB.2, hS1⟩)
theorem xcSI (E : EN p m c cc nL s args own D cs A sk) (hw : OW D ad cs A s.heap z H locs) (hA : ∀ q, s.heap.size ≤ q → A q) {ty : FieldType} {post : Int32 → ZS → Prop} (hM : MI l D ad cs sk y bs n ty rm As z post) (hq : cS own idx y bs n (some ty)) (hy : yOK y na) (hR : rm.frames + 1 ≤ R.frames ∧ 8 + (n + 11) + rm.locals ≤ R.locals) (hna : As.length = na) (hsz : ls.size = nL) (hst : st0 = As.reverse ++ rest) (h8 : (rest.map fun v => v.category).sum ≤ 8) (hdg : decode cc pc = .ok (.invokestatic idx, 3)) (hf : cells + rm.cells ≤ R.cells ∧ slots + rm.slots ≤ R.slots)
    (kk : ∀ (r : Int32) (z1 : ZS) (H1 : Heap) (locs1 : List Loc), post r z1 → OW D ad cs A s.heap z1 H1 locs1 → W p l e R s m args below meth c H1 locs1 (cells + rm.cells) (slots + rm.slots) Q (F0 m (pc + 3) ls (.int r :: rest))) : W p l e R s m args below meth c H locs cells slots Q (F0 m pc ls st0) :=
  va_calli (va_runS E.1 (hM A H.size (xA hw hA)) (xwS E hq hy hR) ⟨PP.blind, PP.pre E.2.1 E.2.2 hw⟩ rfl hna hsz hst (lv_room h8) hdg hf) hw.2.2 (fun _ _ h => h) (fun _ h => h) (fun r u t H1 locs1 ht _ hp hB _ _ hS1 => kk r u H1 locs1 hp ⟨by rw [← ht]; exact hB.1, hB.2, hS1⟩)
theorem xcNI (E : EN p m c cc nL s args own D cs A sk) (hw : OW D ad cs A s.heap z H locs) (hA : ∀ q, s.heap.size ≤ q → A q) {ty : FieldType} {post : Int32 → ZS → Prop} {host : String} (hM : MI l D ad cs sk y bs n ty rm As z post) (hl : va_Nw (.methodLinkNest own idx y host) s) (hq : Cond.static y ∈ W0 ∧ Cond.initialized y.cls ∈ W0 ∧ Cond.code y bs n (some ty) ∈ W0) (hy : yOK y na) (hR : rm.frames + 1 ≤ R.frames ∧ 8 + (n + 11) + rm.locals ≤ R.locals) (hna : As.length = na) (hsz : ls.size = nL) (hst : st0 = As.reverse ++ rest) (h8 : (rest.map fun v => v.category).sum ≤ 8) (hdg : decode cc pc = .ok (.invokestatic idx, 3)) (hf : cells + rm.cells ≤ R.cells ∧ slots + rm.slots ≤ R.slots)
    (kk : ∀ (r : Int32) (z1 : ZS) (H1 : Heap) (locs1 : List Loc), post r z1 → OW D ad cs A s.heap z1 H1 locs1 → W p l e R s m args below meth c H1 locs1 (cells + rm.cells) (slots + rm.slots) Q (F0 m (pc + 3) ls (.int r :: rest))) : W p l e R s m args below meth c H locs cells slots Q (F0 m pc ls st0) :=
  va_calli (va_runSN E.1 (hM A H.size (xA hw hA)) (xwN E hl hq hy hR) ⟨PP.blind, PP.pre E.2.1 E.2.2 hw⟩ rfl hna hsz hst (lv_room h8) hdg hf) hw.2.2 (fun _ _ h => h) (fun _ h => h) (fun r u t H1 locs1 ht _ hp hB _ _ hS1 => kk r u H1 locs1 hp ⟨by rw [← ht]; exact hB.1, hB.2, hS1⟩)
-- calls that answer a long
theorem xcVL (E : EN p m c cc nL s args own D cs A sk) (hw : OW D ad cs A s.heap z H locs) (hA : ∀ q, s.heap.size ≤ q → A q) {post : Int64 → ZS → Prop} (hM : ML l D ad cs sk y bs n rm (.ref b :: As) z post) (hq : cV own idx C y bs n (some .long)) (hy : yOK y na) (hR : rm.frames + 1 ≤ R.frames ∧ 8 + (n + 11) + rm.locals ≤ R.locals) (hrc : ∃ cell : Cell, H[b]? = some cell ∧ cell.vm.isStatics = false ∧ s.vm.findClass C = some cell.cls) (hna : As.length = na) (hsz : ls.size = nL) (hst : st0 = As.reverse ++ .ref b :: rest) (h8 : (rest.map fun v => v.category).sum ≤ 8) (hdg : decode cc pc = .ok (.invokevirtual idx, 3)) (hf : cells + rm.cells ≤ R.cells ∧ slots + rm.slots ≤ R.slots)
    (kk : ∀ (r : Int64) (z1 : ZS) (H1 : Heap) (locs1 : List Loc), post r z1 → OW D ad cs A s.heap z1 H1 locs1 → W p l e R s m args below meth c H1 locs1 (cells + rm.cells) (slots + rm.slots) Q (F0 m (pc + 3) ls (.long r :: rest))) : W p l e R s m args below meth c H locs cells slots Q (F0 m pc ls st0) :=
  va_calll (va_runV E.1 (hM A H.size (xA hw hA)) (xwV E hq hy hR) ⟨PP.blind, hrc, PP.pre E.2.1 E.2.2 hw⟩ rfl hna hsz hst (lv_room h8) hdg hf) hw.2.2 (fun _ _ h => h) (fun _ h => h) (fun r u t H1 locs1 ht _ hp hB _ _ hS1 => kk r u H1 locs1 hp ⟨by rw [← ht]; exact hB.1, hB.2, hS1⟩)
-- calls that answer nothing
theorem xcVV (E : EN p m c cc nL s args own D cs A sk) (hw : OW D ad cs A s.heap z H locs) (hA : ∀ q, s.heap.size ≤ q → A q) {post : ZS → Prop} (hM : MV l D ad cs sk y bs n rm (.ref b :: As) z post) (hq : cV own idx C y bs n none) (hy : yOK y na) (hR : rm.frames + 1 ≤ R.frames ∧ 8 + (n + 11) + rm.locals ≤ R.locals) (hrc : ∃ cell : Cell, H[b]? = some cell ∧ cell.vm.isStatics = false ∧ s.vm.findClass C = some cell.cls) (hna : As.length = na) (hsz : ls.size = nL) (hst : st0 = As.reverse ++ .ref b :: rest) (h8 : (rest.map fun v => v.category).sum ≤ 8) (hdg : decode cc pc = .ok (.invokevirtual idx, 3)) (hf : cells + rm.cells ≤ R.cells ∧ slots + rm.slots ≤ R.slots)
    (kk : ∀ (z1 : ZS) (H1 : Heap) (locs1 : List Loc), post z1 → OW D ad cs A s.heap z1 H1 locs1 → W p l e R s m args below meth c H1 locs1 (cells + rm.cells) (slots + rm.slots) Q (F0 m (pc + 3) ls rest)) : W p l e R s m args below meth c H locs cells slots Q (F0 m pc ls st0) :=
  va_callv (va_runV E.1 (hM A H.size (xA hw hA)) (xwV E hq hy hR) ⟨PP.blind, hrc, PP.pre E.2.1 E.2.2 hw⟩ rfl hna hsz hst (lv_room h8) hdg hf) hw.2.2 (fun _ _ h => h) (fun _ h => h) (fun u t H1 locs1 ht _ hp hB _ _ hS1 => kk u H1 locs1 hp ⟨by rw [← ht]; exact hB.1, hB.2, hS1⟩)
-- calls that answer a reference
theorem xcVA (E : EN p m c cc nL s args own D cs A sk) (hw : OW D ad cs A s.heap z H locs) (hA : ∀ q, s.heap.size ≤ q → A q) {cn : String} {post : Option Nat → ZS → Prop} (hM : MA l D ad cs sk y bs n cn rm (.ref b :: As) z post) (hq : cV own idx C y bs n (some (.object cn))) (hy : yOK y na) (hR : rm.frames + 1 ≤ R.frames ∧ 8 + (n + 11) + rm.locals ≤ R.locals) (hrc : ∃ cell : Cell, H[b]? = some cell ∧ cell.vm.isStatics = false ∧ s.vm.findClass C = some cell.cls) (hna : As.length = na) (hsz : ls.size = nL) (hst : st0 = As.reverse ++ .ref b :: rest) (h8 : (rest.map fun v => v.category).sum ≤ 8) (hdg : decode cc pc = .ok (.invokevirtual idx, 3)) (hf : cells + rm.cells ≤ R.cells ∧ slots + rm.slots ≤ R.slots)
    (kk : ∀ (r : Option Nat) (z1 : ZS) (H1 : Heap) (locs1 : List Loc), post r z1 → OW D ad cs A s.heap z1 H1 locs1 → W p l e R s m args below meth c H1 locs1 (cells + rm.cells) (slots + rm.slots) Q (F0 m (pc + 3) ls (va_rf r :: rest))) : W p l e R s m args below meth c H locs cells slots Q (F0 m pc ls st0) :=
  va_callq (va_runV E.1 (hM A H.size (xA hw hA)) (xwV E hq hy hR) ⟨PP.blind, hrc, PP.pre E.2.1 E.2.2 hw⟩ rfl hna hsz hst (lv_room h8) hdg hf) hw.2.2 (fun _ _ h => h) (fun _ h => h) (fun r u t H1 locs1 ht _ hp hB _ _ hS1 => kk r u H1 locs1 hp ⟨by rw [← ht]; exact hB.1, hB.2, hS1⟩)
theorem xcSA (E : EN p m c cc nL s args own D cs A sk) (hw : OW D ad cs A s.heap z H locs) (hA : ∀ q, s.heap.size ≤ q → A q) {cn : String} {post : Option Nat → ZS → Prop} (hM : MA l D ad cs sk y bs n cn rm As z post) (hq : cS own idx y bs n (some (.object cn))) (hy : yOK y na) (hR : rm.frames + 1 ≤ R.frames ∧ 8 + (n + 11) + rm.locals ≤ R.locals) (hna : As.length = na) (hsz : ls.size = nL) (hst : st0 = As.reverse ++ rest) (h8 : (rest.map fun v => v.category).sum ≤ 8) (hdg : decode cc pc = .ok (.invokestatic idx, 3)) (hf : cells + rm.cells ≤ R.cells ∧ slots + rm.slots ≤ R.slots)
    (kk : ∀ (r : Option Nat) (z1 : ZS) (H1 : Heap) (locs1 : List Loc), post r z1 → OW D ad cs A s.heap z1 H1 locs1 → W p l e R s m args below meth c H1 locs1 (cells + rm.cells) (slots + rm.slots) Q (F0 m (pc + 3) ls (va_rf r :: rest))) : W p l e R s m args below meth c H locs cells slots Q (F0 m pc ls st0) :=
  va_callq (va_runS E.1 (hM A H.size (xA hw hA)) (xwS E hq hy hR) ⟨PP.blind, PP.pre E.2.1 E.2.2 hw⟩ rfl hna hsz hst (lv_room h8) hdg hf) hw.2.2 (fun _ _ h => h) (fun _ h => h) (fun r u t H1 locs1 ht _ hp hB _ _ hS1 => kk r u H1 locs1 hp ⟨by rw [← ht]; exact hB.1, hB.2, hS1⟩)
end XC
-- a contract out of the walk of its body
theorem MI.of {l : Launch} {D : va_G} {ad : Nat → Nat → Nat} {cs : Nat → ClassId} {sk : (Nat → Nat) × (Nat → Nat)} {y : MethodName} {bs : ByteArray} {n : Nat} {ty : FieldType} {rm : Room} {vs : List Value} {z : ZS} {post : Int32 → ZS → Prop} (own : String) (ho : y.cls = own) (hy : plainName y.cls = true) (hl : (lg_sl vs).length ≤ n)
    (body : ∀ (p : Program) (e : Env) (s : State) (m : MethodId) (args : Array Value) (below : List Frame) (meth : Method) (c : Code) (A : Nat → Prop) (Q : State → Prop), EN p m c bs n s args own D cs A sk → OW D ad cs A s.heap z s.heap [] → (∀ q, s.heap.size ≤ q → A q) → (∀ (v : Int32) (z1 : ZS) (H : Heap) (locs : List Loc) (pc : Nat) (ls : Array Slot), OW D ad cs A s.heap z1 H locs → narrow ty (.int v) = .int v → post v z1 → decode bs pc = .ok (.ireturn, 1) → W p l e rm s m args below meth c H locs rm.cells rm.slots Q (F0 m pc ls [.int v])) → ∀ ls : Array Slot, lv_has ls n (lv_args 0 vs) → W p l e rm s m args below meth c s.heap [] 0 0 Q (F0 m 0 ls [])) : MI l D ad cs sk y bs n ty rm vs z post := by
  subst ho
  intro A sz hA
  refine Met.ofW (cc := bs) (maxL := n) (ret := some ty) hy rfl ?_
  intro p e s m args below meth c s₁ B hml hv
  obtain ⟨rfl, hsz, hP, hK, hD, hX⟩ := hv
  subst hsz
  have hts := atoms_spec (ws := Cond.code y bs n (some ty) :: W0) B.pre
  rw [lg_entry_eq]
  refine body p e s m _ below meth c A _ ⟨⟨B.exec, B.bytes, hml, findClass_of_methodNamed B.named, fun w h => hts w (List.mem_cons_of_mem _ h)⟩, hK, hX⟩ ⟨hP, hD, va_S.rf⟩ hA (fun v z1 H locs pc ls hw hn hp hd => ?_) _ (lv_entry vs hl)
  exact xrZ B.exec B.bytes B.returns B.notSynchronized hw hn hp hd
theorem ML.of {l : Launch} {D : va_G} {ad : Nat → Nat → Nat} {cs : Nat → ClassId} {sk : (Nat → Nat) × (Nat → Nat)} {y : MethodName} {bs : ByteArray} {n : Nat} {rm : Room} {vs : List Value} {z : ZS} {post : Int64 → ZS → Prop} (own : String) (ho : y.cls = own) (hy : plainName y.cls = true) (hl : (lg_sl vs).length ≤ n)
    (body : ∀ (p : Program) (e : Env) (s : State) (m : MethodId) (args : Array Value) (below : List Frame) (meth : Method) (c : Code) (A : Nat → Prop) (Q : State → Prop), EN p m c bs n s args own D cs A sk → OW D ad cs A s.heap z s.heap [] → (∀ q, s.heap.size ≤ q → A q) → (∀ (v : Int64) (z1 : ZS) (H : Heap) (locs : List Loc) (pc : Nat) (ls : Array Slot), OW D ad cs A s.heap z1 H locs → post v z1 → decode bs pc = .ok (.lreturn, 1) → W p l e rm s m args below meth c H locs rm.cells rm.slots Q (F0 m pc ls [.long v])) → ∀ ls : Array Slot, lv_has ls n (lv_args 0 vs) → W p l e rm s m args below meth c s.heap [] 0 0 Q (F0 m 0 ls [])) : ML l D ad cs sk y bs n rm vs z post := by
  subst ho
  intro A sz hA
  refine Met.ofW (cc := bs) (maxL := n) (ret := some .long) hy rfl ?_
  intro p e s m args below meth c s₁ B hml hv
  obtain ⟨rfl, hsz, hP, hK, hD, hX⟩ := hv
  subst hsz
  have hts := atoms_spec (ws := Cond.code y bs n (some .long) :: W0) B.pre
  rw [lg_entry_eq]
  refine body p e s m _ below meth c A _ ⟨⟨B.exec, B.bytes, hml, findClass_of_methodNamed B.named, fun w h => hts w (List.mem_cons_of_mem _ h)⟩, hK, hX⟩ ⟨hP, hD, va_S.rf⟩ hA (fun v z1 H locs pc ls hw hp hd => ?_) _ (lv_entry vs hl)
  exact xrL B.exec B.bytes B.returns B.notSynchronized hw hp hd
theorem MV.of {l : Launch} {D : va_G} {ad : Nat → Nat → Nat} {cs : Nat → ClassId} {sk : (Nat → Nat) × (Nat → Nat)} {y : MethodName} {bs : ByteArray} {n : Nat} {rm : Room} {vs : List Value} {z : ZS} {post : ZS → Prop} (own : String) (ho : y.cls = own) (hy : plainName y.cls = true) (hl : (lg_sl vs).length ≤ n)
    (body : ∀ (p : Program) (e : Env) (s : State) (m : MethodId) (args : Array Value) (below : List Frame) (meth : Method) (c : Code) (A : Nat → Prop) (Q : State → Prop), EN p m c bs n s args own D cs A sk → OW D ad cs A s.heap z s.heap [] → (∀ q, s.heap.size ≤ q → A q) → (∀ (z1 : ZS) (H : Heap) (locs : List Loc) (pc : Nat) (ls : Array Slot), OW D ad cs A s.heap z1 H locs → post z1 → decode bs pc = .ok (.return_, 1) → W p l e rm s m args below meth c H locs rm.cells rm.slots Q (F0 m pc ls [])) → ∀ ls : Array Slot, lv_has ls n (lv_args 0 vs) → W p l e rm s m args below meth c s.heap [] 0 0 Q (F0 m 0 ls [])) : MV l D ad cs sk y bs n rm vs z post := by
  subst ho
  intro A sz hA
  refine Met.ofW (cc := bs) (maxL := n) (ret := none) hy rfl ?_
  intro p e s m args below meth c s₁ B hml hv
  obtain ⟨rfl, hsz, hP, hK, hD, hX⟩ := hv
  subst hsz
  have hts := atoms_spec (ws := Cond.code y bs n (none) :: W0) B.pre
  rw [lg_entry_eq]
  refine body p e s m _ below meth c A _ ⟨⟨B.exec, B.bytes, hml, findClass_of_methodNamed B.named, fun w h => hts w (List.mem_cons_of_mem _ h)⟩, hK, hX⟩ ⟨hP, hD, va_S.rf⟩ hA (fun z1 H locs pc ls hw hp hd => ?_) _ (lv_entry vs hl)
  exact xrV B.exec B.bytes B.returns B.notSynchronized hw hp hd
theorem MA.of {l : Launch} {D : va_G} {ad : Nat → Nat → Nat} {cs : Nat → ClassId} {sk : (Nat → Nat) × (Nat → Nat)} {y : MethodName} {bs : ByteArray} {n : Nat} {cn : String} {rm : Room} {vs : List Value} {z : ZS} {post : Option Nat → ZS → Prop} (own : String) (ho : y.cls = own) (hy : plainName y.cls = true) (hl : (lg_sl vs).length ≤ n)
    (body : ∀ (p : Program) (e : Env) (s : State) (m : MethodId) (args : Array Value) (below : List Frame) (meth : Method) (c : Code) (A : Nat → Prop) (Q : State → Prop), EN p m c bs n s args own D cs A sk → OW D ad cs A s.heap z s.heap [] → (∀ q, s.heap.size ≤ q → A q) → (∀ (v : Option Nat) (z1 : ZS) (H : Heap) (locs : List Loc) (pc : Nat) (ls : Array Slot), OW D ad cs A s.heap z1 H locs → post v z1 → decode bs pc = .ok (.areturn, 1) → W p l e rm s m args below meth c H locs rm.cells rm.slots Q (F0 m pc ls [va_rf v])) → ∀ ls : Array Slot, lv_has ls n (lv_args 0 vs) → W p l e rm s m args below meth c s.heap [] 0 0 Q (F0 m 0 ls [])) : MA l D ad cs sk y bs n cn rm vs z post := by
  subst ho
  intro A sz hA
  refine Met.ofW (cc := bs) (maxL := n) (ret := some (.object cn)) hy rfl ?_
  intro p e s m args below meth c s₁ B hml hv
  obtain ⟨rfl, hsz, hP, hK, hD, hX⟩ := hv
  subst hsz
  have hts := atoms_spec (ws := Cond.code y bs n (some (.object cn)) :: W0) B.pre
  rw [lg_entry_eq]
  refine body p e s m _ below meth c A _ ⟨⟨B.exec, B.bytes, hml, findClass_of_methodNamed B.named, fun w h => hts w (List.mem_cons_of_mem _ h)⟩, hK, hX⟩ ⟨hP, hD, va_S.rf⟩ hA (fun v z1 H locs pc ls hw hp hd => ?_) _ (lv_entry vs hl)
  exact xrA B.exec B.bytes B.returns B.notSynchronized hw hp hd
end
section
/-! more rows: arrays at written places; references that may be null -/
section XR2
variable {p : Program} {l : Launch} {e : Env} {R : Room} {s : State} {m : MethodId} {args : Array Value} {below : List Frame} {meth : Method} {c : Code} {H : Heap} {locs : List Loc} {cells slots : Nat} {Q : State → Prop}
variable {cc : ByteArray} {nL pc : Nat} {ls : Array Slot} {rest : List Value} {D : va_G} {ad : Nat → Nat → Nat} {cs : Nat → ClassId} {A : Nat → Prop} {sk : (Nat → Nat) × (Nat → Nat)} {H0 : Heap} {z : ZS} {own : String}
theorem xalL (E : EN p m c cc nL s args own D cs A sk) (hw : OW D ad cs A H0 z H locs) {o k n : Nat} (ho : (o, k) ∈ KY) (ha : k ≠ 100 ∧ ak (o, k) = 0 ∧ al (ci o) k = n) {i : Int32} {j : Nat} (hj : i.toNatClampNeg = j) (hin : ¬ (i < 0 ∨ n ≤ i.toNatClampNeg)) (hdg : decode cc pc = .ok (.iaload, 1))
    (kk : W p l e R s m args below meth c H locs cells slots Q (F0 m (pc + 1) ls (.int (zR z o k j) :: rest))) : W p l e R s m args below meth c H locs cells slots Q (F0 m pc ls (.int i :: .ref (ad o k) :: rest)) := by
  subst hj
  exact xal E hw ho ha hin hdg kk
theorem xasL (E : EN p m c cc nL s args own D cs A sk) (hw : OW D ad cs A H0 z H locs) {o k n : Nat} (ho : (o, k) ∈ KY) (ha : k ≠ 100 ∧ ak (o, k) = 0 ∧ al (ci o) k = n) {i v : Int32} {j : Nat} (hj : i.toNatClampNeg = j) (hin : ¬ (i < 0 ∨ n ≤ i.toNatClampNeg)) (hdg : decode cc pc = .ok (.iastore, 1))
    (kk : ∀ (z1 : ZS), z1 = wR z o k j v → ∀ (H1 : Heap) (locs1 : List Loc), OW D ad cs A H0 z1 H1 locs1 → W p l e R s m args below meth c H1 locs1 cells slots Q (F0 m (pc + 1) ls rest)) : W p l e R s m args below meth c H locs cells slots Q (F0 m pc ls (.int v :: .int i :: .ref (ad o k) :: rest)) := by
  subst hj
  exact xas E hw ho ha hin hdg kk
theorem xlqaload_n (hx : p.tables.exec = Jvm.exec) (hb : c.code = cc) {k : Fin 4} {i : Nat} {r : Option Nat} (hdg : decode cc pc = .ok (.aload_n k, 1)) (hi : (k : Nat) = i) (hl : ls[i]? = some (.val (va_rf r)))
    (kk : W p l e R s m args below meth c H locs cells slots Q (F0 m (pc + 1) ls (va_rf r :: rest))) : W p l e R s m args below meth c H locs cells slots Q (F0 m pc ls rest) := by
  cases r with
  | none => exact lv_aload_nN hx hb hdg hi hl kk
  | some a => exact lv_aload_n hx hb hdg hi hl kk
theorem xlqaload (hx : p.tables.exec = Jvm.exec) (hb : c.code = cc) {i : Nat} {r : Option Nat} (hdg : decode cc pc = .ok (.aload i, 2)) (hl : ls[i]? = some (.val (va_rf r)))
    (kk : W p l e R s m args below meth c H locs cells slots Q (F0 m (pc + 2) ls (va_rf r :: rest))) : W p l e R s m args below meth c H locs cells slots Q (F0 m pc ls rest) := by
  cases r with
  | none => exact lv_aloadN hx hb hdg hl kk
  | some a => exact lv_aload hx hb hdg hl kk
theorem xsqastore_n (hx : p.tables.exec = Jvm.exec) (hb : c.code = cc) {k : Fin 4} {i nL : Nat} {r : Option Nat} {lv lv' : List (Nat × Value)} (hdg : decode cc pc = .ok (.astore_n k, 1)) (hi : (k : Nat) = i) (h : lv_has ls nL lv) (hn : i < nL) (hl : (i, va_rf r) :: lv.filter (fun q => !(q.1 == i) && !(q.1 + 1 == i && q.2.category == 2)) = lv')
    (kk : ∀ ls' : Array Slot, lv_has ls' nL lv' → W p l e R s m args below meth c H locs cells slots Q (F0 m (pc + 1) ls' rest)) : W p l e R s m args below meth c H locs cells slots Q (F0 m pc ls (va_rf r :: rest)) := by
  cases r with
  | none => exact lv_astore_nN hx hb hdg hi h hn hl kk
  | some a => exact lv_astore_n hx hb hdg hi h hn hl kk
theorem xsqastore (hx : p.tables.exec = Jvm.exec) (hb : c.code = cc) {i nL : Nat} {r : Option Nat} {lv lv' : List (Nat × Value)} (hdg : decode cc pc = .ok (.astore i, 2)) (h : lv_has ls nL lv) (hn : i < nL) (hl : (i, va_rf r) :: lv.filter (fun q => !(q.1 == i) && !(q.1 + 1 == i && q.2.category == 2)) = lv')
    (kk : ∀ ls' : Array Slot, lv_has ls' nL lv' → W p l e R s m args below meth c H locs cells slots Q (F0 m (pc + 2) ls' rest)) : W p l e R s m args below meth c H locs cells slots Q (F0 m pc ls (va_rf r :: rest)) := by
  cases r with
  | none => exact lv_astoreN hx hb hdg h hn hl kk
  | some a => exact lv_astore hx hb hdg h hn hl kk
theorem xtopq {r : Option Nat} (k : ∀ y : Option Nat, y = r → W p l e R s m args below meth c H locs cells slots Q (F0 m pc ls (va_rf y :: rest))) : W p l e R s m args below meth c H locs cells slots Q (F0 m pc ls (va_rf r :: rest)) := k r rfl
theorem xnul (hx : p.tables.exec = Jvm.exec) (hb : c.code = cc) {r : Option Nat} {off : Int} {tgt : Nat} (hdg : decode cc pc = .ok (.ifnull off, 3)) (ht : (pc : Int) + off = (tgt : Int)) (kt : r = none → W p l e R s m args below meth c H locs cells slots Q (F0 m tgt ls rest)) (kf : ∀ a, r = some a → W p l e R s m args below meth c H locs cells slots Q (F0 m (pc + 3) ls rest)) : W p l e R s m args below meth c H locs cells slots Q (F0 m pc ls (va_rf r :: rest)) := by
  cases r with
  | none => exact lv_ifnullN hx hb hdg ht (kt rfl)
  | some a => exact lv_ifnull hx hb hdg (kf a rfl)
theorem xnnl (hx : p.tables.exec = Jvm.exec) (hb : c.code = cc) {r : Option Nat} {off : Int} {tgt : Nat} (hdg : decode cc pc = .ok (.ifnonnull off, 3)) (ht : (pc : Int) + off = (tgt : Int)) (kf : r = none → W p l e R s m args below meth c H locs cells slots Q (F0 m (pc + 3) ls rest)) (kt : ∀ a, r = some a → W p l e R s m args below meth c H locs cells slots Q (F0 m tgt ls rest)) : W p l e R s m args below meth c H locs cells slots Q (F0 m pc ls (va_rf r :: rest)) := by
  cases r with
  | none => exact lv_ifnonnullN hx hb hdg (kf rfl)
  | some a => exact lv_ifnonnull hx hb hdg ht (kt a rfl)
theorem xnulo (hx : p.tables.exec = Jvm.exec) (hb : c.code = cc) {r : Option Nat} {f : Nat → Nat} {off : Int} {tgt : Nat} (hdg : decode cc pc = .ok (.ifnull off, 3)) (ht : (pc : Int) + off = (tgt : Int)) (kt : r = none → W p l e R s m args below meth c H locs cells slots Q (F0 m tgt ls rest)) (kf : ∀ a, r = some a → W p l e R s m args below meth c H locs cells slots Q (F0 m (pc + 3) ls rest)) : W p l e R s m args below meth c H locs cells slots Q (F0 m pc ls (va_rf (Option.map f r) :: rest)) := by
  cases r with
  | none => exact lv_ifnullN hx hb hdg ht (kt rfl)
  | some a => exact lv_ifnull hx hb hdg (kf a rfl)
theorem xnnlo (hx : p.tables.exec = Jvm.exec) (hb : c.code = cc) {r : Option Nat} {f : Nat → Nat} {off : Int} {tgt : Nat} (hdg : decode cc pc = .ok (.ifnonnull off, 3)) (ht : (pc : Int) + off = (tgt : Int)) (kf : r = none → W p l e R s m args below meth c H locs cells slots Q (F0 m (pc + 3) ls rest)) (kt : ∀ a, r = some a → W p l e R s m args below meth c H locs cells slots Q (F0 m tgt ls rest)) : W p l e R s m args below meth c H locs cells slots Q (F0 m pc ls (va_rf (Option.map f r) :: rest)) := by
  cases r with
  | none => exact lv_ifnonnullN hx hb hdg (kf rfl)
  | some a => exact lv_ifnonnull hx hb hdg ht (kt a rfl)
end XR2
-- the numbered objects of a class
def isA (o : Nat) : Prop := o = 1 ∨ o = 2 ∨ o = 3
def isL (o : Nat) : Prop := o = 4 ∨ o = 5
def isS (o : Nat) : Prop := 6 ≤ o ∧ o < 14
theorem is_1 : isA 1 := Or.inl rfl
theorem is_2 : isA 2 := Or.inr (Or.inl rfl)
theorem is_3 : isA 3 := Or.inr (Or.inr rfl)
theorem is_4 : isL 4 := Or.inl rfl
theorem is_5 : isL 5 := Or.inr rfl
theorem isS_cases {P : Nat → Prop} (h6 : P 6) (h7 : P 7) (h8 : P 8) (h9 : P 9) (h10 : P 10) (h11 : P 11) (h12 : P 12) (h13 : P 13) {o : Nat} (h : isS o) : P o := by
  obtain ⟨h1, h2⟩ := h
  rcases (show o = 6 ∨ o = 7 ∨ o = 8 ∨ o = 9 ∨ o = 10 ∨ o = 11 ∨ o = 12 ∨ o = 13 by omega) with rfl | rfl | rfl | rfl | rfl | rfl | rfl | rfl <;> assumption
theorem isA_cases {P : Nat → Prop} (h1 : P 1) (h2 : P 2) (h3 : P 3) {o : Nat} (h : isA o) : P o := by
  rcases h with rfl | rfl | rfl <;> assumption
theorem isL_cases {P : Nat → Prop} (h1 : P 4) (h2 : P 5) {o : Nat} (h : isL o) : P o := by
  rcases h with rfl | rfl <;> assumption
theorem ciisA {o : Nat} (h : isA o) : ci o = 0 := isA_cases (P := fun o => ci o = 0) rfl rfl rfl h
theorem ciisL {o : Nat} (h : isL o) : ci o = 3 := isL_cases (P := fun o => ci o = 3) rfl rfl h
theorem ciisS {o : Nat} (h : isS o) : ci o = 9 := isS_cases (P := fun o => ci o = 9) rfl rfl rfl rfl rfl rfl rfl rfl h
theorem kyisA_100 {o : Nat} (h : isA o) : ((o, 100) : Nat × Nat) ∈ KY := isA_cases (P := fun o => ((o, 100) : Nat × Nat) ∈ KY) (by decide) (by decide) (by decide) h
theorem kyisL_100 {o : Nat} (h : isL o) : ((o, 100) : Nat × Nat) ∈ KY := isL_cases (P := fun o => ((o, 100) : Nat × Nat) ∈ KY) (by decide) (by decide) h
theorem kyisS_100 {o : Nat} (h : isS o) : ((o, 100) : Nat × Nat) ∈ KY := isS_cases (P := fun o => ((o, 100) : Nat × Nat) ∈ KY) (by decide) (by decide) (by decide) (by decide) (by decide) (by decide) (by decide) (by decide) h
theorem kyisA_0 {o : Nat} (h : isA o) : ((o, 0) : Nat × Nat) ∈ KY := isA_cases (P := fun o => ((o, 0) : Nat × Nat) ∈ KY) (by decide) (by decide) (by decide) h
theorem kyisA_1 {o : Nat} (h : isA o) : ((o, 1) : Nat × Nat) ∈ KY := isA_cases (P := fun o => ((o, 1) : Nat × Nat) ∈ KY) (by decide) (by decide) (by decide) h
theorem kyisA_5 {o : Nat} (h : isA o) : ((o, 5) : Nat × Nat) ∈ KY := isA_cases (P := fun o => ((o, 5) : Nat × Nat) ∈ KY) (by decide) (by decide) (by decide) h
theorem kyisA_7 {o : Nat} (h : isA o) : ((o, 7) : Nat × Nat) ∈ KY := isA_cases (P := fun o => ((o, 7) : Nat × Nat) ∈ KY) (by decide) (by decide) (by decide) h
theorem kyisA_9 {o : Nat} (h : isA o) : ((o, 9) : Nat × Nat) ∈ KY := isA_cases (P := fun o => ((o, 9) : Nat × Nat) ∈ KY) (by decide) (by decide) (by decide) h
theorem kyisS_4 {o : Nat} (h : isS o) : ((o, 4) : Nat × Nat) ∈ KY := isS_cases (P := fun o => ((o, 4) : Nat × Nat) ∈ KY) (by decide) (by decide) (by decide) (by decide) (by decide) (by decide) (by decide) (by decide) h
theorem kaisA_0 {o : Nat} (h : isA o) : 0 ≠ 100 ∧ ak (o, 0) = 0 ∧ al (ci o) 0 = 10 := isA_cases (P := fun o => 0 ≠ 100 ∧ ak (o, 0) = 0 ∧ al (ci o) 0 = 10) (by decide) (by decide) (by decide) h
theorem kaisA_1 {o : Nat} (h : isA o) : 1 ≠ 100 ∧ ak (o, 1) = 0 ∧ al (ci o) 1 = 10 := isA_cases (P := fun o => 1 ≠ 100 ∧ ak (o, 1) = 0 ∧ al (ci o) 1 = 10) (by decide) (by decide) (by decide) h
theorem kaisA_7 {o : Nat} (h : isA o) : 7 ≠ 100 ∧ ak (o, 7) = 0 ∧ al (ci o) 7 = 24 := isA_cases (P := fun o => 7 ≠ 100 ∧ ak (o, 7) = 0 ∧ al (ci o) 7 = 24) (by decide) (by decide) (by decide) h
theorem kaisA_9 {o : Nat} (h : isA o) : 9 ≠ 100 ∧ ak (o, 9) = 0 ∧ al (ci o) 9 = 4 := isA_cases (P := fun o => 9 ≠ 100 ∧ ak (o, 9) = 0 ∧ al (ci o) 9 = 4) (by decide) (by decide) (by decide) h
theorem kaisS_4 {o : Nat} (h : isS o) : 4 ≠ 100 ∧ ak (o, 4) = 0 ∧ al (ci o) 4 = 100 := isS_cases (P := fun o => 4 ≠ 100 ∧ ak (o, 4) = 0 ∧ al (ci o) 4 = 100) (by decide) (by decide) (by decide) (by decide) (by decide) (by decide) (by decide) (by decide) h
end
section
/-! rows for Fallers (the pool), calls by name of a class above, copies of arrays -/
theorem good_list {L : List Cond} (h : ∀ w ∈ L, w ∈ W0) : GoodIn W0 L := fun w hw => w0_good w (h w hw)
theorem fc_cases (k : Nat) : fc k = 4 ∨ fc k = 8 ∨ fc k = 7 ∨ fc k = 5 ∨ fc k = 6 ∨ fc k = 1 ∨ fc k = 2 ∨ fc k = 10 := by
  unfold fc
  split <;> simp
theorem eT8 : TX8 = TX4 := rfl
theorem eT7 : TX7 = TX4 := rfl
theorem eT5 : TX5 = TX4 := rfl
theorem eT6 : TX6 = TX4 := rfl
theorem eT1 : TX1 = TX4 := rfl
theorem eT2 : TX2 = TX4 := rfl
theorem eT10 : TX10 = TX4 := rfl
/-- a Faller's class: its name, the words of its fields, its place among the classes -/
theorem fcl_at (k : Nat) : ∃ C : String, cls[fc k]? = some (C, TX4, 8) ∧ (∀ w ∈ u_ws C TX4 8, w ∈ W0) ∧ (C = RX4 ∨ C ∈ [RX8, RX7, RX5, RX6, RX1, RX2, RX10]) := by
  rcases fc_cases k with e | e | e | e | e | e | e | e <;> rw [e]
  · exact ⟨RX4, rfl, in_4, Or.inl rfl⟩
  · exact ⟨RX8, rfl, eT8 ▸ in_8, Or.inr (by simp)⟩
  · exact ⟨RX7, rfl, eT7 ▸ in_7, Or.inr (by simp)⟩
  · exact ⟨RX5, rfl, eT5 ▸ in_5, Or.inr (by simp)⟩
  · exact ⟨RX6, rfl, eT6 ▸ in_6, Or.inr (by simp)⟩
  · exact ⟨RX1, rfl, eT1 ▸ in_1, Or.inr (by simp)⟩
  · exact ⟨RX2, rfl, eT2 ▸ in_2, Or.inr (by simp)⟩
  · exact ⟨RX10, rfl, eT10 ▸ in_10, Or.inr (by simp)⟩
theorem pool_at {ad : Nat → Nat → Nat} {cs : Nat → ClassId} {z : ZS} {a : Nat} (ha : a ∈ zP z) : ∃ j : Nat, (wd ad cs z)[j]? = some (a, .inr (fc (zK z a), [.int (zF z a 0), .int (zF z a 1), .int (zF z a 2), .int (zF z a 3), .int (zF z a 4), .int (zF z a 5), .int (zF z a 6), .int (zF z a 7)])) := va_pl_get (X := sw ad cs z) (f := fun a => fe (zK z a) (zF z a)) ha
theorem f8_at (f : Nat → Int32) {k : Nat} (hk : k < 8) : ([.int (f 0), .int (f 1), .int (f 2), .int (f 3), .int (f 4), .int (f 5), .int (f 6), .int (f 7)] : List Value)[k]? = some (.int (f k)) := by
  rcases (show k = 0 ∨ k = 1 ∨ k = 2 ∨ k = 3 ∨ k = 4 ∨ k = 5 ∨ k = 6 ∨ k = 7 by omega) with rfl | rfl | rfl | rfl | rfl | rfl | rfl | rfl <;> rfl
section XR3
variable {p : Program} {l : Launch} {e : Env} {R : Room} {s : State} {m : MethodId} {args : Array Value} {below : List Frame} {meth : Method} {c : Code} {H : Heap} {locs : List Loc} {cells slots : Nat} {Q : State → Prop}
variable {cc : ByteArray} {nL pc : Nat} {ls : Array Slot} {rest st0 : List Value} {D : va_G} {ad : Nat → Nat → Nat} {cs : Nat → ClassId} {A : Nat → Prop} {sk : (Nat → Nat) × (Nat → Nat)} {H0 : Heap} {z : ZS} {own : String}
theorem xgF (E : EN p m c cc nL s args own D cs A sk) (hw : OW D ad cs A H0 z H locs) {a k idx : Nat} (ha : a ∈ zP z) (hk : k < 8) {ref : String} (hq : Cond.fieldLink own idx ref (TX4 k).2.1 (TX4 k).2.2.1 ∈ W0) (hs : (TX4 k).1 = ref ∨ Cond.sameField ref (TX4 k).1 (TX4 k).2.1 (TX4 k).2.2.1 ∈ W0) (hdg : decode cc pc = .ok (.getfield idx, 3))
    (kk : W p l e R s m args below meth c H locs cells slots Q (F0 m (pc + 3) ls (.int (zF z a k) :: rest))) : W p l e R s m args below meth c H locs cells slots Q (F0 m pc ls (.ref a :: rest)) := by
  obtain ⟨j, hj⟩ := pool_at (ad := ad) (cs := cs) ha
  obtain ⟨C, hC, hin, -⟩ := fcl_at (zK z a)
  have hsame : ∀ x, s.fieldFound? (TX4 k).1 (TX4 k).2.1 (TX4 k).2.2.1 = some x → s.fieldFound? ref (TX4 k).2.1 (TX4 k).2.2.1 = some x := by
    rcases hs with hs | hs
    · rw [hs]; exact fun _ h => h
    · exact fun x hx => u_same (E.1.2.2.2.2 _ hs) x hx
  exact va_get E.1.1 E.1.2.1 E.1.2.2.2.2 hin E.1.2.2.2.1 E.2.1.1 hw.1 j hj hC k hk (E.1.2.2.2.2 _ hq) hsame (f8_at _ hk) hdg kk
theorem xgS (E : EN p m c cc nL s args own D cs A sk) (hw : OW D ad cs A H0 z H locs) {o k c1 idx a : Nat} (hc : ci o = c1) (ho : (o, 100) ∈ KY) (hk : k < cN c1 ∧ fk c1 k = 2) (ha : zG z o k = some a) (hq : Cond.fieldLink own idx (cT c1 k).1 (cT c1 k).2.1 (cT c1 k).2.2.1 ∈ W0) (hdg : decode cc pc = .ok (.getfield idx, 3))
    (kk : W p l e R s m args below meth c H locs cells slots Q (F0 m (pc + 3) ls (.ref a :: rest))) : W p l e R s m args below meth c H locs cells slots Q (F0 m pc ls (.ref (ad o 100) :: rest)) := by
  refine xgG E hw hc ho hk hq hdg ?_
  rw [ha]
  exact kk
/-- a Faller as a receiver -/
theorem xrF (E : EN p m c cc nL s args own D cs A sk) (hw : OW D ad cs A H0 z H locs) {a k : Nat} (ha : a ∈ zP z) (hk : zK z a = k) {C : String} {T : u_T} {n : Nat} (hC : cls[fc k]? = some (C, T, n)) : ∃ cell : Cell, H[a]? = some cell ∧ cell.vm.isStatics = false ∧ s.vm.findClass C = some cell.cls := by
  subst hk
  obtain ⟨j, hj⟩ := pool_at (ad := ad) (cs := cs) ha
  exact va_recv E.2.1.1 hw.1 hC hj
theorem xcl (E : EN p m c cc nL s args own D cs A sk) (hw : OW D ad cs A H0 z H locs) {a : Nat} (ha : a ∈ zP z) : ∃ (C : String) (cC : ClassId), ClassAt s C cC ∧ ∃ cell : Cell, H[a]? = some cell ∧ cell.vm.isStatics = false ∧ s.vm.findClass C = some cell.cls := by
  obtain ⟨C, hC, -, -⟩ := fcl_at (zK z a)
  exact ⟨C, _, (E.2.1.1.1 _ _ hC).2, xrF E hw ha rfl hC⟩
-- arrays of Fallers
theorem xfs (E : EN p m c cc nL s args own D cs A sk) (hw : OW D ad cs A H0 z H locs) {o : Nat} (ho : (o, 5) ∈ KY) (hc : ci o = 0) (h5 : o ≠ 15) (h0 : o ≠ 0) {r : Option Nat} (hr : ∀ v, r = some v → v ∈ zP z) {i : Int32} (hin : vp_in i 8) (hdg : decode cc pc = .ok (.aastore, 1))
    (kk : ∀ (z1 : ZS), z1 = wQ z o i.toNatClampNeg r → ∀ (H1 : Heap) (locs1 : List Loc), OW D ad cs A H0 z1 H1 locs1 → W p l e R s m args below meth c H1 locs1 cells slots Q (F0 m (pc + 1) ls rest)) : W p l e R s m args below meth c H locs cells slots Q (F0 m pc ls (va_rf r :: .int i :: .ref (ad o 5) :: rest)) := by
  obtain ⟨j, hj0, hj⟩ := wd_at ad cs z ho
  rw [ce_fa ad cs z hc h5 h0] at hj
  cases r with
  | none =>
    refine va_astqN E.1.1 E.1.2.1 E.2.1.1 hw.1 hw.2.1 hw.2.2 j 2 hj rfl hin hdg (fun H1 locs1 hP1 hD1 hS1 => ?_)
    rw [set_wB ad cs z _ hj0 hc h5 h0] at hP1 hD1
    exact kk _ rfl H1 locs1 ⟨hP1, hD1, hS1⟩
  | some v =>
    have hv := hr v rfl
    obtain ⟨jv, hjv⟩ := pool_at (ad := ad) (cs := cs) hv
    obtain ⟨C, hC, -, hcast⟩ := fcl_at (zK z v)
    rcases hcast with rfl | hcast
    · refine va_astq E.1.1 E.1.2.1 E.2.1.1 hw.1 hw.2.1 hw.2.2 j 2 jv _ hj rfl hjv hC hin hdg (fun H1 locs1 hP1 hD1 hS1 => ?_)
      rw [set_wB ad cs z _ hj0 hc h5 h0] at hP1 hD1
      exact kk _ rfl H1 locs1 ⟨hP1, hD1, hS1⟩
    · refine va_astqO E.1.1 E.1.2.1 E.2.1.1 hw.1 hw.2.1 hw.2.2 j 2 jv _ hj rfl (E.2.1.2.2.2.1 C hcast) hjv hC hin hdg (fun H1 locs1 hP1 hD1 hS1 => ?_)
      rw [set_wB ad cs z _ hj0 hc h5 h0] at hP1 hD1
      exact kk _ rfl H1 locs1 ⟨hP1, hD1, hS1⟩
-- System.arraycopy of ints
theorem xcp (E : EN p m c cc nL s args own D cs A sk) (hw : OW D ad cs A H0 z H locs) (hsz : ls.size = nL) {o1 k1 n1 o2 k2 n2 idx : Nat} (ho1 : (o1, k1) ∈ KY) (ha1 : k1 ≠ 100 ∧ ak (o1, k1) = 0 ∧ al (ci o1) k1 = n1) (ho2 : (o2, k2) ∈ KY) (ha2 : k2 ≠ 100 ∧ ak (o2, k2) = 0 ∧ al (ci o2) k2 = n2) {sp dp n : Int32} (h1 : ¬ sp < 0) (h2 : ¬ dp < 0) (h3 : ¬ n < 0) (h4 : sp.toNatClampNeg + n.toNatClampNeg ≤ n1) (h5 : dp.toNatClampNeg + n.toNatClampNeg ≤ n2)
    (hq : Cond.methodLink own idx arraycopyName ∈ W0 ∧ Cond.native arraycopyName ∈ W0 ∧ Cond.static arraycopyName ∈ W0 ∧ Cond.initialized "java/lang/System" ∈ W0) (hframes : 1 ≤ R.frames) (hlocals : (rest.map fun v => v.category).sum + (nativeFrameWords "java/lang/System" "arraycopy" 5 + 11) ≤ R.locals) (hdg : decode cc pc = .ok (.invokestatic idx, 3))
    (kk : ∀ (z1 : ZS), z1 = wA z o2 k2 (va_cpy (zR z o1 k1) (zR z o2 k2) sp.toNatClampNeg dp.toNatClampNeg n.toNatClampNeg) → ∀ (H1 : Heap) (locs1 : List Loc), OW D ad cs A H0 z1 H1 locs1 → W p l e R s m args below meth c H1 locs1 cells slots Q (F0 m (pc + 3) ls rest)) : W p l e R s m args below meth c H locs cells slots Q (F0 m pc ls (.int n :: .int dp :: .ref (ad o2 k2) :: .int sp :: .ref (ad o1 k1) :: rest)) := by
  obtain ⟨g1, g2, rfl⟩ := ha1
  obtain ⟨f1, f2, rfl⟩ := ha2
  obtain ⟨j1, -, hj1⟩ := wd_at ad cs z ho1
  obtain ⟨j2, hj0, hj2⟩ := wd_at ad cs z ho2
  rw [ce_arr ad cs z g1 g2] at hj1
  rw [ce_arr ad cs z f1 f2] at hj2
  refine va_copyi E.1.1 E.1.2.1 (E.1.2.2.1.trans hsz.symm) E.1.2.2.2.1 (E.1.2.2.2.2 _ hq.1) (E.1.2.2.2.2 _ hq.2.1) (E.1.2.2.2.2 _ hq.2.2.1) (E.1.2.2.2.2 _ hq.2.2.2) E.2.1.1 hw.1 hw.2.1 hw.2.2 j1 j2 0 0 hj1 hj2 rfl rfl rfl h1 h2 h3 h4 h5 (fun _ _ => rfl) hframes hlocals hdg (fun H1 locs1 hP1 hD1 hS1 => ?_)
  rw [set_wA ad cs z _ hj0 f1 f2] at hP1 hD1
  exact kk _ rfl H1 locs1 ⟨hP1, hD1, hS1⟩
end XR3
-- calls by the name of a class above
abbrev cU (own : String) (idx : Nat) (C owner : String) (x y : MethodName) (bs : ByteArray) (n : Nat) (ret : Option FieldType) : Prop := Cond.methodLink own idx x ∈ W0 ∧ Cond.sameMethod x.cls owner x.name x.desc ∈ W0 ∧ Cond.selects C x y ∈ W0 ∧ Cond.instanceMethod y ∈ W0 ∧ Cond.initialized y.cls ∈ W0 ∧ Cond.code y bs n ret ∈ W0
abbrev cP (own : String) (idx : Nat) (y : MethodName) (bs : ByteArray) (n : Nat) (ret : Option FieldType) : Prop := Cond.methodLink own idx y ∈ W0 ∧ Cond.sameMethod y.cls y.cls y.name y.desc ∈ W0 ∧ Cond.superclass own y.cls ∈ W0 ∧ Cond.instanceMethod y ∈ W0 ∧ Cond.initialized y.cls ∈ W0 ∧ Cond.code y bs n ret ∈ W0
abbrev xOK (x : MethodName) (owner : String) (n : Nat) : Prop := owner ≠ "java/lang/invoke/MethodHandle" ∧ owner ≠ "java/lang/invoke/VarHandle" ∧ (parseMethodDescriptor x.desc).map (fun d => d.parameters.length) = some n
section XC3
variable {p : Program} {l : Launch} {e : Env} {R : Room} {s : State} {m : MethodId} {args : Array Value} {below : List Frame} {meth : Method} {c : Code} {H : Heap} {locs : List Loc} {cells slots : Nat} {Q : State → Prop}
variable {cc : ByteArray} {nL pc : Nat} {ls : Array Slot} {rest st0 : List Value} {D : va_G} {ad : Nat → Nat → Nat} {cs : Nat → ClassId} {A : Nat → Prop} {sk : (Nat → Nat) × (Nat → Nat)} {z : ZS} {own C owner : String} {x y : MethodName} {bs : ByteArray} {n na idx : Nat} {rm : Room} {As : List Value} {b : Nat}
theorem xwU (E : EN p m c cc nL s args own D cs A sk) {ret : Option FieldType} (hq : cU own idx C owner x y bs n ret) (hyx : y = ⟨owner, x.name, x.desc⟩ ∨ ∃ (b0 : ByteArray) (m0 : Nat) (r0 : Option FieldType), Cond.instanceMethod ⟨owner, x.name, x.desc⟩ ∈ W0 ∧ Cond.code ⟨owner, x.name, x.desc⟩ b0 m0 r0 ∈ W0) (hy : xOK x owner na) (hR : rm.frames + 1 ≤ R.frames ∧ 8 + (n + 11) + rm.locals ≤ R.locals) : va_CU R s args own C owner idx x y bs n ret (.code y bs n ret :: W0) rm rm.cells rm.slots na := by
  have hc := w0_c hq.2.2.2.2.2
  rcases hyx with hyx | ⟨b0, m0, r0, h1, h2⟩
  · refine va_cwU na E.1.2.2.2.2 ?_ rfl rfl rfl hyx hy hR
    intro w hw
    rcases List.mem_append.mp (show w ∈ ([.methodLink own idx x, .sameMethod x.cls owner x.name x.desc, .selects C x y, .instanceMethod y, .initialized y.cls] : List Cond) ++ (.code y bs n ret :: W0) from hw) with h | h
    · refine w0_good w ?_
      simp only [List.mem_cons, List.not_mem_nil, or_false] at h
      rcases h with rfl | rfl | rfl | rfl | rfl
      · exact hq.1
      · exact hq.2.1
      · exact hq.2.2.1
      · exact hq.2.2.2.1
      · exact hq.2.2.2.2.1
    · exact hc w h
  · refine va_cwO na E.1.2.2.2.2 ?_ rfl rfl rfl h2 hy hR
    intro w hw
    rcases List.mem_append.mp (show w ∈ ([.methodLink own idx x, .sameMethod x.cls owner x.name x.desc, .instanceMethod ⟨owner, x.name, x.desc⟩, .selects C x y, .instanceMethod y, .initialized y.cls] : List Cond) ++ (.code y bs n ret :: W0) from hw) with h | h
    · refine w0_good w ?_
      simp only [List.mem_cons, List.not_mem_nil, or_false] at h
      rcases h with rfl | rfl | rfl | rfl | rfl | rfl
      · exact hq.1
      · exact hq.2.1
      · exact h1
      · exact hq.2.2.1
      · exact hq.2.2.2.1
      · exact hq.2.2.2.2.1
    · exact hc w h
theorem xcUI (E : EN p m c cc nL s args own D cs A sk) (hw : OW D ad cs A s.heap z H locs) (hA : ∀ q, s.heap.size ≤ q → A q) {ty : FieldType} {post : Int32 → ZS → Prop} (hM : MI l D ad cs sk y bs n ty rm (.ref b :: As) z post) (hcw : va_CU R s args own C owner idx x y bs n (some ty) (.code y bs n (some ty) :: W0) rm rm.cells rm.slots na) (hrc : ∃ cell : Cell, H[b]? = some cell ∧ cell.vm.isStatics = false ∧ s.vm.findClass C = some cell.cls) (hna : As.length = na) (hsz : ls.size = nL) (hst : st0 = As.reverse ++ .ref b :: rest) (h8 : (rest.map fun v => v.category).sum ≤ 8) (hdg : decode cc pc = .ok (.invokevirtual idx, 3)) (hf : cells + rm.cells ≤ R.cells ∧ slots + rm.slots ≤ R.slots)
    (kk : ∀ (r : Int32) (z1 : ZS) (H1 : Heap) (locs1 : List Loc), post r z1 → OW D ad cs A s.heap z1 H1 locs1 → W p l e R s m args below meth c H1 locs1 (cells + rm.cells) (slots + rm.slots) Q (F0 m (pc + 3) ls (.int r :: rest))) : W p l e R s m args below meth c H locs cells slots Q (F0 m pc ls st0) :=
  va_calli (va_runU E.1 (hM A H.size (xA hw hA)) hcw ⟨PP.blind, hrc, PP.pre E.2.1 E.2.2 hw⟩ rfl hna hsz hst (lv_room h8) hdg hf) hw.2.2 (fun _ _ h => h) (fun _ h => h) (fun r u t H1 locs1 ht _ hp hB _ _ hS1 => kk r u H1 locs1 hp ⟨by rw [← ht]; exact hB.1, hB.2, hS1⟩)
theorem xwP (E : EN p m c cc nL s args own D cs A sk) {ret : Option FieldType} (hq : cP own idx y bs n ret) (hy : y.name ≠ "<init>" ∧ (parseMethodDescriptor y.desc).map (fun d => d.parameters.length) = some na) (hR : rm.frames + 1 ≤ R.frames ∧ 8 + (n + 11) + rm.locals ≤ R.locals) : va_CS R s args own idx y bs n ret (.code y bs n ret :: W0) rm rm.cells rm.slots na := by
  have hc := w0_c hq.2.2.2.2.2
  refine va_cwSU na E.1.2.2.2.2 ?_ rfl rfl rfl hy hR
  intro w hw
  rcases List.mem_append.mp (show w ∈ ([.methodLink own idx y, .sameMethod y.cls y.cls y.name y.desc, .superclass own y.cls, .instanceMethod y, .initialized y.cls] : List Cond) ++ (.code y bs n ret :: W0) from hw) with h | h
  · refine w0_good w ?_
    simp only [List.mem_cons, List.not_mem_nil, or_false] at h
    rcases h with rfl | rfl | rfl | rfl | rfl
    · exact hq.1
    · exact hq.2.1
    · exact hq.2.2.1
    · exact hq.2.2.2.1
    · exact hq.2.2.2.2.1
  · exact hc w h
theorem xcPI (E : EN p m c cc nL s args own D cs A sk) (hw : OW D ad cs A s.heap z H locs) (hA : ∀ q, s.heap.size ≤ q → A q) {ty : FieldType} {post : Int32 → ZS → Prop} (hM : MI l D ad cs sk y bs n ty rm (.ref b :: As) z post) (hb : b ∈ zP z) (hq : cP own idx y bs n (some ty)) (hy : y.name ≠ "<init>" ∧ (parseMethodDescriptor y.desc).map (fun d => d.parameters.length) = some na) (hR : rm.frames + 1 ≤ R.frames ∧ 8 + (n + 11) + rm.locals ≤ R.locals) (hna : As.length = na) (hsz : ls.size = nL) (hst : st0 = As.reverse ++ .ref b :: rest) (h8 : (rest.map fun v => v.category).sum ≤ 8) (hdg : decode cc pc = .ok (.invokespecial idx, 3)) (hf : cells + rm.cells ≤ R.cells ∧ slots + rm.slots ≤ R.slots)
    (kk : ∀ (r : Int32) (z1 : ZS) (H1 : Heap) (locs1 : List Loc), post r z1 → OW D ad cs A s.heap z1 H1 locs1 → W p l e R s m args below meth c H1 locs1 (cells + rm.cells) (slots + rm.slots) Q (F0 m (pc + 3) ls (.int r :: rest))) : W p l e R s m args below meth c H locs cells slots Q (F0 m pc ls st0) := by
  obtain ⟨C, cC, hat, hrc⟩ := xcl E hw hb
  exact va_calli (va_runSU hat E.1 (hM A H.size (xA hw hA)) (xwP E hq hy hR) ⟨PP.blind, hrc, PP.pre E.2.1 E.2.2 hw⟩ rfl hna hsz hst (lv_room h8) hdg hf) hw.2.2 (fun _ _ h => h) (fun _ h => h) (fun r u t H1 locs1 ht _ hp hB _ _ hS1 => kk r u H1 locs1 hp ⟨by rw [← ht]; exact hB.1, hB.2, hS1⟩)
end XC3
end
section
/-! making Fallers: a new one stands behind the world until its constructor is through -/
def OQ (D : va_G) (ad : Nat → Nat → Nat) (cs : Nat → ClassId) (A : Nat → Prop) (H0 : Heap) (z : ZS) (q c : Nat) (fs : List Value) (H : Heap) (locs : List Loc) : Prop := va_P D cls (wd ad cs z ++ [(q, .inr (c, fs))]) H ∧ va_D A (wd ad cs z ++ [(q, .inr (c, fs))]) ∧ va_S A H0 H locs
theorem last_at {α : Type} (L : List α) (x : α) : (L ++ [x])[L.length]? = some x := by simp
theorem last_set {α : Type} (L : List α) (x y : α) : (L ++ [x]).set L.length y = L ++ [y] := by
  rw [List.set_append_right _ _ (Nat.le_refl _), Nat.sub_self]
  rfl
theorem pool_new {D : va_G} {ad : Nat → Nat → Nat} {cs : Nat → ClassId} {A : Nat → Prop} {z : ZS} {q : Nat} {e : va_E} (hD : va_D A (wd ad cs z ++ [(q, e)])) : q ∉ zP z := by
  intro h
  obtain ⟨j, hj⟩ := va_pl_get (X := sw ad cs z) (f := fun a => fe (zK z a) (zF z a)) h
  have hl : j < (wd ad cs z).length := (List.getElem?_eq_some_iff.mp hj).1
  have h1 : (wd ad cs z ++ [(q, e)])[j]? = some (q, fe (zK z q) (zF z q)) := by rw [List.getElem?_append_left hl]; exact hj
  have := hD.1 j (wd ad cs z).length _ _ h1 (last_at _ _) rfl
  omega
theorem wd_push {ad : Nat → Nat → Nat} {cs : Nat → ClassId} {z : ZS} {q k : Nat} {f : Nat → Int32} (h : q ∉ zP z) : wd ad cs z ++ [(q, fe k f)] = wd ad cs (wP z q k f) := by
  unfold wd
  rw [List.append_assoc, va_pl_push h]
  have e1 : sw ad cs (wP z q k f) = sw ad cs z := rfl
  rw [e1]
  congr 1
  show va_pl (zP z ++ [q]) _ = va_pl (zP z ++ [q]) _
  refine va_pl_congr (fun a => ?_)
  by_cases ha : a = q
  · subst ha
    rw [va_up_self]
    show fe k f = fe (va_up (zK z) a k a) (va_up (zF z) a f a)
    rw [va_up_self, va_up_self]
  · rw [va_up_ne _ _ ha]
    show fe (zK z a) (zF z a) = fe (va_up (zK z) q k a) (va_up (zF z) q f a)
    rw [va_up_ne _ _ ha, va_up_ne _ _ ha]
/-- c is a Faller's class -/
def cF (c : Nat) : Prop := c = 4 ∨ c = 8 ∨ c = 7 ∨ c = 5 ∨ c = 6 ∨ c = 1 ∨ c = 2 ∨ c = 10
theorem cF_at {c : Nat} (h : cF c) : ∃ C : String, cls[c]? = some (C, TX4, 8) ∧ (∀ w ∈ u_ws C TX4 8, w ∈ W0) := by
  rcases h with rfl | rfl | rfl | rfl | rfl | rfl | rfl | rfl
  · exact ⟨RX4, rfl, in_4⟩
  · exact ⟨RX8, rfl, eT8 ▸ in_8⟩
  · exact ⟨RX7, rfl, eT7 ▸ in_7⟩
  · exact ⟨RX5, rfl, eT5 ▸ in_5⟩
  · exact ⟨RX6, rfl, eT6 ▸ in_6⟩
  · exact ⟨RX1, rfl, eT1 ▸ in_1⟩
  · exact ⟨RX2, rfl, eT2 ▸ in_2⟩
  · exact ⟨RX10, rfl, eT10 ▸ in_10⟩
abbrev PQ (D : va_G) (ad : Nat → Nat → Nat) (cs : Nat → ClassId) (A : Nat → Prop) (sk : (Nat → Nat) × (Nat → Nat)) (sz : Nat) (z : ZS) (q c : Nat) (fs : List Value) (vs : List Value) : Array Value → State → Prop := va_Pc vs (fun U => U.heap.size = sz ∧ va_P D cls (wd ad cs z ++ [(q, .inr (c, fs))]) U.heap ∧ KX D cs U ∧ va_D A (wd ad cs z ++ [(q, .inr (c, fs))]) ∧ SX sk A U)
theorem PQ.blind {D : va_G} {ad : Nat → Nat → Nat} {cs : Nat → ClassId} {A : Nat → Prop} {sk : (Nat → Nat) × (Nat → Nat)} {sz : Nat} {z : ZS} {q c : Nat} {fs vs : List Value} : FrameBlind (PQ D ad cs A sk sz z q c fs vs) := fun a U g mk h => ⟨h.1, h.2.1, h.2.2.1, h.2.2.2.1.call g mk a, h.2.2.2.2.1, h.2.2.2.2.2.call g mk a⟩
theorem PQ.pre {D : va_G} {ad : Nat → Nat → Nat} {cs : Nat → ClassId} {A : Nat → Prop} {sk : (Nat → Nat) × (Nat → Nat)} {z : ZS} {q c : Nat} {fs vs : List Value} {s : State} {H : Heap} {locs : List Loc} (hK : KX D cs s) (hX : SX sk A s) (hw : OQ D ad cs A s.heap z q c fs H locs) : ∀ U : State, U.heap = H → s.WarmedH U.vm → PQ D ad cs A sk H.size z q c fs vs vs.toArray U := fun U hU hW => ⟨rfl, by rw [hU], by rw [hU]; exact hw.1, hK.warm hW, hw.2.1, hX.at hw.2.2 hU hW⟩
/-- a constructor's contract: the fields become fs1 -/
def MC (l : Launch) (D : va_G) (ad : Nat → Nat → Nat) (cs : Nat → ClassId) (sk : (Nat → Nat) × (Nat → Nat)) (y : MethodName) (bs : ByteArray) (n : Nat) (rm : Room) (q : Nat) (As : List Value) (z : ZS) (c : Nat) (fs fs1 : List Value) : Prop :=
  ∀ (A : Nat → Prop) (sz : Nat), (∀ q, sz ≤ q → A q) → Met l y (.code y bs n none :: W0) rm (PQ D ad cs A sk sz z q c fs (.ref q :: As)) (va_Qv (fun u : List Value => u = fs1) (fun u t => va_P D cls (wd ad cs z ++ [(q, .inr (c, u))]) t.heap ∧ va_D A (wd ad cs z ++ [(q, .inr (c, u))])) A) rm.cells rm.slots A
section XQ
variable {p : Program} {l : Launch} {e : Env} {R : Room} {s : State} {m : MethodId} {args : Array Value} {below : List Frame} {meth : Method} {c : Code} {H : Heap} {locs : List Loc} {cells slots : Nat} {Q : State → Prop}
variable {cc : ByteArray} {nL pc : Nat} {ls : Array Slot} {rest st0 : List Value} {D : va_G} {ad : Nat → Nat → Nat} {cs : Nat → ClassId} {A : Nat → Prop} {sk : (Nat → Nat) × (Nat → Nat)} {z : ZS} {own : String} {q c1 : Nat} {fs : List Value}
theorem xqg (E : EN p m c cc nL s args own D cs A sk) (hw : OQ D ad cs A s.heap z q c1 fs H locs) (hc : cF c1) {k idx : Nat} (hk : k < 8) {ref : String} (hq : Cond.fieldLink own idx ref (TX4 k).2.1 (TX4 k).2.2.1 ∈ W0) (hs : (TX4 k).1 = ref ∨ Cond.sameField ref (TX4 k).1 (TX4 k).2.1 (TX4 k).2.2.1 ∈ W0) {v : Value} (hv : fs[k]? = some v) (hdg : decode cc pc = .ok (.getfield idx, 3))
    (kk : W p l e R s m args below meth c H locs cells slots Q (F0 m (pc + 3) ls (v :: rest))) : W p l e R s m args below meth c H locs cells slots Q (F0 m pc ls (.ref q :: rest)) := by
  obtain ⟨C, hC, hin⟩ := cF_at hc
  have hsame : ∀ x, s.fieldFound? (TX4 k).1 (TX4 k).2.1 (TX4 k).2.2.1 = some x → s.fieldFound? ref (TX4 k).2.1 (TX4 k).2.2.1 = some x := by
    rcases hs with hs | hs
    · rw [hs]; exact fun _ h => h
    · exact fun x hx => u_same (E.1.2.2.2.2 _ hs) x hx
  exact va_get E.1.1 E.1.2.1 E.1.2.2.2.2 hin E.1.2.2.2.1 E.2.1.1 hw.1 (wd ad cs z).length (last_at _ _) hC k hk (E.1.2.2.2.2 _ hq) hsame hv hdg kk
theorem xqp (E : EN p m c cc nL s args own D cs A sk) (hw : OQ D ad cs A s.heap z q c1 fs H locs) (hc : cF c1) {k idx : Nat} (hk : k < 8 ∧ (TX4 k).2.2.2 = false) {ref : String} (hq : Cond.fieldLink own idx ref (TX4 k).2.1 (TX4 k).2.2.1 ∈ W0) (hs : (TX4 k).1 = ref ∨ Cond.sameField ref (TX4 k).1 (TX4 k).2.1 (TX4 k).2.2.1 ∈ W0) {v : Int32} (hd : parseFieldDescriptor (TX4 k).2.2.1 = some .int) (hln : k < fs.length) {fs1 : List Value} (hfs : fs.set k (.int v) = fs1) (hdg : decode cc pc = .ok (.putfield idx, 3))
    (kk : ∀ (H1 : Heap) (locs1 : List Loc), OQ D ad cs A s.heap z q c1 fs1 H1 locs1 → W p l e R s m args below meth c H1 locs1 cells slots Q (F0 m (pc + 3) ls rest)) : W p l e R s m args below meth c H locs cells slots Q (F0 m pc ls (.int v :: .ref q :: rest)) := by
  obtain ⟨C, hC, hin⟩ := cF_at hc
  have hsame : ∀ x, s.fieldFound? (TX4 k).1 (TX4 k).2.1 (TX4 k).2.2.1 = some x → s.fieldFound? ref (TX4 k).2.1 (TX4 k).2.2.1 = some x := by
    rcases hs with hs | hs
    · rw [hs]; exact fun _ h => h
    · exact fun x hx => u_same (E.1.2.2.2.2 _ hs) x hx
  refine va_put E.1.1 E.1.2.1 E.1.2.2.2.2 hin tyX4 tyX4_ok nmX4 E.1.2.2.2.1 E.2.1.1 hw.1 hw.2.1 hw.2.2 (wd ad cs z).length (last_at _ _) hC k hk.1 (E.1.2.2.2.2 _ hq) hsame hk.2 hd rfl rfl hln hdg (fun H1 locs1 hP1 hD1 hS1 => ?_)
  rw [last_set, hfs] at hP1 hD1
  exact kk H1 locs1 ⟨hP1, hD1, hS1⟩
theorem xqf (E : EN p m c cc nL s args RX4 D cs A sk) (hw : OQ D ad cs A s.heap z q c1 fs H locs) (hc : cF c1) (hin2 : meth.name = "<init>") {k idx : Nat} (hk : k < 8 ∧ (TX4 k).2.2.2 = true ∧ (TX4 k).1 = RX4) (hq : Cond.fieldLink RX4 idx (TX4 k).1 (TX4 k).2.1 (TX4 k).2.2.1 ∈ W0) {v : Int32} (hd : parseFieldDescriptor (TX4 k).2.2.1 = some .int) (hln : k < fs.length) {fs1 : List Value} (hfs : fs.set k (.int v) = fs1) (hdg : decode cc pc = .ok (.putfield idx, 3))
    (kk : ∀ (H1 : Heap) (locs1 : List Loc), OQ D ad cs A s.heap z q c1 fs1 H1 locs1 → W p l e R s m args below meth c H1 locs1 cells slots Q (F0 m (pc + 3) ls rest)) : W p l e R s m args below meth c H locs cells slots Q (F0 m pc ls (.int v :: .ref q :: rest)) := by
  obtain ⟨C, hC, hin⟩ := cF_at hc
  refine va_putF E.1.1 E.1.2.1 E.1.2.2.2.2 hin tyX4 tyX4_ok nmX4 E.1.2.2.2.1 E.2.1.1 hw.1 hw.2.1 hw.2.2 (wd ad cs z).length (last_at _ _) hC k hk.1 (E.1.2.2.2.2 _ hq) (fun _ h => h) hk.2.1 hin2 hk.2.2 hd rfl rfl hln hdg (fun H1 locs1 hP1 hD1 hS1 => ?_)
  rw [last_set, hfs] at hP1 hD1
  exact kk H1 locs1 ⟨hP1, hD1, hS1⟩
/-- the constructor's own end -/
theorem xqr (hx : p.tables.exec = Jvm.exec) (hb : c.code = cc) (hr : meth.sig.returnType = none) (hlocks : meth.locks = false) (hw : OQ D ad cs A s.heap z q c1 fs H locs) (hdg : decode cc pc = .ok (.return_, 1)) : W p l e R s m args below meth c H locs cells slots (MQ below (va_Qv (fun u : List Value => u = fs) (fun u t => va_P D cls (wd ad cs z ++ [(q, .inr (c1, u))]) t.heap ∧ va_D A (wd ad cs z ++ [(q, .inr (c1, u))])) A) args s cells slots A) (F0 m pc ls []) :=
  W.vret hx hb hr (fun t ht _ => ⟨⟨fs, rfl, rfl, by rw [ht]; exact hw.1, hw.2.1⟩, hw.2.2.F ht⟩) hw.2.2.2.2 hdg hlocks
/-- new: the object comes behind the world -/
theorem xqn (E : EN p m c cc nL s args own D cs A sk) (hw : OW D ad cs A s.heap z H locs) (hA : ∀ q, s.heap.size ≤ q → A q) (hc : cF c1) {C : String} {T : u_T} (hC : cls[c1]? = some (C, T, 8)) (hT : T = TX4) {idx : Nat} (hq : Cond.classLink own idx C ∈ W0 ∧ Cond.instantiable C 8 ∈ W0 ∧ Cond.initialized C ∈ W0) (hcells : cells + 1 ≤ R.cells) (hslots : slots + 8 ≤ R.slots) (hdg : decode cc pc = .ok (.new idx, 3))
    (kk : ∀ (q : Nat) (H1 : Heap), q ∉ zP z → OQ D ad cs A s.heap z q c1 [.int 0, .int 0, .int 0, .int 0, .int 0, .int 0, .int 0, .int 0] H1 locs → W p l e R s m args below meth c H1 locs (cells + 1) (slots + 8) Q (F0 m (pc + 3) ls (.ref q :: rest))) : W p l e R s m args below meth c H locs cells slots Q (F0 m pc ls rest) := by
  subst hT
  obtain ⟨C', hC', hin⟩ := cF_at hc
  have e : C' = C := by have := hC.symm.trans hC'; simp at this; exact this.symm
  subst e
  refine va_new (ci := c1) (fs := [.int 0, .int 0, .int 0, .int 0, .int 0, .int 0, .int 0, .int 0]) (C := C') (T := TX4) (N := 8) E.1.1 E.1.2.1 E.1.2.2.2.2 hin tyX4 tyX4_ok E.1.2.2.2.1 (E.1.2.2.2.2 _ hq.1) (E.1.2.2.2.2 _ hq.2.1) (E.1.2.2.2.2 _ hq.2.2) E.2.1.1 hw.1 hw.2.1 hw.2.2 hA hC' ?_ hcells hslots hdg (fun q H1 hP1 hD1 hS1 => kk q H1 (pool_new (D := D) hD1) ⟨hP1, hD1, hS1⟩)
  intro j hj
  rcases (show j = 0 ∨ j = 1 ∨ j = 2 ∨ j = 3 ∨ j = 4 ∨ j = 5 ∨ j = 6 ∨ j = 7 by omega) with rfl | rfl | rfl | rfl | rfl | rfl | rfl | rfl <;> rfl
/-- a constructor is called on it -/
theorem xqc (E : EN p m c cc nL s args own D cs A sk) (hw : OQ D ad cs A s.heap z q c1 fs H locs) (hA : ∀ q, s.heap.size ≤ q → A q) {y : MethodName} {bs : ByteArray} {n na idx : Nat} {rm : Room} {As fs1 : List Value} (hM : MC l D ad cs sk y bs n rm q As z c1 fs fs1) (hq : Cond.methodLink own idx y ∈ W0 ∧ Cond.instanceMethod y ∈ W0 ∧ Cond.initialized y.cls ∈ W0 ∧ Cond.code y bs n none ∈ W0) (hy1 : y.name = "<init>") (hy : yOK y na) (hR : rm.frames + 1 ≤ R.frames ∧ 8 + (n + 11) + rm.locals ≤ R.locals) (hna : As.length = na) (hsz : ls.size = nL) (hst : st0 = As.reverse ++ .ref q :: rest) (h8 : (rest.map fun v => v.category).sum ≤ 8) (hdg : decode cc pc = .ok (.invokespecial idx, 3)) (hf : cells + rm.cells ≤ R.cells ∧ slots + rm.slots ≤ R.slots)
    (kk : ∀ (H1 : Heap) (locs1 : List Loc), OQ D ad cs A s.heap z q c1 fs1 H1 locs1 → W p l e R s m args below meth c H1 locs1 (cells + rm.cells) (slots + rm.slots) Q (F0 m (pc + 3) ls rest)) : W p l e R s m args below meth c H locs cells slots Q (F0 m pc ls st0) :=
  va_callv (va_runI E.1 (hM A H.size (fun q h => hA q (Nat.le_trans hw.2.2.1 h))) ⟨callB_of na E.1.2.2.2.2 (w0_c hq.2.2.2) rfl rfl rfl (E.1.2.2.2.2 _ hq.2.2.1) (E.1.2.2.2.2 _ hq.1) hy hR, hy1, E.1.2.2.2.2 _ hq.2.1⟩ ⟨PQ.blind, PQ.pre E.2.1 E.2.2 hw⟩ rfl hna hsz hst (lv_room h8) hdg hf) hw.2.2 (fun _ _ h => h) (fun _ h => h) (fun u t H1 locs1 ht _ hp hB _ _ hS1 => by subst hp; exact kk H1 locs1 ⟨by rw [← ht]; exact hB.1, hB.2, hS1⟩)
/-- it joins the pool -/
theorem xqw {k : Nat} {f : Nat → Int32} (hn : q ∉ zP z) (hw : OQ D ad cs A s.heap z q c1 fs H locs) (hc : c1 = fc k) (hf : fs = [.int (f 0), .int (f 1), .int (f 2), .int (f 3), .int (f 4), .int (f 5), .int (f 6), .int (f 7)]) : OW D ad cs A s.heap (wP z q k f) H locs := by
  subst hc; subst hf
  have e := wd_push (ad := ad) (cs := cs) (z := z) (k := k) (f := f) hn
  unfold OW
  rw [← e]
  exact hw
end XQ
theorem MC.of {l : Launch} {D : va_G} {ad : Nat → Nat → Nat} {cs : Nat → ClassId} {sk : (Nat → Nat) × (Nat → Nat)} {y : MethodName} {bs : ByteArray} {n : Nat} {rm : Room} {q : Nat} {As : List Value} {z : ZS} {c1 : Nat} {fs fs1 : List Value} (own : String) (ho : y.cls = own) (hin : y.name = "<init>") (hy : plainName y.cls = true) (hl : (lg_sl (.ref q :: As)).length ≤ n)
    (body : ∀ (p : Program) (e : Env) (s : State) (m : MethodId) (args : Array Value) (below : List Frame) (meth : Method) (c : Code) (A : Nat → Prop) (Q : State → Prop), EN p m c bs n s args own D cs A sk → OQ D ad cs A s.heap z q c1 fs s.heap [] → (∀ q, s.heap.size ≤ q → A q) → meth.name = "<init>" → (∀ (H : Heap) (locs : List Loc) (pc : Nat) (ls : Array Slot), OQ D ad cs A s.heap z q c1 fs1 H locs → decode bs pc = .ok (.return_, 1) → W p l e rm s m args below meth c H locs rm.cells rm.slots Q (F0 m pc ls [])) → ∀ ls : Array Slot, lv_has ls n (lv_args 0 (.ref q :: As)) → W p l e rm s m args below meth c s.heap [] 0 0 Q (F0 m 0 ls [])) : MC l D ad cs sk y bs n rm q As z c1 fs fs1 := by
  subst ho
  intro A sz hA
  refine Met.ofW (cc := bs) (maxL := n) (ret := none) hy rfl ?_
  intro p e s m args below meth c s₁ B hml hv
  obtain ⟨rfl, hsz, hP, hK, hD, hX⟩ := hv
  subst hsz
  have hts := atoms_spec (ws := Cond.code y bs n (none) :: W0) B.pre
  rw [lg_entry_eq]
  refine body p e s m _ below meth c A _ ⟨⟨B.exec, B.bytes, hml, findClass_of_methodNamed B.named, fun w h => hts w (List.mem_cons_of_mem _ h)⟩, hK, hX⟩ ⟨hP, hD, va_S.rf⟩ hA ((name_of_methodNamed B.named B.method).1.trans hin) (fun H locs pc ls hw hd => ?_) _ (lv_entry _ hl)
  exact xqr B.exec B.bytes B.returns B.notSynchronized hw hd
theorem isA_n15 {o : Nat} (h : isA o) : o ≠ 15 := isA_cases (P := fun o => o ≠ 15) (by decide) (by decide) (by decide) h
theorem isA_n0 {o : Nat} (h : isA o) : o ≠ 0 := isA_cases (P := fun o => o ≠ 0) (by decide) (by decide) (by decide) h
end
