section
-- ===== PART A: goes FIRST, ahead of the names: the tables' words, and 'selects' of the private methods out of them =====
/-- a private method of a class that the tables say can be made, by its rows of tables_1 -/
def lw_okq (q : MethodName × Nat) : Prop := (q.1.cls ≠ "java/lang/invoke/MethodHandle" ∧ q.1.cls ≠ "java/lang/invoke/VarHandle") ∧ Cond.instantiable q.1.cls q.2 ∈ tables_1 ∧ Cond.privateMethod q.1 ∈ tables_1 ∧ Cond.instanceMethod q.1 ∈ tables_1
theorem lw_p0 : lw_okq (⟨"LastStirred", "makeIn", "(LLastStirred$Shelf;III)I"⟩, 16) := ⟨⟨by decide +kernel, by decide +kernel⟩, List.mem_of_getElem? (i := 14) (by decide +kernel), List.mem_of_getElem? (i := 269) (by decide +kernel), List.mem_of_getElem? (i := 270) (by decide +kernel)⟩
theorem lw_p1 : lw_okq (⟨"LastStirred", "finds", "(I)I"⟩, 16) := ⟨⟨by decide +kernel, by decide +kernel⟩, List.mem_of_getElem? (i := 14) (by decide +kernel), List.mem_of_getElem? (i := 277) (by decide +kernel), List.mem_of_getElem? (i := 278) (by decide +kernel)⟩
theorem lw_p2 : lw_okq (⟨"LastStirred", "refusedPlace", "(LLastStirred$Shelf;II)I"⟩, 16) := ⟨⟨by decide +kernel, by decide +kernel⟩, List.mem_of_getElem? (i := 14) (by decide +kernel), List.mem_of_getElem? (i := 289) (by decide +kernel), List.mem_of_getElem? (i := 290) (by decide +kernel)⟩
theorem lw_p3 : lw_okq (⟨"LastStirred", "refusedMissing", "(LLastStirred$Shelf;I)I"⟩, 16) := ⟨⟨by decide +kernel, by decide +kernel⟩, List.mem_of_getElem? (i := 14) (by decide +kernel), List.mem_of_getElem? (i := 293) (by decide +kernel), List.mem_of_getElem? (i := 294) (by decide +kernel)⟩
theorem lw_p4 : lw_okq (⟨"LastStirred$Reader", "readSize", "()Z"⟩, 5) := ⟨⟨by decide +kernel, by decide +kernel⟩, List.mem_of_getElem? (i := 43) (by decide +kernel), List.mem_of_getElem? (i := 335) (by decide +kernel), List.mem_of_getElem? (i := 336) (by decide +kernel)⟩
theorem lw_p5 : lw_okq (⟨"LastStirred$Reader", "skipBlanks", "()V"⟩, 5) := ⟨⟨by decide +kernel, by decide +kernel⟩, List.mem_of_getElem? (i := 43) (by decide +kernel), List.mem_of_getElem? (i := 339) (by decide +kernel), List.mem_of_getElem? (i := 340) (by decide +kernel)⟩
theorem lw_p6 : lw_okq (⟨"LastStirred$Reader", "sign", "()I"⟩, 5) := ⟨⟨by decide +kernel, by decide +kernel⟩, List.mem_of_getElem? (i := 43) (by decide +kernel), List.mem_of_getElem? (i := 343) (by decide +kernel), List.mem_of_getElem? (i := 344) (by decide +kernel)⟩
theorem lw_p7 : lw_okq (⟨"LastStirred$Reader", "figure", "(II)I"⟩, 5) := ⟨⟨by decide +kernel, by decide +kernel⟩, List.mem_of_getElem? (i := 43) (by decide +kernel), List.mem_of_getElem? (i := 347) (by decide +kernel), List.mem_of_getElem? (i := 348) (by decide +kernel)⟩
theorem lw_p8 : lw_okq (⟨"LastStirred$Reader", "readCells", "()Z"⟩, 5) := ⟨⟨by decide +kernel, by decide +kernel⟩, List.mem_of_getElem? (i := 43) (by decide +kernel), List.mem_of_getElem? (i := 355) (by decide +kernel), List.mem_of_getElem? (i := 356) (by decide +kernel)⟩
theorem lw_p9 : lw_okq (⟨"LastStirred$Reader", "readBeasts", "()Z"⟩, 5) := ⟨⟨by decide +kernel, by decide +kernel⟩, List.mem_of_getElem? (i := 43) (by decide +kernel), List.mem_of_getElem? (i := 364) (by decide +kernel), List.mem_of_getElem? (i := 365) (by decide +kernel)⟩
theorem lw_p10 : lw_okq (⟨"LastStirred$Reader", "readBeast", "()Z"⟩, 5) := ⟨⟨by decide +kernel, by decide +kernel⟩, List.mem_of_getElem? (i := 43) (by decide +kernel), List.mem_of_getElem? (i := 372) (by decide +kernel), List.mem_of_getElem? (i := 373) (by decide +kernel)⟩
theorem lw_p11 : lw_okq (⟨"LastStirred$Flock", "isSlow", "(I)Z"⟩, 10) := ⟨⟨by decide +kernel, by decide +kernel⟩, List.mem_of_getElem? (i := 83) (by decide +kernel), List.mem_of_getElem? (i := 445) (by decide +kernel), List.mem_of_getElem? (i := 446) (by decide +kernel)⟩
theorem lw_p12 : lw_okq (⟨"LastStirred", "offLast", "(I)I"⟩, 16) := ⟨⟨by decide +kernel, by decide +kernel⟩, List.mem_of_getElem? (i := 14) (by decide +kernel), List.mem_of_getElem? (i := 449) (by decide +kernel), List.mem_of_getElem? (i := 450) (by decide +kernel)⟩
theorem lw_p13 : lw_okq (⟨"LastStirred", "othersNear", "(I)I"⟩, 16) := ⟨⟨by decide +kernel, by decide +kernel⟩, List.mem_of_getElem? (i := 14) (by decide +kernel), List.mem_of_getElem? (i := 472) (by decide +kernel), List.mem_of_getElem? (i := 473) (by decide +kernel)⟩
theorem lw_p14 : lw_okq (⟨"LastStirred$Flock", "can", "(LLastStirred$Ground;IIZ)Z"⟩, 10) := ⟨⟨by decide +kernel, by decide +kernel⟩, List.mem_of_getElem? (i := 83) (by decide +kernel), List.mem_of_getElem? (i := 500) (by decide +kernel), List.mem_of_getElem? (i := 501) (by decide +kernel)⟩
theorem lw_p15 : lw_okq (⟨"LastStirred$Flock", "move", "(LLastStirred$Ground;II)V"⟩, 10) := ⟨⟨by decide +kernel, by decide +kernel⟩, List.mem_of_getElem? (i := 83) (by decide +kernel), List.mem_of_getElem? (i := 504) (by decide +kernel), List.mem_of_getElem? (i := 505) (by decide +kernel)⟩
def lw_privs_1 : List (MethodName × Nat) := [(⟨"LastStirred", "makeIn", "(LLastStirred$Shelf;III)I"⟩, 16), (⟨"LastStirred", "finds", "(I)I"⟩, 16), (⟨"LastStirred", "refusedPlace", "(LLastStirred$Shelf;II)I"⟩, 16), (⟨"LastStirred", "refusedMissing", "(LLastStirred$Shelf;I)I"⟩, 16), (⟨"LastStirred$Reader", "readSize", "()Z"⟩, 5), (⟨"LastStirred$Reader", "skipBlanks", "()V"⟩, 5), (⟨"LastStirred$Reader", "sign", "()I"⟩, 5), (⟨"LastStirred$Reader", "figure", "(II)I"⟩, 5), (⟨"LastStirred$Reader", "readCells", "()Z"⟩, 5), (⟨"LastStirred$Reader", "readBeasts", "()Z"⟩, 5), (⟨"LastStirred$Reader", "readBeast", "()Z"⟩, 5), (⟨"LastStirred$Flock", "isSlow", "(I)Z"⟩, 10), (⟨"LastStirred", "offLast", "(I)I"⟩, 16), (⟨"LastStirred", "othersNear", "(I)I"⟩, 16), (⟨"LastStirred$Flock", "can", "(LLastStirred$Ground;IIZ)Z"⟩, 10), (⟨"LastStirred$Flock", "move", "(LLastStirred$Ground;II)V"⟩, 10)]
theorem lw_r1 : ∀ q ∈ lw_privs_1, lw_okq q := List.forall_mem_cons.mpr ⟨lw_p0, List.forall_mem_cons.mpr ⟨lw_p1, List.forall_mem_cons.mpr ⟨lw_p2, List.forall_mem_cons.mpr ⟨lw_p3, List.forall_mem_cons.mpr ⟨lw_p4, List.forall_mem_cons.mpr ⟨lw_p5, List.forall_mem_cons.mpr ⟨lw_p6, List.forall_mem_cons.mpr ⟨lw_p7, List.forall_mem_cons.mpr ⟨lw_p8, List.forall_mem_cons.mpr ⟨lw_p9, List.forall_mem_cons.mpr ⟨lw_p10, List.forall_mem_cons.mpr ⟨lw_p11, List.forall_mem_cons.mpr ⟨lw_p12, List.forall_mem_cons.mpr ⟨lw_p13, List.forall_mem_cons.mpr ⟨lw_p14, List.forall_mem_cons.mpr ⟨lw_p15, fun _ h => absurd h List.not_mem_nil⟩⟩⟩⟩⟩⟩⟩⟩⟩⟩⟩⟩⟩⟩⟩⟩
theorem lw_p16 : lw_okq (⟨"LastStirred$Flock", "becomesLast", "(II)V"⟩, 10) := ⟨⟨by decide +kernel, by decide +kernel⟩, List.mem_of_getElem? (i := 83) (by decide +kernel), List.mem_of_getElem? (i := 508) (by decide +kernel), List.mem_of_getElem? (i := 509) (by decide +kernel)⟩
theorem lw_p17 : lw_okq (⟨"LastStirred$Flock", "nextCell", "(LLastStirred$Ground;IZ)I"⟩, 10) := ⟨⟨by decide +kernel, by decide +kernel⟩, List.mem_of_getElem? (i := 83) (by decide +kernel), List.mem_of_getElem? (i := 520) (by decide +kernel), List.mem_of_getElem? (i := 521) (by decide +kernel)⟩
theorem lw_p18 : lw_okq (⟨"LastStirred", "isPlace", "(I)Z"⟩, 16) := ⟨⟨by decide +kernel, by decide +kernel⟩, List.mem_of_getElem? (i := 14) (by decide +kernel), List.mem_of_getElem? (i := 568) (by decide +kernel), List.mem_of_getElem? (i := 569) (by decide +kernel)⟩
theorem lw_p19 : lw_okq (⟨"LastStirred", "isKept", "(I)Z"⟩, 16) := ⟨⟨by decide +kernel, by decide +kernel⟩, List.mem_of_getElem? (i := 14) (by decide +kernel), List.mem_of_getElem? (i := 576) (by decide +kernel), List.mem_of_getElem? (i := 577) (by decide +kernel)⟩
theorem lw_p20 : lw_okq (⟨"LastStirred$Search", "begin", "(LLastStirred$Flock;I)V"⟩, 9) := ⟨⟨by decide +kernel, by decide +kernel⟩, List.mem_of_getElem? (i := 152) (by decide +kernel), List.mem_of_getElem? (i := 592) (by decide +kernel), List.mem_of_getElem? (i := 593) (by decide +kernel)⟩
theorem lw_p21 : lw_okq (⟨"LastStirred$Search", "note", "(LLastStirred$Ground;II)V"⟩, 9) := ⟨⟨by decide +kernel, by decide +kernel⟩, List.mem_of_getElem? (i := 152) (by decide +kernel), List.mem_of_getElem? (i := 600) (by decide +kernel), List.mem_of_getElem? (i := 601) (by decide +kernel)⟩
theorem lw_p22 : lw_okq (⟨"LastStirred", "tellFraction", "(II)V"⟩, 16) := ⟨⟨by decide +kernel, by decide +kernel⟩, List.mem_of_getElem? (i := 14) (by decide +kernel), List.mem_of_getElem? (i := 630) (by decide +kernel), List.mem_of_getElem? (i := 631) (by decide +kernel)⟩
theorem lw_p23 : lw_okq (⟨"LastStirred", "tryDrive", "(I)Z"⟩, 16) := ⟨⟨by decide +kernel, by decide +kernel⟩, List.mem_of_getElem? (i := 14) (by decide +kernel), List.mem_of_getElem? (i := 639) (by decide +kernel), List.mem_of_getElem? (i := 640) (by decide +kernel)⟩
theorem lw_p24 : lw_okq (⟨"LastStirred$Ground", "openBeside", "(IZ)I"⟩, 6) := ⟨⟨by decide +kernel, by decide +kernel⟩, List.mem_of_getElem? (i := 49) (by decide +kernel), List.mem_of_getElem? (i := 681) (by decide +kernel), List.mem_of_getElem? (i := 682) (by decide +kernel)⟩
theorem lw_p25 : lw_okq (⟨"LastStirred$Watch", "shepherdKeeps", "(LLastStirred$Ground;II)Z"⟩, 4) := ⟨⟨by decide +kernel, by decide +kernel⟩, List.mem_of_getElem? (i := 194) (by decide +kernel), List.mem_of_getElem? (i := 704) (by decide +kernel), List.mem_of_getElem? (i := 705) (by decide +kernel)⟩
theorem lw_p26 : lw_okq (⟨"LastStirred$Watch", "wolfFails", "(LLastStirred$Ground;II)Z"⟩, 4) := ⟨⟨by decide +kernel, by decide +kernel⟩, List.mem_of_getElem? (i := 194) (by decide +kernel), List.mem_of_getElem? (i := 710) (by decide +kernel), List.mem_of_getElem? (i := 711) (by decide +kernel)⟩
theorem lw_p27 : lw_okq (⟨"LastStirred", "refusedDawn", "(I)I"⟩, 16) := ⟨⟨by decide +kernel, by decide +kernel⟩, List.mem_of_getElem? (i := 14) (by decide +kernel), List.mem_of_getElem? (i := 721) (by decide +kernel), List.mem_of_getElem? (i := 722) (by decide +kernel)⟩
theorem lw_p28 : lw_okq (⟨"LastStirredModel", "place", "(III)V"⟩, 39) := ⟨⟨by decide +kernel, by decide +kernel⟩, List.mem_of_getElem? (i := 789) (by decide +kernel), List.mem_of_getElem? (i := 795) (by decide +kernel), List.mem_of_getElem? (i := 796) (by decide +kernel)⟩
theorem lw_p29 : lw_okq (⟨"LastStirredModel", "meets", "(I)I"⟩, 39) := ⟨⟨by decide +kernel, by decide +kernel⟩, List.mem_of_getElem? (i := 789) (by decide +kernel), List.mem_of_getElem? (i := 949) (by decide +kernel), List.mem_of_getElem? (i := 950) (by decide +kernel)⟩
theorem lw_p30 : lw_okq (⟨"LastStirredModel", "rowAt", "(II)I"⟩, 39) := ⟨⟨by decide +kernel, by decide +kernel⟩, List.mem_of_getElem? (i := 789) (by decide +kernel), List.mem_of_getElem? (i := 957) (by decide +kernel), List.mem_of_getElem? (i := 958) (by decide +kernel)⟩
theorem lw_p31 : lw_okq (⟨"LastStirredModel", "tells", "(II)I"⟩, 39) := ⟨⟨by decide +kernel, by decide +kernel⟩, List.mem_of_getElem? (i := 789) (by decide +kernel), List.mem_of_getElem? (i := 961) (by decide +kernel), List.mem_of_getElem? (i := 962) (by decide +kernel)⟩
def lw_privs_2 : List (MethodName × Nat) := [(⟨"LastStirred$Flock", "becomesLast", "(II)V"⟩, 10), (⟨"LastStirred$Flock", "nextCell", "(LLastStirred$Ground;IZ)I"⟩, 10), (⟨"LastStirred", "isPlace", "(I)Z"⟩, 16), (⟨"LastStirred", "isKept", "(I)Z"⟩, 16), (⟨"LastStirred$Search", "begin", "(LLastStirred$Flock;I)V"⟩, 9), (⟨"LastStirred$Search", "note", "(LLastStirred$Ground;II)V"⟩, 9), (⟨"LastStirred", "tellFraction", "(II)V"⟩, 16), (⟨"LastStirred", "tryDrive", "(I)Z"⟩, 16), (⟨"LastStirred$Ground", "openBeside", "(IZ)I"⟩, 6), (⟨"LastStirred$Watch", "shepherdKeeps", "(LLastStirred$Ground;II)Z"⟩, 4), (⟨"LastStirred$Watch", "wolfFails", "(LLastStirred$Ground;II)Z"⟩, 4), (⟨"LastStirred", "refusedDawn", "(I)I"⟩, 16), (⟨"LastStirredModel", "place", "(III)V"⟩, 39), (⟨"LastStirredModel", "meets", "(I)I"⟩, 39), (⟨"LastStirredModel", "rowAt", "(II)I"⟩, 39), (⟨"LastStirredModel", "tells", "(II)I"⟩, 39)]
theorem lw_r2 : ∀ q ∈ lw_privs_2, lw_okq q := List.forall_mem_cons.mpr ⟨lw_p16, List.forall_mem_cons.mpr ⟨lw_p17, List.forall_mem_cons.mpr ⟨lw_p18, List.forall_mem_cons.mpr ⟨lw_p19, List.forall_mem_cons.mpr ⟨lw_p20, List.forall_mem_cons.mpr ⟨lw_p21, List.forall_mem_cons.mpr ⟨lw_p22, List.forall_mem_cons.mpr ⟨lw_p23, List.forall_mem_cons.mpr ⟨lw_p24, List.forall_mem_cons.mpr ⟨lw_p25, List.forall_mem_cons.mpr ⟨lw_p26, List.forall_mem_cons.mpr ⟨lw_p27, List.forall_mem_cons.mpr ⟨lw_p28, List.forall_mem_cons.mpr ⟨lw_p29, List.forall_mem_cons.mpr ⟨lw_p30, List.forall_mem_cons.mpr ⟨lw_p31, fun _ h => absurd h List.not_mem_nil⟩⟩⟩⟩⟩⟩⟩⟩⟩⟩⟩⟩⟩⟩⟩⟩
theorem lw_p32 : lw_okq (⟨"LastStirredModel", "faultOf", "(I)I"⟩, 39) := ⟨⟨by decide +kernel, by decide +kernel⟩, List.mem_of_getElem? (i := 789) (by decide +kernel), List.mem_of_getElem? (i := 996) (by decide +kernel), List.mem_of_getElem? (i := 997) (by decide +kernel)⟩
theorem lw_p33 : lw_okq (⟨"LastStirredModel", "byteAt", "(II)I"⟩, 39) := ⟨⟨by decide +kernel, by decide +kernel⟩, List.mem_of_getElem? (i := 789) (by decide +kernel), List.mem_of_getElem? (i := 1000) (by decide +kernel), List.mem_of_getElem? (i := 1001) (by decide +kernel)⟩
theorem lw_p34 : lw_okq (⟨"LastStirredModel", "readsGrid", "(I)Z"⟩, 39) := ⟨⟨by decide +kernel, by decide +kernel⟩, List.mem_of_getElem? (i := 789) (by decide +kernel), List.mem_of_getElem? (i := 1004) (by decide +kernel), List.mem_of_getElem? (i := 1005) (by decide +kernel)⟩
theorem lw_p35 : lw_okq (⟨"LastStirredModel", "figure", "(III)Z"⟩, 39) := ⟨⟨by decide +kernel, by decide +kernel⟩, List.mem_of_getElem? (i := 789) (by decide +kernel), List.mem_of_getElem? (i := 1008) (by decide +kernel), List.mem_of_getElem? (i := 1009) (by decide +kernel)⟩
theorem lw_p36 : lw_okq (⟨"LastStirredModel", "readsSign", "(I)Z"⟩, 39) := ⟨⟨by decide +kernel, by decide +kernel⟩, List.mem_of_getElem? (i := 789) (by decide +kernel), List.mem_of_getElem? (i := 1012) (by decide +kernel), List.mem_of_getElem? (i := 1013) (by decide +kernel)⟩
theorem lw_p37 : lw_okq (⟨"LastStirredModel", "readsBeast", "(I)Z"⟩, 39) := ⟨⟨by decide +kernel, by decide +kernel⟩, List.mem_of_getElem? (i := 789) (by decide +kernel), List.mem_of_getElem? (i := 1019) (by decide +kernel), List.mem_of_getElem? (i := 1020) (by decide +kernel)⟩
theorem lw_p38 : lw_okq (⟨"LastStirredModel", "isCell", "(I)Z"⟩, 39) := ⟨⟨by decide +kernel, by decide +kernel⟩, List.mem_of_getElem? (i := 789) (by decide +kernel), List.mem_of_getElem? (i := 1034) (by decide +kernel), List.mem_of_getElem? (i := 1035) (by decide +kernel)⟩
theorem lw_p39 : lw_okq (⟨"LastStirredModel", "whoIn", "(III)I"⟩, 39) := ⟨⟨by decide +kernel, by decide +kernel⟩, List.mem_of_getElem? (i := 789) (by decide +kernel), List.mem_of_getElem? (i := 1038) (by decide +kernel), List.mem_of_getElem? (i := 1039) (by decide +kernel)⟩
theorem lw_p40 : lw_okq (⟨"LastStirredModel", "v", "(II)I"⟩, 39) := ⟨⟨by decide +kernel, by decide +kernel⟩, List.mem_of_getElem? (i := 789) (by decide +kernel), List.mem_of_getElem? (i := 1042) (by decide +kernel), List.mem_of_getElem? (i := 1043) (by decide +kernel)⟩
theorem lw_p41 : lw_okq (⟨"LastStirredModel", "isBeast", "(I)Z"⟩, 39) := ⟨⟨by decide +kernel, by decide +kernel⟩, List.mem_of_getElem? (i := 789) (by decide +kernel), List.mem_of_getElem? (i := 1054) (by decide +kernel), List.mem_of_getElem? (i := 1055) (by decide +kernel)⟩
theorem lw_p42 : lw_okq (⟨"LastStirredModel", "beastTells", "(II)I"⟩, 39) := ⟨⟨by decide +kernel, by decide +kernel⟩, List.mem_of_getElem? (i := 789) (by decide +kernel), List.mem_of_getElem? (i := 1058) (by decide +kernel), List.mem_of_getElem? (i := 1059) (by decide +kernel)⟩
theorem lw_p43 : lw_okq (⟨"LastStirredModel", "isShy", "(I)Z"⟩, 39) := ⟨⟨by decide +kernel, by decide +kernel⟩, List.mem_of_getElem? (i := 789) (by decide +kernel), List.mem_of_getElem? (i := 1066) (by decide +kernel), List.mem_of_getElem? (i := 1067) (by decide +kernel)⟩
theorem lw_p44 : lw_okq (⟨"LastStirredModel", "isSlow", "(I)Z"⟩, 39) := ⟨⟨by decide +kernel, by decide +kernel⟩, List.mem_of_getElem? (i := 789) (by decide +kernel), List.mem_of_getElem? (i := 1070) (by decide +kernel), List.mem_of_getElem? (i := 1071) (by decide +kernel)⟩
theorem lw_p45 : lw_okq (⟨"LastStirredModel", "isLost", "(II)Z"⟩, 39) := ⟨⟨by decide +kernel, by decide +kernel⟩, List.mem_of_getElem? (i := 789) (by decide +kernel), List.mem_of_getElem? (i := 1074) (by decide +kernel), List.mem_of_getElem? (i := 1075) (by decide +kernel)⟩
theorem lw_p46 : lw_okq (⟨"LastStirredModel", "off", "(II)I"⟩, 39) := ⟨⟨by decide +kernel, by decide +kernel⟩, List.mem_of_getElem? (i := 789) (by decide +kernel), List.mem_of_getElem? (i := 1078) (by decide +kernel), List.mem_of_getElem? (i := 1079) (by decide +kernel)⟩
theorem lw_p47 : lw_okq (⟨"LastStirredModel", "aimOf", "(II)I"⟩, 39) := ⟨⟨by decide +kernel, by decide +kernel⟩, List.mem_of_getElem? (i := 789) (by decide +kernel), List.mem_of_getElem? (i := 1085) (by decide +kernel), List.mem_of_getElem? (i := 1086) (by decide +kernel)⟩
def lw_privs_3 : List (MethodName × Nat) := [(⟨"LastStirredModel", "faultOf", "(I)I"⟩, 39), (⟨"LastStirredModel", "byteAt", "(II)I"⟩, 39), (⟨"LastStirredModel", "readsGrid", "(I)Z"⟩, 39), (⟨"LastStirredModel", "figure", "(III)Z"⟩, 39), (⟨"LastStirredModel", "readsSign", "(I)Z"⟩, 39), (⟨"LastStirredModel", "readsBeast", "(I)Z"⟩, 39), (⟨"LastStirredModel", "isCell", "(I)Z"⟩, 39), (⟨"LastStirredModel", "whoIn", "(III)I"⟩, 39), (⟨"LastStirredModel", "v", "(II)I"⟩, 39), (⟨"LastStirredModel", "isBeast", "(I)Z"⟩, 39), (⟨"LastStirredModel", "beastTells", "(II)I"⟩, 39), (⟨"LastStirredModel", "isShy", "(I)Z"⟩, 39), (⟨"LastStirredModel", "isSlow", "(I)Z"⟩, 39), (⟨"LastStirredModel", "isLost", "(II)Z"⟩, 39), (⟨"LastStirredModel", "off", "(II)I"⟩, 39), (⟨"LastStirredModel", "aimOf", "(II)I"⟩, 39)]
theorem lw_r3 : ∀ q ∈ lw_privs_3, lw_okq q := List.forall_mem_cons.mpr ⟨lw_p32, List.forall_mem_cons.mpr ⟨lw_p33, List.forall_mem_cons.mpr ⟨lw_p34, List.forall_mem_cons.mpr ⟨lw_p35, List.forall_mem_cons.mpr ⟨lw_p36, List.forall_mem_cons.mpr ⟨lw_p37, List.forall_mem_cons.mpr ⟨lw_p38, List.forall_mem_cons.mpr ⟨lw_p39, List.forall_mem_cons.mpr ⟨lw_p40, List.forall_mem_cons.mpr ⟨lw_p41, List.forall_mem_cons.mpr ⟨lw_p42, List.forall_mem_cons.mpr ⟨lw_p43, List.forall_mem_cons.mpr ⟨lw_p44, List.forall_mem_cons.mpr ⟨lw_p45, List.forall_mem_cons.mpr ⟨lw_p46, List.forall_mem_cons.mpr ⟨lw_p47, fun _ h => absurd h List.not_mem_nil⟩⟩⟩⟩⟩⟩⟩⟩⟩⟩⟩⟩⟩⟩⟩⟩
theorem lw_p48 : lw_okq (⟨"LastStirredModel", "gates", "()I"⟩, 39) := ⟨⟨by decide +kernel, by decide +kernel⟩, List.mem_of_getElem? (i := 789) (by decide +kernel), List.mem_of_getElem? (i := 1089) (by decide +kernel), List.mem_of_getElem? (i := 1090) (by decide +kernel)⟩
theorem lw_p49 : lw_okq (⟨"LastStirredModel", "near", "(I)I"⟩, 39) := ⟨⟨by decide +kernel, by decide +kernel⟩, List.mem_of_getElem? (i := 789) (by decide +kernel), List.mem_of_getElem? (i := 1093) (by decide +kernel), List.mem_of_getElem? (i := 1094) (by decide +kernel)⟩
theorem lw_p50 : lw_okq (⟨"LastStirredModel", "stirs", "(III)Z"⟩, 39) := ⟨⟨by decide +kernel, by decide +kernel⟩, List.mem_of_getElem? (i := 789) (by decide +kernel), List.mem_of_getElem? (i := 1105) (by decide +kernel), List.mem_of_getElem? (i := 1106) (by decide +kernel)⟩
theorem lw_p51 : lw_okq (⟨"LastStirredModel", "by", "(III)I"⟩, 39) := ⟨⟨by decide +kernel, by decide +kernel⟩, List.mem_of_getElem? (i := 789) (by decide +kernel), List.mem_of_getElem? (i := 1109) (by decide +kernel), List.mem_of_getElem? (i := 1110) (by decide +kernel)⟩
theorem lw_p52 : lw_okq (⟨"LastStirredModel", "goesTo", "(III)Z"⟩, 39) := ⟨⟨by decide +kernel, by decide +kernel⟩, List.mem_of_getElem? (i := 789) (by decide +kernel), List.mem_of_getElem? (i := 1113) (by decide +kernel), List.mem_of_getElem? (i := 1114) (by decide +kernel)⟩
theorem lw_p53 : lw_okq (⟨"LastStirredModel", "can", "(III)Z"⟩, 39) := ⟨⟨by decide +kernel, by decide +kernel⟩, List.mem_of_getElem? (i := 789) (by decide +kernel), List.mem_of_getElem? (i := 1117) (by decide +kernel), List.mem_of_getElem? (i := 1118) (by decide +kernel)⟩
theorem lw_p54 : lw_okq (⟨"LastStirredModel", "becomesLast", "(III)V"⟩, 39) := ⟨⟨by decide +kernel, by decide +kernel⟩, List.mem_of_getElem? (i := 789) (by decide +kernel), List.mem_of_getElem? (i := 1121) (by decide +kernel), List.mem_of_getElem? (i := 1122) (by decide +kernel)⟩
theorem lw_p55 : lw_okq (⟨"LastStirredModel", "stepOf", "(I)I"⟩, 39) := ⟨⟨by decide +kernel, by decide +kernel⟩, List.mem_of_getElem? (i := 789) (by decide +kernel), List.mem_of_getElem? (i := 1129) (by decide +kernel), List.mem_of_getElem? (i := 1130) (by decide +kernel)⟩
theorem lw_p56 : lw_okq (⟨"LastStirredModel", "goes", "(III)Z"⟩, 39) := ⟨⟨by decide +kernel, by decide +kernel⟩, List.mem_of_getElem? (i := 789) (by decide +kernel), List.mem_of_getElem? (i := 1133) (by decide +kernel), List.mem_of_getElem? (i := 1134) (by decide +kernel)⟩
theorem lw_p57 : lw_okq (⟨"LastStirredModel", "runs", "(I)I"⟩, 39) := ⟨⟨by decide +kernel, by decide +kernel⟩, List.mem_of_getElem? (i := 789) (by decide +kernel), List.mem_of_getElem? (i := 1144) (by decide +kernel), List.mem_of_getElem? (i := 1145) (by decide +kernel)⟩
theorem lw_p58 : lw_okq (⟨"LastStirredModel", "copyFlock", "(II)V"⟩, 39) := ⟨⟨by decide +kernel, by decide +kernel⟩, List.mem_of_getElem? (i := 789) (by decide +kernel), List.mem_of_getElem? (i := 1152) (by decide +kernel), List.mem_of_getElem? (i := 1153) (by decide +kernel)⟩
theorem lw_p59 : lw_okq (⟨"LastStirredModel", "stateOf", "(I)J"⟩, 39) := ⟨⟨by decide +kernel, by decide +kernel⟩, List.mem_of_getElem? (i := 789) (by decide +kernel), List.mem_of_getElem? (i := 1156) (by decide +kernel), List.mem_of_getElem? (i := 1157) (by decide +kernel)⟩
theorem lw_p60 : lw_okq (⟨"LastStirredModel", "lostMany", "(I)I"⟩, 39) := ⟨⟨by decide +kernel, by decide +kernel⟩, List.mem_of_getElem? (i := 789) (by decide +kernel), List.mem_of_getElem? (i := 1166) (by decide +kernel), List.mem_of_getElem? (i := 1167) (by decide +kernel)⟩
theorem lw_p61 : lw_okq (⟨"LastStirredModel", "apartOf", "(I)I"⟩, 39) := ⟨⟨by decide +kernel, by decide +kernel⟩, List.mem_of_getElem? (i := 789) (by decide +kernel), List.mem_of_getElem? (i := 1174) (by decide +kernel), List.mem_of_getElem? (i := 1175) (by decide +kernel)⟩
theorem lw_p62 : lw_okq (⟨"LastStirredModel", "fewestOf", "(II)I"⟩, 39) := ⟨⟨by decide +kernel, by decide +kernel⟩, List.mem_of_getElem? (i := 789) (by decide +kernel), List.mem_of_getElem? (i := 1190) (by decide +kernel), List.mem_of_getElem? (i := 1191) (by decide +kernel)⟩
theorem lw_p63 : lw_okq (⟨"LastStirredModel", "layRows", "(II)V"⟩, 39) := ⟨⟨by decide +kernel, by decide +kernel⟩, List.mem_of_getElem? (i := 789) (by decide +kernel), List.mem_of_getElem? (i := 1194) (by decide +kernel), List.mem_of_getElem? (i := 1195) (by decide +kernel)⟩
def lw_privs_4 : List (MethodName × Nat) := [(⟨"LastStirredModel", "gates", "()I"⟩, 39), (⟨"LastStirredModel", "near", "(I)I"⟩, 39), (⟨"LastStirredModel", "stirs", "(III)Z"⟩, 39), (⟨"LastStirredModel", "by", "(III)I"⟩, 39), (⟨"LastStirredModel", "goesTo", "(III)Z"⟩, 39), (⟨"LastStirredModel", "can", "(III)Z"⟩, 39), (⟨"LastStirredModel", "becomesLast", "(III)V"⟩, 39), (⟨"LastStirredModel", "stepOf", "(I)I"⟩, 39), (⟨"LastStirredModel", "goes", "(III)Z"⟩, 39), (⟨"LastStirredModel", "runs", "(I)I"⟩, 39), (⟨"LastStirredModel", "copyFlock", "(II)V"⟩, 39), (⟨"LastStirredModel", "stateOf", "(I)J"⟩, 39), (⟨"LastStirredModel", "lostMany", "(I)I"⟩, 39), (⟨"LastStirredModel", "apartOf", "(I)I"⟩, 39), (⟨"LastStirredModel", "fewestOf", "(II)I"⟩, 39), (⟨"LastStirredModel", "layRows", "(II)V"⟩, 39)]
theorem lw_r4 : ∀ q ∈ lw_privs_4, lw_okq q := List.forall_mem_cons.mpr ⟨lw_p48, List.forall_mem_cons.mpr ⟨lw_p49, List.forall_mem_cons.mpr ⟨lw_p50, List.forall_mem_cons.mpr ⟨lw_p51, List.forall_mem_cons.mpr ⟨lw_p52, List.forall_mem_cons.mpr ⟨lw_p53, List.forall_mem_cons.mpr ⟨lw_p54, List.forall_mem_cons.mpr ⟨lw_p55, List.forall_mem_cons.mpr ⟨lw_p56, List.forall_mem_cons.mpr ⟨lw_p57, List.forall_mem_cons.mpr ⟨lw_p58, List.forall_mem_cons.mpr ⟨lw_p59, List.forall_mem_cons.mpr ⟨lw_p60, List.forall_mem_cons.mpr ⟨lw_p61, List.forall_mem_cons.mpr ⟨lw_p62, List.forall_mem_cons.mpr ⟨lw_p63, fun _ h => absurd h List.not_mem_nil⟩⟩⟩⟩⟩⟩⟩⟩⟩⟩⟩⟩⟩⟩⟩⟩
theorem lw_p64 : lw_okq (⟨"LastStirredModel", "layRow", "(IIII)V"⟩, 39) := ⟨⟨by decide +kernel, by decide +kernel⟩, List.mem_of_getElem? (i := 789) (by decide +kernel), List.mem_of_getElem? (i := 1198) (by decide +kernel), List.mem_of_getElem? (i := 1199) (by decide +kernel)⟩
theorem lw_p65 : lw_okq (⟨"LastStirredModel", "isWanted", "(II)Z"⟩, 39) := ⟨⟨by decide +kernel, by decide +kernel⟩, List.mem_of_getElem? (i := 789) (by decide +kernel), List.mem_of_getElem? (i := 1202) (by decide +kernel), List.mem_of_getElem? (i := 1203) (by decide +kernel)⟩
theorem lw_p66 : lw_okq (⟨"LastStirredModel", "isSafe", "(I)Z"⟩, 39) := ⟨⟨by decide +kernel, by decide +kernel⟩, List.mem_of_getElem? (i := 789) (by decide +kernel), List.mem_of_getElem? (i := 1206) (by decide +kernel), List.mem_of_getElem? (i := 1207) (by decide +kernel)⟩
theorem lw_p67 : lw_okq (⟨"LastStirredModel", "codes", "()I"⟩, 39) := ⟨⟨by decide +kernel, by decide +kernel⟩, List.mem_of_getElem? (i := 789) (by decide +kernel), List.mem_of_getElem? (i := 1210) (by decide +kernel), List.mem_of_getElem? (i := 1211) (by decide +kernel)⟩
theorem lw_p68 : lw_okq (⟨"LastStirredModel", "driven", "(II)Z"⟩, 39) := ⟨⟨by decide +kernel, by decide +kernel⟩, List.mem_of_getElem? (i := 789) (by decide +kernel), List.mem_of_getElem? (i := 1214) (by decide +kernel), List.mem_of_getElem? (i := 1215) (by decide +kernel)⟩
theorem lw_p69 : lw_okq (⟨"LastStirredModel", "drives", "(II)Z"⟩, 39) := ⟨⟨by decide +kernel, by decide +kernel⟩, List.mem_of_getElem? (i := 789) (by decide +kernel), List.mem_of_getElem? (i := 1218) (by decide +kernel), List.mem_of_getElem? (i := 1219) (by decide +kernel)⟩
theorem lw_p70 : lw_okq (⟨"LastStirredModel", "layDeeper", "(III)V"⟩, 39) := ⟨⟨by decide +kernel, by decide +kernel⟩, List.mem_of_getElem? (i := 789) (by decide +kernel), List.mem_of_getElem? (i := 1222) (by decide +kernel), List.mem_of_getElem? (i := 1223) (by decide +kernel)⟩
theorem lw_p71 : lw_okq (⟨"LastStirredModel", "fraction", "(JJI)I"⟩, 39) := ⟨⟨by decide +kernel, by decide +kernel⟩, List.mem_of_getElem? (i := 789) (by decide +kernel), List.mem_of_getElem? (i := 1230) (by decide +kernel), List.mem_of_getElem? (i := 1231) (by decide +kernel)⟩
theorem lw_p72 : lw_okq (⟨"LastStirredModel", "wentIn", "(I)I"⟩, 39) := ⟨⟨by decide +kernel, by decide +kernel⟩, List.mem_of_getElem? (i := 789) (by decide +kernel), List.mem_of_getElem? (i := 1246) (by decide +kernel), List.mem_of_getElem? (i := 1247) (by decide +kernel)⟩
theorem lw_p73 : lw_okq (⟨"LastStirredModel", "reached", "(IZ)I"⟩, 39) := ⟨⟨by decide +kernel, by decide +kernel⟩, List.mem_of_getElem? (i := 789) (by decide +kernel), List.mem_of_getElem? (i := 1265) (by decide +kernel), List.mem_of_getElem? (i := 1266) (by decide +kernel)⟩
theorem lw_p74 : lw_okq (⟨"LastStirredModel", "isOpen", "(IZ)Z"⟩, 39) := ⟨⟨by decide +kernel, by decide +kernel⟩, List.mem_of_getElem? (i := 789) (by decide +kernel), List.mem_of_getElem? (i := 1272) (by decide +kernel), List.mem_of_getElem? (i := 1273) (by decide +kernel)⟩
theorem lw_p75 : lw_okq (⟨"LastStirredModel", "keeps", "(IIII)Z"⟩, 39) := ⟨⟨by decide +kernel, by decide +kernel⟩, List.mem_of_getElem? (i := 789) (by decide +kernel), List.mem_of_getElem? (i := 1284) (by decide +kernel), List.mem_of_getElem? (i := 1285) (by decide +kernel)⟩
theorem lw_p76 : lw_okq (⟨"LastStirredModel", "wolfTo", "(II)I"⟩, 39) := ⟨⟨by decide +kernel, by decide +kernel⟩, List.mem_of_getElem? (i := 789) (by decide +kernel), List.mem_of_getElem? (i := 1288) (by decide +kernel), List.mem_of_getElem? (i := 1289) (by decide +kernel)⟩
theorem lw_p77 : lw_okq (⟨"LastStirredModel", "canKeep", "(II)Z"⟩, 39) := ⟨⟨by decide +kernel, by decide +kernel⟩, List.mem_of_getElem? (i := 789) (by decide +kernel), List.mem_of_getElem? (i := 1292) (by decide +kernel), List.mem_of_getElem? (i := 1293) (by decide +kernel)⟩
theorem lw_p78 : lw_okq (⟨"LastStirredModel", "keepsLast", "(III)Z"⟩, 39) := ⟨⟨by decide +kernel, by decide +kernel⟩, List.mem_of_getElem? (i := 789) (by decide +kernel), List.mem_of_getElem? (i := 1296) (by decide +kernel), List.mem_of_getElem? (i := 1297) (by decide +kernel)⟩
theorem lw_p79 : lw_okq (⟨"LastStirredModel", "needDawn", "(I)I"⟩, 39) := ⟨⟨by decide +kernel, by decide +kernel⟩, List.mem_of_getElem? (i := 789) (by decide +kernel), List.mem_of_getElem? (i := 1304) (by decide +kernel), List.mem_of_getElem? (i := 1305) (by decide +kernel)⟩
def lw_privs_5 : List (MethodName × Nat) := [(⟨"LastStirredModel", "layRow", "(IIII)V"⟩, 39), (⟨"LastStirredModel", "isWanted", "(II)Z"⟩, 39), (⟨"LastStirredModel", "isSafe", "(I)Z"⟩, 39), (⟨"LastStirredModel", "codes", "()I"⟩, 39), (⟨"LastStirredModel", "driven", "(II)Z"⟩, 39), (⟨"LastStirredModel", "drives", "(II)Z"⟩, 39), (⟨"LastStirredModel", "layDeeper", "(III)V"⟩, 39), (⟨"LastStirredModel", "fraction", "(JJI)I"⟩, 39), (⟨"LastStirredModel", "wentIn", "(I)I"⟩, 39), (⟨"LastStirredModel", "reached", "(IZ)I"⟩, 39), (⟨"LastStirredModel", "isOpen", "(IZ)Z"⟩, 39), (⟨"LastStirredModel", "keeps", "(IIII)Z"⟩, 39), (⟨"LastStirredModel", "wolfTo", "(II)I"⟩, 39), (⟨"LastStirredModel", "canKeep", "(II)Z"⟩, 39), (⟨"LastStirredModel", "keepsLast", "(III)Z"⟩, 39), (⟨"LastStirredModel", "needDawn", "(I)I"⟩, 39)]
theorem lw_r5 : ∀ q ∈ lw_privs_5, lw_okq q := List.forall_mem_cons.mpr ⟨lw_p64, List.forall_mem_cons.mpr ⟨lw_p65, List.forall_mem_cons.mpr ⟨lw_p66, List.forall_mem_cons.mpr ⟨lw_p67, List.forall_mem_cons.mpr ⟨lw_p68, List.forall_mem_cons.mpr ⟨lw_p69, List.forall_mem_cons.mpr ⟨lw_p70, List.forall_mem_cons.mpr ⟨lw_p71, List.forall_mem_cons.mpr ⟨lw_p72, List.forall_mem_cons.mpr ⟨lw_p73, List.forall_mem_cons.mpr ⟨lw_p74, List.forall_mem_cons.mpr ⟨lw_p75, List.forall_mem_cons.mpr ⟨lw_p76, List.forall_mem_cons.mpr ⟨lw_p77, List.forall_mem_cons.mpr ⟨lw_p78, List.forall_mem_cons.mpr ⟨lw_p79, fun _ h => absurd h List.not_mem_nil⟩⟩⟩⟩⟩⟩⟩⟩⟩⟩⟩⟩⟩⟩⟩⟩
theorem lw_p80 : lw_okq (⟨"LastStirredModel", "counted", "(I)I"⟩, 39) := ⟨⟨by decide +kernel, by decide +kernel⟩, List.mem_of_getElem? (i := 789) (by decide +kernel), List.mem_of_getElem? (i := 1320) (by decide +kernel), List.mem_of_getElem? (i := 1321) (by decide +kernel)⟩
theorem lw_p81 : lw_okq (⟨"LastStirredModel", "mix", "(J)V"⟩, 39) := ⟨⟨by decide +kernel, by decide +kernel⟩, List.mem_of_getElem? (i := 789) (by decide +kernel), List.mem_of_getElem? (i := 1329) (by decide +kernel), List.mem_of_getElem? (i := 1330) (by decide +kernel)⟩
theorem lw_p82 : lw_okq (⟨"LastStirredModel", "mixFlock", "()V"⟩, 39) := ⟨⟨by decide +kernel, by decide +kernel⟩, List.mem_of_getElem? (i := 789) (by decide +kernel), List.mem_of_getElem? (i := 1334) (by decide +kernel), List.mem_of_getElem? (i := 1335) (by decide +kernel)⟩
def lw_privs_6 : List (MethodName × Nat) := [(⟨"LastStirredModel", "counted", "(I)I"⟩, 39), (⟨"LastStirredModel", "mix", "(J)V"⟩, 39), (⟨"LastStirredModel", "mixFlock", "()V"⟩, 39)]
theorem lw_r6 : ∀ q ∈ lw_privs_6, lw_okq q := List.forall_mem_cons.mpr ⟨lw_p80, List.forall_mem_cons.mpr ⟨lw_p81, List.forall_mem_cons.mpr ⟨lw_p82, fun _ h => absurd h List.not_mem_nil⟩⟩⟩
def lw_privs : List (MethodName × Nat) := lw_privs_1 ++ (lw_privs_2 ++ (lw_privs_3 ++ (lw_privs_4 ++ (lw_privs_5 ++ (lw_privs_6)))))
def lw_tbl : List Cond := k2_sels lw_privs ++ tables_1
theorem lw_privs_ok : ∀ q ∈ lw_privs, lw_okq q := by
  show ∀ q ∈ lw_privs_1 ++ (lw_privs_2 ++ (lw_privs_3 ++ (lw_privs_4 ++ (lw_privs_5 ++ (lw_privs_6))))), lw_okq q
  exact List.forall_mem_append.mpr ⟨lw_r1, List.forall_mem_append.mpr ⟨lw_r2, List.forall_mem_append.mpr ⟨lw_r3, List.forall_mem_append.mpr ⟨lw_r4, List.forall_mem_append.mpr ⟨lw_r5, lw_r6⟩⟩⟩⟩⟩
end
section
/-! ===== names: classes, fields, methods (by program wip/gen out of the claim) ===== -/
def RX0 : String := "LastStirred$Flock"
def RX1 : String := "LastStirred$Ground"
def RX2 : String := "LastStirred$Reader"
def RX3 : String := "LastStirred$Search"
def RX4 : String := "LastStirred$Shelf"
def RX5 : String := "LastStirred$Watch"
def RX6 : String := "LastStirred"
def RX7 : String := "LastStirredModel"
def RX8 : String := "LastStirredLaw"
def RX9 : String := "java/lang/Integer"
def RX10 : String := "java/lang/Math"
def RX11 : String := "java/util/Arrays"
def RX12 : String := "java/lang/System"
def RX13 : String := "java/lang/Object"
def TX0 : u_T := fun k => match k with
  | 0 => ("LastStirred$Flock", "kind", "[I", true)
  | 1 => ("LastStirred$Flock", "cell", "[I", true)
  | 2 => ("LastStirred$Flock", "gone", "[I", true)
  | 3 => ("LastStirred$Flock", "size", "I", false)
  | 4 => ("LastStirred$Flock", "last", "I", false)
  | 5 => ("LastStirred$Flock", "lastCell", "I", false)
  | 6 => ("LastStirred$Flock", "before", "I", false)
  | 7 => ("LastStirred$Flock", "beforeCell", "I", false)
  | 8 => ("LastStirred$Flock", "step", "I", false)
  | _ => ("LastStirred$Flock", "full", "I", false)
def tyX0 : Nat → FieldType := fun k => match k with
  | 0 => .array .int
  | 1 => .array .int
  | 2 => .array .int
  | 3 => .int
  | 4 => .int
  | 5 => .int
  | 6 => .int
  | 7 => .int
  | 8 => .int
  | _ => .int
theorem nmX0 : ∀ a, a < 10 → ∀ b, b < 10 → a ≠ b → (TX0 a).2.1 ≠ (TX0 b).2.1 := by decide +kernel
theorem tyX0_ok : ∀ k, k < 10 → parseFieldDescriptor (TX0 k).2.2.1 = some (tyX0 k) := by decide +kernel
def TX1 : u_T := fun k => match k with
  | 0 => ("LastStirred$Ground", "what", "[I", true)
  | 1 => ("LastStirred$Ground", "column", "[I", true)
  | 2 => ("LastStirred$Ground", "line", "[I", true)
  | 3 => ("LastStirred$Ground", "width", "I", false)
  | 4 => ("LastStirred$Ground", "height", "I", false)
  | _ => ("LastStirred$Ground", "size", "I", false)
def tyX1 : Nat → FieldType := fun k => match k with
  | 0 => .array .int
  | 1 => .array .int
  | 2 => .array .int
  | 3 => .int
  | 4 => .int
  | _ => .int
theorem nmX1 : ∀ a, a < 6 → ∀ b, b < 6 → a ≠ b → (TX1 a).2.1 ≠ (TX1 b).2.1 := by decide +kernel
theorem tyX1_ok : ∀ k, k < 6 → parseFieldDescriptor (TX1 k).2.2.1 = some (tyX1 k) := by decide +kernel
def TX2 : u_T := fun k => match k with
  | 0 => ("LastStirred$Reader", "ground", "LLastStirred$Ground;", true)
  | 1 => ("LastStirred$Reader", "flock", "LLastStirred$Flock;", true)
  | 2 => ("LastStirred$Reader", "text", "[I", false)
  | 3 => ("LastStirred$Reader", "size", "I", false)
  | _ => ("LastStirred$Reader", "place", "I", false)
def tyX2 : Nat → FieldType := fun k => match k with
  | 0 => .object "LastStirred$Ground"
  | 1 => .object "LastStirred$Flock"
  | 2 => .array .int
  | 3 => .int
  | _ => .int
theorem nmX2 : ∀ a, a < 5 → ∀ b, b < 5 → a ≠ b → (TX2 a).2.1 ≠ (TX2 b).2.1 := by decide +kernel
theorem tyX2_ok : ∀ k, k < 5 → parseFieldDescriptor (TX2 k).2.2.1 = some (tyX2 k) := by decide +kernel
def TX3 : u_T := fun k => match k with
  | 0 => ("LastStirred$Search", "behind", "[LLastStirred$Flock;", true)
  | 1 => ("LastStirred$Search", "sought", "[I", true)
  | 2 => ("LastStirred$Search", "seeksSafe", "Z", false)
  | 3 => ("LastStirred$Search", "length", "I", false)
  | 4 => ("LastStirred$Search", "rows", "I", false)
  | 5 => ("LastStirred$Search", "hits", "I", false)
  | 6 => ("LastStirred$Search", "first", "I", false)
  | 7 => ("LastStirred$Search", "beasts", "I", false)
  | _ => ("LastStirred$Search", "ways", "I", false)
def tyX3 : Nat → FieldType := fun k => match k with
  | 0 => .array (.object "LastStirred$Flock")
  | 1 => .array .int
  | 2 => .boolean
  | 3 => .int
  | 4 => .int
  | 5 => .int
  | 6 => .int
  | 7 => .int
  | _ => .int
theorem nmX3 : ∀ a, a < 9 → ∀ b, b < 9 → a ≠ b → (TX3 a).2.1 ≠ (TX3 b).2.1 := by decide +kernel
theorem tyX3_ok : ∀ k, k < 9 → parseFieldDescriptor (TX3 k).2.2.1 = some (tyX3 k) := by decide +kernel
def TX4 : u_T := fun k => match k with
  | 0 => ("LastStirred$Shelf", "place", "[[I", true)
  | _ => ("LastStirred$Shelf", "size", "[I", true)
def tyX4 : Nat → FieldType := fun k => match k with
  | 0 => .array (.array .int)
  | _ => .array .int
theorem nmX4 : ∀ a, a < 2 → ∀ b, b < 2 → a ≠ b → (TX4 a).2.1 ≠ (TX4 b).2.1 := by decide +kernel
theorem tyX4_ok : ∀ k, k < 2 → parseFieldDescriptor (TX4 k).2.2.1 = some (tyX4 k) := by decide +kernel
def TX5 : u_T := fun k => match k with
  | 0 => ("LastStirred$Watch", "behind", "[LLastStirred$Flock;", true)
  | 1 => ("LastStirred$Watch", "turns", "I", false)
  | 2 => ("LastStirred$Watch", "lostNow", "I", false)
  | _ => ("LastStirred$Watch", "first", "I", false)
def tyX5 : Nat → FieldType := fun k => match k with
  | 0 => .array (.object "LastStirred$Flock")
  | 1 => .int
  | 2 => .int
  | _ => .int
theorem nmX5 : ∀ a, a < 4 → ∀ b, b < 4 → a ≠ b → (TX5 a).2.1 ≠ (TX5 b).2.1 := by decide +kernel
theorem tyX5_ok : ∀ k, k < 4 → parseFieldDescriptor (TX5 k).2.2.1 = some (tyX5 k) := by decide +kernel
def TX6 : u_T := fun k => match k with
  | 0 => ("LastStirred", "rows", "LLastStirred$Shelf;", true)
  | 1 => ("LastStirred", "texts", "LLastStirred$Shelf;", true)
  | 2 => ("LastStirred", "reader", "LLastStirred$Reader;", true)
  | 3 => ("LastStirred", "ground", "LLastStirred$Ground;", true)
  | 4 => ("LastStirred", "flock", "LLastStirred$Flock;", true)
  | 5 => ("LastStirred", "kept", "[LLastStirred$Flock;", true)
  | 6 => ("LastStirred", "trial", "LLastStirred$Flock;", true)
  | 7 => ("LastStirred", "trail", "[J", true)
  | 8 => ("LastStirred", "search", "LLastStirred$Search;", true)
  | 9 => ("LastStirred", "watch", "LLastStirred$Watch;", true)
  | 10 => ("LastStirred", "found", "[I", true)
  | 11 => ("LastStirred", "keptPlaces", "I", false)
  | 12 => ("LastStirred", "latest", "I", false)
  | 13 => ("LastStirred", "told", "I", false)
  | 14 => ("LastStirred", "up", "J", false)
  | _ => ("LastStirred", "low", "J", false)
def tyX6 : Nat → FieldType := fun k => match k with
  | 0 => .object "LastStirred$Shelf"
  | 1 => .object "LastStirred$Shelf"
  | 2 => .object "LastStirred$Reader"
  | 3 => .object "LastStirred$Ground"
  | 4 => .object "LastStirred$Flock"
  | 5 => .array (.object "LastStirred$Flock")
  | 6 => .object "LastStirred$Flock"
  | 7 => .array .long
  | 8 => .object "LastStirred$Search"
  | 9 => .object "LastStirred$Watch"
  | 10 => .array .int
  | 11 => .int
  | 12 => .int
  | 13 => .int
  | 14 => .long
  | _ => .long
theorem nmX6 : ∀ a, a < 16 → ∀ b, b < 16 → a ≠ b → (TX6 a).2.1 ≠ (TX6 b).2.1 := by decide +kernel
theorem tyX6_ok : ∀ k, k < 16 → parseFieldDescriptor (TX6 k).2.2.1 = some (tyX6 k) := by decide +kernel
def TX7 : u_T := fun k => match k with
  | 0 => ("LastStirredModel", "latest", "I", false)
  | 1 => ("LastStirredModel", "came", "[I", true)
  | 2 => ("LastStirredModel", "asked", "I", false)
  | 3 => ("LastStirredModel", "upper", "J", false)
  | 4 => ("LastStirredModel", "lower", "J", false)
  | 5 => ("LastStirredModel", "sizes", "[I", true)
  | 6 => ("LastStirredModel", "rows", "[I", true)
  | 7 => ("LastStirredModel", "copied", "[I", true)
  | 8 => ("LastStirredModel", "textSizes", "[I", true)
  | 9 => ("LastStirredModel", "bytes", "[B", true)
  | 10 => ("LastStirredModel", "wide", "I", false)
  | 11 => ("LastStirredModel", "cells", "I", false)
  | 12 => ("LastStirredModel", "ground", "[I", true)
  | 13 => ("LastStirredModel", "n", "I", false)
  | 14 => ("LastStirredModel", "kinds", "[I", true)
  | 15 => ("LastStirredModel", "readAt", "I", false)
  | 16 => ("LastStirredModel", "readNumber", "I", false)
  | 17 => ("LastStirredModel", "readWide", "I", false)
  | 18 => ("LastStirredModel", "readHigh", "I", false)
  | 19 => ("LastStirredModel", "readCells", "I", false)
  | 20 => ("LastStirredModel", "readMany", "I", false)
  | 21 => ("LastStirredModel", "readGround", "[I", true)
  | 22 => ("LastStirredModel", "readKinds", "[I", true)
  | 23 => ("LastStirredModel", "readPlaces", "[I", true)
  | 24 => ("LastStirredModel", "flocks", "[I", true)
  | 25 => ("LastStirredModel", "isKept", "[Z", true)
  | 26 => ("LastStirredModel", "isGateUsed", "Z", false)
  | 27 => ("LastStirredModel", "went", "I", false)
  | 28 => ("LastStirredModel", "aims", "[I", true)
  | 29 => ("LastStirredModel", "stand", "Z", false)
  | 30 => ("LastStirredModel", "runWent", "I", false)
  | 31 => ("LastStirredModel", "states", "[J", true)
  | 32 => ("LastStirredModel", "rowsAll", "I", false)
  | 33 => ("LastStirredModel", "rowsGood", "I", false)
  | 34 => ("LastStirredModel", "rowFirst", "I", false)
  | 35 => ("LastStirredModel", "firstBeasts", "I", false)
  | 36 => ("LastStirredModel", "firstWays", "I", false)
  | 37 => ("LastStirredModel", "were", "[I", true)
  | _ => ("LastStirredModel", "hash", "J", false)
def tyX7 : Nat → FieldType := fun k => match k with
  | 0 => .int
  | 1 => .array .int
  | 2 => .int
  | 3 => .long
  | 4 => .long
  | 5 => .array .int
  | 6 => .array .int
  | 7 => .array .int
  | 8 => .array .int
  | 9 => .array .byte
  | 10 => .int
  | 11 => .int
  | 12 => .array .int
  | 13 => .int
  | 14 => .array .int
  | 15 => .int
  | 16 => .int
  | 17 => .int
  | 18 => .int
  | 19 => .int
  | 20 => .int
  | 21 => .array .int
  | 22 => .array .int
  | 23 => .array .int
  | 24 => .array .int
  | 25 => .array .boolean
  | 26 => .boolean
  | 27 => .int
  | 28 => .array .int
  | 29 => .boolean
  | 30 => .int
  | 31 => .array .long
  | 32 => .int
  | 33 => .int
  | 34 => .int
  | 35 => .int
  | 36 => .int
  | 37 => .array .int
  | _ => .long
theorem nmX7 : ∀ a, a < 39 → ∀ b, b < 39 → a ≠ b → (TX7 a).2.1 ≠ (TX7 b).2.1 := by decide +kernel
theorem tyX7_ok : ∀ k, k < 39 → parseFieldDescriptor (TX7 k).2.2.1 = some (tyX7 k) := by decide +kernel
abbrev j_cls : List vw_C := [(RX0, TX0, 10), (RX1, TX1, 6), (RX2, TX2, 5), (RX3, TX3, 9), (RX4, TX4, 2), (RX5, TX5, 4), (RX6, TX6, 16), (RX7, TX7, 39)]
def j_CN : Nat → String := fun k => match k with
  | 0 => RX0
  | 1 => RX1
  | 2 => RX2
  | 3 => RX3
  | 4 => RX4
  | 5 => RX5
  | 6 => RX6
  | 7 => RX7
  | 8 => RX8
  | 9 => RX9
  | 10 => RX10
  | 11 => RX11
  | 12 => RX12
  | _ => RX13
def j_mN : List MethodName := [⟨RX0, "<init>", "()V"⟩,
  ⟨RX0, "clear", "()V"⟩,
  ⟨RX0, "add", "(II)V"⟩,
  ⟨RX0, "take", "(LLastStirred$Flock;)V"⟩,
  ⟨RX0, "forgetGone", "()V"⟩,
  ⟨RX0, "has", "(I)Z"⟩,
  ⟨RX0, "isLost", "(I)Z"⟩,
  ⟨RX0, "isIn", "(I)Z"⟩,
  ⟨RX0, "whoIsIn", "(I)I"⟩,
  ⟨RX0, "isOf", "(II)Z"⟩,
  ⟨RX0, "isShy", "(I)Z"⟩,
  ⟨RX0, "isSlow", "(I)Z"⟩,
  ⟨RX0, "tells", "(II)I"⟩,
  ⟨RX0, "drives", "()I"⟩,
  ⟨RX0, "lostOnes", "()I"⟩,
  ⟨RX0, "shyOnes", "()I"⟩,
  ⟨RX0, "allOff", "(LLastStirred$Ground;)I"⟩,
  ⟨RX0, "areSafe", "(LLastStirred$Ground;)Z"⟩,
  ⟨RX0, "areAt", "([I)Z"⟩,
  ⟨RX0, "inOneNumber", "()J"⟩,
  ⟨RX0, "joined", "(JI)J"⟩,
  ⟨RX0, "aimOf", "(I)I"⟩,
  ⟨RX0, "can", "(LLastStirred$Ground;IIZ)Z"⟩,
  ⟨RX0, "move", "(LLastStirred$Ground;II)V"⟩,
  ⟨RX0, "becomesLast", "(II)V"⟩,
  ⟨RX0, "stirBy", "(LLastStirred$Ground;II)I"⟩,
  ⟨RX0, "takeStep", "(LLastStirred$Ground;)I"⟩,
  ⟨RX0, "nextCell", "(LLastStirred$Ground;IZ)I"⟩,
  ⟨RX0, "runOut", "(LLastStirred$Ground;)Z"⟩,
  ⟨RX0, "driveBy", "(LLastStirred$Ground;I)Z"⟩,
  ⟨RX0, "fleeFrom", "(LLastStirred$Ground;I)I"⟩,
  ⟨RX0, "wayTo", "(LLastStirred$Ground;II)I"⟩,
  ⟨RX1, "<init>", "()V"⟩,
  ⟨RX1, "spread", "(II)V"⟩,
  ⟨RX1, "take", "(LLastStirred$Ground;)V"⟩,
  ⟨RX1, "has", "(I)Z"⟩,
  ⟨RX1, "isOpen", "(I)Z"⟩,
  ⟨RX1, "off", "(II)I"⟩,
  ⟨RX1, "beside", "(II)I"⟩,
  ⟨RX1, "howMany", "(I)I"⟩,
  ⟨RX1, "reachFrom", "(IZ)I"⟩,
  ⟨RX1, "openBeside", "(IZ)I"⟩,
  ⟨RX2, "<init>", "()V"⟩,
  ⟨RX2, "readAll", "([II)I"⟩,
  ⟨RX2, "readSize", "()Z"⟩,
  ⟨RX2, "readCells", "()Z"⟩,
  ⟨RX2, "readBeasts", "()Z"⟩,
  ⟨RX2, "readBeast", "()Z"⟩,
  ⟨RX2, "skipBlanks", "()V"⟩,
  ⟨RX2, "sign", "()I"⟩,
  ⟨RX2, "figure", "(II)I"⟩,
  ⟨RX3, "<init>", "()V"⟩,
  ⟨RX3, "seekSafe", "()V"⟩,
  ⟨RX3, "seekDawn", "([I)V"⟩,
  ⟨RX3, "fewFrom", "(LLastStirred$Ground;LLastStirred$Flock;I)I"⟩,
  ⟨RX3, "allFrom", "(LLastStirred$Ground;LLastStirred$Flock;I)V"⟩,
  ⟨RX3, "begin", "(LLastStirred$Flock;I)V"⟩,
  ⟨RX3, "follow", "(LLastStirred$Search;LLastStirred$Ground;II)V"⟩,
  ⟨RX3, "note", "(LLastStirred$Ground;II)V"⟩,
  ⟨RX4, "<init>", "([[I)V"⟩,
  ⟨RX4, "has", "(I)Z"⟩,
  ⟨RX4, "make", "(III)V"⟩,
  ⟨RX4, "thereAre", "()I"⟩,
  ⟨RX4, "addTo", "(J)J"⟩,
  ⟨RX5, "<init>", "()V"⟩,
  ⟨RX5, "keepsAll", "(LLastStirred$Ground;LLastStirred$Flock;II)Z"⟩,
  ⟨RX5, "shepherdKeeps", "(LLastStirred$Ground;II)Z"⟩,
  ⟨RX5, "wolfFails", "(LLastStirred$Ground;II)Z"⟩,
  ⟨RX6, "<init>", "()V"⟩,
  ⟨RX6, "row", "(II)I"⟩,
  ⟨RX6, "lay", "(III)I"⟩,
  ⟨RX6, "at", "(II)I"⟩,
  ⟨RX6, "tear", "(I)I"⟩,
  ⟨RX6, "copy", "(IIIII)I"⟩,
  ⟨RX6, "mean", "(I)I"⟩,
  ⟨RX6, "text", "(II)I"⟩,
  ⟨RX6, "put", "(III)I"⟩,
  ⟨RX6, "fault", "(I)I"⟩,
  ⟨RX6, "ground", "(I)I"⟩,
  ⟨RX6, "cell", "(I)I"⟩,
  ⟨RX6, "build", "(II)I"⟩,
  ⟨RX6, "beast", "(II)I"⟩,
  ⟨RX6, "mark", "(II)I"⟩,
  ⟨RX6, "last", "()I"⟩,
  ⟨RX6, "stir", "(II)I"⟩,
  ⟨RX6, "go", "(I)I"⟩,
  ⟨RX6, "run", "()I"⟩,
  ⟨RX6, "ring", "()I"⟩,
  ⟨RX6, "where", "(I)I"⟩,
  ⟨RX6, "apart", "()I"⟩,
  ⟨RX6, "keep", "(I)I"⟩,
  ⟨RX6, "on", "(I)I"⟩,
  ⟨RX6, "fewest", "()I"⟩,
  ⟨RX6, "ways", "(I)I"⟩,
  ⟨RX6, "gather", "()I"⟩,
  ⟨RX6, "part", "(II)I"⟩,
  ⟨RX6, "worth", "(II)I"⟩,
  ⟨RX6, "stone", "(I)I"⟩,
  ⟨RX6, "drive", "(I)I"⟩,
  ⟨RX6, "reach", "(II)I"⟩,
  ⟨RX6, "never", "()I"⟩,
  ⟨RX6, "wolf", "(II)I"⟩,
  ⟨RX6, "dawn", "(I)I"⟩,
  ⟨RX6, "who", "(I)I"⟩,
  ⟨RX6, "breed", "(I)I"⟩,
  ⟨RX6, "asked", "()I"⟩,
  ⟨RX6, "upper", "()J"⟩,
  ⟨RX6, "lower", "()J"⟩,
  ⟨RX6, "count", "(I)I"⟩,
  ⟨RX6, "finding", "()I"⟩,
  ⟨RX6, "findings", "(I)I"⟩,
  ⟨RX6, "digest", "()J"⟩,
  ⟨RX6, "finds", "(I)I"⟩,
  ⟨RX6, "makeIn", "(LLastStirred$Shelf;III)I"⟩,
  ⟨RX6, "refusedMissing", "(LLastStirred$Shelf;I)I"⟩,
  ⟨RX6, "refusedPlace", "(LLastStirred$Shelf;II)I"⟩,
  ⟨RX6, "refusedDawn", "(I)I"⟩,
  ⟨RX6, "fits", "(III)Z"⟩,
  ⟨RX6, "isWay", "(I)Z"⟩,
  ⟨RX6, "isPlace", "(I)Z"⟩,
  ⟨RX6, "isKept", "(I)Z"⟩,
  ⟨RX6, "offLast", "(I)I"⟩,
  ⟨RX6, "othersNear", "(I)I"⟩,
  ⟨RX6, "tryDrive", "(I)Z"⟩,
  ⟨RX6, "tellFraction", "(II)V"⟩,
  ⟨RX6, "placeOf", "([II)I"⟩,
  ⟨RX7, "<init>", "()V"⟩,
  ⟨RX7, "in", "(III)Z"⟩,
  ⟨RX7, "has", "(II)Z"⟩,
  ⟨RX7, "bits", "(I)I"⟩,
  ⟨RX7, "size", "(I)I"⟩,
  ⟨RX7, "meets", "(I)I"⟩,
  ⟨RX7, "finding", "()I"⟩,
  ⟨RX7, "findings", "(I)I"⟩,
  ⟨RX7, "tells", "(II)I"⟩,
  ⟨RX7, "asked", "()I"⟩,
  ⟨RX7, "fraction", "(JJI)I"⟩,
  ⟨RX7, "upper", "()J"⟩,
  ⟨RX7, "lower", "()J"⟩,
  ⟨RX7, "isRow", "(I)Z"⟩,
  ⟨RX7, "rowAt", "(II)I"⟩,
  ⟨RX7, "row", "(II)I"⟩,
  ⟨RX7, "lay", "(III)I"⟩,
  ⟨RX7, "at", "(II)I"⟩,
  ⟨RX7, "tear", "(I)I"⟩,
  ⟨RX7, "copy", "(IIIII)I"⟩,
  ⟨RX7, "mean", "(I)I"⟩,
  ⟨RX7, "isText", "(I)Z"⟩,
  ⟨RX7, "text", "(II)I"⟩,
  ⟨RX7, "put", "(III)I"⟩,
  ⟨RX7, "byteAt", "(II)I"⟩,
  ⟨RX7, "signOf", "(I)I"⟩,
  ⟨RX7, "kindOf", "(I)I"⟩,
  ⟨RX7, "figure", "(III)Z"⟩,
  ⟨RX7, "readsGrid", "(I)Z"⟩,
  ⟨RX7, "readsSign", "(I)Z"⟩,
  ⟨RX7, "readsBeast", "(I)Z"⟩,
  ⟨RX7, "faultOf", "(I)I"⟩,
  ⟨RX7, "fault", "(I)I"⟩,
  ⟨RX7, "ground", "(I)I"⟩,
  ⟨RX7, "isCell", "(I)Z"⟩,
  ⟨RX7, "isBeast", "(I)Z"⟩,
  ⟨RX7, "v", "(II)I"⟩,
  ⟨RX7, "place", "(III)V"⟩,
  ⟨RX7, "copyFlock", "(II)V"⟩,
  ⟨RX7, "isLost", "(II)Z"⟩,
  ⟨RX7, "lostMany", "(I)I"⟩,
  ⟨RX7, "whoIn", "(III)I"⟩,
  ⟨RX7, "off", "(II)I"⟩,
  ⟨RX7, "cell", "(I)I"⟩,
  ⟨RX7, "build", "(II)I"⟩,
  ⟨RX7, "beastTells", "(II)I"⟩,
  ⟨RX7, "beast", "(II)I"⟩,
  ⟨RX7, "isShy", "(I)Z"⟩,
  ⟨RX7, "isSlow", "(I)Z"⟩,
  ⟨RX7, "aimOf", "(II)I"⟩,
  ⟨RX7, "near", "(I)I"⟩,
  ⟨RX7, "gates", "()I"⟩,
  ⟨RX7, "mark", "(II)I"⟩,
  ⟨RX7, "last", "()I"⟩,
  ⟨RX7, "can", "(III)Z"⟩,
  ⟨RX7, "by", "(III)I"⟩,
  ⟨RX7, "goesTo", "(III)Z"⟩,
  ⟨RX7, "becomesLast", "(III)V"⟩,
  ⟨RX7, "sign", "(I)I"⟩,
  ⟨RX7, "goes", "(III)Z"⟩,
  ⟨RX7, "stepOf", "(I)I"⟩,
  ⟨RX7, "runs", "(I)I"⟩,
  ⟨RX7, "stirs", "(III)Z"⟩,
  ⟨RX7, "drives", "(II)Z"⟩,
  ⟨RX7, "stir", "(II)I"⟩,
  ⟨RX7, "go", "(I)I"⟩,
  ⟨RX7, "run", "()I"⟩,
  ⟨RX7, "stateOf", "(I)J"⟩,
  ⟨RX7, "ring", "()I"⟩,
  ⟨RX7, "where", "(I)I"⟩,
  ⟨RX7, "apartOf", "(I)I"⟩,
  ⟨RX7, "apart", "()I"⟩,
  ⟨RX7, "keep", "(I)I"⟩,
  ⟨RX7, "on", "(I)I"⟩,
  ⟨RX7, "isSafe", "(I)Z"⟩,
  ⟨RX7, "codes", "()I"⟩,
  ⟨RX7, "driven", "(II)Z"⟩,
  ⟨RX7, "isWanted", "(II)Z"⟩,
  ⟨RX7, "layRows", "(II)V"⟩,
  ⟨RX7, "layDeeper", "(III)V"⟩,
  ⟨RX7, "layRow", "(IIII)V"⟩,
  ⟨RX7, "fewestOf", "(II)I"⟩,
  ⟨RX7, "fewest", "()I"⟩,
  ⟨RX7, "ways", "(I)I"⟩,
  ⟨RX7, "gather", "()I"⟩,
  ⟨RX7, "part", "(II)I"⟩,
  ⟨RX7, "wentIn", "(I)I"⟩,
  ⟨RX7, "worth", "(II)I"⟩,
  ⟨RX7, "stone", "(I)I"⟩,
  ⟨RX7, "drive", "(I)I"⟩,
  ⟨RX7, "isOpen", "(IZ)Z"⟩,
  ⟨RX7, "reached", "(IZ)I"⟩,
  ⟨RX7, "reach", "(II)I"⟩,
  ⟨RX7, "never", "()I"⟩,
  ⟨RX7, "wolfTo", "(II)I"⟩,
  ⟨RX7, "keeps", "(IIII)Z"⟩,
  ⟨RX7, "canKeep", "(II)Z"⟩,
  ⟨RX7, "keepsLast", "(III)Z"⟩,
  ⟨RX7, "wolf", "(II)I"⟩,
  ⟨RX7, "needDawn", "(I)I"⟩,
  ⟨RX7, "dawn", "(I)I"⟩,
  ⟨RX7, "who", "(I)I"⟩,
  ⟨RX7, "breed", "(I)I"⟩,
  ⟨RX7, "counted", "(I)I"⟩,
  ⟨RX7, "count", "(I)I"⟩,
  ⟨RX7, "mix", "(J)V"⟩,
  ⟨RX7, "mixFlock", "()V"⟩,
  ⟨RX7, "digest", "()J"⟩,
  ⟨RX9, "bitCount", "(I)I"⟩,
  ⟨RX11, "fill", "([II)V"⟩,
  ⟨RX8, "law", "([I)Z"⟩]
def j_mB : List ByteArray := [prog_2_method_1_code, prog_2_method_2_code, prog_2_method_3_code, prog_2_method_4_code, prog_2_method_5_code, prog_2_method_6_code, prog_2_method_7_code, prog_2_method_8_code, prog_2_method_9_code, prog_2_method_10_code, prog_2_method_11_code, prog_2_method_12_code, prog_2_method_13_code, prog_2_method_14_code, prog_2_method_15_code, prog_2_method_16_code, prog_2_method_17_code, prog_2_method_18_code, prog_2_method_19_code, prog_2_method_20_code, prog_2_method_21_code, prog_2_method_22_code, prog_2_method_23_code, prog_2_method_24_code, prog_2_method_25_code, prog_2_method_26_code, prog_2_method_27_code, prog_2_method_28_code, prog_2_method_29_code, prog_2_method_30_code, prog_2_method_31_code, prog_2_method_32_code, prog_3_method_1_code, prog_3_method_2_code, prog_3_method_3_code, prog_3_method_4_code, prog_3_method_5_code, prog_3_method_6_code, prog_3_method_7_code, prog_3_method_8_code, prog_3_method_9_code, prog_3_method_10_code, prog_4_method_1_code, prog_4_method_2_code, prog_4_method_3_code, prog_4_method_4_code, prog_4_method_5_code, prog_4_method_6_code, prog_4_method_7_code, prog_4_method_8_code, prog_4_method_9_code, prog_5_method_1_code, prog_5_method_2_code, prog_5_method_3_code, prog_5_method_4_code, prog_5_method_5_code, prog_5_method_6_code, prog_5_method_7_code, prog_5_method_8_code, prog_6_method_1_code, prog_6_method_2_code, prog_6_method_3_code, prog_6_method_4_code, prog_6_method_5_code, prog_7_method_1_code, prog_7_method_2_code, prog_7_method_3_code, prog_7_method_4_code, prog_1_method_1_code, prog_1_method_2_code, prog_1_method_3_code, prog_1_method_4_code, prog_1_method_5_code, prog_1_method_6_code, prog_1_method_7_code, prog_1_method_8_code, prog_1_method_9_code, prog_1_method_10_code, prog_1_method_11_code, prog_1_method_12_code, prog_1_method_13_code, prog_1_method_14_code, prog_1_method_15_code, prog_1_method_16_code, prog_1_method_17_code, prog_1_method_18_code, prog_1_method_19_code, prog_1_method_20_code, prog_1_method_21_code, prog_1_method_22_code, prog_1_method_23_code, prog_1_method_24_code, prog_1_method_25_code, prog_1_method_26_code, prog_1_method_27_code, prog_1_method_28_code, prog_1_method_29_code, prog_1_method_30_code, prog_1_method_31_code, prog_1_method_32_code, prog_1_method_33_code, prog_1_method_34_code, prog_1_method_35_code, prog_1_method_36_code, prog_1_method_37_code, prog_1_method_38_code, prog_1_method_39_code, prog_1_method_40_code, prog_1_method_41_code, prog_1_method_42_code, prog_1_method_43_code, prog_1_method_44_code, prog_1_method_45_code, prog_1_method_46_code, prog_1_method_47_code, prog_1_method_48_code, prog_1_method_49_code, prog_1_method_50_code, prog_1_method_51_code, prog_1_method_52_code, prog_1_method_53_code, prog_1_method_54_code, prog_1_method_55_code, prog_1_method_56_code, prog_1_method_57_code, prog_1_method_58_code, prog_9_method_1_code, prog_9_method_2_code, prog_9_method_3_code, prog_9_method_4_code, prog_9_method_5_code, prog_9_method_6_code, prog_9_method_7_code, prog_9_method_8_code, prog_9_method_9_code, prog_9_method_10_code, prog_9_method_11_code, prog_9_method_12_code, prog_9_method_13_code, prog_9_method_14_code, prog_9_method_15_code, prog_9_method_16_code, prog_9_method_17_code, prog_9_method_18_code, prog_9_method_19_code, prog_9_method_20_code, prog_9_method_21_code, prog_9_method_22_code, prog_9_method_23_code, prog_9_method_24_code, prog_9_method_25_code, prog_9_method_26_code, prog_9_method_27_code, prog_9_method_28_code, prog_9_method_29_code, prog_9_method_30_code, prog_9_method_31_code, prog_9_method_32_code, prog_9_method_33_code, prog_9_method_34_code, prog_9_method_35_code, prog_9_method_36_code, prog_9_method_37_code, prog_9_method_38_code, prog_9_method_39_code, prog_9_method_40_code, prog_9_method_41_code, prog_9_method_42_code, prog_9_method_43_code, prog_9_method_44_code, prog_9_method_45_code, prog_9_method_46_code, prog_9_method_47_code, prog_9_method_48_code, prog_9_method_49_code, prog_9_method_50_code, prog_9_method_51_code, prog_9_method_52_code, prog_9_method_53_code, prog_9_method_54_code, prog_9_method_55_code, prog_9_method_56_code, prog_9_method_57_code, prog_9_method_58_code, prog_9_method_59_code, prog_9_method_60_code, prog_9_method_61_code, prog_9_method_62_code, prog_9_method_63_code, prog_9_method_64_code, prog_9_method_65_code, prog_9_method_66_code, prog_9_method_67_code, prog_9_method_68_code, prog_9_method_69_code, prog_9_method_70_code, prog_9_method_71_code, prog_9_method_72_code, prog_9_method_73_code, prog_9_method_74_code, prog_9_method_75_code, prog_9_method_76_code, prog_9_method_77_code, prog_9_method_78_code, prog_9_method_79_code, prog_9_method_80_code, prog_9_method_81_code, prog_9_method_82_code, prog_9_method_83_code, prog_9_method_84_code, prog_9_method_85_code, prog_9_method_86_code, prog_9_method_87_code, prog_9_method_88_code, prog_9_method_89_code, prog_9_method_90_code, prog_9_method_91_code, prog_9_method_92_code, prog_9_method_93_code, prog_9_method_94_code, prog_9_method_95_code, prog_9_method_96_code, prog_9_method_97_code, prog_9_method_98_code, prog_9_method_99_code, prog_9_method_100_code, prog_9_method_101_code, prog_9_method_102_code, prog_9_method_103_code, prog_9_method_104_code, prog_9_method_105_code, prog_9_method_106_code, prog_9_method_107_code, prog_9_method_108_code, prog_10_method_49_code, prog_13_method_103_code, code]
def j_mL : List Nat := [1, 1, 3, 3, 1, 2, 2, 2, 3, 3, 2, 2, 3, 1, 3, 3, 5, 3, 3, 4, 3, 2, 5, 4, 3, 5, 8, 16, 4, 3, 8, 4, 1, 5, 2, 2, 2, 3, 5, 4, 7, 6, 1, 3, 3, 3, 2, 5, 1, 1, 4, 1, 1, 2, 5, 4, 3, 6, 6, 2, 2, 4, 6, 7, 1, 5, 6, 6, 1, 3, 5, 4, 3, 6, 7, 3, 6, 3, 3, 2, 4, 3, 3, 1, 4, 4, 2, 3, 3, 1, 2, 2, 2, 2, 6, 7, 6, 2, 5, 3, 5, 4, 4, 4, 2, 1, 1, 1, 2, 1, 2, 5, 2, 5, 3, 5, 5, 3, 1, 2, 2, 2, 4, 2, 4, 3, 2, 3, 2, 3, 1, 2, 1, 2, 3, 1, 12, 1, 1, 1, 3, 4, 5, 3, 2, 7, 5, 1, 4, 5, 3, 1, 1, 5, 3, 3, 7, 2, 2, 3, 2, 2, 3, 4, 4, 3, 4, 5, 3, 2, 4, 3, 3, 2, 2, 3, 4, 3, 3, 1, 4, 6, 4, 4, 1, 13, 6, 5, 5, 3, 3, 4, 2, 5, 3, 3, 5, 1, 2, 2, 4, 1, 3, 5, 4, 6, 5, 4, 2, 2, 5, 8, 4, 4, 7, 4, 3, 10, 3, 5, 4, 8, 5, 7, 4, 4, 4, 4, 4, 4, 2, 3, 3, 3, 1, 4, 4]
def j_mR : List (Option FieldType) := [none, none, none, none, none, some .boolean, some .boolean, some .boolean, some .int, some .boolean, some .boolean, some .boolean, some .int, some .int, some .int, some .int, some .int, some .boolean, some .boolean, some .long, some .long, some .int, some .boolean, none, none, some .int, some .int, some .int, some .boolean, some .boolean, some .int, some .int, none, none, none, some .boolean, some .boolean, some .int, some .int, some .int, some .int, some .int, none, some .int, some .boolean, some .boolean, some .boolean, some .boolean, none, some .int, some .int, none, none, none, some .int, none, none, none, none, none, some .boolean, none, some .int, some .long, none, some .boolean, some .boolean, some .boolean, none, some .int, some .int, some .int, some .int, some .int, some .int, some .int, some .int, some .int, some .int, some .int, some .int, some .int, some .int, some .int, some .int, some .int, some .int, some .int, some .int, some .int, some .int, some .int, some .int, some .int, some .int, some .int, some .int, some .int, some .int, some .int, some .int, some .int, some .int, some .int, some .int, some .int, some .long, some .long, some .int, some .int, some .int, some .long, some .int, some .int, some .int, some .int, some .int, some .boolean, some .boolean, some .boolean, some .boolean, some .int, some .int, some .boolean, none, some .int, none, some .boolean, some .boolean, some .int, some .int, some .int, some .int, some .int, some .int, some .int, some .int, some .long, some .long, some .boolean, some .int, some .int, some .int, some .int, some .int, some .int, some .int, some .boolean, some .int, some .int, some .int, some .int, some .int, some .boolean, some .boolean, some .boolean, some .boolean, some .int, some .int, some .int, some .boolean, some .boolean, some .int, none, none, some .boolean, some .int, some .int, some .int, some .int, some .int, some .int, some .int, some .boolean, some .boolean, some .int, some .int, some .int, some .int, some .int, some .boolean, some .int, some .boolean, none, some .int, some .boolean, some .int, some .int, some .boolean, some .boolean, some .int, some .int, some .int, some .long, some .int, some .int, some .int, some .int, some .int, some .int, some .boolean, some .int, some .boolean, some .boolean, none, none, none, some .int, some .int, some .int, some .int, some .int, some .int, some .int, some .int, some .int, some .boolean, some .int, some .int, some .int, some .int, some .boolean, some .boolean, some .boolean, some .int, some .int, some .int, some .int, some .int, some .int, some .int, none, none, some .long, some .int, none, some .boolean]
end
section
/-! ===== THE LITTLE MACHINE: frames, instructions and calls as one computable function over named cells; that the JVM follows it is part 06 ===== -/
/-- the read-only cells (static tables, the script) have names from here on -/
def j_b : Nat := 1000000
/-- what a named cell is: an object of a class, or an array of a type with so many places -/
abbrev j_Sh : Type := Nat ⊕ (FieldType × Nat)
/-- a store: shapes, references, ints, longs (by cell and place), how many cells and slots were made -/
abbrev Sto : Type := (Nat → Option j_Sh) × (Nat → Nat → Option Nat) × (Nat → Nat → Int32) × (Nat → Nat → Int64) × Nat × Nat
abbrev Rr : Type := Option Value × Sto
abbrev s_sh (σ : Sto) : Nat → Option j_Sh := σ.1
abbrev s_P (σ : Sto) : Nat → Nat → Option Nat := σ.2.1
abbrev s_I (σ : Sto) : Nat → Nat → Int32 := σ.2.2.1
abbrev s_J (σ : Sto) : Nat → Nat → Int64 := σ.2.2.2.1
abbrev s_n (σ : Sto) : Nat := σ.2.2.2.2.1
abbrev s_l (σ : Sto) : Nat := σ.2.2.2.2.2
def u1 {α : Type} (f : Nat → α) (k : Nat) (v : α) : Nat → α := fun k' => if k' = k then v else f k'
def u2 {α : Type} (f : Nat → Nat → α) (r k : Nat) (v : α) : Nat → Nat → α := u1 f r (u1 (f r) k v)
abbrev s_uP (σ : Sto) (r k : Nat) (v : Option Nat) : Sto := (σ.1, u2 σ.2.1 r k v, σ.2.2)
abbrev s_uI (σ : Sto) (r k : Nat) (v : Int32) : Sto := (σ.1, σ.2.1, u2 σ.2.2.1 r k v, σ.2.2.2)
abbrev s_uJ (σ : Sto) (r k : Nat) (v : Int64) : Sto := (σ.1, σ.2.1, σ.2.2.1, u2 σ.2.2.2.1 r k v, σ.2.2.2.2)
/-- the row of ints of a cell anew -/
abbrev s_rI (σ : Sto) (r : Nat) (f : Nat → Int32) : Sto := (σ.1, σ.2.1, u1 σ.2.2.1 r f, σ.2.2.2)
/-- a new cell -/
abbrev s_al (σ : Sto) (h : j_Sh) (n : Nat) : Sto := (u1 σ.1 σ.2.2.2.2.1 (some h), u1 σ.2.1 σ.2.2.2.2.1 (fun _ => none), u1 σ.2.2.1 σ.2.2.2.2.1 (fun _ => 0), u1 σ.2.2.2.1 σ.2.2.2.2.1 (fun _ => 0), σ.2.2.2.2.1 + 1, σ.2.2.2.2.2 + n)
/-- new int[n][k]: the outer cell, then the rows -/
def s_mn (σ : Sto) (n k : Nat) : Sto := (fun r => if r < σ.2.2.2.2.1 then σ.1 r else if r = σ.2.2.2.2.1 then some (.inr (.array .int, n)) else if r < σ.2.2.2.2.1 + 1 + n then some (.inr (.int, k)) else σ.1 r, fun r i => if r = σ.2.2.2.2.1 then (if i < n then some (r + 1 + i) else none) else if σ.2.2.2.2.1 < r ∧ r < σ.2.2.2.2.1 + 1 + n then none else σ.2.1 r i, fun r i => if σ.2.2.2.2.1 ≤ r ∧ r < σ.2.2.2.2.1 + 1 + n then 0 else σ.2.2.1 r i, fun r i => if σ.2.2.2.2.1 ≤ r ∧ r < σ.2.2.2.2.1 + 1 + n then 0 else σ.2.2.2.1 r i, σ.2.2.2.2.1 + 1 + n, σ.2.2.2.2.2 + n + n * k)
/-- an index within -/
abbrev j_in (i : Int32) (n : Nat) : Prop := ¬ i < 0 ∧ i.toNatClampNeg < n
/-- a cell that is an object of the class ci -/
def j_oc (σ : Sto) (ci r : Nat) (K : Option Rr) : Option Rr := if σ.1 r = some (.inl ci) then K else none
/-- places of arrays: ints, bytes, booleans, longs, references -/
def j_ia (σ : Sto) (r : Nat) (i : Int32) (K : Option Rr) : Option Rr := match σ.1 r with
  | some (.inr (.int, n)) => if j_in i n then K else none
  | _ => none
def j_ba (σ : Sto) (r : Nat) (i : Int32) (K : Option Rr) : Option Rr := match σ.1 r with
  | some (.inr (.byte, n)) => if j_in i n then K else none
  | some (.inr (.boolean, n)) => if j_in i n then K else none
  | _ => none
def j_la (σ : Sto) (r : Nat) (i : Int32) (K : Option Rr) : Option Rr := match σ.1 r with
  | some (.inr (.long, n)) => if j_in i n then K else none
  | _ => none
def j_qa (σ : Sto) (r : Nat) (i : Int32) (K : Nat → Option Rr) : Option Rr := match σ.1 r with
  | some (.inr (.object C, n)) => if C = RX0 ∧ j_in i n then (match σ.2.1 r i.toNatClampNeg with | some q => K q | none => none) else none
  | some (.inr (.array .int, n)) => if j_in i n then (match σ.2.1 r i.toNatClampNeg with | some q => K q | none => none) else none
  | _ => none
def j_gP (σ : Sto) (ci r k : Nat) (K : Nat → Option Rr) : Option Rr := if σ.1 r = some (.inl ci) then (match σ.2.1 r k with | some q => K q | none => none) else none
def j_len (σ : Sto) (r : Nat) (K : Int32 → Option Rr) : Option Rr := match σ.1 r with
  | some (.inr (.int, n)) => K (Int32.ofNat n)
  | some (.inr (.object C, n)) => if C = RX0 then K (Int32.ofNat n) else none
  | some (.inr (.array .int, n)) => K (Int32.ofNat n)
  | _ => none
/-- a byte or a boolean that is stored in an array -/
def j_bs (σ : Sto) (r : Nat) (i v : Int32) (K : Sto → Option Rr) : Option Rr := match σ.1 r with
  | some (.inr (.byte, n)) => if r < j_b ∧ j_in i n then K (s_uI σ r i.toNatClampNeg v.toInt8.toInt32) else none
  | some (.inr (.boolean, n)) => if r < j_b ∧ j_in i n ∧ (v = 0 ∨ v = 1) then K (s_uI σ r i.toNatClampNeg v) else none
  | _ => none
def j_is (σ : Sto) (r : Nat) (i : Int32) (K : Option Rr) : Option Rr := match σ.1 r with
  | some (.inr (.int, n)) => if r < j_b ∧ j_in i n then K else none
  | _ => none
/-- an object put into an array of its class -/
def j_qs (σ : Sto) (r : Nat) (i : Int32) (v : Nat) (K : Option Rr) : Option Rr := match σ.1 r with
  | some (.inr (.object C, n)) => if r < j_b ∧ j_in i n ∧ v < j_b ∧ C = RX0 ∧ σ.1 v = some (.inl 0) then K else none
  | _ => none
/-- System.arraycopy of ints -/
def j_ac (σ : Sto) (r : Nat) (sp : Int32) (d : Nat) (dp n : Int32) (K : Sto → Option Rr) : Option Rr := match σ.1 r, σ.1 d with
  | some (.inr (.int, n0)), some (.inr (.int, n1)) => if r < j_b ∧ d < j_b ∧ ¬ sp < 0 ∧ ¬ dp < 0 ∧ ¬ n < 0 ∧ sp.toNatClampNeg + n.toNatClampNeg ≤ n0 ∧ dp.toNatClampNeg + n.toNatClampNeg ≤ n1 then K (s_rI σ d (va_cpy (σ.2.2.1 r) (σ.2.2.1 d) sp.toNatClampNeg dp.toNatClampNeg n.toNatClampNeg)) else none
  | _, _ => none
/-- a call: of a method that answers nothing, an int, a long -/
def j_c0 (call : Nat → List Value → Sto → Option Rr) (m : Nat) (as : List Value) (σ : Sto) (K : Sto → Option Rr) : Option Rr := match call m as σ with
  | some (none, τ) => K τ
  | _ => none
def j_c1 (call : Nat → List Value → Sto → Option Rr) (m : Nat) (as : List Value) (σ : Sto) (K : Int32 → Sto → Option Rr) : Option Rr := match call m as σ with
  | some (some (.int x), τ) => K x τ
  | _ => none
def j_c2 (call : Nat → List Value → Sto → Option Rr) (m : Nat) (as : List Value) (σ : Sto) (K : Int64 → Sto → Option Rr) : Option Rr := match call m as σ with
  | some (some (.long x), τ) => K x τ
  | _ => none
def j_cl (call : Nat → List Value → Sto → Option Rr) (m rt : Nat) (as : List Value) (σ : Sto) (st : List Value) (K : List Value → Sto → Option Rr) : Option Rr := match rt with
  | 0 => j_c0 call m as σ (fun τ => K st τ)
  | 1 => j_c1 call m as σ (fun x τ => K (.int x :: st) τ)
  | _ => j_c2 call m as σ (fun x τ => K (.long x :: st) τ)
/-- locals: a place a slot -/
abbrev j_L : Type := List (Option Value)
def j_ldI (L : j_L) (k : Nat) (K : Int32 → Option Rr) : Option Rr := match L[k]? with
  | some (some (.int x)) => K x
  | _ => none
def j_ldJ (L : j_L) (k : Nat) (K : Int64 → Option Rr) : Option Rr := match L[k]? with
  | some (some (.long x)) => K x
  | _ => none
def j_ldA (L : j_L) (k : Nat) (K : Nat → Option Rr) : Option Rr := match L[k]? with
  | some (some (.ref x)) => K x
  | _ => none
def j_kill (L : j_L) (k : Nat) : j_L := match k with
  | 0 => L
  | q + 1 => match L[q]? with
    | some (some v) => if v.category = 2 then L.set q none else L
    | _ => L
def j_killv (x : Option Value) : Option Value := match x with
  | some v => if v.category = 2 then none else some v
  | none => none
def j_st1 : j_L → Nat → Value → j_L
  | [], _, _ => []
  | _ :: r, 0, v => some v :: r
  | x :: r, 1, v => j_killv x :: j_st1 r 0 v
  | x :: r, k + 2, v => x :: j_st1 r (k + 1) v
def j_st2 : j_L → Nat → Value → j_L
  | [], _, _ => []
  | _ :: r, 0, v => some v :: (match r with
    | [] => []
    | _ :: r' => none :: r')
  | x :: r, 1, v => j_killv x :: j_st2 r 0 v
  | x :: r, k + 2, v => x :: j_st2 r (k + 1) v
def j_cut (w : Nat) (L : j_L) : j_L := L.take w ++ List.replicate (L.length - w) none
def j_ent0 : List Value → j_L
  | [] => []
  | v :: vs => if v.category = 2 then some v :: none :: j_ent0 vs else some v :: j_ent0 vs
def j_ent (n : Nat) (as : List Value) : j_L := j_ent0 as ++ List.replicate (n - (j_ent0 as).length) none
/-- a switch: its matches one by one -/
def j_sw (x : Int32) (d : Nat) (K : Nat → Option Rr) : List (Int32 × Nat) → Option Rr
  | [] => K d
  | (c, t) :: r => if x = c then K t else j_sw x d K r
/-- numbers that stand in the code, in the pool -/
def j_k (n : Int) : Int32 := Int32.ofInt n
def j_ci : Nat → Int32 := fun k => match k with
  | 0 => 1431655765
  | 1 => 858993459
  | _ => 252645135
def j_cJ : Nat → Int64 := fun k => ([32, 17, 31, 31, 40, 9, 17, 31, -1] : List Int64).getD k 0
/-- a table's matches, and where they go -/
def j_tps (lo : Int) : List Nat → List (Int32 × Nat)
  | [] => []
  | t :: ts => (j_k lo, t) :: j_tps (lo + 1) ts
def j_lps : List (Int × Int) → List Nat → List (Int32 × Nat)
  | (c, _) :: ps, t :: ts => (j_k c, t) :: j_lps ps ts
  | _, _ => []
def j_tst (c : ClassFile.Cond) (x y : Int32) (a b : Option Rr) : Option Rr := match c with
  | .eq => if x = y then a else b
  | .ne => if x = y then b else a
  | .lt => if x < y then a else b
  | .ge => if x < y then b else a
  | .gt => if y < x then a else b
  | .le => if y < x then b else a
/-- Math.abs, Math.min of ints -/
def j_abs (x : Int32) : Int32 := if 0 ≤ x then x else 0 - x
def j_min (x y : Int32) : Int32 := if y < x then y else x
/-- what an instruction does; K: what comes behind it. q: what the pool numbers of it mean (program 'gen') -/
def j_stp (call : Nat → List Value → Sto → Option Rr) (i : Instr) (q : List Nat) (pc : Nat) (L : j_L) (st : List Value) (σ : Sto) (K : Nat → j_L → List Value → Sto → Option Rr) : Option Rr :=
  match i with
  | .iconst n => K (pc + 1) L (.int (j_k n) :: st) σ
  | .bipush n => K (pc + 2) L (.int (j_k n) :: st) σ
  | .sipush n => K (pc + 3) L (.int (j_k n) :: st) σ
  | .lconst n => K (pc + 1) L (.long (Int64.ofNat (n : Nat)) :: st) σ
  | .ldc_w _ => match q with
    | [c, _] => K (pc + 3) L (.int (j_ci c) :: st) σ
    | _ => none
  | .ldc2_w _ => match q with
    | [c, _] => K (pc + 3) L (.long (j_cJ c) :: st) σ
    | _ => none
  | .iload k => j_ldI L k fun x => K (pc + 2) L (.int x :: st) σ
  | .iload_n k => j_ldI L k.val fun x => K (pc + 1) L (.int x :: st) σ
  | .lload k => j_ldJ L k fun x => K (pc + 2) L (.long x :: st) σ
  | .lload_n k => j_ldJ L k.val fun x => K (pc + 1) L (.long x :: st) σ
  | .aload k => j_ldA L k fun x => K (pc + 2) L (.ref x :: st) σ
  | .aload_n k => j_ldA L k.val fun x => K (pc + 1) L (.ref x :: st) σ
  | .istore k => match st with
    | .int x :: st => if k < L.length then K (pc + 2) (j_st1 L k (.int x)) st σ else none
    | _ => none
  | .istore_n k => match st with
    | .int x :: st => if k.val < L.length then K (pc + 1) (j_st1 L k.val (.int x)) st σ else none
    | _ => none
  | .lstore k => match st with
    | .long x :: st => if k + 1 < L.length then K (pc + 2) (j_st2 L k (.long x)) st σ else none
    | _ => none
  | .lstore_n k => match st with
    | .long x :: st => if k.val + 1 < L.length then K (pc + 1) (j_st2 L k.val (.long x)) st σ else none
    | _ => none
  | .astore k => match st with
    | .ref x :: st => if k < L.length then K (pc + 2) (j_st1 L k (.ref x)) st σ else none
    | _ => none
  | .astore_n k => match st with
    | .ref x :: st => if k.val < L.length then K (pc + 1) (j_st1 L k.val (.ref x)) st σ else none
    | _ => none
  | .iinc k c => j_ldI L k fun x => K (pc + 3) (j_st1 L k (.int (x + j_k c))) st σ
  | .iadd => match st with
    | .int y :: .int x :: st => K (pc + 1) L (.int (x + y) :: st) σ
    | _ => none
  | .isub => match st with
    | .int y :: .int x :: st => K (pc + 1) L (.int (x - y) :: st) σ
    | _ => none
  | .imul => match st with
    | .int y :: .int x :: st => K (pc + 1) L (.int (x * y) :: st) σ
    | _ => none
  | .iand => match st with
    | .int y :: .int x :: st => K (pc + 1) L (.int (x &&& y) :: st) σ
    | _ => none
  | .ior => match st with
    | .int y :: .int x :: st => K (pc + 1) L (.int (x ||| y) :: st) σ
    | _ => none
  | .ixor => match st with
    | .int y :: .int x :: st => K (pc + 1) L (.int (x ^^^ y) :: st) σ
    | _ => none
  | .idiv => match st with
    | .int y :: .int x :: st => if y = 0 then none else K (pc + 1) L (.int (x / y) :: st) σ
    | _ => none
  | .irem => match st with
    | .int y :: .int x :: st => if y = 0 then none else K (pc + 1) L (.int (x - x / y * y) :: st) σ
    | _ => none
  | .ineg => match st with
    | .int x :: st => K (pc + 1) L (.int (-x) :: st) σ
    | _ => none
  | .ishl => match st with
    | .int y :: .int x :: st => K (pc + 1) L (.int (x <<< (y &&& 31)) :: st) σ
    | _ => none
  | .ishr => match st with
    | .int y :: .int x :: st => K (pc + 1) L (.int (x >>> (y &&& 31)) :: st) σ
    | _ => none
  | .iushr => match st with
    | .int y :: .int x :: st => K (pc + 1) L (.int (x.toUInt32 >>> (y.toUInt32 &&& Int32.toUInt32 31)).toInt32 :: st) σ
    | _ => none
  | .i2l => match st with
    | .int x :: st => K (pc + 1) L (.long x.toInt64 :: st) σ
    | _ => none
  | .l2i => match st with
    | .long x :: st => K (pc + 1) L (.int x.toInt32 :: st) σ
    | _ => none
  | .i2b => match st with
    | .int x :: st => K (pc + 1) L (.int x.toInt8.toInt32 :: st) σ
    | _ => none
  | .ladd => match st with
    | .long y :: .long x :: st => K (pc + 1) L (.long (x + y) :: st) σ
    | _ => none
  | .lmul => match st with
    | .long y :: .long x :: st => K (pc + 1) L (.long (x * y) :: st) σ
    | _ => none
  | .ldiv => match st with
    | .long y :: .long x :: st => if y = 0 then none else K (pc + 1) L (.long (x / y) :: st) σ
    | _ => none
  | .lrem => match st with
    | .long y :: .long x :: st => if y = 0 then none else K (pc + 1) L (.long (x - x / y * y) :: st) σ
    | _ => none
  | .lcmp => match st with
    | .long y :: .long x :: st => K (pc + 1) L (.int (lg_cmp x y) :: st) σ
    | _ => none
  | .dup => match st with
    | .int x :: st => K (pc + 1) L (.int x :: .int x :: st) σ
    | .ref x :: st => K (pc + 1) L (.ref x :: .ref x :: st) σ
    | _ => none
  | .dup2 => match st with
    | .int y :: .ref x :: st => K (pc + 1) L (.int y :: .ref x :: .int y :: .ref x :: st) σ
    | _ => none
  | .pop => match st with
    | .int _ :: st => K (pc + 1) L st σ
    | _ => none
  | .ifCond c _ => match q, st with
    | [t], .int x :: st => j_tst c x 0 (K t L st σ) (K (pc + 3) L st σ)
    | _, _ => none
  | .if_icmp c _ => match q, st with
    | [t], .int y :: .int x :: st => j_tst c x y (K t L st σ) (K (pc + 3) L st σ)
    | _, _ => none
  | .goto _ => match q with
    | [t] => K t L st σ
    | _ => none
  | .tableswitch _ lo _ _ => match q, st with
    | d :: ts, .int x :: st => j_sw x d (fun t => K t L st σ) (j_tps lo ts)
    | _, _ => none
  | .lookupswitch _ ps => match q, st with
    | d :: ts, .int x :: st => j_sw x d (fun t => K t L st σ) (j_lps ps.toList ts)
    | _, _ => none
  | .getfield _ => match q, st with
    | [ci, k, kd, _], .ref r :: st => if kd = 1 then j_oc σ ci r (K (pc + 3) L (.long (σ.2.2.2.1 r k) :: st) σ) else if kd = 2 then j_gP σ ci r k (fun v => K (pc + 3) L (.ref v :: st) σ) else j_oc σ ci r (K (pc + 3) L (.int (σ.2.2.1 r k) :: st) σ)
    | _, _ => none
  | .putfield _ => match q, st with
    | [ci, k, kd, _], .int v :: .ref r :: st => if kd = 0 ∨ (kd = 3 ∧ (v = 0 ∨ v = 1)) then (if r < j_b then j_oc σ ci r (K (pc + 3) L st (s_uI σ r k v)) else none) else none
    | [ci, k, kd, _], .long v :: .ref r :: st => if kd = 1 then (if r < j_b then j_oc σ ci r (K (pc + 3) L st (s_uJ σ r k v)) else none) else none
    | [ci, k, kd, _], .ref v :: .ref r :: st => if kd = 2 then (if r < j_b then j_oc σ ci r (K (pc + 3) L st (s_uP σ r k (some v))) else none) else none
    | _, _ => none
  | .getstatic _ => match q with
    | [k, _] => K (pc + 3) L (.ref (j_b + k) :: st) σ
    | _ => none
  | .iaload => match st with
    | .int i :: .ref r :: st => j_ia σ r i (K (pc + 1) L (.int (σ.2.2.1 r i.toNatClampNeg) :: st) σ)
    | _ => none
  | .baload => match st with
    | .int i :: .ref r :: st => j_ba σ r i (K (pc + 1) L (.int (σ.2.2.1 r i.toNatClampNeg) :: st) σ)
    | _ => none
  | .laload => match st with
    | .int i :: .ref r :: st => j_la σ r i (K (pc + 1) L (.long (σ.2.2.2.1 r i.toNatClampNeg) :: st) σ)
    | _ => none
  | .aaload => match st with
    | .int i :: .ref r :: st => j_qa σ r i (fun v => K (pc + 1) L (.ref v :: st) σ)
    | _ => none
  | .iastore => match st with
    | .int v :: .int i :: .ref r :: st => j_is σ r i (K (pc + 1) L st (s_uI σ r i.toNatClampNeg v))
    | _ => none
  | .bastore => match st with
    | .int v :: .int i :: .ref r :: st => j_bs σ r i v (fun τ => K (pc + 1) L st τ)
    | _ => none
  | .lastore => match st with
    | .long v :: .int i :: .ref r :: st => if r < j_b then j_la σ r i (K (pc + 1) L st (s_uJ σ r i.toNatClampNeg v)) else none
    | _ => none
  | .aastore => match st with
    | .ref v :: .int i :: .ref r :: st => j_qs σ r i v (K (pc + 1) L st (s_uP σ r i.toNatClampNeg (some v)))
    | _ => none
  | .arraylength => match st with
    | .ref r :: st => j_len σ r (fun n => K (pc + 1) L (.int n :: st) σ)
    | _ => none
  | .new _ => match q with
    | [ci, n, _] => K (pc + 3) L (.ref σ.2.2.2.2.1 :: st) (s_al σ (.inl ci) n)
    | _ => none
  | .newarray ty => match st with
    | .int n :: st => if n < 0 ∨ 100000 < n.toNatClampNeg then none else K (pc + 2) L (.ref σ.2.2.2.2.1 :: st) (s_al σ (.inr (newarray.typeOf ty, n.toNatClampNeg)) n.toNatClampNeg)
    | _ => none
  | .anewarray _ => match st with
    | .int n :: st => if n < 0 ∨ 100000 < n.toNatClampNeg then none else K (pc + 3) L (.ref σ.2.2.2.2.1 :: st) (s_al σ (.inr (.object RX0, n.toNatClampNeg)) n.toNatClampNeg)
    | _ => none
  | .multianewarray _ _ => match st with
    | .int k :: .int n :: st => if n < 0 ∨ k < 0 ∨ 1000 < n.toNatClampNeg ∨ 1000 < k.toNatClampNeg then none else K (pc + 4) L (.ref σ.2.2.2.2.1 :: st) (s_mn σ n.toNatClampNeg k.toNatClampNeg)
    | _ => none
  | .invokevirtual _ => match q with
    | [m, na, rt, ci, _] => match st.drop na with
      | .ref r :: st' => if na ≤ st.length ∧ (st'.map fun v => v.category).sum ≤ 8 then j_oc σ ci r (j_cl call m rt (.ref r :: (st.take na).reverse) σ st' fun st τ => K (pc + 3) L st τ) else none
      | _ => none
    | _ => none
  | .invokestatic _ => match q with
    | [m, na, rt, _] => if na ≤ st.length ∧ ((st.drop na).map fun v => v.category).sum ≤ 8 then j_cl call m rt (st.take na).reverse σ (st.drop na) fun st τ => K (pc + 3) L st τ else none
    | [_] => match st with
      | .int n :: .int dp :: .ref d :: .int sp :: .ref r :: st => if (st.map fun v => v.category).sum ≤ 8 then j_ac σ r sp d dp n (fun τ => K (pc + 3) L st τ) else none
      | _ => none
    | [_, _] => match st with
      | .int x :: st => if (st.map fun v => v.category).sum ≤ 8 then K (pc + 3) L (.int (j_abs x) :: st) σ else none
      | _ => none
    | [_, _, _] => match st with
      | .int y :: .int x :: st => if (st.map fun v => v.category).sum ≤ 8 then K (pc + 3) L (.int (j_min x y) :: st) σ else none
      | _ => none
    | _ => none
  | .invokespecial _ => match q with
    | [m, na, rt, _] => match st.drop na with
      | .ref r :: st' => if na ≤ st.length ∧ (st'.map fun v => v.category).sum ≤ 8 then j_cl call m rt (.ref r :: (st.take na).reverse) σ st' fun st τ => K (pc + 3) L st τ else none
      | _ => none
    | [_] => match st with
      | .ref _ :: st => if (st.map fun v => v.category).sum ≤ 8 then K (pc + 3) L st σ else none
      | _ => none
    | _ => none
  | .return_ => match st with
    | [] => some (none, σ)
    | _ => none
  | .ireturn => match q, st with
    | [0], [.int v] => some (some (.int v), σ)
    | [_], [.int v] => if v = 0 ∨ v = 1 then some (some (.int v), σ) else none
    | _, _ => none
  | .lreturn => match st with
    | [.long v] => some (some (.long v), σ)
    | _ => none
  | _ => none
def j_look : List (Nat × Instr × List Nat) → Nat → Option (Instr × List Nat)
  | [], _ => none
  | (p, x) :: r, pc => cond (Nat.beq p pc) (some x) (j_look r pc)
def j_hd : List (Nat × Nat) → Nat → Option Nat
  | [], _ => none
  | (p, x) :: r, pc => cond (Nat.beq p pc) (some x) (j_hd r pc)
/-- a stretch up to a head (where 'again' goes on), a return -/
def j_seg (cd : List (Nat × Instr × List Nat)) (hd : List (Nat × Nat)) (call : Nat → List Value → Sto → Option Rr) (again : Nat → j_L → List Value → Sto → Option Rr) : Nat → Nat → j_L → List Value → Sto → Option Rr
  | 0, _, _, _, _ => none
  | n + 1, pc, L, st, σ => match j_look cd pc with
    | none => none
    | some (i, q) => j_stp call i q pc L st σ (fun pc' L' st' τ => match j_hd hd pc' with
      | some w => again pc' (j_cut w L') st' τ
      | none => j_seg cd hd call again n pc' L' st' τ)
def j_exec (cd : List (Nat × Instr × List Nat)) (hd : List (Nat × Nat)) (call : Nat → List Value → Sto → Option Rr) : Nat → Nat → j_L → List Value → Sto → Option Rr
  | 0, _, _, _, _ => none
  | n + 1, pc, L, st, σ => j_seg cd hd call (j_exec cd hd call n) 2000 pc L st σ
end
section
/-! ===== the code of all methods, decoded, its numbers resolved (by program wip/gen) ===== -/
/-- LastStirred$Flock.<init>()V -/
def k_0 : List (Nat × Instr × List Nat) := [(0, .aload_n 0, []), (1, .invokespecial 3, [0]), (4, .aload_n 0, []), (5, .iconst 4, []), (6, .newarray .int, []), (8, .putfield 9, [0, 0, 2, 19]), (11, .aload_n 0, []), (12, .iconst 4, []), (13, .newarray .int, []), (15, .putfield 15, [0, 1, 2, 21]), (18, .aload_n 0, []), (19, .iconst 4, []), (20, .newarray .int, []), (22, .putfield 18, [0, 2, 2, 23]), (25, .aload_n 0, []), (26, .bipush (-9), []), (28, .putfield 21, [0, 4, 0, 27]), (31, .aload_n 0, []), (32, .bipush (-9), []), (34, .putfield 25, [0, 5, 0, 29]), (37, .aload_n 0, []), (38, .bipush (-9), []), (40, .putfield 28, [0, 6, 0, 31]), (43, .aload_n 0, []), (44, .bipush (-9), []), (46, .putfield 31, [0, 7, 0, 33]), (49, .return_, [])]
def h_0 : List (Nat × Nat) := []
/-- LastStirred$Flock.clear()V -/
def k_1 : List (Nat × Instr × List Nat) := [(0, .aload_n 0, []), (1, .iconst 0, []), (2, .putfield 34, [0, 3, 0, 25]), (5, .aload_n 0, []), (6, .bipush (-9), []), (8, .putfield 21, [0, 4, 0, 27]), (11, .aload_n 0, []), (12, .bipush (-9), []), (14, .putfield 25, [0, 5, 0, 29]), (17, .aload_n 0, []), (18, .bipush (-9), []), (20, .putfield 28, [0, 6, 0, 31]), (23, .aload_n 0, []), (24, .bipush (-9), []), (26, .putfield 31, [0, 7, 0, 33]), (29, .aload_n 0, []), (30, .iconst 0, []), (31, .putfield 37, [0, 8, 0, 35]), (34, .aload_n 0, []), (35, .iconst 0, []), (36, .putfield 40, [0, 9, 0, 37]), (39, .return_, [])]
def h_1 : List (Nat × Nat) := []
/-- LastStirred$Flock.add(II)V -/
def k_2 : List (Nat × Instr × List Nat) := [(0, .aload_n 0, []), (1, .getfield 34, [0, 3, 0, 25]), (4, .iconst 4, []), (5, .if_icmp .lt 4, [9]), (8, .return_, []), (9, .aload_n 0, []), (10, .getfield 9, [0, 0, 2, 19]), (13, .aload_n 0, []), (14, .getfield 34, [0, 3, 0, 25]), (17, .iload_n 1, []), (18, .iastore, []), (19, .aload_n 0, []), (20, .getfield 15, [0, 1, 2, 21]), (23, .aload_n 0, []), (24, .getfield 34, [0, 3, 0, 25]), (27, .iload_n 2, []), (28, .iastore, []), (29, .aload_n 0, []), (30, .getfield 18, [0, 2, 2, 23]), (33, .aload_n 0, []), (34, .getfield 34, [0, 3, 0, 25]), (37, .iconst 0, []), (38, .iastore, []), (39, .aload_n 0, []), (40, .dup, []), (41, .getfield 40, [0, 9, 0, 37]), (44, .iconst 1, []), (45, .iload_n 2, []), (46, .ishl, []), (47, .ior, []), (48, .putfield 40, [0, 9, 0, 37]), (51, .aload_n 0, []), (52, .dup, []), (53, .getfield 34, [0, 3, 0, 25]), (56, .iconst 1, []), (57, .iadd, []), (58, .putfield 34, [0, 3, 0, 25]), (61, .return_, [])]
def h_2 : List (Nat × Nat) := []
/-- LastStirred$Flock.take(LLastStirred$Flock;)V -/
def k_3 : List (Nat × Instr × List Nat) := [(0, .aload_n 0, []), (1, .aload_n 1, []), (2, .getfield 34, [0, 3, 0, 25]), (5, .putfield 34, [0, 3, 0, 25]), (8, .iconst 0, []), (9, .istore_n 2, []), (10, .iload_n 2, []), (11, .aload_n 0, []), (12, .getfield 34, [0, 3, 0, 25]), (15, .if_icmp .ge 45, [60]), (18, .aload_n 0, []), (19, .getfield 9, [0, 0, 2, 19]), (22, .iload_n 2, []), (23, .aload_n 1, []), (24, .getfield 9, [0, 0, 2, 19]), (27, .iload_n 2, []), (28, .iaload, []), (29, .iastore, []), (30, .aload_n 0, []), (31, .getfield 15, [0, 1, 2, 21]), (34, .iload_n 2, []), (35, .aload_n 1, []), (36, .getfield 15, [0, 1, 2, 21]), (39, .iload_n 2, []), (40, .iaload, []), (41, .iastore, []), (42, .aload_n 0, []), (43, .getfield 18, [0, 2, 2, 23]), (46, .iload_n 2, []), (47, .aload_n 1, []), (48, .getfield 18, [0, 2, 2, 23]), (51, .iload_n 2, []), (52, .iaload, []), (53, .iastore, []), (54, .iinc 2 1, []), (57, .goto (-47), [10]), (60, .aload_n 0, []), (61, .aload_n 1, []), (62, .getfield 21, [0, 4, 0, 27]), (65, .putfield 21, [0, 4, 0, 27]), (68, .aload_n 0, []), (69, .aload_n 1, []), (70, .getfield 25, [0, 5, 0, 29]), (73, .putfield 25, [0, 5, 0, 29]), (76, .aload_n 0, []), (77, .aload_n 1, []), (78, .getfield 28, [0, 6, 0, 31]), (81, .putfield 28, [0, 6, 0, 31]), (84, .aload_n 0, []), (85, .aload_n 1, []), (86, .getfield 31, [0, 7, 0, 33]), (89, .putfield 31, [0, 7, 0, 33]), (92, .aload_n 0, []), (93, .aload_n 1, []), (94, .getfield 37, [0, 8, 0, 35]), (97, .putfield 37, [0, 8, 0, 35]), (100, .aload_n 0, []), (101, .aload_n 1, []), (102, .getfield 40, [0, 9, 0, 37]), (105, .putfield 40, [0, 9, 0, 37]), (108, .return_, [])]
def h_3 : List (Nat × Nat) := [(10, 3)]
/-- LastStirred$Flock.forgetGone()V -/
def k_4 : List (Nat × Instr × List Nat) := [(0, .aload_n 0, []), (1, .getfield 18, [0, 2, 2, 23]), (4, .iconst 0, []), (5, .invokestatic 43, [235, 2, 0, 1]), (8, .return_, [])]
def h_4 : List (Nat × Nat) := []
/-- LastStirred$Flock.has(I)Z -/
def k_5 : List (Nat × Instr × List Nat) := [(0, .iload_n 1, []), (1, .ifCond .lt 15, [16]), (4, .iload_n 1, []), (5, .aload_n 0, []), (6, .getfield 34, [0, 3, 0, 25]), (9, .if_icmp .ge 7, [16]), (12, .iconst 1, []), (13, .goto 4, [17]), (16, .iconst 0, []), (17, .ireturn, [1])]
def h_5 : List (Nat × Nat) := []
/-- LastStirred$Flock.isLost(I)Z -/
def k_6 : List (Nat × Instr × List Nat) := [(0, .aload_n 0, []), (1, .getfield 15, [0, 1, 2, 21]), (4, .iload_n 1, []), (5, .iaload, []), (6, .bipush (-9), []), (8, .if_icmp .ne 7, [15]), (11, .iconst 1, []), (12, .goto 4, [16]), (15, .iconst 0, []), (16, .ireturn, [1])]
def h_6 : List (Nat × Nat) := []
/-- LastStirred$Flock.isIn(I)Z -/
def k_7 : List (Nat × Instr × List Nat) := [(0, .aload_n 0, []), (1, .getfield 40, [0, 9, 0, 37]), (4, .iload_n 1, []), (5, .ishr, []), (6, .iconst 1, []), (7, .iand, []), (8, .iconst 1, []), (9, .if_icmp .ne 7, [16]), (12, .iconst 1, []), (13, .goto 4, [17]), (16, .iconst 0, []), (17, .ireturn, [1])]
def h_7 : List (Nat × Nat) := []
/-- LastStirred$Flock.whoIsIn(I)I -/
def k_8 : List (Nat × Instr × List Nat) := [(0, .iconst 0, []), (1, .istore_n 2, []), (2, .iload_n 2, []), (3, .aload_n 0, []), (4, .getfield 34, [0, 3, 0, 25]), (7, .if_icmp .ge 21, [28]), (10, .aload_n 0, []), (11, .getfield 15, [0, 1, 2, 21]), (14, .iload_n 2, []), (15, .iaload, []), (16, .iload_n 1, []), (17, .if_icmp .ne 5, [22]), (20, .iload_n 2, []), (21, .ireturn, [0]), (22, .iinc 2 1, []), (25, .goto (-23), [2]), (28, .bipush (-9), []), (30, .ireturn, [0])]
def h_8 : List (Nat × Nat) := [(2, 3)]
/-- LastStirred$Flock.isOf(II)Z -/
def k_9 : List (Nat × Instr × List Nat) := [(0, .aload_n 0, []), (1, .getfield 9, [0, 0, 2, 19]), (4, .iload_n 1, []), (5, .iaload, []), (6, .iload_n 2, []), (7, .if_icmp .eq 29, [36]), (10, .iload_n 2, []), (11, .iconst 1, []), (12, .if_icmp .ne 11, [23]), (15, .aload_n 0, []), (16, .iload_n 1, []), (17, .invokevirtual 49, [10, 1, 1, 0, 2]), (20, .ifCond .ne 16, [36]), (23, .iload_n 2, []), (24, .iconst 2, []), (25, .if_icmp .ne 15, [40]), (28, .aload_n 0, []), (29, .iload_n 1, []), (30, .invokevirtual 53, [11, 1, 1, 0, 3]), (33, .ifCond .eq 7, [40]), (36, .iconst 1, []), (37, .goto 4, [41]), (40, .iconst 0, []), (41, .ireturn, [1])]
def h_9 : List (Nat × Nat) := []
/-- LastStirred$Flock.isShy(I)Z -/
def k_10 : List (Nat × Instr × List Nat) := [(0, .aload_n 0, []), (1, .getfield 9, [0, 0, 2, 19]), (4, .iload_n 1, []), (5, .iaload, []), (6, .iconst 1, []), (7, .if_icmp .eq 13, [20]), (10, .aload_n 0, []), (11, .getfield 9, [0, 0, 2, 19]), (14, .iload_n 1, []), (15, .iaload, []), (16, .iconst 5, []), (17, .if_icmp .ne 7, [24]), (20, .iconst 1, []), (21, .goto 4, [25]), (24, .iconst 0, []), (25, .ireturn, [1])]
def h_10 : List (Nat × Nat) := []
/-- LastStirred$Flock.isSlow(I)Z -/
def k_11 : List (Nat × Instr × List Nat) := [(0, .aload_n 0, []), (1, .getfield 9, [0, 0, 2, 19]), (4, .iload_n 1, []), (5, .iaload, []), (6, .iconst 2, []), (7, .if_icmp .eq 13, [20]), (10, .aload_n 0, []), (11, .getfield 9, [0, 0, 2, 19]), (14, .iload_n 1, []), (15, .iaload, []), (16, .iconst 4, []), (17, .if_icmp .ne 7, [24]), (20, .iconst 1, []), (21, .goto 4, [25]), (24, .iconst 0, []), (25, .ireturn, [1])]
def h_11 : List (Nat × Nat) := []
/-- LastStirred$Flock.tells(II)I -/
def k_12 : List (Nat × Instr × List Nat) := [(0, .iload_n 2, []), (1, .lookupswitch 41 #[(0, 27), (1, 34)], [42, 28, 35]), (28, .aload_n 0, []), (29, .getfield 9, [0, 0, 2, 19]), (32, .iload_n 1, []), (33, .iaload, []), (34, .ireturn, [0]), (35, .aload_n 0, []), (36, .getfield 15, [0, 1, 2, 21]), (39, .iload_n 1, []), (40, .iaload, []), (41, .ireturn, [0]), (42, .aload_n 0, []), (43, .getfield 18, [0, 2, 2, 23]), (46, .iload_n 1, []), (47, .iaload, []), (48, .ireturn, [0])]
def h_12 : List (Nat × Nat) := []
/-- LastStirred$Flock.drives()I -/
def k_13 : List (Nat × Instr × List Nat) := [(0, .iconst 4, []), (1, .aload_n 0, []), (2, .getfield 34, [0, 3, 0, 25]), (5, .imul, []), (6, .ireturn, [0])]
def h_13 : List (Nat × Nat) := []
/-- LastStirred$Flock.lostOnes()I -/
def k_14 : List (Nat × Instr × List Nat) := [(0, .iconst 0, []), (1, .istore_n 1, []), (2, .iconst 0, []), (3, .istore_n 2, []), (4, .iload_n 2, []), (5, .aload_n 0, []), (6, .getfield 34, [0, 3, 0, 25]), (9, .if_icmp .ge 23, [32]), (12, .aload_n 0, []), (13, .getfield 15, [0, 1, 2, 21]), (16, .iload_n 2, []), (17, .iaload, []), (18, .bipush (-9), []), (20, .if_icmp .ne 6, [26]), (23, .iinc 1 1, []), (26, .iinc 2 1, []), (29, .goto (-25), [4]), (32, .iload_n 1, []), (33, .ireturn, [0])]
def h_14 : List (Nat × Nat) := [(4, 3)]
/-- LastStirred$Flock.shyOnes()I -/
def k_15 : List (Nat × Instr × List Nat) := [(0, .iconst 0, []), (1, .istore_n 1, []), (2, .iconst 0, []), (3, .istore_n 2, []), (4, .iload_n 2, []), (5, .aload_n 0, []), (6, .getfield 34, [0, 3, 0, 25]), (9, .if_icmp .ge 20, [29]), (12, .aload_n 0, []), (13, .iload_n 2, []), (14, .invokevirtual 49, [10, 1, 1, 0, 2]), (17, .ifCond .eq 6, [23]), (20, .iinc 1 1, []), (23, .iinc 2 1, []), (26, .goto (-22), [4]), (29, .iload_n 1, []), (30, .ireturn, [0])]
def h_15 : List (Nat × Nat) := [(4, 3)]
/-- LastStirred$Flock.allOff(LLastStirred$Ground;)I -/
def k_16 : List (Nat × Instr × List Nat) := [(0, .iconst 0, []), (1, .istore_n 2, []), (2, .iconst 0, []), (3, .istore_n 3, []), (4, .iload_n 3, []), (5, .aload_n 0, []), (6, .getfield 34, [0, 3, 0, 25]), (9, .if_icmp .ge 72, [81]), (12, .iload_n 3, []), (13, .iconst 1, []), (14, .iadd, []), (15, .istore 4, []), (17, .iload 4, []), (19, .aload_n 0, []), (20, .getfield 34, [0, 3, 0, 25]), (23, .if_icmp .ge 52, [75]), (26, .aload_n 0, []), (27, .getfield 15, [0, 1, 2, 21]), (30, .iload_n 3, []), (31, .iaload, []), (32, .bipush (-9), []), (34, .if_icmp .eq 35, [69]), (37, .aload_n 0, []), (38, .getfield 15, [0, 1, 2, 21]), (41, .iload 4, []), (43, .iaload, []), (44, .bipush (-9), []), (46, .if_icmp .eq 23, [69]), (49, .iload_n 2, []), (50, .aload_n 1, []), (51, .aload_n 0, []), (52, .getfield 15, [0, 1, 2, 21]), (55, .iload_n 3, []), (56, .iaload, []), (57, .aload_n 0, []), (58, .getfield 15, [0, 1, 2, 21]), (61, .iload 4, []), (63, .iaload, []), (64, .invokevirtual 56, [37, 2, 1, 1, 4]), (67, .iadd, []), (68, .istore_n 2, []), (69, .iinc 4 1, []), (72, .goto (-55), [17]), (75, .iinc 3 1, []), (78, .goto (-74), [4]), (81, .iload_n 2, []), (82, .ireturn, [0])]
def h_16 : List (Nat × Nat) := [(4, 4), (17, 5)]
/-- LastStirred$Flock.areSafe(LLastStirred$Ground;)Z -/
def k_17 : List (Nat × Instr × List Nat) := [(0, .iconst 0, []), (1, .istore_n 2, []), (2, .iload_n 2, []), (3, .aload_n 0, []), (4, .getfield 34, [0, 3, 0, 25]), (7, .if_icmp .ge 37, [44]), (10, .aload_n 0, []), (11, .getfield 15, [0, 1, 2, 21]), (14, .iload_n 2, []), (15, .iaload, []), (16, .bipush (-9), []), (18, .if_icmp .eq 18, [36]), (21, .aload_n 1, []), (22, .getfield 62, [1, 0, 2, 7]), (25, .aload_n 0, []), (26, .getfield 15, [0, 1, 2, 21]), (29, .iload_n 2, []), (30, .iaload, []), (31, .iaload, []), (32, .iconst 3, []), (33, .if_icmp .eq 5, [38]), (36, .iconst 0, []), (37, .ireturn, [1]), (38, .iinc 2 1, []), (41, .goto (-39), [2]), (44, .aload_n 0, []), (45, .getfield 34, [0, 3, 0, 25]), (48, .ifCond .le 7, [55]), (51, .iconst 1, []), (52, .goto 4, [56]), (55, .iconst 0, []), (56, .ireturn, [1])]
def h_17 : List (Nat × Nat) := [(2, 3)]
/-- LastStirred$Flock.areAt([I)Z -/
def k_18 : List (Nat × Instr × List Nat) := [(0, .iconst 0, []), (1, .istore_n 2, []), (2, .iload_n 2, []), (3, .aload_n 0, []), (4, .getfield 34, [0, 3, 0, 25]), (7, .if_icmp .ge 23, [30]), (10, .aload_n 0, []), (11, .getfield 15, [0, 1, 2, 21]), (14, .iload_n 2, []), (15, .iaload, []), (16, .aload_n 1, []), (17, .iload_n 2, []), (18, .iaload, []), (19, .if_icmp .eq 5, [24]), (22, .iconst 0, []), (23, .ireturn, [1]), (24, .iinc 2 1, []), (27, .goto (-25), [2]), (30, .iconst 1, []), (31, .ireturn, [1])]
def h_18 : List (Nat × Nat) := [(2, 3)]
/-- LastStirred$Flock.inOneNumber()J -/
def k_19 : List (Nat × Instr × List Nat) := [(0, .aload_n 0, []), (1, .getfield 37, [0, 8, 0, 35]), (4, .iconst 1, []), (5, .iand, []), (6, .i2l, []), (7, .lstore_n 1, []), (8, .iconst 0, []), (9, .istore_n 3, []), (10, .iload_n 3, []), (11, .aload_n 0, []), (12, .getfield 34, [0, 3, 0, 25]), (15, .if_icmp .ge 20, [35]), (18, .lload_n 1, []), (19, .aload_n 0, []), (20, .getfield 15, [0, 1, 2, 21]), (23, .iload_n 3, []), (24, .iaload, []), (25, .invokestatic 65, [20, 2, 2, 5]), (28, .lstore_n 1, []), (29, .iinc 3 1, []), (32, .goto (-22), [10]), (35, .lload_n 1, []), (36, .aload_n 0, []), (37, .getfield 21, [0, 4, 0, 27]), (40, .invokestatic 65, [20, 2, 2, 5]), (43, .aload_n 0, []), (44, .getfield 25, [0, 5, 0, 29]), (47, .invokestatic 65, [20, 2, 2, 5]), (50, .lstore_n 1, []), (51, .lload_n 1, []), (52, .aload_n 0, []), (53, .getfield 28, [0, 6, 0, 31]), (56, .invokestatic 65, [20, 2, 2, 5]), (59, .aload_n 0, []), (60, .getfield 31, [0, 7, 0, 33]), (63, .invokestatic 65, [20, 2, 2, 5]), (66, .lreturn, [])]
def h_19 : List (Nat × Nat) := [(10, 4)]
/-- LastStirred$Flock.joined(JI)J -/
def k_20 : List (Nat × Instr × List Nat) := [(0, .ldc2_w 69, [0, 628]), (3, .lload_n 0, []), (4, .lmul, []), (5, .iload_n 2, []), (6, .bipush (-9), []), (8, .if_icmp .ne 8, [16]), (11, .bipush 31, []), (13, .goto 4, [17]), (16, .iload_n 2, []), (17, .i2l, []), (18, .ladd, []), (19, .lreturn, [])]
def h_20 : List (Nat × Nat) := []
/-- LastStirred$Flock.aimOf(I)I -/
def k_21 : List (Nat × Instr × List Nat) := [(0, .aload_n 0, []), (1, .getfield 9, [0, 0, 2, 19]), (4, .iload_n 1, []), (5, .iaload, []), (6, .iconst 3, []), (7, .if_icmp .ne 19, [26]), (10, .aload_n 0, []), (11, .getfield 28, [0, 6, 0, 31]), (14, .bipush (-9), []), (16, .if_icmp .eq 10, [26]), (19, .aload_n 0, []), (20, .getfield 31, [0, 7, 0, 33]), (23, .goto 7, [30]), (26, .aload_n 0, []), (27, .getfield 25, [0, 5, 0, 29]), (30, .ireturn, [0])]
def h_21 : List (Nat × Nat) := []
/-- LastStirred$Flock.can(LLastStirred$Ground;IIZ)Z -/
def k_22 : List (Nat × Instr × List Nat) := [(0, .iload_n 3, []), (1, .bipush (-9), []), (3, .if_icmp .eq 25, [28]), (6, .aload_n 1, []), (7, .getfield 62, [1, 0, 2, 7]), (10, .iload_n 3, []), (11, .iaload, []), (12, .iconst 1, []), (13, .if_icmp .eq 15, [28]), (16, .aload_n 0, []), (17, .getfield 40, [0, 9, 0, 37]), (20, .iload_n 3, []), (21, .ishr, []), (22, .iconst 1, []), (23, .iand, []), (24, .iconst 1, []), (25, .if_icmp .ne 5, [30]), (28, .iconst 0, []), (29, .ireturn, [1]), (30, .aload_n 1, []), (31, .getfield 62, [1, 0, 2, 7]), (34, .iload_n 3, []), (35, .iaload, []), (36, .iconst 4, []), (37, .if_icmp .ne 18, [55]), (40, .aload_n 0, []), (41, .getfield 9, [0, 0, 2, 19]), (44, .iload_n 2, []), (45, .iaload, []), (46, .iconst 4, []), (47, .if_icmp .eq 12, [59]), (50, .iload 4, []), (52, .ifCond .ne 7, [59]), (55, .iconst 1, []), (56, .goto 4, [60]), (59, .iconst 0, []), (60, .ireturn, [1])]
def h_22 : List (Nat × Nat) := []
/-- LastStirred$Flock.move(LLastStirred$Ground;II)V -/
def k_23 : List (Nat × Instr × List Nat) := [(0, .aload_n 0, []), (1, .dup, []), (2, .getfield 40, [0, 9, 0, 37]), (5, .iconst 1, []), (6, .aload_n 0, []), (7, .getfield 15, [0, 1, 2, 21]), (10, .iload_n 2, []), (11, .iaload, []), (12, .ishl, []), (13, .iconst (-1), []), (14, .ixor, []), (15, .iand, []), (16, .putfield 40, [0, 9, 0, 37]), (19, .aload_n 1, []), (20, .getfield 62, [1, 0, 2, 7]), (23, .iload_n 3, []), (24, .iaload, []), (25, .iconst 2, []), (26, .if_icmp .ne 14, [40]), (29, .aload_n 0, []), (30, .getfield 15, [0, 1, 2, 21]), (33, .iload_n 2, []), (34, .bipush (-9), []), (36, .iastore, []), (37, .goto 22, [59]), (40, .aload_n 0, []), (41, .getfield 15, [0, 1, 2, 21]), (44, .iload_n 2, []), (45, .iload_n 3, []), (46, .iastore, []), (47, .aload_n 0, []), (48, .dup, []), (49, .getfield 40, [0, 9, 0, 37]), (52, .iconst 1, []), (53, .iload_n 3, []), (54, .ishl, []), (55, .ior, []), (56, .putfield 40, [0, 9, 0, 37]), (59, .aload_n 0, []), (60, .getfield 18, [0, 2, 2, 23]), (63, .iload_n 2, []), (64, .dup2, []), (65, .iaload, []), (66, .iconst 1, []), (67, .iadd, []), (68, .iastore, []), (69, .return_, [])]
def h_23 : List (Nat × Nat) := []
/-- LastStirred$Flock.becomesLast(II)V -/
def k_24 : List (Nat × Instr × List Nat) := [(0, .aload_n 0, []), (1, .aload_n 0, []), (2, .getfield 21, [0, 4, 0, 27]), (5, .putfield 28, [0, 6, 0, 31]), (8, .aload_n 0, []), (9, .aload_n 0, []), (10, .getfield 25, [0, 5, 0, 29]), (13, .putfield 31, [0, 7, 0, 33]), (16, .aload_n 0, []), (17, .iload_n 1, []), (18, .putfield 21, [0, 4, 0, 27]), (21, .aload_n 0, []), (22, .iload_n 2, []), (23, .putfield 25, [0, 5, 0, 29]), (26, .return_, [])]
def h_24 : List (Nat × Nat) := []
/-- LastStirred$Flock.stirBy(LLastStirred$Ground;II)I -/
def k_25 : List (Nat × Instr × List Nat) := [(0, .aload_n 0, []), (1, .iload_n 2, []), (2, .invokevirtual 71, [5, 1, 1, 0, 6]), (5, .ifCond .eq 14, [19]), (8, .aload_n 0, []), (9, .getfield 15, [0, 1, 2, 21]), (12, .iload_n 2, []), (13, .iaload, []), (14, .bipush (-9), []), (16, .if_icmp .ne 6, [22]), (19, .bipush (-9), []), (21, .ireturn, [0]), (22, .aload_n 1, []), (23, .aload_n 0, []), (24, .getfield 15, [0, 1, 2, 21]), (27, .iload_n 2, []), (28, .iaload, []), (29, .iload_n 3, []), (30, .invokevirtual 74, [38, 2, 1, 1, 7]), (33, .istore 4, []), (35, .aload_n 0, []), (36, .aload_n 1, []), (37, .iload_n 2, []), (38, .iload 4, []), (40, .iconst 0, []), (41, .invokevirtual 77, [22, 4, 1, 0, 8]), (44, .ifCond .ne 6, [50]), (47, .bipush (-9), []), (49, .ireturn, [0]), (50, .aload_n 0, []), (51, .aload_n 1, []), (52, .iload_n 2, []), (53, .iload 4, []), (55, .invokevirtual 81, [23, 3, 0, 0, 9]), (58, .aload_n 0, []), (59, .iload_n 2, []), (60, .iload 4, []), (62, .invokevirtual 85, [24, 2, 0, 0, 10]), (65, .iload 4, []), (67, .ireturn, [0])]
def h_25 : List (Nat × Nat) := []
/-- LastStirred$Flock.takeStep(LLastStirred$Ground;)I -/
def k_26 : List (Nat × Instr × List Nat) := [(0, .iconst 0, []), (1, .istore_n 2, []), (2, .bipush (-9), []), (4, .istore_n 3, []), (5, .bipush (-9), []), (7, .istore 4, []), (9, .iconst 0, []), (10, .istore 5, []), (12, .iconst 0, []), (13, .istore 6, []), (15, .iload 6, []), (17, .aload_n 0, []), (18, .getfield 34, [0, 3, 0, 25]), (21, .if_icmp .ge 110, [131]), (24, .iload 6, []), (26, .aload_n 0, []), (27, .getfield 21, [0, 4, 0, 27]), (30, .if_icmp .eq 95, [125]), (33, .aload_n 0, []), (34, .getfield 15, [0, 1, 2, 21]), (37, .iload 6, []), (39, .iaload, []), (40, .bipush (-9), []), (42, .if_icmp .eq 83, [125]), (45, .aload_n 0, []), (46, .getfield 37, [0, 8, 0, 35]), (49, .iconst 1, []), (50, .iand, []), (51, .iconst 1, []), (52, .if_icmp .ne 15, [67]), (55, .aload_n 0, []), (56, .iload 6, []), (58, .invokevirtual 53, [11, 1, 1, 0, 3]), (61, .ifCond .eq 6, [67]), (64, .goto 61, [125]), (67, .aload_n 0, []), (68, .aload_n 1, []), (69, .iload 6, []), (71, .iload 5, []), (73, .invokevirtual 89, [27, 3, 1, 0, 11]), (76, .istore 7, []), (78, .iload 7, []), (80, .bipush (-9), []), (82, .if_icmp .ne 6, [88]), (85, .goto 40, [125]), (88, .aload_n 0, []), (89, .aload_n 1, []), (90, .iload 6, []), (92, .iload 7, []), (94, .invokevirtual 81, [23, 3, 0, 0, 9]), (97, .aload_n 1, []), (98, .getfield 62, [1, 0, 2, 7]), (101, .iload 7, []), (103, .iaload, []), (104, .iconst 4, []), (105, .if_icmp .ne 6, [111]), (108, .iconst 1, []), (109, .istore 5, []), (111, .iload_n 2, []), (112, .iconst 1, []), (113, .iload 6, []), (115, .ishl, []), (116, .ior, []), (117, .istore_n 2, []), (118, .iload 6, []), (120, .istore_n 3, []), (121, .iload 7, []), (123, .istore 4, []), (125, .iinc 6 1, []), (128, .goto (-113), [15]), (131, .aload_n 0, []), (132, .dup, []), (133, .getfield 37, [0, 8, 0, 35]), (136, .iconst 1, []), (137, .iadd, []), (138, .putfield 37, [0, 8, 0, 35]), (141, .iload_n 3, []), (142, .bipush (-9), []), (144, .if_icmp .eq 10, [154]), (147, .aload_n 0, []), (148, .iload_n 3, []), (149, .iload 4, []), (151, .invokevirtual 85, [24, 2, 0, 0, 10]), (154, .iload_n 2, []), (155, .ireturn, [0])]
def h_26 : List (Nat × Nat) := [(15, 7)]
/-- LastStirred$Flock.nextCell(LLastStirred$Ground;IZ)I -/
def k_27 : List (Nat × Instr × List Nat) := [(0, .aload_n 0, []), (1, .iload_n 2, []), (2, .invokevirtual 93, [21, 1, 1, 0, 12]), (5, .istore 4, []), (7, .iload 4, []), (9, .bipush (-9), []), (11, .if_icmp .ne 6, [17]), (14, .bipush (-9), []), (16, .ireturn, [0]), (17, .aload_n 0, []), (18, .getfield 15, [0, 1, 2, 21]), (21, .iload_n 2, []), (22, .iaload, []), (23, .istore 5, []), (25, .aload_n 1, []), (26, .getfield 97, [1, 1, 2, 9]), (29, .iload 4, []), (31, .iaload, []), (32, .aload_n 1, []), (33, .getfield 97, [1, 1, 2, 9]), (36, .iload 5, []), (38, .iaload, []), (39, .isub, []), (40, .istore 6, []), (42, .aload_n 1, []), (43, .getfield 100, [1, 2, 2, 11]), (46, .iload 4, []), (48, .iaload, []), (49, .aload_n 1, []), (50, .getfield 100, [1, 2, 2, 11]), (53, .iload 5, []), (55, .iaload, []), (56, .isub, []), (57, .istore 7, []), (59, .iload 6, []), (61, .invokestatic 103, [13, 0]), (64, .iload 7, []), (66, .invokestatic 103, [13, 0]), (69, .iadd, []), (70, .istore 8, []), (72, .aload_n 0, []), (73, .iload_n 2, []), (74, .invokevirtual 49, [10, 1, 1, 0, 2]), (77, .istore 9, []), (79, .iload 9, []), (81, .ifCond .eq 22, [103]), (84, .aload_n 0, []), (85, .getfield 9, [0, 0, 2, 19]), (88, .iload_n 2, []), (89, .iaload, []), (90, .iconst 5, []), (91, .if_icmp .ne 21, [112]), (94, .iload 8, []), (96, .iconst 3, []), (97, .if_icmp .lt 15, [112]), (100, .goto 9, [109]), (103, .iload 8, []), (105, .iconst 1, []), (106, .if_icmp .gt 6, [112]), (109, .bipush (-9), []), (111, .ireturn, [0]), (112, .iload 6, []), (114, .invokestatic 103, [13, 0]), (117, .iload 7, []), (119, .invokestatic 103, [13, 0]), (122, .if_icmp .lt 7, [129]), (125, .iconst 1, []), (126, .goto 4, [130]), (129, .iconst 0, []), (130, .istore 10, []), (132, .iconst 0, []), (133, .istore 11, []), (135, .iload 11, []), (137, .iconst 2, []), (138, .if_icmp .ge 117, [255]), (141, .iload 10, []), (143, .ifCond .eq 8, [151]), (146, .iload 6, []), (148, .goto 5, [153]), (151, .iload 7, []), (153, .istore 12, []), (155, .iload 12, []), (157, .ifCond .eq 80, [237]), (160, .iload 12, []), (162, .ifCond .le 7, [169]), (165, .iconst 1, []), (166, .goto 4, [170]), (169, .iconst 0, []), (170, .iload 9, []), (172, .if_icmp .eq 7, [179]), (175, .iconst 1, []), (176, .goto 4, [180]), (179, .iconst 0, []), (180, .istore 13, []), (182, .iload 10, []), (184, .ifCond .eq 16, [200]), (187, .iload 13, []), (189, .ifCond .eq 7, [196]), (192, .iconst 1, []), (193, .goto 17, [210]), (196, .iconst 3, []), (197, .goto 13, [210]), (200, .iload 13, []), (202, .ifCond .eq 7, [209]), (205, .iconst 2, []), (206, .goto 4, [210]), (209, .iconst 0, []), (210, .istore 14, []), (212, .aload_n 1, []), (213, .iload 5, []), (215, .iload 14, []), (217, .invokevirtual 74, [38, 2, 1, 1, 7]), (220, .istore 15, []), (222, .aload_n 0, []), (223, .aload_n 1, []), (224, .iload_n 2, []), (225, .iload 15, []), (227, .iload_n 3, []), (228, .invokevirtual 77, [22, 4, 1, 0, 8]), (231, .ifCond .eq 6, [237]), (234, .iload 15, []), (236, .ireturn, [0]), (237, .iload 10, []), (239, .ifCond .ne 7, [246]), (242, .iconst 1, []), (243, .goto 4, [247]), (246, .iconst 0, []), (247, .istore 10, []), (249, .iinc 11 1, []), (252, .goto (-117), [135]), (255, .bipush (-9), []), (257, .ireturn, [0])]
def h_27 : List (Nat × Nat) := [(112, 10), (132, 11), (135, 12), (155, 13), (182, 14), (212, 15), (237, 13)]
/-- LastStirred$Flock.runOut(LLastStirred$Ground;)Z -/
def k_28 : List (Nat × Instr × List Nat) := [(0, .iconst 0, []), (1, .istore_n 2, []), (2, .iconst 0, []), (3, .istore_n 3, []), (4, .iload_n 3, []), (5, .bipush 40, []), (7, .if_icmp .ge 30, [37]), (10, .iload_n 2, []), (11, .iconst 2, []), (12, .if_icmp .ge 25, [37]), (15, .aload_n 0, []), (16, .aload_n 1, []), (17, .invokevirtual 108, [26, 1, 1, 0, 14]), (20, .ifCond .ne 9, [29]), (23, .iload_n 2, []), (24, .iconst 1, []), (25, .iadd, []), (26, .goto 4, [30]), (29, .iconst 0, []), (30, .istore_n 2, []), (31, .iinc 3 1, []), (34, .goto (-30), [4]), (37, .iload_n 2, []), (38, .iconst 2, []), (39, .if_icmp .ne 7, [46]), (42, .iconst 1, []), (43, .goto 4, [47]), (46, .iconst 0, []), (47, .ireturn, [1])]
def h_28 : List (Nat × Nat) := [(4, 4)]
/-- LastStirred$Flock.driveBy(LLastStirred$Ground;I)Z -/
def k_29 : List (Nat × Instr × List Nat) := [(0, .aload_n 0, []), (1, .aload_n 1, []), (2, .iload_n 2, []), (3, .iconst 4, []), (4, .idiv, []), (5, .iload_n 2, []), (6, .iconst 4, []), (7, .irem, []), (8, .invokevirtual 112, [25, 3, 1, 0, 15]), (11, .bipush (-9), []), (13, .if_icmp .ne 5, [18]), (16, .iconst 0, []), (17, .ireturn, [1]), (18, .aload_n 0, []), (19, .aload_n 1, []), (20, .invokevirtual 116, [28, 1, 1, 0, 16]), (23, .pop, []), (24, .iconst 1, []), (25, .ireturn, [1])]
def h_29 : List (Nat × Nat) := []
/-- LastStirred$Flock.fleeFrom(LLastStirred$Ground;I)I -/
def k_30 : List (Nat × Instr × List Nat) := [(0, .iconst 0, []), (1, .istore_n 3, []), (2, .bipush (-9), []), (4, .istore 4, []), (6, .bipush (-9), []), (8, .istore 5, []), (10, .iconst 0, []), (11, .istore 6, []), (13, .iload 6, []), (15, .aload_n 0, []), (16, .getfield 34, [0, 3, 0, 25]), (19, .if_icmp .ge 101, [120]), (22, .aload_n 0, []), (23, .getfield 15, [0, 1, 2, 21]), (26, .iload 6, []), (28, .iaload, []), (29, .bipush (-9), []), (31, .if_icmp .eq 83, [114]), (34, .aload_n 1, []), (35, .aload_n 0, []), (36, .getfield 15, [0, 1, 2, 21]), (39, .iload 6, []), (41, .iaload, []), (42, .iload_n 2, []), (43, .invokevirtual 56, [37, 2, 1, 1, 4]), (46, .iconst 1, []), (47, .if_icmp .eq 6, [53]), (50, .goto 64, [114]), (53, .aload_n 1, []), (54, .aload_n 0, []), (55, .getfield 15, [0, 1, 2, 21]), (58, .iload 6, []), (60, .iaload, []), (61, .aload_n 1, []), (62, .iload_n 2, []), (63, .aload_n 0, []), (64, .getfield 15, [0, 1, 2, 21]), (67, .iload 6, []), (69, .iaload, []), (70, .invokestatic 120, [31, 3, 1, 17]), (73, .invokevirtual 74, [38, 2, 1, 1, 7]), (76, .istore 7, []), (78, .aload_n 0, []), (79, .aload_n 1, []), (80, .iload 6, []), (82, .iload 7, []), (84, .iconst 0, []), (85, .invokevirtual 77, [22, 4, 1, 0, 8]), (88, .ifCond .ne 6, [94]), (91, .goto 23, [114]), (94, .aload_n 0, []), (95, .aload_n 1, []), (96, .iload 6, []), (98, .iload 7, []), (100, .invokevirtual 81, [23, 3, 0, 0, 9]), (103, .iinc 3 1, []), (106, .iload 6, []), (108, .istore 4, []), (110, .iload 7, []), (112, .istore 5, []), (114, .iinc 6 1, []), (117, .goto (-104), [13]), (120, .iload 4, []), (122, .bipush (-9), []), (124, .if_icmp .eq 11, [135]), (127, .aload_n 0, []), (128, .iload 4, []), (130, .iload 5, []), (132, .invokevirtual 85, [24, 2, 0, 0, 10]), (135, .iload_n 3, []), (136, .ireturn, [0])]
def h_30 : List (Nat × Nat) := [(13, 7)]
/-- LastStirred$Flock.wayTo(LLastStirred$Ground;II)I -/
def k_31 : List (Nat × Instr × List Nat) := [(0, .iconst 0, []), (1, .istore_n 3, []), (2, .iload_n 3, []), (3, .iconst 3, []), (4, .if_icmp .ge 21, [25]), (7, .aload_n 0, []), (8, .iload_n 1, []), (9, .iload_n 3, []), (10, .invokevirtual 74, [38, 2, 1, 1, 7]), (13, .iload_n 2, []), (14, .if_icmp .ne 5, [19]), (17, .iload_n 3, []), (18, .ireturn, [0]), (19, .iinc 3 1, []), (22, .goto (-20), [2]), (25, .iconst 3, []), (26, .ireturn, [0])]
def h_31 : List (Nat × Nat) := [(2, 4)]
/-- LastStirred$Ground.<init>()V -/
def k_32 : List (Nat × Instr × List Nat) := [(0, .aload_n 0, []), (1, .invokespecial 3, [18]), (4, .aload_n 0, []), (5, .bipush 30, []), (7, .newarray .int, []), (9, .putfield 11, [1, 0, 2, 4]), (12, .aload_n 0, []), (13, .bipush 30, []), (15, .newarray .int, []), (17, .putfield 15, [1, 1, 2, 8]), (20, .aload_n 0, []), (21, .bipush 30, []), (23, .newarray .int, []), (25, .putfield 18, [1, 2, 2, 10]), (28, .return_, [])]
def h_32 : List (Nat × Nat) := []
/-- LastStirred$Ground.spread(II)V -/
def k_33 : List (Nat × Instr × List Nat) := [(0, .aload_n 0, []), (1, .iload_n 1, []), (2, .putfield 21, [1, 3, 0, 12]), (5, .aload_n 0, []), (6, .iload_n 2, []), (7, .putfield 25, [1, 4, 0, 14]), (10, .aload_n 0, []), (11, .iconst 0, []), (12, .putfield 28, [1, 5, 0, 16]), (15, .iconst 0, []), (16, .istore_n 3, []), (17, .iload_n 3, []), (18, .iload_n 2, []), (19, .if_icmp .ge 64, [83]), (22, .iconst 0, []), (23, .istore 4, []), (25, .iload 4, []), (27, .iload_n 1, []), (28, .if_icmp .ge 49, [77]), (31, .aload_n 0, []), (32, .getfield 28, [1, 5, 0, 16]), (35, .bipush 30, []), (37, .if_icmp .ge 40, [77]), (40, .aload_n 0, []), (41, .getfield 15, [1, 1, 2, 8]), (44, .aload_n 0, []), (45, .getfield 28, [1, 5, 0, 16]), (48, .iload 4, []), (50, .iastore, []), (51, .aload_n 0, []), (52, .getfield 18, [1, 2, 2, 10]), (55, .aload_n 0, []), (56, .getfield 28, [1, 5, 0, 16]), (59, .iload_n 3, []), (60, .iastore, []), (61, .aload_n 0, []), (62, .dup, []), (63, .getfield 28, [1, 5, 0, 16]), (66, .iconst 1, []), (67, .iadd, []), (68, .putfield 28, [1, 5, 0, 16]), (71, .iinc 4 1, []), (74, .goto (-49), [25]), (77, .iinc 3 1, []), (80, .goto (-63), [17]), (83, .return_, [])]
def h_33 : List (Nat × Nat) := [(17, 4), (25, 5)]
/-- LastStirred$Ground.take(LLastStirred$Ground;)V -/
def k_34 : List (Nat × Instr × List Nat) := [(0, .aload_n 0, []), (1, .aload_n 1, []), (2, .getfield 21, [1, 3, 0, 12]), (5, .aload_n 1, []), (6, .getfield 25, [1, 4, 0, 14]), (9, .invokevirtual 31, [33, 2, 0, 1, 19]), (12, .aload_n 1, []), (13, .getfield 11, [1, 0, 2, 4]), (16, .iconst 0, []), (17, .aload_n 0, []), (18, .getfield 11, [1, 0, 2, 4]), (21, .iconst 0, []), (22, .bipush 30, []), (24, .invokestatic 35, [20]), (27, .return_, [])]
def h_34 : List (Nat × Nat) := []
/-- LastStirred$Ground.has(I)Z -/
def k_35 : List (Nat × Instr × List Nat) := [(0, .iload_n 1, []), (1, .ifCond .lt 15, [16]), (4, .iload_n 1, []), (5, .aload_n 0, []), (6, .getfield 28, [1, 5, 0, 16]), (9, .if_icmp .ge 7, [16]), (12, .iconst 1, []), (13, .goto 4, [17]), (16, .iconst 0, []), (17, .ireturn, [1])]
def h_35 : List (Nat × Nat) := []
/-- LastStirred$Ground.isOpen(I)Z -/
def k_36 : List (Nat × Instr × List Nat) := [(0, .aload_n 0, []), (1, .getfield 11, [1, 0, 2, 4]), (4, .iload_n 1, []), (5, .iaload, []), (6, .iconst 1, []), (7, .if_icmp .eq 17, [24]), (10, .aload_n 0, []), (11, .getfield 11, [1, 0, 2, 4]), (14, .iload_n 1, []), (15, .iaload, []), (16, .iconst 2, []), (17, .if_icmp .eq 7, [24]), (20, .iconst 1, []), (21, .goto 4, [25]), (24, .iconst 0, []), (25, .ireturn, [1])]
def h_36 : List (Nat × Nat) := []
/-- LastStirred$Ground.off(II)I -/
def k_37 : List (Nat × Instr × List Nat) := [(0, .aload_n 0, []), (1, .getfield 15, [1, 1, 2, 8]), (4, .iload_n 1, []), (5, .iaload, []), (6, .aload_n 0, []), (7, .getfield 15, [1, 1, 2, 8]), (10, .iload_n 2, []), (11, .iaload, []), (12, .isub, []), (13, .invokestatic 41, [21, 0]), (16, .aload_n 0, []), (17, .getfield 18, [1, 2, 2, 10]), (20, .iload_n 1, []), (21, .iaload, []), (22, .aload_n 0, []), (23, .getfield 18, [1, 2, 2, 10]), (26, .iload_n 2, []), (27, .iaload, []), (28, .isub, []), (29, .invokestatic 41, [21, 0]), (32, .iadd, []), (33, .ireturn, [0])]
def h_37 : List (Nat × Nat) := []
/-- LastStirred$Ground.beside(II)I -/
def k_38 : List (Nat × Instr × List Nat) := [(0, .aload_n 0, []), (1, .getfield 15, [1, 1, 2, 8]), (4, .iload_n 1, []), (5, .iaload, []), (6, .getstatic 47, [2, 578]), (9, .iload_n 2, []), (10, .iaload, []), (11, .iadd, []), (12, .istore_n 3, []), (13, .aload_n 0, []), (14, .getfield 18, [1, 2, 2, 10]), (17, .iload_n 1, []), (18, .iaload, []), (19, .getstatic 50, [3, 580]), (22, .iload_n 2, []), (23, .iaload, []), (24, .iadd, []), (25, .istore 4, []), (27, .iload_n 3, []), (28, .ifCond .lt 25, [53]), (31, .iload_n 3, []), (32, .aload_n 0, []), (33, .getfield 21, [1, 3, 0, 12]), (36, .if_icmp .ge 17, [53]), (39, .iload 4, []), (41, .ifCond .lt 12, [53]), (44, .iload 4, []), (46, .aload_n 0, []), (47, .getfield 25, [1, 4, 0, 14]), (50, .if_icmp .lt 8, [58]), (53, .bipush (-9), []), (55, .goto 12, [67]), (58, .iload 4, []), (60, .aload_n 0, []), (61, .getfield 21, [1, 3, 0, 12]), (64, .imul, []), (65, .iload_n 3, []), (66, .iadd, []), (67, .ireturn, [0])]
def h_38 : List (Nat × Nat) := []
/-- LastStirred$Ground.howMany(I)I -/
def k_39 : List (Nat × Instr × List Nat) := [(0, .iconst 0, []), (1, .istore_n 2, []), (2, .iconst 0, []), (3, .istore_n 3, []), (4, .iload_n 3, []), (5, .aload_n 0, []), (6, .getfield 28, [1, 5, 0, 16]), (9, .if_icmp .ge 22, [31]), (12, .aload_n 0, []), (13, .getfield 11, [1, 0, 2, 4]), (16, .iload_n 3, []), (17, .iaload, []), (18, .iload_n 1, []), (19, .if_icmp .ne 6, [25]), (22, .iinc 2 1, []), (25, .iinc 3 1, []), (28, .goto (-24), [4]), (31, .iload_n 2, []), (32, .ireturn, [0])]
def h_39 : List (Nat × Nat) := [(4, 4)]
/-- LastStirred$Ground.reachFrom(IZ)I -/
def k_40 : List (Nat × Instr × List Nat) := [(0, .aload_n 0, []), (1, .iload_n 1, []), (2, .invokevirtual 53, [36, 1, 1, 1, 22]), (5, .ifCond .ne 5, [10]), (8, .iconst 0, []), (9, .ireturn, [0]), (10, .iconst 1, []), (11, .iload_n 1, []), (12, .ishl, []), (13, .istore_n 3, []), (14, .iconst 0, []), (15, .istore 4, []), (17, .iconst 0, []), (18, .istore 5, []), (20, .iload 5, []), (22, .aload_n 0, []), (23, .getfield 28, [1, 5, 0, 16]), (26, .if_icmp .ge 56, [82]), (29, .iload_n 3, []), (30, .iload 4, []), (32, .if_icmp .eq 50, [82]), (35, .iload_n 3, []), (36, .istore 4, []), (38, .iconst 0, []), (39, .istore 6, []), (41, .iload 6, []), (43, .aload_n 0, []), (44, .getfield 28, [1, 5, 0, 16]), (47, .if_icmp .ge 29, [76]), (50, .iload_n 3, []), (51, .iload 6, []), (53, .ishr, []), (54, .iconst 1, []), (55, .iand, []), (56, .iconst 1, []), (57, .if_icmp .ne 13, [70]), (60, .iload_n 3, []), (61, .aload_n 0, []), (62, .iload 6, []), (64, .iload_n 2, []), (65, .invokevirtual 57, [41, 2, 1, 1, 23]), (68, .ior, []), (69, .istore_n 3, []), (70, .iinc 6 1, []), (73, .goto (-32), [41]), (76, .iinc 5 1, []), (79, .goto (-59), [20]), (82, .iload_n 3, []), (83, .ireturn, [0])]
def h_40 : List (Nat × Nat) := [(20, 6), (41, 7)]
/-- LastStirred$Ground.openBeside(IZ)I -/
def k_41 : List (Nat × Instr × List Nat) := [(0, .iconst 0, []), (1, .istore_n 3, []), (2, .iconst 0, []), (3, .istore 4, []), (5, .iload 4, []), (7, .iconst 4, []), (8, .if_icmp .ge 56, [64]), (11, .aload_n 0, []), (12, .iload_n 1, []), (13, .iload 4, []), (15, .invokevirtual 61, [38, 2, 1, 1, 24]), (18, .istore 5, []), (20, .iload 5, []), (22, .bipush (-9), []), (24, .if_icmp .eq 34, [58]), (27, .aload_n 0, []), (28, .iload 5, []), (30, .invokevirtual 53, [36, 1, 1, 1, 22]), (33, .ifCond .eq 25, [58]), (36, .iload_n 2, []), (37, .ifCond .ne 14, [51]), (40, .aload_n 0, []), (41, .getfield 11, [1, 0, 2, 4]), (44, .iload 5, []), (46, .iaload, []), (47, .iconst 4, []), (48, .if_icmp .eq 10, [58]), (51, .iload_n 3, []), (52, .iconst 1, []), (53, .iload 5, []), (55, .ishl, []), (56, .ior, []), (57, .istore_n 3, []), (58, .iinc 4 1, []), (61, .goto (-56), [5]), (64, .iload_n 3, []), (65, .ireturn, [0])]
def h_41 : List (Nat × Nat) := [(5, 5)]
/-- LastStirred$Reader.<init>()V -/
def k_42 : List (Nat × Instr × List Nat) := [(0, .aload_n 0, []), (1, .invokespecial 3, [25]), (4, .aload_n 0, []), (5, .new 9, [1, 6, 131]), (8, .dup, []), (9, .invokespecial 11, [32, 0, 0, 26]), (12, .putfield 12, [2, 0, 2, 38]), (15, .aload_n 0, []), (16, .new 18, [0, 10, 165]), (19, .dup, []), (20, .invokespecial 20, [0, 0, 0, 27]), (23, .putfield 21, [2, 1, 2, 40]), (26, .aload_n 0, []), (27, .iconst 0, []), (28, .newarray .int, []), (30, .putfield 25, [2, 2, 2, 42]), (33, .return_, [])]
def h_42 : List (Nat × Nat) := []
/-- LastStirred$Reader.readAll([II)I -/
def k_43 : List (Nat × Instr × List Nat) := [(0, .aload_n 0, []), (1, .aload_n 1, []), (2, .putfield 25, [2, 2, 2, 42]), (5, .aload_n 0, []), (6, .iload_n 2, []), (7, .putfield 29, [2, 3, 0, 43]), (10, .aload_n 0, []), (11, .iconst 0, []), (12, .putfield 33, [2, 4, 0, 44]), (15, .aload_n 0, []), (16, .invokevirtual 36, [44, 0, 1, 2, 28]), (19, .ifCond .eq 22, [41]), (22, .aload_n 0, []), (23, .invokevirtual 40, [45, 0, 1, 2, 29]), (26, .ifCond .eq 15, [41]), (29, .aload_n 0, []), (30, .invokevirtual 43, [46, 0, 1, 2, 30]), (33, .ifCond .eq 8, [41]), (36, .bipush (-9), []), (38, .goto 7, [45]), (41, .aload_n 0, []), (42, .getfield 33, [2, 4, 0, 44]), (45, .ireturn, [0])]
def h_43 : List (Nat × Nat) := []
/-- LastStirred$Reader.readSize()Z -/
def k_44 : List (Nat × Instr × List Nat) := [(0, .aload_n 0, []), (1, .invokevirtual 46, [48, 0, 0, 2, 31]), (4, .aload_n 0, []), (5, .invokevirtual 49, [49, 0, 1, 2, 32]), (8, .bipush 103, []), (10, .if_icmp .eq 5, [15]), (13, .iconst 0, []), (14, .ireturn, [1]), (15, .aload_n 0, []), (16, .dup, []), (17, .getfield 33, [2, 4, 0, 44]), (20, .iconst 1, []), (21, .iadd, []), (22, .putfield 33, [2, 4, 0, 44]), (25, .aload_n 0, []), (26, .iconst 2, []), (27, .bipush 6, []), (29, .invokevirtual 53, [50, 2, 1, 2, 33]), (32, .istore_n 1, []), (33, .iload_n 1, []), (34, .bipush (-9), []), (36, .if_icmp .ne 5, [41]), (39, .iconst 0, []), (40, .ireturn, [1]), (41, .aload_n 0, []), (42, .iconst 1, []), (43, .iconst 5, []), (44, .invokevirtual 53, [50, 2, 1, 2, 33]), (47, .istore_n 2, []), (48, .iload_n 2, []), (49, .bipush (-9), []), (51, .if_icmp .ne 5, [56]), (54, .iconst 0, []), (55, .ireturn, [1]), (56, .aload_n 0, []), (57, .getfield 12, [2, 0, 2, 38]), (60, .iload_n 1, []), (61, .iload_n 2, []), (62, .invokevirtual 57, [33, 2, 0, 1, 34]), (65, .iconst 1, []), (66, .ireturn, [1])]
def h_44 : List (Nat × Nat) := []
/-- LastStirred$Reader.readCells()Z -/
def k_45 : List (Nat × Instr × List Nat) := [(0, .iconst 0, []), (1, .istore_n 1, []), (2, .iload_n 1, []), (3, .aload_n 0, []), (4, .getfield 12, [2, 0, 2, 38]), (7, .getfield 61, [1, 5, 0, 17]), (10, .if_icmp .ge 52, [62]), (13, .aload_n 0, []), (14, .invokevirtual 46, [48, 0, 0, 2, 31]), (17, .getstatic 62, [0, 441]), (20, .aload_n 0, []), (21, .invokevirtual 49, [49, 0, 1, 2, 32]), (24, .invokestatic 65, [125, 2, 1, 35]), (27, .istore_n 2, []), (28, .iload_n 2, []), (29, .bipush (-9), []), (31, .if_icmp .ne 5, [36]), (34, .iconst 0, []), (35, .ireturn, [1]), (36, .aload_n 0, []), (37, .getfield 12, [2, 0, 2, 38]), (40, .getfield 69, [1, 0, 2, 5]), (43, .iload_n 1, []), (44, .iload_n 2, []), (45, .iastore, []), (46, .aload_n 0, []), (47, .dup, []), (48, .getfield 33, [2, 4, 0, 44]), (51, .iconst 1, []), (52, .iadd, []), (53, .putfield 33, [2, 4, 0, 44]), (56, .iinc 1 1, []), (59, .goto (-57), [2]), (62, .iconst 1, []), (63, .ireturn, [1])]
def h_45 : List (Nat × Nat) := [(2, 2)]
/-- LastStirred$Reader.readBeasts()Z -/
def k_46 : List (Nat × Instr × List Nat) := [(0, .aload_n 0, []), (1, .getfield 21, [2, 1, 2, 40]), (4, .invokevirtual 72, [1, 0, 0, 0, 36]), (7, .iconst 0, []), (8, .istore_n 1, []), (9, .iload_n 1, []), (10, .iconst 4, []), (11, .if_icmp .ge 35, [46]), (14, .aload_n 0, []), (15, .invokevirtual 46, [48, 0, 0, 2, 31]), (18, .aload_n 0, []), (19, .getfield 33, [2, 4, 0, 44]), (22, .aload_n 0, []), (23, .getfield 29, [2, 3, 0, 43]), (26, .if_icmp .ne 5, [31]), (29, .iconst 1, []), (30, .ireturn, [1]), (31, .aload_n 0, []), (32, .invokevirtual 75, [47, 0, 1, 2, 37]), (35, .ifCond .ne 5, [40]), (38, .iconst 0, []), (39, .ireturn, [1]), (40, .iinc 1 1, []), (43, .goto (-34), [9]), (46, .aload_n 0, []), (47, .invokevirtual 46, [48, 0, 0, 2, 31]), (50, .aload_n 0, []), (51, .getfield 33, [2, 4, 0, 44]), (54, .aload_n 0, []), (55, .getfield 29, [2, 3, 0, 43]), (58, .if_icmp .ne 7, [65]), (61, .iconst 1, []), (62, .goto 4, [66]), (65, .iconst 0, []), (66, .ireturn, [1])]
def h_46 : List (Nat × Nat) := [(9, 2)]
/-- LastStirred$Reader.readBeast()Z -/
def k_47 : List (Nat × Instr × List Nat) := [(0, .getstatic 78, [1, 458]), (3, .aload_n 0, []), (4, .invokevirtual 49, [49, 0, 1, 2, 32]), (7, .invokestatic 65, [125, 2, 1, 35]), (10, .istore_n 1, []), (11, .iload_n 1, []), (12, .bipush (-9), []), (14, .if_icmp .ne 5, [19]), (17, .iconst 0, []), (18, .ireturn, [1]), (19, .aload_n 0, []), (20, .dup, []), (21, .getfield 33, [2, 4, 0, 44]), (24, .iconst 1, []), (25, .iadd, []), (26, .putfield 33, [2, 4, 0, 44]), (29, .aload_n 0, []), (30, .iconst 0, []), (31, .aload_n 0, []), (32, .getfield 12, [2, 0, 2, 38]), (35, .getfield 81, [1, 3, 0, 13]), (38, .iconst 1, []), (39, .isub, []), (40, .invokevirtual 53, [50, 2, 1, 2, 33]), (43, .istore_n 2, []), (44, .iload_n 2, []), (45, .bipush (-9), []), (47, .if_icmp .ne 5, [52]), (50, .iconst 0, []), (51, .ireturn, [1]), (52, .aload_n 0, []), (53, .iconst 0, []), (54, .aload_n 0, []), (55, .getfield 12, [2, 0, 2, 38]), (58, .getfield 84, [1, 4, 0, 15]), (61, .iconst 1, []), (62, .isub, []), (63, .invokevirtual 53, [50, 2, 1, 2, 33]), (66, .istore_n 3, []), (67, .iload_n 3, []), (68, .bipush (-9), []), (70, .if_icmp .ne 5, [75]), (73, .iconst 0, []), (74, .ireturn, [1]), (75, .iload_n 3, []), (76, .aload_n 0, []), (77, .getfield 12, [2, 0, 2, 38]), (80, .getfield 81, [1, 3, 0, 13]), (83, .imul, []), (84, .iload_n 2, []), (85, .iadd, []), (86, .istore 4, []), (88, .aload_n 0, []), (89, .getfield 12, [2, 0, 2, 38]), (92, .iload 4, []), (94, .invokevirtual 87, [36, 1, 1, 1, 38]), (97, .ifCond .eq 15, [112]), (100, .aload_n 0, []), (101, .getfield 21, [2, 1, 2, 40]), (104, .iload 4, []), (106, .invokevirtual 91, [7, 1, 1, 0, 39]), (109, .ifCond .eq 15, [124]), (112, .aload_n 0, []), (113, .dup, []), (114, .getfield 33, [2, 4, 0, 44]), (117, .iconst 1, []), (118, .isub, []), (119, .putfield 33, [2, 4, 0, 44]), (122, .iconst 0, []), (123, .ireturn, [1]), (124, .aload_n 0, []), (125, .getfield 21, [2, 1, 2, 40]), (128, .iload_n 1, []), (129, .iload 4, []), (131, .invokevirtual 94, [2, 2, 0, 0, 40]), (134, .iconst 1, []), (135, .ireturn, [1])]
def h_47 : List (Nat × Nat) := []
/-- LastStirred$Reader.skipBlanks()V -/
def k_48 : List (Nat × Instr × List Nat) := [(0, .aload_n 0, []), (1, .getfield 33, [2, 4, 0, 44]), (4, .aload_n 0, []), (5, .getfield 29, [2, 3, 0, 43]), (8, .if_icmp .ge 30, [38]), (11, .aload_n 0, []), (12, .getfield 25, [2, 2, 2, 42]), (15, .aload_n 0, []), (16, .getfield 33, [2, 4, 0, 44]), (19, .iaload, []), (20, .bipush 32, []), (22, .if_icmp .ne 16, [38]), (25, .aload_n 0, []), (26, .dup, []), (27, .getfield 33, [2, 4, 0, 44]), (30, .iconst 1, []), (31, .iadd, []), (32, .putfield 33, [2, 4, 0, 44]), (35, .goto (-35), [0]), (38, .return_, [])]
def h_48 : List (Nat × Nat) := [(0, 1)]
/-- LastStirred$Reader.sign()I -/
def k_49 : List (Nat × Instr × List Nat) := [(0, .aload_n 0, []), (1, .getfield 33, [2, 4, 0, 44]), (4, .aload_n 0, []), (5, .getfield 29, [2, 3, 0, 43]), (8, .if_icmp .ge 15, [23]), (11, .aload_n 0, []), (12, .getfield 25, [2, 2, 2, 42]), (15, .aload_n 0, []), (16, .getfield 33, [2, 4, 0, 44]), (19, .iaload, []), (20, .goto 6, [26]), (23, .sipush 1000, []), (26, .ireturn, [0])]
def h_49 : List (Nat × Nat) := []
/-- LastStirred$Reader.figure(II)I -/
def k_50 : List (Nat × Instr × List Nat) := [(0, .aload_n 0, []), (1, .invokevirtual 49, [49, 0, 1, 2, 32]), (4, .bipush 48, []), (6, .isub, []), (7, .istore_n 3, []), (8, .iload_n 3, []), (9, .iload_n 1, []), (10, .if_icmp .lt 8, [18]), (13, .iload_n 3, []), (14, .iload_n 2, []), (15, .if_icmp .le 6, [21]), (18, .bipush (-9), []), (20, .ireturn, [0]), (21, .aload_n 0, []), (22, .dup, []), (23, .getfield 33, [2, 4, 0, 44]), (26, .iconst 1, []), (27, .iadd, []), (28, .putfield 33, [2, 4, 0, 44]), (31, .iload_n 3, []), (32, .ireturn, [0])]
def h_50 : List (Nat × Nat) := []
/-- LastStirred$Search.<init>()V -/
def k_51 : List (Nat × Instr × List Nat) := [(0, .aload_n 0, []), (1, .invokespecial 3, [41]), (4, .aload_n 0, []), (5, .iconst 4, []), (6, .anewarray 9, [240]), (9, .dup, []), (10, .iconst 0, []), (11, .new 9, [0, 10, 240]), (14, .dup, []), (15, .invokespecial 11, [0, 0, 0, 42]), (18, .aastore, []), (19, .dup, []), (20, .iconst 1, []), (21, .new 9, [0, 10, 240]), (24, .dup, []), (25, .invokespecial 11, [0, 0, 0, 42]), (28, .aastore, []), (29, .dup, []), (30, .iconst 2, []), (31, .new 9, [0, 10, 240]), (34, .dup, []), (35, .invokespecial 11, [0, 0, 0, 42]), (38, .aastore, []), (39, .dup, []), (40, .iconst 3, []), (41, .new 9, [0, 10, 240]), (44, .dup, []), (45, .invokespecial 11, [0, 0, 0, 42]), (48, .aastore, []), (49, .putfield 12, [3, 0, 2, 45]), (52, .aload_n 0, []), (53, .iconst 4, []), (54, .newarray .int, []), (56, .putfield 18, [3, 1, 2, 46]), (59, .return_, [])]
def h_51 : List (Nat × Nat) := []
/-- LastStirred$Search.seekSafe()V -/
def k_52 : List (Nat × Instr × List Nat) := [(0, .aload_n 0, []), (1, .iconst 1, []), (2, .putfield 22, [3, 2, 3, 47]), (5, .return_, [])]
def h_52 : List (Nat × Nat) := []
/-- LastStirred$Search.seekDawn([I)V -/
def k_53 : List (Nat × Instr × List Nat) := [(0, .aload_n 0, []), (1, .iconst 0, []), (2, .putfield 22, [3, 2, 3, 47]), (5, .aload_n 1, []), (6, .iconst 0, []), (7, .aload_n 0, []), (8, .getfield 18, [3, 1, 2, 46]), (11, .iconst 0, []), (12, .iconst 4, []), (13, .invokestatic 26, [43]), (16, .return_, [])]
def h_53 : List (Nat × Nat) := []
/-- LastStirred$Search.fewFrom(LLastStirred$Ground;LLastStirred$Flock;I)I -/
def k_54 : List (Nat × Instr × List Nat) := [(0, .iconst 0, []), (1, .istore 4, []), (3, .iload 4, []), (5, .iload_n 3, []), (6, .if_icmp .gt 33, [39]), (9, .aload_n 0, []), (10, .aload_n 2, []), (11, .iload 4, []), (13, .invokevirtual 32, [56, 2, 0, 3, 44]), (16, .aload_n 0, []), (17, .aload_n 1, []), (18, .iconst 0, []), (19, .iconst 0, []), (20, .invokestatic 36, [57, 4, 0, 45]), (23, .aload_n 0, []), (24, .getfield 40, [3, 5, 0, 51]), (27, .ifCond .le 6, [33]), (30, .iload 4, []), (32, .ireturn, [0]), (33, .iinc 4 1, []), (36, .goto (-33), [3]), (39, .bipush (-9), []), (41, .ireturn, [0])]
def h_54 : List (Nat × Nat) := [(3, 5)]
/-- LastStirred$Search.allFrom(LLastStirred$Ground;LLastStirred$Flock;I)V -/
def k_55 : List (Nat × Instr × List Nat) := [(0, .aload_n 0, []), (1, .aload_n 2, []), (2, .iload_n 3, []), (3, .invokevirtual 32, [56, 2, 0, 3, 44]), (6, .aload_n 0, []), (7, .aload_n 1, []), (8, .iconst 0, []), (9, .iconst 0, []), (10, .invokestatic 36, [57, 4, 0, 45]), (13, .return_, [])]
def h_55 : List (Nat × Nat) := []
/-- LastStirred$Search.begin(LLastStirred$Flock;I)V -/
def k_56 : List (Nat × Instr × List Nat) := [(0, .aload_n 0, []), (1, .getfield 12, [3, 0, 2, 45]), (4, .iconst 0, []), (5, .aaload, []), (6, .aload_n 1, []), (7, .invokevirtual 44, [3, 1, 0, 0, 46]), (10, .aload_n 0, []), (11, .iload_n 2, []), (12, .putfield 48, [3, 3, 0, 48]), (15, .aload_n 0, []), (16, .iconst 0, []), (17, .putfield 51, [3, 4, 0, 49]), (20, .aload_n 0, []), (21, .iconst 0, []), (22, .putfield 40, [3, 5, 0, 51]), (25, .aload_n 0, []), (26, .iconst 0, []), (27, .putfield 54, [3, 6, 0, 53]), (30, .aload_n 0, []), (31, .iconst 0, []), (32, .putfield 57, [3, 7, 0, 55]), (35, .aload_n 0, []), (36, .iconst 0, []), (37, .putfield 60, [3, 8, 0, 57]), (40, .return_, [])]
def h_56 : List (Nat × Nat) := []
/-- LastStirred$Search.follow(LLastStirred$Search;LLastStirred$Ground;II)V -/
def k_57 : List (Nat × Instr × List Nat) := [(0, .iload_n 2, []), (1, .aload_n 0, []), (2, .getfield 48, [3, 3, 0, 48]), (5, .if_icmp .ge 8, [13]), (8, .iload_n 2, []), (9, .iconst 3, []), (10, .if_icmp .lt 11, [21]), (13, .aload_n 0, []), (14, .aload_n 1, []), (15, .iload_n 2, []), (16, .iload_n 3, []), (17, .invokevirtual 63, [58, 3, 0, 3, 47]), (20, .return_, []), (21, .aload_n 0, []), (22, .getfield 12, [3, 0, 2, 45]), (25, .iload_n 2, []), (26, .iconst 1, []), (27, .iadd, []), (28, .aaload, []), (29, .astore 4, []), (31, .iconst 0, []), (32, .istore 5, []), (34, .iload 5, []), (36, .aload_n 0, []), (37, .getfield 12, [3, 0, 2, 45]), (40, .iload_n 2, []), (41, .aaload, []), (42, .invokevirtual 67, [13, 0, 1, 0, 48]), (45, .if_icmp .ge 45, [90]), (48, .aload 4, []), (50, .aload_n 0, []), (51, .getfield 12, [3, 0, 2, 45]), (54, .iload_n 2, []), (55, .aaload, []), (56, .invokevirtual 44, [3, 1, 0, 0, 46]), (59, .aload 4, []), (61, .aload_n 1, []), (62, .iload 5, []), (64, .invokevirtual 71, [29, 2, 1, 0, 49]), (67, .ifCond .eq 17, [84]), (70, .aload_n 0, []), (71, .aload_n 1, []), (72, .iload_n 2, []), (73, .iconst 1, []), (74, .iadd, []), (75, .iload_n 3, []), (76, .iconst 4, []), (77, .ishl, []), (78, .iload 5, []), (80, .ior, []), (81, .invokestatic 36, [57, 4, 0, 45]), (84, .iinc 5 1, []), (87, .goto (-53), [34]), (90, .return_, [])]
def h_57 : List (Nat × Nat) := [(34, 6)]
/-- LastStirred$Search.note(LLastStirred$Ground;II)V -/
def k_58 : List (Nat × Instr × List Nat) := [(0, .aload_n 0, []), (1, .dup, []), (2, .getfield 51, [3, 4, 0, 49]), (5, .iconst 1, []), (6, .iadd, []), (7, .putfield 51, [3, 4, 0, 49]), (10, .aload_n 0, []), (11, .getfield 22, [3, 2, 3, 47]), (14, .ifCond .eq 16, [30]), (17, .aload_n 0, []), (18, .getfield 12, [3, 0, 2, 45]), (21, .iload_n 2, []), (22, .aaload, []), (23, .aload_n 1, []), (24, .invokevirtual 75, [17, 1, 1, 0, 50]), (27, .goto 16, [43]), (30, .aload_n 0, []), (31, .getfield 12, [3, 0, 2, 45]), (34, .iload_n 2, []), (35, .aaload, []), (36, .aload_n 0, []), (37, .getfield 18, [3, 1, 2, 46]), (40, .invokevirtual 79, [18, 1, 1, 0, 51]), (43, .istore 4, []), (45, .iload 4, []), (47, .ifCond .ne 4, [51]), (50, .return_, []), (51, .aload_n 0, []), (52, .getfield 40, [3, 5, 0, 51]), (55, .ifCond .ne 8, [63]), (58, .aload_n 0, []), (59, .iload_n 3, []), (60, .putfield 54, [3, 6, 0, 53]), (63, .aload_n 0, []), (64, .dup, []), (65, .getfield 40, [3, 5, 0, 51]), (68, .iconst 1, []), (69, .iadd, []), (70, .putfield 40, [3, 5, 0, 51]), (73, .iload_n 2, []), (74, .ifCond .ne 4, [78]), (77, .return_, []), (78, .iload_n 3, []), (79, .iconst 4, []), (80, .iload_n 2, []), (81, .iconst 1, []), (82, .isub, []), (83, .imul, []), (84, .ishr, []), (85, .istore 5, []), (87, .aload_n 0, []), (88, .dup, []), (89, .getfield 57, [3, 7, 0, 55]), (92, .iconst 1, []), (93, .iload 5, []), (95, .iconst 4, []), (96, .idiv, []), (97, .ishl, []), (98, .ior, []), (99, .putfield 57, [3, 7, 0, 55]), (102, .aload_n 0, []), (103, .dup, []), (104, .getfield 60, [3, 8, 0, 57]), (107, .iconst 1, []), (108, .iload 5, []), (110, .iconst 4, []), (111, .irem, []), (112, .ishl, []), (113, .ior, []), (114, .putfield 60, [3, 8, 0, 57]), (117, .return_, [])]
def h_58 : List (Nat × Nat) := []
/-- LastStirred$Shelf.<init>([[I)V -/
def k_59 : List (Nat × Instr × List Nat) := [(0, .aload_n 0, []), (1, .invokespecial 3, [52]), (4, .aload_n 0, []), (5, .aload_n 1, []), (6, .putfield 9, [4, 0, 2, 0]), (9, .aload_n 0, []), (10, .aload_n 1, []), (11, .arraylength, []), (12, .newarray .int, []), (14, .putfield 15, [4, 1, 2, 2]), (17, .aload_n 0, []), (18, .getfield 15, [4, 1, 2, 2]), (21, .iconst (-1), []), (22, .invokestatic 19, [235, 2, 0, 53]), (25, .return_, [])]
def h_59 : List (Nat × Nat) := []
/-- LastStirred$Shelf.has(I)Z -/
def k_60 : List (Nat × Instr × List Nat) := [(0, .iload_n 1, []), (1, .ifCond .lt 16, [17]), (4, .iload_n 1, []), (5, .aload_n 0, []), (6, .getfield 15, [4, 1, 2, 2]), (9, .arraylength, []), (10, .if_icmp .ge 7, [17]), (13, .iconst 1, []), (14, .goto 4, [18]), (17, .iconst 0, []), (18, .ireturn, [1])]
def h_60 : List (Nat × Nat) := []
/-- LastStirred$Shelf.make(III)V -/
def k_61 : List (Nat × Instr × List Nat) := [(0, .aload_n 0, []), (1, .getfield 9, [4, 0, 2, 0]), (4, .iload_n 1, []), (5, .aaload, []), (6, .iload_n 3, []), (7, .invokestatic 19, [235, 2, 0, 53]), (10, .aload_n 0, []), (11, .getfield 15, [4, 1, 2, 2]), (14, .iload_n 1, []), (15, .iload_n 2, []), (16, .iastore, []), (17, .return_, [])]
def h_61 : List (Nat × Nat) := []
/-- LastStirred$Shelf.thereAre()I -/
def k_62 : List (Nat × Instr × List Nat) := [(0, .iconst 0, []), (1, .istore_n 1, []), (2, .aload_n 0, []), (3, .getfield 15, [4, 1, 2, 2]), (6, .astore_n 2, []), (7, .aload_n 2, []), (8, .arraylength, []), (9, .istore_n 3, []), (10, .iconst 0, []), (11, .istore 4, []), (13, .iload 4, []), (15, .iload_n 3, []), (16, .if_icmp .ge 24, [40]), (19, .aload_n 2, []), (20, .iload 4, []), (22, .iaload, []), (23, .istore 5, []), (25, .iload 5, []), (27, .iconst (-1), []), (28, .if_icmp .eq 6, [34]), (31, .iinc 1 1, []), (34, .iinc 4 1, []), (37, .goto (-24), [13]), (40, .iload_n 1, []), (41, .ireturn, [0])]
def h_62 : List (Nat × Nat) := [(13, 5)]
/-- LastStirred$Shelf.addTo(J)J -/
def k_63 : List (Nat × Instr × List Nat) := [(0, .lload_n 1, []), (1, .lstore_n 3, []), (2, .iconst 0, []), (3, .istore 5, []), (5, .iload 5, []), (7, .aload_n 0, []), (8, .getfield 15, [4, 1, 2, 2]), (11, .arraylength, []), (12, .if_icmp .ge 63, [75]), (15, .ldc2_w 25, [3, 870]), (18, .lload_n 3, []), (19, .lmul, []), (20, .aload_n 0, []), (21, .getfield 15, [4, 1, 2, 2]), (24, .iload 5, []), (26, .iaload, []), (27, .i2l, []), (28, .ladd, []), (29, .lstore_n 3, []), (30, .iconst 0, []), (31, .istore 6, []), (33, .iload 6, []), (35, .aload_n 0, []), (36, .getfield 15, [4, 1, 2, 2]), (39, .iload 5, []), (41, .iaload, []), (42, .if_icmp .ge 27, [69]), (45, .ldc2_w 25, [3, 870]), (48, .lload_n 3, []), (49, .lmul, []), (50, .aload_n 0, []), (51, .getfield 9, [4, 0, 2, 0]), (54, .iload 5, []), (56, .aaload, []), (57, .iload 6, []), (59, .iaload, []), (60, .i2l, []), (61, .ladd, []), (62, .lstore_n 3, []), (63, .iinc 6 1, []), (66, .goto (-33), [33]), (69, .iinc 5 1, []), (72, .goto (-67), [5]), (75, .lload_n 3, []), (76, .lreturn, [])]
def h_63 : List (Nat × Nat) := [(5, 6), (33, 7)]
/-- LastStirred$Watch.<init>()V -/
def k_64 : List (Nat × Instr × List Nat) := [(0, .aload_n 0, []), (1, .invokespecial 3, [54]), (4, .aload_n 0, []), (5, .iconst 3, []), (6, .anewarray 9, [282]), (9, .dup, []), (10, .iconst 0, []), (11, .new 9, [0, 10, 282]), (14, .dup, []), (15, .invokespecial 11, [0, 0, 0, 55]), (18, .aastore, []), (19, .dup, []), (20, .iconst 1, []), (21, .new 9, [0, 10, 282]), (24, .dup, []), (25, .invokespecial 11, [0, 0, 0, 55]), (28, .aastore, []), (29, .dup, []), (30, .iconst 2, []), (31, .new 9, [0, 10, 282]), (34, .dup, []), (35, .invokespecial 11, [0, 0, 0, 55]), (38, .aastore, []), (39, .putfield 12, [5, 0, 2, 59]), (42, .return_, [])]
def h_64 : List (Nat × Nat) := []
/-- LastStirred$Watch.keepsAll(LLastStirred$Ground;LLastStirred$Flock;II)Z -/
def k_65 : List (Nat × Instr × List Nat) := [(0, .aload_n 0, []), (1, .getfield 12, [5, 0, 2, 59]), (4, .iconst 0, []), (5, .aaload, []), (6, .aload_n 2, []), (7, .invokevirtual 18, [3, 1, 0, 0, 56]), (10, .aload_n 0, []), (11, .iload 4, []), (13, .aload_n 0, []), (14, .getfield 12, [5, 0, 2, 59]), (17, .arraylength, []), (18, .iconst 1, []), (19, .isub, []), (20, .invokestatic 22, [57, 0, 0]), (23, .putfield 28, [5, 1, 0, 60]), (26, .aload_n 0, []), (27, .aload_n 2, []), (28, .invokevirtual 32, [14, 0, 1, 0, 58]), (31, .putfield 36, [5, 2, 0, 61]), (34, .aload_n 0, []), (35, .aload_n 1, []), (36, .iload_n 3, []), (37, .iconst 0, []), (38, .invokevirtual 39, [66, 3, 1, 5, 59]), (41, .ireturn, [1])]
def h_65 : List (Nat × Nat) := []
/-- LastStirred$Watch.shepherdKeeps(LLastStirred$Ground;II)Z -/
def k_66 : List (Nat × Instr × List Nat) := [(0, .iload_n 3, []), (1, .aload_n 0, []), (2, .getfield 28, [5, 1, 0, 60]), (5, .if_icmp .lt 5, [10]), (8, .iconst 1, []), (9, .ireturn, [1]), (10, .aload_n 0, []), (11, .getfield 12, [5, 0, 2, 59]), (14, .iload_n 3, []), (15, .iconst 1, []), (16, .iadd, []), (17, .aaload, []), (18, .astore 4, []), (20, .iconst (-1), []), (21, .istore 5, []), (23, .iload 5, []), (25, .aload_n 0, []), (26, .getfield 12, [5, 0, 2, 59]), (29, .iload_n 3, []), (30, .aaload, []), (31, .invokevirtual 43, [13, 0, 1, 0, 60]), (34, .if_icmp .ge 88, [122]), (37, .aload 4, []), (39, .aload_n 0, []), (40, .getfield 12, [5, 0, 2, 59]), (43, .iload_n 3, []), (44, .aaload, []), (45, .invokevirtual 18, [3, 1, 0, 0, 56]), (48, .iload 5, []), (50, .ifCond .lt 17, [67]), (53, .aload 4, []), (55, .aload_n 1, []), (56, .iload 5, []), (58, .invokevirtual 46, [29, 2, 1, 0, 61]), (61, .ifCond .ne 6, [67]), (64, .goto 52, [116]), (67, .aload 4, []), (69, .invokevirtual 32, [14, 0, 1, 0, 58]), (72, .aload_n 0, []), (73, .getfield 36, [5, 2, 0, 61]), (76, .if_icmp .gt 40, [116]), (79, .aload_n 0, []), (80, .aload_n 1, []), (81, .iload_n 2, []), (82, .iload_n 3, []), (83, .iconst 1, []), (84, .iadd, []), (85, .invokevirtual 50, [67, 3, 1, 5, 62]), (88, .ifCond .ne 6, [94]), (91, .goto 25, [116]), (94, .iload_n 3, []), (95, .ifCond .ne 19, [114]), (98, .aload_n 0, []), (99, .iload 5, []), (101, .ifCond .ge 8, [109]), (104, .bipush (-9), []), (106, .goto 5, [111]), (109, .iload 5, []), (111, .putfield 53, [5, 3, 0, 62]), (114, .iconst 1, []), (115, .ireturn, [1]), (116, .iinc 5 1, []), (119, .goto (-96), [23]), (122, .iconst 0, []), (123, .ireturn, [1])]
def h_66 : List (Nat × Nat) := [(23, 6)]
/-- LastStirred$Watch.wolfFails(LLastStirred$Ground;II)Z -/
def k_67 : List (Nat × Instr × List Nat) := [(0, .iconst (-1), []), (1, .istore 4, []), (3, .iload 4, []), (5, .iconst 4, []), (6, .if_icmp .ge 73, [79]), (9, .iload 4, []), (11, .ifCond .ge 7, [18]), (14, .iload_n 2, []), (15, .goto 10, [25]), (18, .aload_n 1, []), (19, .iload_n 2, []), (20, .iload 4, []), (22, .invokevirtual 56, [38, 2, 1, 1, 63]), (25, .istore 5, []), (27, .iload 5, []), (29, .bipush (-9), []), (31, .if_icmp .eq 42, [73]), (34, .aload_n 1, []), (35, .iload 5, []), (37, .invokevirtual 61, [36, 1, 1, 1, 64]), (40, .ifCond .ne 6, [46]), (43, .goto 30, [73]), (46, .aload_n 0, []), (47, .getfield 12, [5, 0, 2, 59]), (50, .iload_n 3, []), (51, .aaload, []), (52, .iload 5, []), (54, .invokevirtual 65, [7, 1, 1, 0, 65]), (57, .ifCond .ne 14, [71]), (60, .aload_n 0, []), (61, .aload_n 1, []), (62, .iload 5, []), (64, .iload_n 3, []), (65, .invokevirtual 39, [66, 3, 1, 5, 59]), (68, .ifCond .ne 5, [73]), (71, .iconst 0, []), (72, .ireturn, [1]), (73, .iinc 4 1, []), (76, .goto (-73), [3]), (79, .iconst 1, []), (80, .ireturn, [1])]
def h_67 : List (Nat × Nat) := [(3, 5)]
/-- LastStirred.<init>()V -/
def k_68 : List (Nat × Instr × List Nat) := [(0, .aload_n 0, []), (1, .invokespecial 1, [66]), (4, .aload_n 0, []), (5, .new 7, [4, 2, 104]), (8, .dup, []), (9, .bipush 6, []), (11, .bipush 60, []), (13, .multianewarray 9 2, [106]), (17, .invokespecial 11, [59, 1, 0, 67]), (20, .putfield 14, [6, 0, 2, 64]), (23, .aload_n 0, []), (24, .new 7, [4, 2, 104]), (27, .dup, []), (28, .iconst 4, []), (29, .bipush 80, []), (31, .multianewarray 9 2, [106]), (35, .invokespecial 11, [59, 1, 0, 67]), (38, .putfield 20, [6, 1, 2, 65]), (41, .aload_n 0, []), (42, .new 23, [2, 5, 125]), (45, .dup, []), (46, .invokespecial 25, [42, 0, 0, 68]), (49, .putfield 26, [6, 2, 2, 66]), (52, .aload_n 0, []), (53, .new 30, [1, 6, 229]), (56, .dup, []), (57, .invokespecial 32, [32, 0, 0, 69]), (60, .putfield 33, [6, 3, 2, 67]), (63, .aload_n 0, []), (64, .new 37, [0, 10, 231]), (67, .dup, []), (68, .invokespecial 39, [0, 0, 0, 70]), (71, .putfield 40, [6, 4, 2, 68]), (74, .aload_n 0, []), (75, .iconst 3, []), (76, .anewarray 37, [231]), (79, .dup, []), (80, .iconst 0, []), (81, .new 37, [0, 10, 231]), (84, .dup, []), (85, .invokespecial 39, [0, 0, 0, 70]), (88, .aastore, []), (89, .dup, []), (90, .iconst 1, []), (91, .new 37, [0, 10, 231]), (94, .dup, []), (95, .invokespecial 39, [0, 0, 0, 70]), (98, .aastore, []), (99, .dup, []), (100, .iconst 2, []), (101, .new 37, [0, 10, 231]), (104, .dup, []), (105, .invokespecial 39, [0, 0, 0, 70]), (108, .aastore, []), (109, .putfield 44, [6, 5, 2, 69]), (112, .aload_n 0, []), (113, .new 37, [0, 10, 231]), (116, .dup, []), (117, .invokespecial 39, [0, 0, 0, 70]), (120, .putfield 48, [6, 6, 2, 70]), (123, .aload_n 0, []), (124, .sipush 201, []), (127, .newarray .long, []), (129, .putfield 51, [6, 7, 2, 71]), (132, .aload_n 0, []), (133, .new 55, [3, 9, 234]), (136, .dup, []), (137, .invokespecial 57, [51, 0, 0, 71]), (140, .putfield 58, [6, 8, 2, 72]), (143, .aload_n 0, []), (144, .new 62, [5, 4, 276]), (147, .dup, []), (148, .invokespecial 64, [64, 0, 0, 72]), (151, .putfield 65, [6, 9, 2, 73]), (154, .aload_n 0, []), (155, .bipush 6, []), (157, .newarray .int, []), (159, .putfield 69, [6, 10, 2, 74]), (162, .aload_n 0, []), (163, .lconst 1, []), (164, .putfield 73, [6, 15, 1, 79]), (167, .return_, [])]
def h_68 : List (Nat × Nat) := []
/-- LastStirred.row(II)I -/
def k_69 : List (Nat × Instr × List Nat) := [(0, .aload_n 0, []), (1, .aload_n 0, []), (2, .getfield 14, [6, 0, 2, 64]), (5, .iload_n 1, []), (6, .iload_n 2, []), (7, .iconst 0, []), (8, .invokevirtual 77, [113, 4, 1, 6, 73]), (11, .ireturn, [0])]
def h_69 : List (Nat × Nat) := []
/-- LastStirred.lay(III)I -/
def k_70 : List (Nat × Instr × List Nat) := [(0, .aload_n 0, []), (1, .aload_n 0, []), (2, .getfield 14, [6, 0, 2, 64]), (5, .iload_n 1, []), (6, .iload_n 2, []), (7, .invokevirtual 81, [115, 3, 1, 6, 74]), (10, .istore 4, []), (12, .iload 4, []), (14, .ifCond .eq 6, [20]), (17, .iload 4, []), (19, .ireturn, [0]), (20, .aload_n 0, []), (21, .aload_n 0, []), (22, .getfield 14, [6, 0, 2, 64]), (25, .getfield 85, [4, 0, 2, 1]), (28, .iload_n 1, []), (29, .aaload, []), (30, .iload_n 2, []), (31, .iaload, []), (32, .putfield 88, [6, 13, 0, 77]), (35, .aload_n 0, []), (36, .getfield 14, [6, 0, 2, 64]), (39, .getfield 85, [4, 0, 2, 1]), (42, .iload_n 1, []), (43, .aaload, []), (44, .iload_n 2, []), (45, .iload_n 3, []), (46, .iastore, []), (47, .iconst 1, []), (48, .ireturn, [0])]
def h_70 : List (Nat × Nat) := []
/-- LastStirred.at(II)I -/
def k_71 : List (Nat × Instr × List Nat) := [(0, .aload_n 0, []), (1, .aload_n 0, []), (2, .getfield 14, [6, 0, 2, 64]), (5, .iload_n 1, []), (6, .iload_n 2, []), (7, .invokevirtual 81, [115, 3, 1, 6, 74]), (10, .istore_n 3, []), (11, .iload_n 3, []), (12, .ifCond .eq 5, [17]), (15, .iload_n 3, []), (16, .ireturn, [0]), (17, .aload_n 0, []), (18, .aload_n 0, []), (19, .getfield 14, [6, 0, 2, 64]), (22, .getfield 85, [4, 0, 2, 1]), (25, .iload_n 1, []), (26, .aaload, []), (27, .iload_n 2, []), (28, .iaload, []), (29, .putfield 88, [6, 13, 0, 77]), (32, .iconst 1, []), (33, .ireturn, [0])]
def h_71 : List (Nat × Nat) := []
/-- LastStirred.tear(I)I -/
def k_72 : List (Nat × Instr × List Nat) := [(0, .aload_n 0, []), (1, .aload_n 0, []), (2, .getfield 14, [6, 0, 2, 64]), (5, .iload_n 1, []), (6, .invokevirtual 92, [114, 2, 1, 6, 75]), (9, .istore_n 2, []), (10, .iload_n 2, []), (11, .ifCond .eq 5, [16]), (14, .iload_n 2, []), (15, .ireturn, [0]), (16, .aload_n 0, []), (17, .getfield 14, [6, 0, 2, 64]), (20, .getfield 96, [4, 1, 2, 3]), (23, .iload_n 1, []), (24, .iconst (-1), []), (25, .iastore, []), (26, .iconst 1, []), (27, .ireturn, [0])]
def h_72 : List (Nat × Nat) := []
/-- LastStirred.copy(IIIII)I -/
def k_73 : List (Nat × Instr × List Nat) := [(0, .aload_n 0, []), (1, .getfield 14, [6, 0, 2, 64]), (4, .iload_n 1, []), (5, .invokevirtual 99, [60, 1, 1, 4, 76]), (8, .ifCond .eq 14, [22]), (11, .aload_n 0, []), (12, .getfield 14, [6, 0, 2, 64]), (15, .iload_n 3, []), (16, .invokevirtual 99, [60, 1, 1, 4, 76]), (19, .ifCond .ne 5, [24]), (22, .iconst (-1), []), (23, .ireturn, [0]), (24, .iload 5, []), (26, .ifCond .ge 9, [35]), (29, .aload_n 0, []), (30, .iconst 5, []), (31, .invokevirtual 103, [112, 1, 1, 6, 77]), (34, .ireturn, [0]), (35, .aload_n 0, []), (36, .getfield 14, [6, 0, 2, 64]), (39, .getfield 96, [4, 1, 2, 3]), (42, .iload_n 1, []), (43, .iaload, []), (44, .iconst (-1), []), (45, .if_icmp .eq 16, [61]), (48, .aload_n 0, []), (49, .getfield 14, [6, 0, 2, 64]), (52, .getfield 96, [4, 1, 2, 3]), (55, .iload_n 3, []), (56, .iaload, []), (57, .iconst (-1), []), (58, .if_icmp .ne 9, [67]), (61, .aload_n 0, []), (62, .iconst 1, []), (63, .invokevirtual 103, [112, 1, 1, 6, 77]), (66, .ireturn, [0]), (67, .iload_n 2, []), (68, .iload 5, []), (70, .aload_n 0, []), (71, .getfield 14, [6, 0, 2, 64]), (74, .getfield 96, [4, 1, 2, 3]), (77, .iload_n 1, []), (78, .iaload, []), (79, .invokestatic 107, [117, 3, 1, 78]), (82, .ifCond .eq 22, [104]), (85, .iload 4, []), (87, .iload 5, []), (89, .aload_n 0, []), (90, .getfield 14, [6, 0, 2, 64]), (93, .getfield 96, [4, 1, 2, 3]), (96, .iload_n 3, []), (97, .iaload, []), (98, .invokestatic 107, [117, 3, 1, 78]), (101, .ifCond .ne 9, [110]), (104, .aload_n 0, []), (105, .iconst 2, []), (106, .invokevirtual 103, [112, 1, 1, 6, 77]), (109, .ireturn, [0]), (110, .aload_n 0, []), (111, .getfield 14, [6, 0, 2, 64]), (114, .getfield 85, [4, 0, 2, 1]), (117, .iload_n 1, []), (118, .aaload, []), (119, .iload_n 2, []), (120, .aload_n 0, []), (121, .getfield 14, [6, 0, 2, 64]), (124, .getfield 85, [4, 0, 2, 1]), (127, .iload_n 3, []), (128, .aaload, []), (129, .iload 4, []), (131, .iload 5, []), (133, .invokestatic 111, [79]), (136, .iconst 1, []), (137, .ireturn, [0])]
def h_73 : List (Nat × Nat) := []
/-- LastStirred.mean(I)I -/
def k_74 : List (Nat × Instr × List Nat) := [(0, .aload_n 0, []), (1, .aload_n 0, []), (2, .getfield 14, [6, 0, 2, 64]), (5, .iload_n 1, []), (6, .invokevirtual 92, [114, 2, 1, 6, 75]), (9, .istore_n 2, []), (10, .iload_n 2, []), (11, .ifCond .eq 5, [16]), (14, .iload_n 2, []), (15, .ireturn, [0]), (16, .aload_n 0, []), (17, .getfield 14, [6, 0, 2, 64]), (20, .getfield 96, [4, 1, 2, 3]), (23, .iload_n 1, []), (24, .iaload, []), (25, .istore_n 3, []), (26, .iload_n 3, []), (27, .ifCond .ne 9, [36]), (30, .aload_n 0, []), (31, .iconst 4, []), (32, .invokevirtual 103, [112, 1, 1, 6, 77]), (35, .ireturn, [0]), (36, .lconst 0, []), (37, .lstore 4, []), (39, .iconst 0, []), (40, .istore 6, []), (42, .iload 6, []), (44, .iload_n 3, []), (45, .if_icmp .ge 27, [72]), (48, .lload 4, []), (50, .aload_n 0, []), (51, .getfield 14, [6, 0, 2, 64]), (54, .getfield 85, [4, 0, 2, 1]), (57, .iload_n 1, []), (58, .aaload, []), (59, .iload 6, []), (61, .iaload, []), (62, .i2l, []), (63, .ladd, []), (64, .lstore 4, []), (66, .iinc 6 1, []), (69, .goto (-27), [42]), (72, .aload_n 0, []), (73, .lload 4, []), (75, .iload_n 3, []), (76, .i2l, []), (77, .ldiv, []), (78, .l2i, []), (79, .putfield 88, [6, 13, 0, 77]), (82, .iconst 1, []), (83, .ireturn, [0])]
def h_74 : List (Nat × Nat) := [(42, 7)]
/-- LastStirred.text(II)I -/
def k_75 : List (Nat × Instr × List Nat) := [(0, .aload_n 0, []), (1, .aload_n 0, []), (2, .getfield 20, [6, 1, 2, 65]), (5, .iload_n 1, []), (6, .iload_n 2, []), (7, .bipush 32, []), (9, .invokevirtual 77, [113, 4, 1, 6, 73]), (12, .ireturn, [0])]
def h_75 : List (Nat × Nat) := []
/-- LastStirred.put(III)I -/
def k_76 : List (Nat × Instr × List Nat) := [(0, .aload_n 0, []), (1, .aload_n 0, []), (2, .getfield 20, [6, 1, 2, 65]), (5, .iload_n 1, []), (6, .iload_n 2, []), (7, .invokevirtual 81, [115, 3, 1, 6, 74]), (10, .istore 4, []), (12, .iload 4, []), (14, .ifCond .eq 6, [20]), (17, .iload 4, []), (19, .ireturn, [0]), (20, .aload_n 0, []), (21, .getfield 20, [6, 1, 2, 65]), (24, .getfield 85, [4, 0, 2, 1]), (27, .iload_n 1, []), (28, .aaload, []), (29, .iload_n 2, []), (30, .iaload, []), (31, .istore 5, []), (33, .aload_n 0, []), (34, .getfield 20, [6, 1, 2, 65]), (37, .getfield 85, [4, 0, 2, 1]), (40, .iload_n 1, []), (41, .aaload, []), (42, .iload_n 2, []), (43, .iload_n 3, []), (44, .i2b, []), (45, .iastore, []), (46, .iload 5, []), (48, .sipush 1000, []), (51, .iadd, []), (52, .ireturn, [0])]
def h_76 : List (Nat × Nat) := []
/-- LastStirred.fault(I)I -/
def k_77 : List (Nat × Instr × List Nat) := [(0, .aload_n 0, []), (1, .aload_n 0, []), (2, .getfield 20, [6, 1, 2, 65]), (5, .iload_n 1, []), (6, .invokevirtual 92, [114, 2, 1, 6, 75]), (9, .istore_n 2, []), (10, .iload_n 2, []), (11, .ifCond .eq 5, [16]), (14, .iload_n 2, []), (15, .ireturn, [0]), (16, .aload_n 0, []), (17, .getfield 26, [6, 2, 2, 66]), (20, .aload_n 0, []), (21, .getfield 20, [6, 1, 2, 65]), (24, .getfield 85, [4, 0, 2, 1]), (27, .iload_n 1, []), (28, .aaload, []), (29, .aload_n 0, []), (30, .getfield 20, [6, 1, 2, 65]), (33, .getfield 96, [4, 1, 2, 3]), (36, .iload_n 1, []), (37, .iaload, []), (38, .invokevirtual 117, [43, 2, 1, 2, 80]), (41, .ireturn, [0])]
def h_77 : List (Nat × Nat) := []
/-- LastStirred.ground(I)I -/
def k_78 : List (Nat × Instr × List Nat) := [(0, .aload_n 0, []), (1, .aload_n 0, []), (2, .getfield 20, [6, 1, 2, 65]), (5, .iload_n 1, []), (6, .invokevirtual 92, [114, 2, 1, 6, 75]), (9, .istore_n 2, []), (10, .iload_n 2, []), (11, .ifCond .eq 5, [16]), (14, .iload_n 2, []), (15, .ireturn, [0]), (16, .aload_n 0, []), (17, .getfield 26, [6, 2, 2, 66]), (20, .aload_n 0, []), (21, .getfield 20, [6, 1, 2, 65]), (24, .getfield 85, [4, 0, 2, 1]), (27, .iload_n 1, []), (28, .aaload, []), (29, .aload_n 0, []), (30, .getfield 20, [6, 1, 2, 65]), (33, .getfield 96, [4, 1, 2, 3]), (36, .iload_n 1, []), (37, .iaload, []), (38, .invokevirtual 117, [43, 2, 1, 2, 80]), (41, .bipush (-9), []), (43, .if_icmp .eq 6, [49]), (46, .bipush (-4), []), (48, .ireturn, [0]), (49, .aload_n 0, []), (50, .getfield 33, [6, 3, 2, 67]), (53, .aload_n 0, []), (54, .getfield 26, [6, 2, 2, 66]), (57, .getfield 121, [2, 0, 2, 39]), (60, .invokevirtual 122, [34, 1, 0, 1, 81]), (63, .aload_n 0, []), (64, .getfield 40, [6, 4, 2, 68]), (67, .aload_n 0, []), (68, .getfield 26, [6, 2, 2, 66]), (71, .getfield 126, [2, 1, 2, 41]), (74, .invokevirtual 127, [3, 1, 0, 0, 82]), (77, .aload_n 0, []), (78, .iconst 0, []), (79, .putfield 130, [6, 11, 0, 75]), (82, .aload_n 0, []), (83, .getfield 40, [6, 4, 2, 68]), (86, .getfield 133, [0, 3, 0, 26]), (89, .ireturn, [0])]
def h_78 : List (Nat × Nat) := []
/-- LastStirred.cell(I)I -/
def k_79 : List (Nat × Instr × List Nat) := [(0, .aload_n 0, []), (1, .getfield 33, [6, 3, 2, 67]), (4, .iload_n 1, []), (5, .invokevirtual 135, [35, 1, 1, 1, 83]), (8, .ifCond .ne 5, [13]), (11, .iconst (-1), []), (12, .ireturn, [0]), (13, .aload_n 0, []), (14, .aload_n 0, []), (15, .getfield 40, [6, 4, 2, 68]), (18, .iload_n 1, []), (19, .invokevirtual 136, [8, 1, 1, 0, 84]), (22, .putfield 88, [6, 13, 0, 77]), (25, .aload_n 0, []), (26, .getfield 33, [6, 3, 2, 67]), (29, .getfield 139, [1, 0, 2, 6]), (32, .iload_n 1, []), (33, .iaload, []), (34, .ireturn, [0])]
def h_79 : List (Nat × Nat) := []
/-- LastStirred.build(II)I -/
def k_80 : List (Nat × Instr × List Nat) := [(0, .aload_n 0, []), (1, .getfield 33, [6, 3, 2, 67]), (4, .iload_n 1, []), (5, .invokevirtual 135, [35, 1, 1, 1, 83]), (8, .ifCond .eq 12, [20]), (11, .iload_n 2, []), (12, .ifCond .lt 8, [20]), (15, .iload_n 2, []), (16, .iconst 4, []), (17, .if_icmp .le 5, [22]), (20, .iconst (-1), []), (21, .ireturn, [0]), (22, .aload_n 0, []), (23, .getfield 40, [6, 4, 2, 68]), (26, .iload_n 1, []), (27, .invokevirtual 142, [7, 1, 1, 0, 85]), (30, .ifCond .eq 16, [46]), (33, .iload_n 2, []), (34, .iconst 1, []), (35, .if_icmp .eq 8, [43]), (38, .iload_n 2, []), (39, .iconst 2, []), (40, .if_icmp .ne 6, [46]), (43, .bipush (-4), []), (45, .ireturn, [0]), (46, .aload_n 0, []), (47, .getfield 33, [6, 3, 2, 67]), (50, .getfield 139, [1, 0, 2, 6]), (53, .iload_n 1, []), (54, .iaload, []), (55, .istore_n 3, []), (56, .aload_n 0, []), (57, .getfield 33, [6, 3, 2, 67]), (60, .getfield 139, [1, 0, 2, 6]), (63, .iload_n 1, []), (64, .iload_n 2, []), (65, .iastore, []), (66, .iload_n 3, []), (67, .ireturn, [0])]
def h_80 : List (Nat × Nat) := []
/-- LastStirred.beast(II)I -/
def k_81 : List (Nat × Instr × List Nat) := [(0, .aload_n 0, []), (1, .getfield 40, [6, 4, 2, 68]), (4, .iload_n 1, []), (5, .invokevirtual 145, [5, 1, 1, 0, 86]), (8, .ifCond .eq 12, [20]), (11, .iload_n 2, []), (12, .ifCond .lt 8, [20]), (15, .iload_n 2, []), (16, .iconst 2, []), (17, .if_icmp .le 5, [22]), (20, .iconst (-1), []), (21, .ireturn, [0]), (22, .aload_n 0, []), (23, .aload_n 0, []), (24, .getfield 40, [6, 4, 2, 68]), (27, .iload_n 1, []), (28, .iload_n 2, []), (29, .invokevirtual 146, [12, 2, 1, 0, 87]), (32, .putfield 88, [6, 13, 0, 77]), (35, .iconst 1, []), (36, .ireturn, [0])]
def h_81 : List (Nat × Nat) := []
/-- LastStirred.mark(II)I -/
def k_82 : List (Nat × Instr × List Nat) := [(0, .aload_n 0, []), (1, .getfield 40, [6, 4, 2, 68]), (4, .iload_n 1, []), (5, .invokevirtual 145, [5, 1, 1, 0, 86]), (8, .ifCond .eq 13, [21]), (11, .iload_n 2, []), (12, .iconst 1, []), (13, .if_icmp .lt 8, [21]), (16, .iload_n 2, []), (17, .iconst 5, []), (18, .if_icmp .le 5, [23]), (21, .iconst (-1), []), (22, .ireturn, [0]), (23, .aload_n 0, []), (24, .getfield 40, [6, 4, 2, 68]), (27, .iload_n 1, []), (28, .iload_n 2, []), (29, .invokevirtual 150, [9, 2, 1, 0, 88]), (32, .ifCond .ne 9, [41]), (35, .aload_n 0, []), (36, .iconst 3, []), (37, .invokevirtual 103, [112, 1, 1, 6, 77]), (40, .ireturn, [0]), (41, .iload_n 2, []), (42, .tableswitch 64 1 4 #[30, 36, 46, 55], [106, 72, 78, 88, 97]), (72, .aload_n 0, []), (73, .iload_n 1, []), (74, .invokevirtual 154, [121, 1, 1, 6, 89]), (77, .ireturn, [0]), (78, .aload_n 0, []), (79, .getfield 40, [6, 4, 2, 68]), (82, .getfield 157, [0, 8, 0, 36]), (85, .iconst 1, []), (86, .iand, []), (87, .ireturn, [0]), (88, .aload_n 0, []), (89, .getfield 40, [6, 4, 2, 68]), (92, .iload_n 1, []), (93, .invokevirtual 160, [21, 1, 1, 0, 90]), (96, .ireturn, [0]), (97, .aload_n 0, []), (98, .getfield 33, [6, 3, 2, 67]), (101, .iconst 4, []), (102, .invokevirtual 163, [39, 1, 1, 1, 91]), (105, .ireturn, [0]), (106, .aload_n 0, []), (107, .iload_n 1, []), (108, .invokevirtual 166, [122, 1, 1, 6, 92]), (111, .ireturn, [0])]
def h_82 : List (Nat × Nat) := []
/-- LastStirred.last()I -/
def k_83 : List (Nat × Instr × List Nat) := [(0, .aload_n 0, []), (1, .aload_n 0, []), (2, .getfield 40, [6, 4, 2, 68]), (5, .getfield 169, [0, 5, 0, 30]), (8, .putfield 88, [6, 13, 0, 77]), (11, .aload_n 0, []), (12, .getfield 40, [6, 4, 2, 68]), (15, .getfield 172, [0, 4, 0, 28]), (18, .ireturn, [0])]
def h_83 : List (Nat × Nat) := []
/-- LastStirred.stir(II)I -/
def k_84 : List (Nat × Instr × List Nat) := [(0, .aload_n 0, []), (1, .getfield 40, [6, 4, 2, 68]), (4, .iload_n 1, []), (5, .invokevirtual 145, [5, 1, 1, 0, 86]), (8, .ifCond .eq 10, [18]), (11, .iload_n 2, []), (12, .invokestatic 175, [118, 1, 1, 93]), (15, .ifCond .ne 5, [20]), (18, .iconst (-1), []), (19, .ireturn, [0]), (20, .aload_n 0, []), (21, .getfield 40, [6, 4, 2, 68]), (24, .aload_n 0, []), (25, .getfield 33, [6, 3, 2, 67]), (28, .iload_n 1, []), (29, .iload_n 2, []), (30, .invokevirtual 178, [25, 3, 1, 0, 94]), (33, .istore_n 3, []), (34, .iload_n 3, []), (35, .bipush (-9), []), (37, .if_icmp .ne 8, [45]), (40, .bipush (-4), []), (42, .goto 4, [46]), (45, .iload_n 3, []), (46, .ireturn, [0])]
def h_84 : List (Nat × Nat) := []
/-- LastStirred.go(I)I -/
def k_85 : List (Nat × Instr × List Nat) := [(0, .iload_n 1, []), (1, .ifCond .lt 9, [10]), (4, .iload_n 1, []), (5, .bipush 40, []), (7, .if_icmp .le 5, [12]), (10, .iconst (-1), []), (11, .ireturn, [0]), (12, .aload_n 0, []), (13, .getfield 33, [6, 3, 2, 67]), (16, .getfield 182, [1, 5, 0, 18]), (19, .ifCond .ne 6, [25]), (22, .bipush (-4), []), (24, .ireturn, [0]), (25, .aload_n 0, []), (26, .getfield 40, [6, 4, 2, 68]), (29, .getfield 157, [0, 8, 0, 36]), (32, .iload_n 1, []), (33, .iadd, []), (34, .sipush 10000, []), (37, .if_icmp .le 6, [43]), (40, .bipush (-6), []), (42, .ireturn, [0]), (43, .iconst 0, []), (44, .istore_n 2, []), (45, .iconst 0, []), (46, .istore_n 3, []), (47, .iload_n 3, []), (48, .iload_n 1, []), (49, .if_icmp .ge 21, [70]), (52, .aload_n 0, []), (53, .getfield 40, [6, 4, 2, 68]), (56, .aload_n 0, []), (57, .getfield 33, [6, 3, 2, 67]), (60, .invokevirtual 183, [26, 1, 1, 0, 95]), (63, .istore_n 2, []), (64, .iinc 3 1, []), (67, .goto (-20), [47]), (70, .iload_n 2, []), (71, .ireturn, [0])]
def h_85 : List (Nat × Nat) := [(47, 4)]
/-- LastStirred.run()I -/
def k_86 : List (Nat × Instr × List Nat) := [(0, .aload_n 0, []), (1, .getfield 33, [6, 3, 2, 67]), (4, .getfield 182, [1, 5, 0, 18]), (7, .ifCond .ne 6, [13]), (10, .bipush (-4), []), (12, .ireturn, [0]), (13, .aload_n 0, []), (14, .getfield 40, [6, 4, 2, 68]), (17, .getfield 157, [0, 8, 0, 36]), (20, .sipush 9960, []), (23, .if_icmp .le 6, [29]), (26, .bipush (-6), []), (28, .ireturn, [0]), (29, .aload_n 0, []), (30, .getfield 40, [6, 4, 2, 68]), (33, .getfield 157, [0, 8, 0, 36]), (36, .istore_n 1, []), (37, .aload_n 0, []), (38, .aload_n 0, []), (39, .getfield 40, [6, 4, 2, 68]), (42, .aload_n 0, []), (43, .getfield 33, [6, 3, 2, 67]), (46, .invokevirtual 187, [28, 1, 1, 0, 96]), (49, .ifCond .eq 7, [56]), (52, .iconst 1, []), (53, .goto 4, [57]), (56, .iconst 0, []), (57, .putfield 88, [6, 13, 0, 77]), (60, .aload_n 0, []), (61, .getfield 40, [6, 4, 2, 68]), (64, .getfield 157, [0, 8, 0, 36]), (67, .iload_n 1, []), (68, .isub, []), (69, .ireturn, [0])]
def h_86 : List (Nat × Nat) := []
/-- LastStirred.ring()I -/
def k_87 : List (Nat × Instr × List Nat) := [(0, .aload_n 0, []), (1, .getfield 33, [6, 3, 2, 67]), (4, .getfield 182, [1, 5, 0, 18]), (7, .ifCond .ne 6, [13]), (10, .bipush (-4), []), (12, .ireturn, [0]), (13, .aload_n 0, []), (14, .getfield 48, [6, 6, 2, 70]), (17, .aload_n 0, []), (18, .getfield 40, [6, 4, 2, 68]), (21, .invokevirtual 127, [3, 1, 0, 0, 82]), (24, .iconst 0, []), (25, .istore_n 1, []), (26, .iload_n 1, []), (27, .sipush 200, []), (30, .if_icmp .gt 72, [102]), (33, .aload_n 0, []), (34, .getfield 51, [6, 7, 2, 71]), (37, .iload_n 1, []), (38, .aload_n 0, []), (39, .getfield 48, [6, 6, 2, 70]), (42, .invokevirtual 191, [19, 0, 2, 0, 97]), (45, .lastore, []), (46, .iconst 0, []), (47, .istore_n 2, []), (48, .iload_n 2, []), (49, .iload_n 1, []), (50, .if_icmp .ge 34, [84]), (53, .aload_n 0, []), (54, .getfield 51, [6, 7, 2, 71]), (57, .iload_n 2, []), (58, .laload, []), (59, .aload_n 0, []), (60, .getfield 51, [6, 7, 2, 71]), (63, .iload_n 1, []), (64, .laload, []), (65, .lcmp, []), (66, .ifCond .ne 12, [78]), (69, .aload_n 0, []), (70, .iload_n 1, []), (71, .iload_n 2, []), (72, .isub, []), (73, .putfield 88, [6, 13, 0, 77]), (76, .iload_n 1, []), (77, .ireturn, [0]), (78, .iinc 2 1, []), (81, .goto (-33), [48]), (84, .aload_n 0, []), (85, .getfield 48, [6, 6, 2, 70]), (88, .aload_n 0, []), (89, .getfield 33, [6, 3, 2, 67]), (92, .invokevirtual 183, [26, 1, 1, 0, 95]), (95, .pop, []), (96, .iinc 1 1, []), (99, .goto (-73), [26]), (102, .bipush (-9), []), (104, .ireturn, [0])]
def h_87 : List (Nat × Nat) := [(26, 2), (48, 3)]
/-- LastStirred.where(I)I -/
def k_88 : List (Nat × Instr × List Nat) := [(0, .aload_n 0, []), (1, .getfield 14, [6, 0, 2, 64]), (4, .iload_n 1, []), (5, .invokevirtual 99, [60, 1, 1, 4, 76]), (8, .ifCond .ne 5, [13]), (11, .iconst (-1), []), (12, .ireturn, [0]), (13, .aload_n 0, []), (14, .getfield 14, [6, 0, 2, 64]), (17, .iload_n 1, []), (18, .aload_n 0, []), (19, .getfield 40, [6, 4, 2, 68]), (22, .getfield 133, [0, 3, 0, 26]), (25, .iconst 0, []), (26, .invokevirtual 195, [61, 3, 0, 4, 98]), (29, .iconst 0, []), (30, .istore_n 2, []), (31, .iload_n 2, []), (32, .aload_n 0, []), (33, .getfield 40, [6, 4, 2, 68]), (36, .getfield 133, [0, 3, 0, 26]), (39, .if_icmp .ge 29, [68]), (42, .aload_n 0, []), (43, .getfield 14, [6, 0, 2, 64]), (46, .getfield 85, [4, 0, 2, 1]), (49, .iload_n 1, []), (50, .aaload, []), (51, .iload_n 2, []), (52, .aload_n 0, []), (53, .getfield 40, [6, 4, 2, 68]), (56, .getfield 199, [0, 1, 2, 22]), (59, .iload_n 2, []), (60, .iaload, []), (61, .iastore, []), (62, .iinc 2 1, []), (65, .goto (-34), [31]), (68, .aload_n 0, []), (69, .getfield 40, [6, 4, 2, 68]), (72, .invokevirtual 202, [14, 0, 1, 0, 99]), (75, .ireturn, [0])]
def h_88 : List (Nat × Nat) := [(31, 3)]
/-- LastStirred.apart()I -/
def k_89 : List (Nat × Instr × List Nat) := [(0, .aload_n 0, []), (1, .getfield 40, [6, 4, 2, 68]), (4, .aload_n 0, []), (5, .getfield 33, [6, 3, 2, 67]), (8, .invokevirtual 206, [16, 1, 1, 0, 100]), (11, .ireturn, [0])]
def h_89 : List (Nat × Nat) := []
/-- LastStirred.keep(I)I -/
def k_90 : List (Nat × Instr × List Nat) := [(0, .aload_n 0, []), (1, .iload_n 1, []), (2, .invokevirtual 209, [119, 1, 1, 6, 101]), (5, .ifCond .ne 5, [10]), (8, .iconst (-1), []), (9, .ireturn, [0]), (10, .aload_n 0, []), (11, .getfield 33, [6, 3, 2, 67]), (14, .getfield 182, [1, 5, 0, 18]), (17, .ifCond .ne 6, [23]), (20, .bipush (-4), []), (22, .ireturn, [0]), (23, .aload_n 0, []), (24, .getfield 44, [6, 5, 2, 69]), (27, .iload_n 1, []), (28, .aaload, []), (29, .aload_n 0, []), (30, .getfield 40, [6, 4, 2, 68]), (33, .invokevirtual 127, [3, 1, 0, 0, 82]), (36, .aload_n 0, []), (37, .dup, []), (38, .getfield 130, [6, 11, 0, 75]), (41, .iconst 1, []), (42, .iload_n 1, []), (43, .ishl, []), (44, .ior, []), (45, .putfield 130, [6, 11, 0, 75]), (48, .aload_n 0, []), (49, .getfield 40, [6, 4, 2, 68]), (52, .getfield 157, [0, 8, 0, 36]), (55, .ireturn, [0])]
def h_90 : List (Nat × Nat) := []
/-- LastStirred.on(I)I -/
def k_91 : List (Nat × Instr × List Nat) := [(0, .aload_n 0, []), (1, .iload_n 1, []), (2, .invokevirtual 209, [119, 1, 1, 6, 101]), (5, .ifCond .ne 5, [10]), (8, .iconst (-1), []), (9, .ireturn, [0]), (10, .aload_n 0, []), (11, .iload_n 1, []), (12, .invokevirtual 212, [120, 1, 1, 6, 102]), (15, .ifCond .ne 9, [24]), (18, .aload_n 0, []), (19, .iconst 1, []), (20, .invokevirtual 103, [112, 1, 1, 6, 77]), (23, .ireturn, [0]), (24, .aload_n 0, []), (25, .getfield 40, [6, 4, 2, 68]), (28, .aload_n 0, []), (29, .getfield 44, [6, 5, 2, 69]), (32, .iload_n 1, []), (33, .aaload, []), (34, .invokevirtual 127, [3, 1, 0, 0, 82]), (37, .aload_n 0, []), (38, .getfield 40, [6, 4, 2, 68]), (41, .getfield 157, [0, 8, 0, 36]), (44, .ireturn, [0])]
def h_91 : List (Nat × Nat) := []
/-- LastStirred.fewest()I -/
def k_92 : List (Nat × Instr × List Nat) := [(0, .aload_n 0, []), (1, .getfield 33, [6, 3, 2, 67]), (4, .getfield 182, [1, 5, 0, 18]), (7, .ifCond .ne 6, [13]), (10, .bipush (-4), []), (12, .ireturn, [0]), (13, .aload_n 0, []), (14, .getfield 58, [6, 8, 2, 72]), (17, .invokevirtual 215, [52, 0, 0, 3, 103]), (20, .aload_n 0, []), (21, .getfield 58, [6, 8, 2, 72]), (24, .aload_n 0, []), (25, .getfield 33, [6, 3, 2, 67]), (28, .aload_n 0, []), (29, .getfield 40, [6, 4, 2, 68]), (32, .iconst 3, []), (33, .invokevirtual 218, [54, 3, 1, 3, 104]), (36, .istore_n 1, []), (37, .iload_n 1, []), (38, .bipush (-9), []), (40, .if_icmp .eq 14, [54]), (43, .aload_n 0, []), (44, .aload_n 0, []), (45, .getfield 58, [6, 8, 2, 72]), (48, .getfield 222, [3, 6, 0, 54]), (51, .putfield 88, [6, 13, 0, 77]), (54, .iload_n 1, []), (55, .ireturn, [0])]
def h_92 : List (Nat × Nat) := []
/-- LastStirred.ways(I)I -/
def k_93 : List (Nat × Instr × List Nat) := [(0, .iload_n 1, []), (1, .iconst 1, []), (2, .if_icmp .lt 8, [10]), (5, .iload_n 1, []), (6, .iconst 2, []), (7, .if_icmp .le 5, [12]), (10, .iconst (-1), []), (11, .ireturn, [0]), (12, .aload_n 0, []), (13, .getfield 58, [6, 8, 2, 72]), (16, .invokevirtual 215, [52, 0, 0, 3, 103]), (19, .aload_n 0, []), (20, .getfield 58, [6, 8, 2, 72]), (23, .aload_n 0, []), (24, .getfield 33, [6, 3, 2, 67]), (27, .aload_n 0, []), (28, .getfield 40, [6, 4, 2, 68]), (31, .iload_n 1, []), (32, .invokevirtual 225, [55, 3, 0, 3, 105]), (35, .aload_n 0, []), (36, .getfield 58, [6, 8, 2, 72]), (39, .getfield 229, [3, 4, 0, 50]), (42, .ifCond .ne 9, [51]), (45, .aload_n 0, []), (46, .iconst 4, []), (47, .invokevirtual 103, [112, 1, 1, 6, 77]), (50, .ireturn, [0]), (51, .aload_n 0, []), (52, .aload_n 0, []), (53, .getfield 58, [6, 8, 2, 72]), (56, .getfield 231, [3, 5, 0, 52]), (59, .aload_n 0, []), (60, .getfield 58, [6, 8, 2, 72]), (63, .getfield 229, [3, 4, 0, 50]), (66, .invokevirtual 234, [124, 2, 0, 6, 106]), (69, .aload_n 0, []), (70, .getfield 58, [6, 8, 2, 72]), (73, .getfield 231, [3, 5, 0, 52]), (76, .ireturn, [0])]
def h_93 : List (Nat × Nat) := []
/-- LastStirred.gather()I -/
def k_94 : List (Nat × Instr × List Nat) := [(0, .bipush (-9), []), (2, .istore_n 1, []), (3, .iconst 0, []), (4, .istore_n 2, []), (5, .aload_n 0, []), (6, .getfield 40, [6, 4, 2, 68]), (9, .invokevirtual 202, [14, 0, 1, 0, 99]), (12, .istore_n 3, []), (13, .iconst 0, []), (14, .istore 4, []), (16, .iload 4, []), (18, .aload_n 0, []), (19, .getfield 40, [6, 4, 2, 68]), (22, .invokevirtual 238, [13, 0, 1, 0, 107]), (25, .if_icmp .ge 63, [88]), (28, .aload_n 0, []), (29, .iload 4, []), (31, .invokevirtual 241, [123, 1, 1, 6, 108]), (34, .ifCond .eq 48, [82]), (37, .aload_n 0, []), (38, .getfield 48, [6, 6, 2, 70]), (41, .invokevirtual 202, [14, 0, 1, 0, 99]), (44, .iload_n 3, []), (45, .if_icmp .le 6, [51]), (48, .goto 34, [82]), (51, .aload_n 0, []), (52, .getfield 48, [6, 6, 2, 70]), (55, .aload_n 0, []), (56, .getfield 33, [6, 3, 2, 67]), (59, .invokevirtual 206, [16, 1, 1, 0, 100]), (62, .istore 5, []), (64, .iload_n 1, []), (65, .bipush (-9), []), (67, .if_icmp .eq 9, [76]), (70, .iload 5, []), (72, .iload_n 2, []), (73, .if_icmp .ge 9, [82]), (76, .iload 4, []), (78, .istore_n 1, []), (79, .iload 5, []), (81, .istore_n 2, []), (82, .iinc 4 1, []), (85, .goto (-69), [16]), (88, .iload_n 1, []), (89, .bipush (-9), []), (91, .if_icmp .eq 8, [99]), (94, .aload_n 0, []), (95, .iload_n 2, []), (96, .putfield 88, [6, 13, 0, 77]), (99, .iload_n 1, []), (100, .ireturn, [0])]
def h_94 : List (Nat × Nat) := [(16, 5)]
/-- LastStirred.part(II)I -/
def k_95 : List (Nat × Instr × List Nat) := [(0, .aload_n 0, []), (1, .getfield 40, [6, 4, 2, 68]), (4, .iload_n 1, []), (5, .invokevirtual 145, [5, 1, 1, 0, 86]), (8, .ifCond .eq 19, [27]), (11, .aload_n 0, []), (12, .getfield 40, [6, 4, 2, 68]), (15, .iload_n 2, []), (16, .invokevirtual 145, [5, 1, 1, 0, 86]), (19, .ifCond .eq 8, [27]), (22, .iload_n 1, []), (23, .iload_n 2, []), (24, .if_icmp .ne 5, [29]), (27, .iconst (-1), []), (28, .ireturn, [0]), (29, .bipush (-9), []), (31, .istore_n 3, []), (32, .iconst 0, []), (33, .istore 4, []), (35, .iconst 0, []), (36, .istore 5, []), (38, .iload 5, []), (40, .aload_n 0, []), (41, .getfield 40, [6, 4, 2, 68]), (44, .invokevirtual 238, [13, 0, 1, 0, 107]), (47, .if_icmp .ge 90, [137]), (50, .aload_n 0, []), (51, .iload 5, []), (53, .invokevirtual 241, [123, 1, 1, 6, 108]), (56, .ifCond .eq 75, [131]), (59, .aload_n 0, []), (60, .getfield 48, [6, 6, 2, 70]), (63, .iload_n 1, []), (64, .invokevirtual 244, [6, 1, 1, 0, 109]), (67, .ifCond .ne 64, [131]), (70, .aload_n 0, []), (71, .getfield 48, [6, 6, 2, 70]), (74, .iload_n 2, []), (75, .invokevirtual 244, [6, 1, 1, 0, 109]), (78, .ifCond .eq 6, [84]), (81, .goto 50, [131]), (84, .aload_n 0, []), (85, .getfield 33, [6, 3, 2, 67]), (88, .aload_n 0, []), (89, .getfield 48, [6, 6, 2, 70]), (92, .getfield 199, [0, 1, 2, 22]), (95, .iload_n 1, []), (96, .iaload, []), (97, .aload_n 0, []), (98, .getfield 48, [6, 6, 2, 70]), (101, .getfield 199, [0, 1, 2, 22]), (104, .iload_n 2, []), (105, .iaload, []), (106, .invokevirtual 247, [37, 2, 1, 1, 110]), (109, .istore 6, []), (111, .iload_n 3, []), (112, .bipush (-9), []), (114, .if_icmp .eq 10, [124]), (117, .iload 6, []), (119, .iload 4, []), (121, .if_icmp .le 10, [131]), (124, .iload 5, []), (126, .istore_n 3, []), (127, .iload 6, []), (129, .istore 4, []), (131, .iinc 5 1, []), (134, .goto (-96), [38]), (137, .iload_n 3, []), (138, .bipush (-9), []), (140, .if_icmp .eq 9, [149]), (143, .aload_n 0, []), (144, .iload 4, []), (146, .putfield 88, [6, 13, 0, 77]), (149, .iload_n 3, []), (150, .ireturn, [0])]
def h_95 : List (Nat × Nat) := [(38, 6)]
/-- LastStirred.worth(II)I -/
def k_96 : List (Nat × Instr × List Nat) := [(0, .aload_n 0, []), (1, .getfield 40, [6, 4, 2, 68]), (4, .iload_n 1, []), (5, .invokevirtual 145, [5, 1, 1, 0, 86]), (8, .ifCond .eq 10, [18]), (11, .iload_n 2, []), (12, .invokestatic 175, [118, 1, 1, 93]), (15, .ifCond .ne 5, [20]), (18, .iconst (-1), []), (19, .ireturn, [0]), (20, .aload_n 0, []), (21, .getfield 48, [6, 6, 2, 70]), (24, .aload_n 0, []), (25, .getfield 40, [6, 4, 2, 68]), (28, .invokevirtual 127, [3, 1, 0, 0, 82]), (31, .aload_n 0, []), (32, .getfield 48, [6, 6, 2, 70]), (35, .aload_n 0, []), (36, .getfield 33, [6, 3, 2, 67]), (39, .iload_n 1, []), (40, .iload_n 2, []), (41, .invokevirtual 178, [25, 3, 1, 0, 94]), (44, .bipush (-9), []), (46, .if_icmp .ne 6, [52]), (49, .bipush (-4), []), (51, .ireturn, [0]), (52, .aload_n 0, []), (53, .getfield 48, [6, 6, 2, 70]), (56, .invokevirtual 250, [4, 0, 0, 0, 111]), (59, .aload_n 0, []), (60, .getfield 48, [6, 6, 2, 70]), (63, .aload_n 0, []), (64, .getfield 33, [6, 3, 2, 67]), (67, .invokevirtual 187, [28, 1, 1, 0, 96]), (70, .pop, []), (71, .iconst 0, []), (72, .istore_n 3, []), (73, .iconst 0, []), (74, .istore 4, []), (76, .iconst 0, []), (77, .istore 5, []), (79, .iload 5, []), (81, .aload_n 0, []), (82, .getfield 48, [6, 6, 2, 70]), (85, .getfield 133, [0, 3, 0, 26]), (88, .if_icmp .ge 40, [128]), (91, .aload_n 0, []), (92, .getfield 48, [6, 6, 2, 70]), (95, .getfield 253, [0, 2, 2, 24]), (98, .iload 5, []), (100, .iaload, []), (101, .ifCond .le 6, [107]), (104, .iinc 3 1, []), (107, .iload 4, []), (109, .aload_n 0, []), (110, .getfield 48, [6, 6, 2, 70]), (113, .getfield 253, [0, 2, 2, 24]), (116, .iload 5, []), (118, .iaload, []), (119, .iadd, []), (120, .istore 4, []), (122, .iinc 5 1, []), (125, .goto (-46), [79]), (128, .aload_n 0, []), (129, .iload 4, []), (131, .putfield 88, [6, 13, 0, 77]), (134, .iload_n 3, []), (135, .ireturn, [0])]
def h_96 : List (Nat × Nat) := [(79, 6)]
/-- LastStirred.stone(I)I -/
def k_97 : List (Nat × Instr × List Nat) := [(0, .aload_n 0, []), (1, .getfield 33, [6, 3, 2, 67]), (4, .iload_n 1, []), (5, .invokevirtual 135, [35, 1, 1, 1, 83]), (8, .ifCond .eq 16, [24]), (11, .aload_n 0, []), (12, .getfield 33, [6, 3, 2, 67]), (15, .getfield 139, [1, 0, 2, 6]), (18, .iload_n 1, []), (19, .iaload, []), (20, .iconst 1, []), (21, .if_icmp .ne 5, [26]), (24, .iconst (-1), []), (25, .ireturn, [0]), (26, .aload_n 0, []), (27, .getfield 40, [6, 4, 2, 68]), (30, .aload_n 0, []), (31, .getfield 33, [6, 3, 2, 67]), (34, .iload_n 1, []), (35, .invokevirtual 256, [30, 2, 1, 0, 112]), (38, .ireturn, [0])]
def h_97 : List (Nat × Nat) := []
/-- LastStirred.drive(I)I -/
def k_98 : List (Nat × Instr × List Nat) := [(0, .aload_n 0, []), (1, .getfield 14, [6, 0, 2, 64]), (4, .iload_n 1, []), (5, .invokevirtual 99, [60, 1, 1, 4, 76]), (8, .ifCond .ne 5, [13]), (11, .iconst (-1), []), (12, .ireturn, [0]), (13, .aload_n 0, []), (14, .getfield 33, [6, 3, 2, 67]), (17, .getfield 182, [1, 5, 0, 18]), (20, .ifCond .ne 6, [26]), (23, .bipush (-4), []), (25, .ireturn, [0]), (26, .aload_n 0, []), (27, .getfield 14, [6, 0, 2, 64]), (30, .getfield 96, [4, 1, 2, 3]), (33, .iload_n 1, []), (34, .iaload, []), (35, .iconst (-1), []), (36, .if_icmp .ne 9, [45]), (39, .aload_n 0, []), (40, .iconst 1, []), (41, .invokevirtual 103, [112, 1, 1, 6, 77]), (44, .ireturn, [0]), (45, .aload_n 0, []), (46, .getfield 14, [6, 0, 2, 64]), (49, .getfield 96, [4, 1, 2, 3]), (52, .iload_n 1, []), (53, .iaload, []), (54, .istore_n 2, []), (55, .iconst 0, []), (56, .istore_n 3, []), (57, .iload_n 3, []), (58, .iload_n 2, []), (59, .if_icmp .ge 45, [104]), (62, .aload_n 0, []), (63, .getfield 14, [6, 0, 2, 64]), (66, .getfield 85, [4, 0, 2, 1]), (69, .iload_n 1, []), (70, .aaload, []), (71, .iload_n 3, []), (72, .iaload, []), (73, .istore 4, []), (75, .iload 4, []), (77, .ifCond .lt 15, [92]), (80, .iload 4, []), (82, .aload_n 0, []), (83, .getfield 40, [6, 4, 2, 68]), (86, .invokevirtual 238, [13, 0, 1, 0, 107]), (89, .if_icmp .lt 9, [98]), (92, .aload_n 0, []), (93, .iconst 3, []), (94, .invokevirtual 103, [112, 1, 1, 6, 77]), (97, .ireturn, [0]), (98, .iinc 3 1, []), (101, .goto (-44), [57]), (104, .aload_n 0, []), (105, .getfield 40, [6, 4, 2, 68]), (108, .getfield 157, [0, 8, 0, 36]), (111, .bipush 40, []), (113, .iload_n 2, []), (114, .imul, []), (115, .iadd, []), (116, .sipush 10000, []), (119, .if_icmp .le 6, [125]), (122, .bipush (-6), []), (124, .ireturn, [0]), (125, .iconst 0, []), (126, .istore_n 3, []), (127, .iload_n 3, []), (128, .iload_n 2, []), (129, .if_icmp .ge 34, [163]), (132, .aload_n 0, []), (133, .getfield 40, [6, 4, 2, 68]), (136, .aload_n 0, []), (137, .getfield 33, [6, 3, 2, 67]), (140, .aload_n 0, []), (141, .getfield 14, [6, 0, 2, 64]), (144, .getfield 85, [4, 0, 2, 1]), (147, .iload_n 1, []), (148, .aaload, []), (149, .iload_n 3, []), (150, .iaload, []), (151, .invokevirtual 260, [29, 2, 1, 0, 113]), (154, .ifCond .eq 9, [163]), (157, .iinc 3 1, []), (160, .goto (-33), [127]), (163, .aload_n 0, []), (164, .aload_n 0, []), (165, .getfield 40, [6, 4, 2, 68]), (168, .invokevirtual 202, [14, 0, 1, 0, 99]), (171, .putfield 88, [6, 13, 0, 77]), (174, .iload_n 3, []), (175, .ireturn, [0])]
def h_98 : List (Nat × Nat) := [(57, 4), (127, 4)]
/-- LastStirred.reach(II)I -/
def k_99 : List (Nat × Instr × List Nat) := [(0, .aload_n 0, []), (1, .getfield 33, [6, 3, 2, 67]), (4, .iload_n 1, []), (5, .invokevirtual 135, [35, 1, 1, 1, 83]), (8, .ifCond .eq 12, [20]), (11, .iload_n 2, []), (12, .ifCond .lt 8, [20]), (15, .iload_n 2, []), (16, .iconst 1, []), (17, .if_icmp .le 5, [22]), (20, .iconst (-1), []), (21, .ireturn, [0]), (22, .aload_n 0, []), (23, .getfield 33, [6, 3, 2, 67]), (26, .iload_n 1, []), (27, .iload_n 2, []), (28, .iconst 1, []), (29, .if_icmp .ne 7, [36]), (32, .iconst 1, []), (33, .goto 4, [37]), (36, .iconst 0, []), (37, .invokevirtual 264, [40, 2, 1, 1, 114]), (40, .ireturn, [0])]
def h_99 : List (Nat × Nat) := []
/-- LastStirred.never()I -/
def k_100 : List (Nat × Instr × List Nat) := [(0, .iconst 0, []), (1, .istore_n 1, []), (2, .aload_n 0, []), (3, .bipush (-9), []), (5, .putfield 88, [6, 13, 0, 77]), (8, .iconst 0, []), (9, .istore_n 2, []), (10, .iload_n 2, []), (11, .aload_n 0, []), (12, .getfield 40, [6, 4, 2, 68]), (15, .getfield 133, [0, 3, 0, 26]), (18, .if_icmp .ge 115, [133]), (21, .aload_n 0, []), (22, .getfield 40, [6, 4, 2, 68]), (25, .iload_n 2, []), (26, .invokevirtual 244, [6, 1, 1, 0, 109]), (29, .ifCond .eq 6, [35]), (32, .goto 95, [127]), (35, .aload_n 0, []), (36, .getfield 33, [6, 3, 2, 67]), (39, .aload_n 0, []), (40, .getfield 40, [6, 4, 2, 68]), (43, .getfield 199, [0, 1, 2, 22]), (46, .iload_n 2, []), (47, .iaload, []), (48, .iconst 1, []), (49, .invokevirtual 264, [40, 2, 1, 1, 114]), (52, .istore_n 3, []), (53, .iload_n 2, []), (54, .iconst 1, []), (55, .iadd, []), (56, .istore 4, []), (58, .iload 4, []), (60, .aload_n 0, []), (61, .getfield 40, [6, 4, 2, 68]), (64, .getfield 133, [0, 3, 0, 26]), (67, .if_icmp .ge 60, [127]), (70, .aload_n 0, []), (71, .getfield 40, [6, 4, 2, 68]), (74, .iload 4, []), (76, .invokevirtual 244, [6, 1, 1, 0, 109]), (79, .ifCond .ne 42, [121]), (82, .iload_n 3, []), (83, .aload_n 0, []), (84, .getfield 40, [6, 4, 2, 68]), (87, .getfield 199, [0, 1, 2, 22]), (90, .iload 4, []), (92, .iaload, []), (93, .ishr, []), (94, .iconst 1, []), (95, .iand, []), (96, .iconst 1, []), (97, .if_icmp .ne 6, [103]), (100, .goto 21, [121]), (103, .iload_n 1, []), (104, .ifCond .ne 14, [118]), (107, .aload_n 0, []), (108, .bipush 10, []), (110, .iload_n 2, []), (111, .imul, []), (112, .iload 4, []), (114, .iadd, []), (115, .putfield 88, [6, 13, 0, 77]), (118, .iinc 1 1, []), (121, .iinc 4 1, []), (124, .goto (-66), [58]), (127, .iinc 2 1, []), (130, .goto (-120), [10]), (133, .iload_n 1, []), (134, .ireturn, [0])]
def h_100 : List (Nat × Nat) := [(10, 3), (58, 5)]
/-- LastStirred.wolf(II)I -/
def k_101 : List (Nat × Instr × List Nat) := [(0, .aload_n 0, []), (1, .getfield 33, [6, 3, 2, 67]), (4, .iload_n 1, []), (5, .invokevirtual 135, [35, 1, 1, 1, 83]), (8, .ifCond .eq 24, [32]), (11, .aload_n 0, []), (12, .getfield 33, [6, 3, 2, 67]), (15, .iload_n 1, []), (16, .invokevirtual 268, [36, 1, 1, 1, 115]), (19, .ifCond .eq 13, [32]), (22, .iload_n 2, []), (23, .iconst 1, []), (24, .if_icmp .lt 8, [32]), (27, .iload_n 2, []), (28, .iconst 2, []), (29, .if_icmp .le 5, [34]), (32, .iconst (-1), []), (33, .ireturn, [0]), (34, .aload_n 0, []), (35, .getfield 40, [6, 4, 2, 68]), (38, .iload_n 1, []), (39, .invokevirtual 142, [7, 1, 1, 0, 85]), (42, .ifCond .eq 6, [48]), (45, .bipush (-4), []), (47, .ireturn, [0]), (48, .aload_n 0, []), (49, .getfield 65, [6, 9, 2, 73]), (52, .aload_n 0, []), (53, .getfield 33, [6, 3, 2, 67]), (56, .aload_n 0, []), (57, .getfield 40, [6, 4, 2, 68]), (60, .iload_n 1, []), (61, .iload_n 2, []), (62, .invokevirtual 271, [65, 4, 1, 5, 116]), (65, .istore_n 3, []), (66, .aload_n 0, []), (67, .iload_n 3, []), (68, .ifCond .eq 13, [81]), (71, .aload_n 0, []), (72, .getfield 65, [6, 9, 2, 73]), (75, .getfield 275, [5, 3, 0, 63]), (78, .goto 5, [83]), (81, .bipush (-9), []), (83, .putfield 88, [6, 13, 0, 77]), (86, .iload_n 3, []), (87, .ifCond .eq 7, [94]), (90, .iconst 1, []), (91, .goto 4, [95]), (94, .iconst 0, []), (95, .ireturn, [0])]
def h_101 : List (Nat × Nat) := []
/-- LastStirred.dawn(I)I -/
def k_102 : List (Nat × Instr × List Nat) := [(0, .aload_n 0, []), (1, .iload_n 1, []), (2, .invokevirtual 276, [116, 1, 1, 6, 117]), (5, .istore_n 2, []), (6, .iload_n 2, []), (7, .ifCond .eq 5, [12]), (10, .iload_n 2, []), (11, .ireturn, [0]), (12, .aload_n 0, []), (13, .getfield 58, [6, 8, 2, 72]), (16, .aload_n 0, []), (17, .getfield 14, [6, 0, 2, 64]), (20, .getfield 85, [4, 0, 2, 1]), (23, .iload_n 1, []), (24, .aaload, []), (25, .invokevirtual 279, [53, 1, 0, 3, 118]), (28, .aload_n 0, []), (29, .getfield 58, [6, 8, 2, 72]), (32, .aload_n 0, []), (33, .getfield 33, [6, 3, 2, 67]), (36, .aload_n 0, []), (37, .getfield 40, [6, 4, 2, 68]), (40, .iconst 2, []), (41, .invokevirtual 218, [54, 3, 1, 3, 104]), (44, .istore_n 3, []), (45, .iload_n 3, []), (46, .bipush (-9), []), (48, .if_icmp .eq 14, [62]), (51, .aload_n 0, []), (52, .aload_n 0, []), (53, .getfield 58, [6, 8, 2, 72]), (56, .getfield 231, [3, 5, 0, 52]), (59, .putfield 88, [6, 13, 0, 77]), (62, .iload_n 3, []), (63, .ireturn, [0])]
def h_102 : List (Nat × Nat) := []
/-- LastStirred.who(I)I -/
def k_103 : List (Nat × Instr × List Nat) := [(0, .aload_n 0, []), (1, .iload_n 1, []), (2, .invokevirtual 276, [116, 1, 1, 6, 117]), (5, .istore_n 2, []), (6, .iload_n 2, []), (7, .ifCond .eq 5, [12]), (10, .iload_n 2, []), (11, .ireturn, [0]), (12, .aload_n 0, []), (13, .getfield 58, [6, 8, 2, 72]), (16, .aload_n 0, []), (17, .getfield 14, [6, 0, 2, 64]), (20, .getfield 85, [4, 0, 2, 1]), (23, .iload_n 1, []), (24, .aaload, []), (25, .invokevirtual 279, [53, 1, 0, 3, 118]), (28, .aload_n 0, []), (29, .getfield 58, [6, 8, 2, 72]), (32, .aload_n 0, []), (33, .getfield 33, [6, 3, 2, 67]), (36, .aload_n 0, []), (37, .getfield 40, [6, 4, 2, 68]), (40, .iconst 2, []), (41, .invokevirtual 218, [54, 3, 1, 3, 104]), (44, .istore_n 3, []), (45, .iload_n 3, []), (46, .bipush (-9), []), (48, .if_icmp .eq 7, [55]), (51, .iload_n 3, []), (52, .ifCond .ne 6, [58]), (55, .bipush (-9), []), (57, .ireturn, [0]), (58, .aload_n 0, []), (59, .aload_n 0, []), (60, .getfield 58, [6, 8, 2, 72]), (63, .getfield 283, [3, 8, 0, 58]), (66, .putfield 88, [6, 13, 0, 77]), (69, .aload_n 0, []), (70, .getfield 58, [6, 8, 2, 72]), (73, .getfield 286, [3, 7, 0, 56]), (76, .ireturn, [0])]
def h_103 : List (Nat × Nat) := []
/-- LastStirred.breed(I)I -/
def k_104 : List (Nat × Instr × List Nat) := [(0, .iload_n 1, []), (1, .ifCond .lt 8, [9]), (4, .iload_n 1, []), (5, .iconst 5, []), (6, .if_icmp .le 5, [11]), (9, .iconst (-1), []), (10, .ireturn, [0]), (11, .aload_n 0, []), (12, .getfield 33, [6, 3, 2, 67]), (15, .getfield 182, [1, 5, 0, 18]), (18, .ifCond .ne 6, [24]), (21, .bipush (-4), []), (23, .ireturn, [0]), (24, .aload_n 0, []), (25, .getfield 48, [6, 6, 2, 70]), (28, .aload_n 0, []), (29, .getfield 40, [6, 4, 2, 68]), (32, .invokevirtual 127, [3, 1, 0, 0, 82]), (35, .aload_n 0, []), (36, .getfield 48, [6, 6, 2, 70]), (39, .getfield 289, [0, 0, 2, 20]), (42, .iload_n 1, []), (43, .invokestatic 292, [235, 2, 0, 119]), (46, .aload_n 0, []), (47, .getfield 58, [6, 8, 2, 72]), (50, .invokevirtual 215, [52, 0, 0, 3, 103]), (53, .aload_n 0, []), (54, .getfield 58, [6, 8, 2, 72]), (57, .aload_n 0, []), (58, .getfield 33, [6, 3, 2, 67]), (61, .aload_n 0, []), (62, .getfield 48, [6, 6, 2, 70]), (65, .iconst 2, []), (66, .invokevirtual 218, [54, 3, 1, 3, 104]), (69, .ireturn, [0])]
def h_104 : List (Nat × Nat) := []
/-- LastStirred.asked()I -/
def k_105 : List (Nat × Instr × List Nat) := [(0, .aload_n 0, []), (1, .getfield 88, [6, 13, 0, 77]), (4, .ireturn, [0])]
def h_105 : List (Nat × Nat) := []
/-- LastStirred.upper()J -/
def k_106 : List (Nat × Instr × List Nat) := [(0, .aload_n 0, []), (1, .getfield 298, [6, 14, 1, 78]), (4, .lreturn, [])]
def h_106 : List (Nat × Nat) := []
/-- LastStirred.lower()J -/
def k_107 : List (Nat × Instr × List Nat) := [(0, .aload_n 0, []), (1, .getfield 73, [6, 15, 1, 79]), (4, .lreturn, [])]
def h_107 : List (Nat × Nat) := []
/-- LastStirred.count(I)I -/
def k_108 : List (Nat × Instr × List Nat) := [(0, .iload_n 1, []), (1, .tableswitch 111 0 7 #[47, 55, 63, 71, 79, 87, 95, 103], [112, 48, 56, 64, 72, 80, 88, 96, 104]), (48, .aload_n 0, []), (49, .getfield 33, [6, 3, 2, 67]), (52, .getfield 182, [1, 5, 0, 18]), (55, .ireturn, [0]), (56, .aload_n 0, []), (57, .getfield 40, [6, 4, 2, 68]), (60, .getfield 133, [0, 3, 0, 26]), (63, .ireturn, [0]), (64, .aload_n 0, []), (65, .getfield 40, [6, 4, 2, 68]), (68, .invokevirtual 202, [14, 0, 1, 0, 99]), (71, .ireturn, [0]), (72, .aload_n 0, []), (73, .getfield 40, [6, 4, 2, 68]), (76, .getfield 157, [0, 8, 0, 36]), (79, .ireturn, [0]), (80, .aload_n 0, []), (81, .getfield 40, [6, 4, 2, 68]), (84, .invokevirtual 301, [15, 0, 1, 0, 120]), (87, .ireturn, [0]), (88, .aload_n 0, []), (89, .getfield 130, [6, 11, 0, 75]), (92, .invokestatic 304, [234, 1, 1, 121]), (95, .ireturn, [0]), (96, .aload_n 0, []), (97, .getfield 14, [6, 0, 2, 64]), (100, .invokevirtual 309, [62, 0, 1, 4, 122]), (103, .ireturn, [0]), (104, .aload_n 0, []), (105, .getfield 20, [6, 1, 2, 65]), (108, .invokevirtual 309, [62, 0, 1, 4, 122]), (111, .ireturn, [0]), (112, .iconst (-1), []), (113, .ireturn, [0])]
def h_108 : List (Nat × Nat) := []
/-- LastStirred.finding()I -/
def k_109 : List (Nat × Instr × List Nat) := [(0, .aload_n 0, []), (1, .getfield 312, [6, 12, 0, 76]), (4, .ireturn, [0])]
def h_109 : List (Nat × Nat) := []
/-- LastStirred.findings(I)I -/
def k_110 : List (Nat × Instr × List Nat) := [(0, .iload_n 1, []), (1, .iconst 1, []), (2, .if_icmp .lt 8, [10]), (5, .iload_n 1, []), (6, .iconst 5, []), (7, .if_icmp .le 5, [12]), (10, .iconst (-1), []), (11, .ireturn, [0]), (12, .aload_n 0, []), (13, .getfield 69, [6, 10, 2, 74]), (16, .iload_n 1, []), (17, .iaload, []), (18, .ireturn, [0])]
def h_110 : List (Nat × Nat) := []
/-- LastStirred.digest()J -/
def k_111 : List (Nat × Instr × List Nat) := [(0, .ldc2_w 315, [1, 863]), (3, .lstore_n 1, []), (4, .iconst 0, []), (5, .istore_n 3, []), (6, .iload_n 3, []), (7, .bipush 8, []), (9, .if_icmp .ge 22, [31]), (12, .ldc2_w 317, [2, 864]), (15, .lload_n 1, []), (16, .lmul, []), (17, .aload_n 0, []), (18, .iload_n 3, []), (19, .invokevirtual 319, [108, 1, 1, 6, 123]), (22, .i2l, []), (23, .ladd, []), (24, .lstore_n 1, []), (25, .iinc 3 1, []), (28, .goto (-22), [6]), (31, .iconst 0, []), (32, .istore_n 3, []), (33, .iload_n 3, []), (34, .aload_n 0, []), (35, .getfield 33, [6, 3, 2, 67]), (38, .getfield 182, [1, 5, 0, 18]), (41, .if_icmp .ge 26, [67]), (44, .ldc2_w 317, [2, 864]), (47, .lload_n 1, []), (48, .lmul, []), (49, .aload_n 0, []), (50, .getfield 33, [6, 3, 2, 67]), (53, .getfield 139, [1, 0, 2, 6]), (56, .iload_n 3, []), (57, .iaload, []), (58, .i2l, []), (59, .ladd, []), (60, .lstore_n 1, []), (61, .iinc 3 1, []), (64, .goto (-31), [33]), (67, .iconst 0, []), (68, .istore_n 3, []), (69, .iload_n 3, []), (70, .aload_n 0, []), (71, .getfield 40, [6, 4, 2, 68]), (74, .getfield 133, [0, 3, 0, 26]), (77, .if_icmp .ge 42, [119]), (80, .iconst 0, []), (81, .istore 4, []), (83, .iload 4, []), (85, .iconst 3, []), (86, .if_icmp .ge 27, [113]), (89, .ldc2_w 317, [2, 864]), (92, .lload_n 1, []), (93, .lmul, []), (94, .aload_n 0, []), (95, .getfield 40, [6, 4, 2, 68]), (98, .iload_n 3, []), (99, .iload 4, []), (101, .invokevirtual 146, [12, 2, 1, 0, 87]), (104, .i2l, []), (105, .ladd, []), (106, .lstore_n 1, []), (107, .iinc 4 1, []), (110, .goto (-27), [83]), (113, .iinc 3 1, []), (116, .goto (-47), [69]), (119, .ldc2_w 317, [2, 864]), (122, .lload_n 1, []), (123, .lmul, []), (124, .aload_n 0, []), (125, .getfield 40, [6, 4, 2, 68]), (128, .getfield 172, [0, 4, 0, 28]), (131, .i2l, []), (132, .ladd, []), (133, .lstore_n 1, []), (134, .ldc2_w 317, [2, 864]), (137, .lload_n 1, []), (138, .lmul, []), (139, .aload_n 0, []), (140, .getfield 40, [6, 4, 2, 68]), (143, .getfield 169, [0, 5, 0, 30]), (146, .i2l, []), (147, .ladd, []), (148, .lstore_n 1, []), (149, .ldc2_w 317, [2, 864]), (152, .lload_n 1, []), (153, .lmul, []), (154, .aload_n 0, []), (155, .getfield 40, [6, 4, 2, 68]), (158, .getfield 322, [0, 6, 0, 32]), (161, .i2l, []), (162, .ladd, []), (163, .lstore_n 1, []), (164, .ldc2_w 317, [2, 864]), (167, .lload_n 1, []), (168, .lmul, []), (169, .aload_n 0, []), (170, .getfield 40, [6, 4, 2, 68]), (173, .getfield 325, [0, 7, 0, 34]), (176, .i2l, []), (177, .ladd, []), (178, .lstore_n 1, []), (179, .iconst 0, []), (180, .istore_n 3, []), (181, .iload_n 3, []), (182, .aload_n 0, []), (183, .getfield 44, [6, 5, 2, 69]), (186, .arraylength, []), (187, .if_icmp .ge 38, [225]), (190, .ldc2_w 317, [2, 864]), (193, .lload_n 1, []), (194, .lmul, []), (195, .aload_n 0, []), (196, .iload_n 3, []), (197, .invokevirtual 212, [120, 1, 1, 6, 102]), (200, .ifCond .eq 15, [215]), (203, .aload_n 0, []), (204, .getfield 44, [6, 5, 2, 69]), (207, .iload_n 3, []), (208, .aaload, []), (209, .getfield 157, [0, 8, 0, 36]), (212, .goto 4, [216]), (215, .iconst (-1), []), (216, .i2l, []), (217, .ladd, []), (218, .lstore_n 1, []), (219, .iinc 3 1, []), (222, .goto (-41), [181]), (225, .aload_n 0, []), (226, .getfield 20, [6, 1, 2, 65]), (229, .aload_n 0, []), (230, .getfield 14, [6, 0, 2, 64]), (233, .lload_n 1, []), (234, .invokevirtual 328, [63, 1, 2, 4, 124]), (237, .invokevirtual 328, [63, 1, 2, 4, 124]), (240, .lreturn, [])]
def h_111 : List (Nat × Nat) := [(6, 4), (33, 4), (69, 4), (83, 5), (181, 4)]
/-- LastStirred.finds(I)I -/
def k_112 : List (Nat × Instr × List Nat) := [(0, .aload_n 0, []), (1, .iload_n 1, []), (2, .putfield 312, [6, 12, 0, 76]), (5, .aload_n 0, []), (6, .getfield 69, [6, 10, 2, 74]), (9, .iload_n 1, []), (10, .dup2, []), (11, .iaload, []), (12, .iconst 1, []), (13, .iadd, []), (14, .iastore, []), (15, .bipush (-3), []), (17, .ireturn, [0])]
def h_112 : List (Nat × Nat) := []
/-- LastStirred.makeIn(LLastStirred$Shelf;III)I -/
def k_113 : List (Nat × Instr × List Nat) := [(0, .aload_n 1, []), (1, .iload_n 2, []), (2, .invokevirtual 99, [60, 1, 1, 4, 76]), (5, .ifCond .eq 14, [19]), (8, .iload_n 3, []), (9, .aload_n 1, []), (10, .getfield 85, [4, 0, 2, 1]), (13, .iload_n 2, []), (14, .aaload, []), (15, .arraylength, []), (16, .if_icmp .le 5, [21]), (19, .iconst (-1), []), (20, .ireturn, [0]), (21, .iload_n 3, []), (22, .ifCond .ge 9, [31]), (25, .aload_n 0, []), (26, .iconst 5, []), (27, .invokevirtual 103, [112, 1, 1, 6, 77]), (30, .ireturn, [0]), (31, .aload_n 1, []), (32, .iload_n 2, []), (33, .iload_n 3, []), (34, .iload 4, []), (36, .invokevirtual 195, [61, 3, 0, 4, 98]), (39, .iload_n 3, []), (40, .ireturn, [0])]
def h_113 : List (Nat × Nat) := []
/-- LastStirred.refusedMissing(LLastStirred$Shelf;I)I -/
def k_114 : List (Nat × Instr × List Nat) := [(0, .aload_n 1, []), (1, .iload_n 2, []), (2, .invokevirtual 99, [60, 1, 1, 4, 76]), (5, .ifCond .ne 5, [10]), (8, .iconst (-1), []), (9, .ireturn, [0]), (10, .aload_n 1, []), (11, .getfield 96, [4, 1, 2, 3]), (14, .iload_n 2, []), (15, .iaload, []), (16, .iconst (-1), []), (17, .if_icmp .ne 11, [28]), (20, .aload_n 0, []), (21, .iconst 1, []), (22, .invokevirtual 103, [112, 1, 1, 6, 77]), (25, .goto 4, [29]), (28, .iconst 0, []), (29, .ireturn, [0])]
def h_114 : List (Nat × Nat) := []
/-- LastStirred.refusedPlace(LLastStirred$Shelf;II)I -/
def k_115 : List (Nat × Instr × List Nat) := [(0, .aload_n 0, []), (1, .aload_n 1, []), (2, .iload_n 2, []), (3, .invokevirtual 92, [114, 2, 1, 6, 75]), (6, .istore 4, []), (8, .iload 4, []), (10, .ifCond .eq 6, [16]), (13, .iload 4, []), (15, .ireturn, [0]), (16, .iload_n 3, []), (17, .ifCond .lt 13, [30]), (20, .iload_n 3, []), (21, .aload_n 1, []), (22, .getfield 96, [4, 1, 2, 3]), (25, .iload_n 2, []), (26, .iaload, []), (27, .if_icmp .lt 11, [38]), (30, .aload_n 0, []), (31, .iconst 2, []), (32, .invokevirtual 103, [112, 1, 1, 6, 77]), (35, .goto 4, [39]), (38, .iconst 0, []), (39, .ireturn, [0])]
def h_115 : List (Nat × Nat) := []
/-- LastStirred.refusedDawn(I)I -/
def k_116 : List (Nat × Instr × List Nat) := [(0, .aload_n 0, []), (1, .aload_n 0, []), (2, .getfield 14, [6, 0, 2, 64]), (5, .iload_n 1, []), (6, .invokevirtual 92, [114, 2, 1, 6, 75]), (9, .istore_n 2, []), (10, .iload_n 2, []), (11, .ifCond .eq 5, [16]), (14, .iload_n 2, []), (15, .ireturn, [0]), (16, .aload_n 0, []), (17, .getfield 14, [6, 0, 2, 64]), (20, .getfield 96, [4, 1, 2, 3]), (23, .iload_n 1, []), (24, .iaload, []), (25, .aload_n 0, []), (26, .getfield 40, [6, 4, 2, 68]), (29, .getfield 133, [0, 3, 0, 26]), (32, .if_icmp .eq 9, [41]), (35, .aload_n 0, []), (36, .iconst 5, []), (37, .invokevirtual 103, [112, 1, 1, 6, 77]), (40, .ireturn, [0]), (41, .iconst 0, []), (42, .istore_n 3, []), (43, .iload_n 3, []), (44, .aload_n 0, []), (45, .getfield 40, [6, 4, 2, 68]), (48, .getfield 133, [0, 3, 0, 26]), (51, .if_icmp .ge 47, [98]), (54, .aload_n 0, []), (55, .getfield 14, [6, 0, 2, 64]), (58, .getfield 85, [4, 0, 2, 1]), (61, .iload_n 1, []), (62, .aaload, []), (63, .iload_n 3, []), (64, .iaload, []), (65, .istore 4, []), (67, .iload 4, []), (69, .bipush (-9), []), (71, .if_icmp .eq 21, [92]), (74, .aload_n 0, []), (75, .getfield 33, [6, 3, 2, 67]), (78, .iload 4, []), (80, .invokevirtual 135, [35, 1, 1, 1, 83]), (83, .ifCond .ne 9, [92]), (86, .aload_n 0, []), (87, .iconst 3, []), (88, .invokevirtual 103, [112, 1, 1, 6, 77]), (91, .ireturn, [0]), (92, .iinc 3 1, []), (95, .goto (-52), [43]), (98, .iconst 0, []), (99, .ireturn, [0])]
def h_116 : List (Nat × Nat) := [(43, 4)]
/-- LastStirred.fits(III)Z -/
def k_117 : List (Nat × Instr × List Nat) := [(0, .iload_n 0, []), (1, .ifCond .lt 19, [20]), (4, .iload_n 0, []), (5, .iload_n 2, []), (6, .if_icmp .gt 14, [20]), (9, .iload_n 1, []), (10, .iload_n 2, []), (11, .iload_n 0, []), (12, .isub, []), (13, .if_icmp .gt 7, [20]), (16, .iconst 1, []), (17, .goto 4, [21]), (20, .iconst 0, []), (21, .ireturn, [1])]
def h_117 : List (Nat × Nat) := []
/-- LastStirred.isWay(I)Z -/
def k_118 : List (Nat × Instr × List Nat) := [(0, .iload_n 0, []), (1, .ifCond .lt 12, [13]), (4, .iload_n 0, []), (5, .iconst 4, []), (6, .if_icmp .ge 7, [13]), (9, .iconst 1, []), (10, .goto 4, [14]), (13, .iconst 0, []), (14, .ireturn, [1])]
def h_118 : List (Nat × Nat) := []
/-- LastStirred.isPlace(I)Z -/
def k_119 : List (Nat × Instr × List Nat) := [(0, .iload_n 1, []), (1, .ifCond .lt 16, [17]), (4, .iload_n 1, []), (5, .aload_n 0, []), (6, .getfield 44, [6, 5, 2, 69]), (9, .arraylength, []), (10, .if_icmp .ge 7, [17]), (13, .iconst 1, []), (14, .goto 4, [18]), (17, .iconst 0, []), (18, .ireturn, [1])]
def h_119 : List (Nat × Nat) := []
/-- LastStirred.isKept(I)Z -/
def k_120 : List (Nat × Instr × List Nat) := [(0, .aload_n 0, []), (1, .getfield 130, [6, 11, 0, 75]), (4, .iload_n 1, []), (5, .ishr, []), (6, .iconst 1, []), (7, .iand, []), (8, .iconst 1, []), (9, .if_icmp .ne 7, [16]), (12, .iconst 1, []), (13, .goto 4, [17]), (16, .iconst 0, []), (17, .ireturn, [1])]
def h_120 : List (Nat × Nat) := []
/-- LastStirred.offLast(I)I -/
def k_121 : List (Nat × Instr × List Nat) := [(0, .aload_n 0, []), (1, .getfield 40, [6, 4, 2, 68]), (4, .getfield 172, [0, 4, 0, 28]), (7, .bipush (-9), []), (9, .if_icmp .eq 14, [23]), (12, .aload_n 0, []), (13, .getfield 40, [6, 4, 2, 68]), (16, .iload_n 1, []), (17, .invokevirtual 244, [6, 1, 1, 0, 109]), (20, .ifCond .eq 6, [26]), (23, .bipush (-9), []), (25, .ireturn, [0]), (26, .aload_n 0, []), (27, .getfield 33, [6, 3, 2, 67]), (30, .aload_n 0, []), (31, .getfield 40, [6, 4, 2, 68]), (34, .getfield 199, [0, 1, 2, 22]), (37, .iload_n 1, []), (38, .iaload, []), (39, .aload_n 0, []), (40, .getfield 40, [6, 4, 2, 68]), (43, .getfield 169, [0, 5, 0, 30]), (46, .invokevirtual 247, [37, 2, 1, 1, 110]), (49, .ireturn, [0])]
def h_121 : List (Nat × Nat) := []
/-- LastStirred.othersNear(I)I -/
def k_122 : List (Nat × Instr × List Nat) := [(0, .aload_n 0, []), (1, .getfield 40, [6, 4, 2, 68]), (4, .iload_n 1, []), (5, .invokevirtual 244, [6, 1, 1, 0, 109]), (8, .ifCond .eq 6, [14]), (11, .bipush (-9), []), (13, .ireturn, [0]), (14, .iconst 0, []), (15, .istore_n 2, []), (16, .iconst 0, []), (17, .istore_n 3, []), (18, .iload_n 3, []), (19, .aload_n 0, []), (20, .getfield 40, [6, 4, 2, 68]), (23, .getfield 133, [0, 3, 0, 26]), (26, .if_icmp .ge 57, [83]), (29, .iload_n 3, []), (30, .iload_n 1, []), (31, .if_icmp .eq 46, [77]), (34, .aload_n 0, []), (35, .getfield 40, [6, 4, 2, 68]), (38, .iload_n 3, []), (39, .invokevirtual 244, [6, 1, 1, 0, 109]), (42, .ifCond .ne 35, [77]), (45, .aload_n 0, []), (46, .getfield 33, [6, 3, 2, 67]), (49, .aload_n 0, []), (50, .getfield 40, [6, 4, 2, 68]), (53, .getfield 199, [0, 1, 2, 22]), (56, .iload_n 1, []), (57, .iaload, []), (58, .aload_n 0, []), (59, .getfield 40, [6, 4, 2, 68]), (62, .getfield 199, [0, 1, 2, 22]), (65, .iload_n 3, []), (66, .iaload, []), (67, .invokevirtual 247, [37, 2, 1, 1, 110]), (70, .iconst 3, []), (71, .if_icmp .ge 6, [77]), (74, .iinc 2 1, []), (77, .iinc 3 1, []), (80, .goto (-62), [18]), (83, .iload_n 2, []), (84, .ireturn, [0])]
def h_122 : List (Nat × Nat) := [(18, 4)]
/-- LastStirred.tryDrive(I)Z -/
def k_123 : List (Nat × Instr × List Nat) := [(0, .aload_n 0, []), (1, .getfield 48, [6, 6, 2, 70]), (4, .aload_n 0, []), (5, .getfield 40, [6, 4, 2, 68]), (8, .invokevirtual 127, [3, 1, 0, 0, 82]), (11, .aload_n 0, []), (12, .getfield 48, [6, 6, 2, 70]), (15, .aload_n 0, []), (16, .getfield 33, [6, 3, 2, 67]), (19, .iload_n 1, []), (20, .invokevirtual 260, [29, 2, 1, 0, 113]), (23, .ireturn, [1])]
def h_123 : List (Nat × Nat) := []
/-- LastStirred.tellFraction(II)V -/
def k_124 : List (Nat × Instr × List Nat) := [(0, .aload_n 0, []), (1, .iload_n 1, []), (2, .i2l, []), (3, .putfield 298, [6, 14, 1, 78]), (6, .aload_n 0, []), (7, .iload_n 2, []), (8, .i2l, []), (9, .putfield 73, [6, 15, 1, 79]), (12, .iload_n 2, []), (13, .istore_n 3, []), (14, .iload_n 3, []), (15, .iconst 1, []), (16, .if_icmp .le 55, [71]), (19, .aload_n 0, []), (20, .getfield 298, [6, 14, 1, 78]), (23, .iload_n 3, []), (24, .i2l, []), (25, .lrem, []), (26, .lconst 0, []), (27, .lcmp, []), (28, .ifCond .ne 37, [65]), (31, .aload_n 0, []), (32, .getfield 73, [6, 15, 1, 79]), (35, .iload_n 3, []), (36, .i2l, []), (37, .lrem, []), (38, .lconst 0, []), (39, .lcmp, []), (40, .ifCond .ne 25, [65]), (43, .aload_n 0, []), (44, .dup, []), (45, .getfield 298, [6, 14, 1, 78]), (48, .iload_n 3, []), (49, .i2l, []), (50, .ldiv, []), (51, .putfield 298, [6, 14, 1, 78]), (54, .aload_n 0, []), (55, .dup, []), (56, .getfield 73, [6, 15, 1, 79]), (59, .iload_n 3, []), (60, .i2l, []), (61, .ldiv, []), (62, .putfield 73, [6, 15, 1, 79]), (65, .iinc 3 (-1), []), (68, .goto (-54), [14]), (71, .return_, [])]
def h_124 : List (Nat × Nat) := [(14, 4)]
/-- LastStirred.placeOf([II)I -/
def k_125 : List (Nat × Instr × List Nat) := [(0, .iconst 0, []), (1, .istore_n 2, []), (2, .iload_n 2, []), (3, .aload_n 0, []), (4, .arraylength, []), (5, .if_icmp .ge 18, [23]), (8, .aload_n 0, []), (9, .iload_n 2, []), (10, .iaload, []), (11, .iload_n 1, []), (12, .if_icmp .ne 5, [17]), (15, .iload_n 2, []), (16, .ireturn, [0]), (17, .iinc 2 1, []), (20, .goto (-18), [2]), (23, .bipush (-9), []), (25, .ireturn, [0])]
def h_125 : List (Nat × Nat) := [(2, 3)]
/-- LastStirredModel.<init>()V -/
def k_126 : List (Nat × Instr × List Nat) := [(0, .aload_n 0, []), (1, .invokespecial 1, [125]), (4, .aload_n 0, []), (5, .bipush 6, []), (7, .newarray .int, []), (9, .putfield 7, [7, 1, 2, 81]), (12, .aload_n 0, []), (13, .bipush 6, []), (15, .newarray .int, []), (17, .putfield 13, [7, 5, 2, 85]), (20, .aload_n 0, []), (21, .sipush 360, []), (24, .newarray .int, []), (26, .putfield 16, [7, 6, 2, 86]), (29, .aload_n 0, []), (30, .bipush 60, []), (32, .newarray .int, []), (34, .putfield 19, [7, 7, 2, 87]), (37, .aload_n 0, []), (38, .iconst 4, []), (39, .newarray .int, []), (41, .putfield 22, [7, 8, 2, 88]), (44, .aload_n 0, []), (45, .sipush 320, []), (48, .newarray .byte, []), (50, .putfield 25, [7, 9, 2, 89]), (53, .aload_n 0, []), (54, .bipush 30, []), (56, .newarray .int, []), (58, .putfield 29, [7, 12, 2, 92]), (61, .aload_n 0, []), (62, .iconst 4, []), (63, .newarray .int, []), (65, .putfield 32, [7, 14, 2, 94]), (68, .aload_n 0, []), (69, .bipush 30, []), (71, .newarray .int, []), (73, .putfield 35, [7, 21, 2, 101]), (76, .aload_n 0, []), (77, .iconst 4, []), (78, .newarray .int, []), (80, .putfield 38, [7, 22, 2, 102]), (83, .aload_n 0, []), (84, .iconst 4, []), (85, .newarray .int, []), (87, .putfield 41, [7, 23, 2, 103]), (90, .aload_n 0, []), (91, .bipush 117, []), (93, .newarray .int, []), (95, .putfield 44, [7, 24, 2, 104]), (98, .aload_n 0, []), (99, .iconst 3, []), (100, .newarray .boolean, []), (102, .putfield 47, [7, 25, 2, 105]), (105, .aload_n 0, []), (106, .iconst 4, []), (107, .newarray .int, []), (109, .putfield 51, [7, 28, 2, 108]), (112, .aload_n 0, []), (113, .sipush 201, []), (116, .newarray .long, []), (118, .putfield 54, [7, 31, 2, 111]), (121, .aload_n 0, []), (122, .iconst 4, []), (123, .newarray .int, []), (125, .putfield 58, [7, 37, 2, 117]), (128, .aload_n 0, []), (129, .lconst 1, []), (130, .putfield 61, [7, 4, 1, 84]), (133, .iconst 0, []), (134, .istore_n 1, []), (135, .iload_n 1, []), (136, .bipush 6, []), (138, .if_icmp .ge 16, [154]), (141, .aload_n 0, []), (142, .getfield 13, [7, 5, 2, 85]), (145, .iload_n 1, []), (146, .iconst (-1), []), (147, .iastore, []), (148, .iinc 1 1, []), (151, .goto (-16), [135]), (154, .iconst 0, []), (155, .istore_n 1, []), (156, .iload_n 1, []), (157, .iconst 4, []), (158, .if_icmp .ge 16, [174]), (161, .aload_n 0, []), (162, .getfield 22, [7, 8, 2, 88]), (165, .iload_n 1, []), (166, .iconst (-1), []), (167, .iastore, []), (168, .iinc 1 1, []), (171, .goto (-15), [156]), (174, .aload_n 0, []), (175, .iconst 0, []), (176, .iconst 1, []), (177, .bipush (-9), []), (179, .invokevirtual 65, [163, 3, 0, 7, 126]), (182, .aload_n 0, []), (183, .iconst 0, []), (184, .iconst 2, []), (185, .bipush (-9), []), (187, .invokevirtual 65, [163, 3, 0, 7, 126]), (190, .aload_n 0, []), (191, .iconst 0, []), (192, .iconst 3, []), (193, .bipush (-9), []), (195, .invokevirtual 65, [163, 3, 0, 7, 126]), (198, .aload_n 0, []), (199, .iconst 0, []), (200, .iconst 4, []), (201, .bipush (-9), []), (203, .invokevirtual 65, [163, 3, 0, 7, 126]), (206, .return_, [])]
def h_126 : List (Nat × Nat) := [(135, 2), (156, 2)]
/-- LastStirredModel.in(III)Z -/
def k_127 : List (Nat × Instr × List Nat) := [(0, .iload_n 0, []), (1, .iload_n 1, []), (2, .if_icmp .lt 12, [14]), (5, .iload_n 0, []), (6, .iload_n 2, []), (7, .if_icmp .gt 7, [14]), (10, .iconst 1, []), (11, .goto 4, [15]), (14, .iconst 0, []), (15, .ireturn, [1])]
def h_127 : List (Nat × Nat) := []
/-- LastStirredModel.has(II)Z -/
def k_128 : List (Nat × Instr × List Nat) := [(0, .iload_n 0, []), (1, .iload_n 1, []), (2, .ishr, []), (3, .iconst 1, []), (4, .iand, []), (5, .iconst 1, []), (6, .if_icmp .ne 7, [13]), (9, .iconst 1, []), (10, .goto 4, [14]), (13, .iconst 0, []), (14, .ireturn, [1])]
def h_128 : List (Nat × Nat) := []
/-- LastStirredModel.bits(I)I -/
def k_129 : List (Nat × Instr × List Nat) := [(0, .iconst 0, []), (1, .istore_n 1, []), (2, .iload_n 0, []), (3, .istore_n 2, []), (4, .iload_n 2, []), (5, .ifCond .eq 15, [20]), (8, .iinc 1 1, []), (11, .iload_n 2, []), (12, .iload_n 2, []), (13, .iconst 1, []), (14, .isub, []), (15, .iand, []), (16, .istore_n 2, []), (17, .goto (-13), [4]), (20, .iload_n 1, []), (21, .ireturn, [0])]
def h_129 : List (Nat × Nat) := [(4, 3)]
/-- LastStirredModel.size(I)I -/
def k_130 : List (Nat × Instr × List Nat) := [(0, .iload_n 0, []), (1, .ifCond .ge 8, [9]), (4, .iload_n 0, []), (5, .ineg, []), (6, .goto 4, [10]), (9, .iload_n 0, []), (10, .ireturn, [0])]
def h_130 : List (Nat × Nat) := []
/-- LastStirredModel.meets(I)I -/
def k_131 : List (Nat × Instr × List Nat) := [(0, .aload_n 0, []), (1, .iload_n 1, []), (2, .putfield 69, [7, 0, 0, 80]), (5, .aload_n 0, []), (6, .getfield 7, [7, 1, 2, 81]), (9, .iload_n 1, []), (10, .dup2, []), (11, .iaload, []), (12, .iconst 1, []), (13, .iadd, []), (14, .iastore, []), (15, .bipush (-3), []), (17, .ireturn, [0])]
def h_131 : List (Nat × Nat) := []
/-- LastStirredModel.finding()I -/
def k_132 : List (Nat × Instr × List Nat) := [(0, .aload_n 0, []), (1, .getfield 69, [7, 0, 0, 80]), (4, .ireturn, [0])]
def h_132 : List (Nat × Nat) := []
/-- LastStirredModel.findings(I)I -/
def k_133 : List (Nat × Instr × List Nat) := [(0, .iload_n 1, []), (1, .iconst 1, []), (2, .iconst 5, []), (3, .invokestatic 73, [127, 3, 1, 127]), (6, .ifCond .eq 12, [18]), (9, .aload_n 0, []), (10, .getfield 7, [7, 1, 2, 81]), (13, .iload_n 1, []), (14, .iaload, []), (15, .goto 4, [19]), (18, .iconst (-1), []), (19, .ireturn, [0])]
def h_133 : List (Nat × Nat) := []
/-- LastStirredModel.tells(II)I -/
def k_134 : List (Nat × Instr × List Nat) := [(0, .aload_n 0, []), (1, .iload_n 1, []), (2, .putfield 77, [7, 2, 0, 82]), (5, .iload_n 2, []), (6, .ireturn, [0])]
def h_134 : List (Nat × Nat) := []
/-- LastStirredModel.asked()I -/
def k_135 : List (Nat × Instr × List Nat) := [(0, .aload_n 0, []), (1, .getfield 77, [7, 2, 0, 82]), (4, .ireturn, [0])]
def h_135 : List (Nat × Nat) := []
/-- LastStirredModel.fraction(JJI)I -/
def k_136 : List (Nat × Instr × List Nat) := [(0, .lload_n 1, []), (1, .lstore 6, []), (3, .lload_n 3, []), (4, .lstore 8, []), (6, .lload 8, []), (8, .lconst 0, []), (9, .lcmp, []), (10, .ifCond .eq 21, [31]), (13, .lload 6, []), (15, .lload 8, []), (17, .lrem, []), (18, .lstore 10, []), (20, .lload 8, []), (22, .lstore 6, []), (24, .lload 10, []), (26, .lstore 8, []), (28, .goto (-22), [6]), (31, .aload_n 0, []), (32, .lload_n 1, []), (33, .lload 6, []), (35, .ldiv, []), (36, .putfield 80, [7, 3, 1, 83]), (39, .aload_n 0, []), (40, .lload_n 3, []), (41, .lload 6, []), (43, .ldiv, []), (44, .putfield 61, [7, 4, 1, 84]), (47, .iload 5, []), (49, .ireturn, [0])]
def h_136 : List (Nat × Nat) := [(6, 10)]
/-- LastStirredModel.upper()J -/
def k_137 : List (Nat × Instr × List Nat) := [(0, .aload_n 0, []), (1, .getfield 80, [7, 3, 1, 83]), (4, .lreturn, [])]
def h_137 : List (Nat × Nat) := []
/-- LastStirredModel.lower()J -/
def k_138 : List (Nat × Instr × List Nat) := [(0, .aload_n 0, []), (1, .getfield 61, [7, 4, 1, 84]), (4, .lreturn, [])]
def h_138 : List (Nat × Nat) := []
/-- LastStirredModel.isRow(I)Z -/
def k_139 : List (Nat × Instr × List Nat) := [(0, .iload_n 0, []), (1, .iconst 0, []), (2, .iconst 5, []), (3, .invokestatic 73, [127, 3, 1, 127]), (6, .ireturn, [1])]
def h_139 : List (Nat × Nat) := []
/-- LastStirredModel.rowAt(II)I -/
def k_140 : List (Nat × Instr × List Nat) := [(0, .aload_n 0, []), (1, .getfield 16, [7, 6, 2, 86]), (4, .bipush 60, []), (6, .iload_n 1, []), (7, .imul, []), (8, .iload_n 2, []), (9, .iadd, []), (10, .iaload, []), (11, .ireturn, [0])]
def h_140 : List (Nat × Nat) := []
/-- LastStirredModel.row(II)I -/
def k_141 : List (Nat × Instr × List Nat) := [(0, .iload_n 1, []), (1, .invokestatic 83, [139, 1, 1, 128]), (4, .ifCond .eq 9, [13]), (7, .iload_n 2, []), (8, .bipush 60, []), (10, .if_icmp .le 5, [15]), (13, .iconst (-1), []), (14, .ireturn, [0]), (15, .iload_n 2, []), (16, .ifCond .ge 9, [25]), (19, .aload_n 0, []), (20, .iconst 5, []), (21, .invokevirtual 87, [131, 1, 1, 7, 129]), (24, .ireturn, [0]), (25, .aload_n 0, []), (26, .getfield 13, [7, 5, 2, 85]), (29, .iload_n 1, []), (30, .iload_n 2, []), (31, .iastore, []), (32, .iconst 0, []), (33, .istore_n 3, []), (34, .iload_n 3, []), (35, .bipush 60, []), (37, .if_icmp .ge 21, [58]), (40, .aload_n 0, []), (41, .getfield 16, [7, 6, 2, 86]), (44, .bipush 60, []), (46, .iload_n 1, []), (47, .imul, []), (48, .iload_n 3, []), (49, .iadd, []), (50, .iconst 0, []), (51, .iastore, []), (52, .iinc 3 1, []), (55, .goto (-21), [34]), (58, .iload_n 2, []), (59, .ireturn, [0])]
def h_141 : List (Nat × Nat) := [(34, 4)]
/-- LastStirredModel.lay(III)I -/
def k_142 : List (Nat × Instr × List Nat) := [(0, .iload_n 1, []), (1, .invokestatic 83, [139, 1, 1, 128]), (4, .ifCond .ne 5, [9]), (7, .iconst (-1), []), (8, .ireturn, [0]), (9, .aload_n 0, []), (10, .getfield 13, [7, 5, 2, 85]), (13, .iload_n 1, []), (14, .iaload, []), (15, .ifCond .ge 9, [24]), (18, .aload_n 0, []), (19, .iconst 1, []), (20, .invokevirtual 87, [131, 1, 1, 7, 129]), (23, .ireturn, [0]), (24, .iload_n 2, []), (25, .iconst 0, []), (26, .aload_n 0, []), (27, .getfield 13, [7, 5, 2, 85]), (30, .iload_n 1, []), (31, .iaload, []), (32, .iconst 1, []), (33, .isub, []), (34, .invokestatic 73, [127, 3, 1, 127]), (37, .ifCond .ne 9, [46]), (40, .aload_n 0, []), (41, .iconst 2, []), (42, .invokevirtual 87, [131, 1, 1, 7, 129]), (45, .ireturn, [0]), (46, .aload_n 0, []), (47, .iload_n 1, []), (48, .iload_n 2, []), (49, .invokevirtual 91, [140, 2, 1, 7, 130]), (52, .istore 4, []), (54, .aload_n 0, []), (55, .getfield 16, [7, 6, 2, 86]), (58, .bipush 60, []), (60, .iload_n 1, []), (61, .imul, []), (62, .iload_n 2, []), (63, .iadd, []), (64, .iload_n 3, []), (65, .iastore, []), (66, .aload_n 0, []), (67, .iload 4, []), (69, .iconst 1, []), (70, .invokevirtual 95, [134, 2, 1, 7, 131]), (73, .ireturn, [0])]
def h_142 : List (Nat × Nat) := []
/-- LastStirredModel.at(II)I -/
def k_143 : List (Nat × Instr × List Nat) := [(0, .iload_n 1, []), (1, .invokestatic 83, [139, 1, 1, 128]), (4, .ifCond .ne 5, [9]), (7, .iconst (-1), []), (8, .ireturn, [0]), (9, .aload_n 0, []), (10, .getfield 13, [7, 5, 2, 85]), (13, .iload_n 1, []), (14, .iaload, []), (15, .ifCond .ge 9, [24]), (18, .aload_n 0, []), (19, .iconst 1, []), (20, .invokevirtual 87, [131, 1, 1, 7, 129]), (23, .ireturn, [0]), (24, .iload_n 2, []), (25, .iconst 0, []), (26, .aload_n 0, []), (27, .getfield 13, [7, 5, 2, 85]), (30, .iload_n 1, []), (31, .iaload, []), (32, .iconst 1, []), (33, .isub, []), (34, .invokestatic 73, [127, 3, 1, 127]), (37, .ifCond .eq 17, [54]), (40, .aload_n 0, []), (41, .aload_n 0, []), (42, .iload_n 1, []), (43, .iload_n 2, []), (44, .invokevirtual 91, [140, 2, 1, 7, 130]), (47, .iconst 1, []), (48, .invokevirtual 95, [134, 2, 1, 7, 131]), (51, .goto 8, [59]), (54, .aload_n 0, []), (55, .iconst 2, []), (56, .invokevirtual 87, [131, 1, 1, 7, 129]), (59, .ireturn, [0])]
def h_143 : List (Nat × Nat) := []
/-- LastStirredModel.tear(I)I -/
def k_144 : List (Nat × Instr × List Nat) := [(0, .iload_n 1, []), (1, .invokestatic 83, [139, 1, 1, 128]), (4, .ifCond .ne 5, [9]), (7, .iconst (-1), []), (8, .ireturn, [0]), (9, .aload_n 0, []), (10, .getfield 13, [7, 5, 2, 85]), (13, .iload_n 1, []), (14, .iaload, []), (15, .ifCond .ge 9, [24]), (18, .aload_n 0, []), (19, .iconst 1, []), (20, .invokevirtual 87, [131, 1, 1, 7, 129]), (23, .ireturn, [0]), (24, .aload_n 0, []), (25, .getfield 13, [7, 5, 2, 85]), (28, .iload_n 1, []), (29, .iconst (-1), []), (30, .iastore, []), (31, .iconst 1, []), (32, .ireturn, [0])]
def h_144 : List (Nat × Nat) := []
/-- LastStirredModel.copy(IIIII)I -/
def k_145 : List (Nat × Instr × List Nat) := [(0, .iload_n 1, []), (1, .invokestatic 83, [139, 1, 1, 128]), (4, .ifCond .eq 10, [14]), (7, .iload_n 3, []), (8, .invokestatic 83, [139, 1, 1, 128]), (11, .ifCond .ne 5, [16]), (14, .iconst (-1), []), (15, .ireturn, [0]), (16, .iload 5, []), (18, .ifCond .ge 9, [27]), (21, .aload_n 0, []), (22, .iconst 5, []), (23, .invokevirtual 87, [131, 1, 1, 7, 129]), (26, .ireturn, [0]), (27, .aload_n 0, []), (28, .getfield 13, [7, 5, 2, 85]), (31, .iload_n 1, []), (32, .iaload, []), (33, .ifCond .lt 12, [45]), (36, .aload_n 0, []), (37, .getfield 13, [7, 5, 2, 85]), (40, .iload_n 3, []), (41, .iaload, []), (42, .ifCond .ge 9, [51]), (45, .aload_n 0, []), (46, .iconst 1, []), (47, .invokevirtual 87, [131, 1, 1, 7, 129]), (50, .ireturn, [0]), (51, .iload_n 2, []), (52, .ifCond .lt 43, [95]), (55, .iload 4, []), (57, .ifCond .lt 38, [95]), (60, .iload_n 2, []), (61, .i2l, []), (62, .iload 5, []), (64, .i2l, []), (65, .ladd, []), (66, .aload_n 0, []), (67, .getfield 13, [7, 5, 2, 85]), (70, .iload_n 1, []), (71, .iaload, []), (72, .i2l, []), (73, .lcmp, []), (74, .ifCond .gt 21, [95]), (77, .iload 4, []), (79, .i2l, []), (80, .iload 5, []), (82, .i2l, []), (83, .ladd, []), (84, .aload_n 0, []), (85, .getfield 13, [7, 5, 2, 85]), (88, .iload_n 3, []), (89, .iaload, []), (90, .i2l, []), (91, .lcmp, []), (92, .ifCond .le 9, [101]), (95, .aload_n 0, []), (96, .iconst 2, []), (97, .invokevirtual 87, [131, 1, 1, 7, 129]), (100, .ireturn, [0]), (101, .iconst 0, []), (102, .istore 6, []), (104, .iload 6, []), (106, .iload 5, []), (108, .if_icmp .ge 25, [133]), (111, .aload_n 0, []), (112, .getfield 19, [7, 7, 2, 87]), (115, .iload 6, []), (117, .aload_n 0, []), (118, .iload_n 1, []), (119, .iload_n 2, []), (120, .iload 6, []), (122, .iadd, []), (123, .invokevirtual 91, [140, 2, 1, 7, 130]), (126, .iastore, []), (127, .iinc 6 1, []), (130, .goto (-26), [104]), (133, .iconst 0, []), (134, .istore 6, []), (136, .iload 6, []), (138, .iload 5, []), (140, .if_icmp .ge 31, [171]), (143, .aload_n 0, []), (144, .getfield 16, [7, 6, 2, 86]), (147, .bipush 60, []), (149, .iload_n 3, []), (150, .imul, []), (151, .iload 4, []), (153, .iadd, []), (154, .iload 6, []), (156, .iadd, []), (157, .aload_n 0, []), (158, .getfield 19, [7, 7, 2, 87]), (161, .iload 6, []), (163, .iaload, []), (164, .iastore, []), (165, .iinc 6 1, []), (168, .goto (-32), [136]), (171, .iconst 1, []), (172, .ireturn, [0])]
def h_145 : List (Nat × Nat) := [(104, 7), (136, 7)]
/-- LastStirredModel.mean(I)I -/
def k_146 : List (Nat × Instr × List Nat) := [(0, .iload_n 1, []), (1, .invokestatic 83, [139, 1, 1, 128]), (4, .ifCond .ne 5, [9]), (7, .iconst (-1), []), (8, .ireturn, [0]), (9, .aload_n 0, []), (10, .getfield 13, [7, 5, 2, 85]), (13, .iload_n 1, []), (14, .iaload, []), (15, .ifCond .ge 9, [24]), (18, .aload_n 0, []), (19, .iconst 1, []), (20, .invokevirtual 87, [131, 1, 1, 7, 129]), (23, .ireturn, [0]), (24, .aload_n 0, []), (25, .getfield 13, [7, 5, 2, 85]), (28, .iload_n 1, []), (29, .iaload, []), (30, .ifCond .ne 9, [39]), (33, .aload_n 0, []), (34, .iconst 4, []), (35, .invokevirtual 87, [131, 1, 1, 7, 129]), (38, .ireturn, [0]), (39, .lconst 0, []), (40, .lstore_n 2, []), (41, .iconst 0, []), (42, .istore 4, []), (44, .iload 4, []), (46, .aload_n 0, []), (47, .getfield 13, [7, 5, 2, 85]), (50, .iload_n 1, []), (51, .iaload, []), (52, .if_icmp .ge 20, [72]), (55, .lload_n 2, []), (56, .aload_n 0, []), (57, .iload_n 1, []), (58, .iload 4, []), (60, .invokevirtual 91, [140, 2, 1, 7, 130]), (63, .i2l, []), (64, .ladd, []), (65, .lstore_n 2, []), (66, .iinc 4 1, []), (69, .goto (-25), [44]), (72, .aload_n 0, []), (73, .lload_n 2, []), (74, .aload_n 0, []), (75, .getfield 13, [7, 5, 2, 85]), (78, .iload_n 1, []), (79, .iaload, []), (80, .i2l, []), (81, .ldiv, []), (82, .l2i, []), (83, .iconst 1, []), (84, .invokevirtual 95, [134, 2, 1, 7, 131]), (87, .ireturn, [0])]
def h_146 : List (Nat × Nat) := [(44, 5)]
/-- LastStirredModel.isText(I)Z -/
def k_147 : List (Nat × Instr × List Nat) := [(0, .iload_n 0, []), (1, .iconst 0, []), (2, .iconst 3, []), (3, .invokestatic 73, [127, 3, 1, 127]), (6, .ireturn, [1])]
def h_147 : List (Nat × Nat) := []
/-- LastStirredModel.text(II)I -/
def k_148 : List (Nat × Instr × List Nat) := [(0, .iload_n 1, []), (1, .invokestatic 98, [147, 1, 1, 132]), (4, .ifCond .eq 9, [13]), (7, .iload_n 2, []), (8, .bipush 80, []), (10, .if_icmp .le 5, [15]), (13, .iconst (-1), []), (14, .ireturn, [0]), (15, .iload_n 2, []), (16, .ifCond .ge 9, [25]), (19, .aload_n 0, []), (20, .iconst 5, []), (21, .invokevirtual 87, [131, 1, 1, 7, 129]), (24, .ireturn, [0]), (25, .aload_n 0, []), (26, .getfield 22, [7, 8, 2, 88]), (29, .iload_n 1, []), (30, .iload_n 2, []), (31, .iastore, []), (32, .iconst 0, []), (33, .istore_n 3, []), (34, .iload_n 3, []), (35, .bipush 80, []), (37, .if_icmp .ge 22, [59]), (40, .aload_n 0, []), (41, .getfield 25, [7, 9, 2, 89]), (44, .bipush 80, []), (46, .iload_n 1, []), (47, .imul, []), (48, .iload_n 3, []), (49, .iadd, []), (50, .bipush 32, []), (52, .bastore, []), (53, .iinc 3 1, []), (56, .goto (-22), [34]), (59, .iload_n 2, []), (60, .ireturn, [0])]
def h_148 : List (Nat × Nat) := [(34, 4)]
/-- LastStirredModel.put(III)I -/
def k_149 : List (Nat × Instr × List Nat) := [(0, .iload_n 1, []), (1, .invokestatic 98, [147, 1, 1, 132]), (4, .ifCond .ne 5, [9]), (7, .iconst (-1), []), (8, .ireturn, [0]), (9, .aload_n 0, []), (10, .getfield 22, [7, 8, 2, 88]), (13, .iload_n 1, []), (14, .iaload, []), (15, .ifCond .ge 9, [24]), (18, .aload_n 0, []), (19, .iconst 1, []), (20, .invokevirtual 87, [131, 1, 1, 7, 129]), (23, .ireturn, [0]), (24, .iload_n 2, []), (25, .iconst 0, []), (26, .aload_n 0, []), (27, .getfield 22, [7, 8, 2, 88]), (30, .iload_n 1, []), (31, .iaload, []), (32, .iconst 1, []), (33, .isub, []), (34, .invokestatic 73, [127, 3, 1, 127]), (37, .ifCond .ne 9, [46]), (40, .aload_n 0, []), (41, .iconst 2, []), (42, .invokevirtual 87, [131, 1, 1, 7, 129]), (45, .ireturn, [0]), (46, .aload_n 0, []), (47, .getfield 25, [7, 9, 2, 89]), (50, .bipush 80, []), (52, .iload_n 1, []), (53, .imul, []), (54, .iload_n 2, []), (55, .iadd, []), (56, .baload, []), (57, .istore 4, []), (59, .aload_n 0, []), (60, .getfield 25, [7, 9, 2, 89]), (63, .bipush 80, []), (65, .iload_n 1, []), (66, .imul, []), (67, .iload_n 2, []), (68, .iadd, []), (69, .iload_n 3, []), (70, .i2b, []), (71, .bastore, []), (72, .sipush 1000, []), (75, .iload 4, []), (77, .iadd, []), (78, .ireturn, [0])]
def h_149 : List (Nat × Nat) := []
/-- LastStirredModel.byteAt(II)I -/
def k_150 : List (Nat × Instr × List Nat) := [(0, .iload_n 2, []), (1, .aload_n 0, []), (2, .getfield 22, [7, 8, 2, 88]), (5, .iload_n 1, []), (6, .iaload, []), (7, .if_icmp .ge 17, [24]), (10, .aload_n 0, []), (11, .getfield 25, [7, 9, 2, 89]), (14, .bipush 80, []), (16, .iload_n 1, []), (17, .imul, []), (18, .iload_n 2, []), (19, .iadd, []), (20, .baload, []), (21, .goto 4, [25]), (24, .iconst 0, []), (25, .ireturn, [0])]
def h_150 : List (Nat × Nat) := []
/-- LastStirredModel.signOf(I)I -/
def k_151 : List (Nat × Instr × List Nat) := [(0, .iload_n 0, []), (1, .bipush 46, []), (3, .if_icmp .ne 7, [10]), (6, .iconst 0, []), (7, .goto 45, [52]), (10, .iload_n 0, []), (11, .bipush 35, []), (13, .if_icmp .ne 7, [20]), (16, .iconst 1, []), (17, .goto 35, [52]), (20, .iload_n 0, []), (21, .bipush 126, []), (23, .if_icmp .ne 7, [30]), (26, .iconst 2, []), (27, .goto 25, [52]), (30, .iload_n 0, []), (31, .bipush 111, []), (33, .if_icmp .ne 7, [40]), (36, .iconst 3, []), (37, .goto 15, [52]), (40, .iload_n 0, []), (41, .bipush 61, []), (43, .if_icmp .ne 7, [50]), (46, .iconst 4, []), (47, .goto 5, [52]), (50, .bipush (-9), []), (52, .ireturn, [0])]
def h_151 : List (Nat × Nat) := []
/-- LastStirredModel.kindOf(I)I -/
def k_152 : List (Nat × Instr × List Nat) := [(0, .iload_n 0, []), (1, .tableswitch 103 98 116 #[91, 97, 103, 103, 103, 103, 103, 103, 103, 103, 95, 99, 103, 103, 103, 103, 103, 93, 101], [104, 92, 98, 104, 104, 104, 104, 104, 104, 104, 104, 96, 100, 104, 104, 104, 104, 104, 94, 102]), (92, .iconst 0, []), (93, .ireturn, [0]), (94, .iconst 1, []), (95, .ireturn, [0]), (96, .iconst 2, []), (97, .ireturn, [0]), (98, .iconst 3, []), (99, .ireturn, [0]), (100, .iconst 4, []), (101, .ireturn, [0]), (102, .iconst 5, []), (103, .ireturn, [0]), (104, .bipush (-9), []), (106, .ireturn, [0])]
def h_152 : List (Nat × Nat) := []
/-- LastStirredModel.figure(III)Z -/
def k_153 : List (Nat × Instr × List Nat) := [(0, .aload_n 0, []), (1, .aload_n 0, []), (2, .iload_n 1, []), (3, .aload_n 0, []), (4, .getfield 101, [7, 15, 0, 95]), (7, .invokevirtual 104, [150, 2, 1, 7, 133]), (10, .bipush 48, []), (12, .isub, []), (13, .putfield 107, [7, 16, 0, 96]), (16, .aload_n 0, []), (17, .getfield 107, [7, 16, 0, 96]), (20, .iload_n 2, []), (21, .iload_n 3, []), (22, .invokestatic 73, [127, 3, 1, 127]), (25, .istore 4, []), (27, .aload_n 0, []), (28, .dup, []), (29, .getfield 101, [7, 15, 0, 95]), (32, .iload 4, []), (34, .ifCond .eq 7, [41]), (37, .iconst 1, []), (38, .goto 4, [42]), (41, .iconst 0, []), (42, .iadd, []), (43, .putfield 101, [7, 15, 0, 95]), (46, .iload 4, []), (48, .ireturn, [1])]
def h_153 : List (Nat × Nat) := []
/-- LastStirredModel.readsGrid(I)Z -/
def k_154 : List (Nat × Instr × List Nat) := [(0, .aload_n 0, []), (1, .iload_n 1, []), (2, .aload_n 0, []), (3, .getfield 101, [7, 15, 0, 95]), (6, .invokevirtual 104, [150, 2, 1, 7, 133]), (9, .bipush 103, []), (11, .if_icmp .eq 5, [16]), (14, .iconst 0, []), (15, .ireturn, [1]), (16, .aload_n 0, []), (17, .dup, []), (18, .getfield 101, [7, 15, 0, 95]), (21, .iconst 1, []), (22, .iadd, []), (23, .putfield 101, [7, 15, 0, 95]), (26, .aload_n 0, []), (27, .iload_n 1, []), (28, .iconst 2, []), (29, .bipush 6, []), (31, .invokevirtual 110, [153, 3, 1, 7, 134]), (34, .ifCond .ne 5, [39]), (37, .iconst 0, []), (38, .ireturn, [1]), (39, .aload_n 0, []), (40, .getfield 107, [7, 16, 0, 96]), (43, .istore_n 2, []), (44, .aload_n 0, []), (45, .iload_n 1, []), (46, .iconst 1, []), (47, .iconst 5, []), (48, .invokevirtual 110, [153, 3, 1, 7, 134]), (51, .ifCond .ne 5, [56]), (54, .iconst 0, []), (55, .ireturn, [1]), (56, .aload_n 0, []), (57, .iload_n 2, []), (58, .putfield 113, [7, 17, 0, 97]), (61, .aload_n 0, []), (62, .aload_n 0, []), (63, .getfield 107, [7, 16, 0, 96]), (66, .putfield 116, [7, 18, 0, 98]), (69, .iconst 1, []), (70, .ireturn, [1])]
def h_154 : List (Nat × Nat) := []
/-- LastStirredModel.readsSign(I)Z -/
def k_155 : List (Nat × Instr × List Nat) := [(0, .aload_n 0, []), (1, .iload_n 1, []), (2, .aload_n 0, []), (3, .getfield 101, [7, 15, 0, 95]), (6, .invokevirtual 104, [150, 2, 1, 7, 133]), (9, .invokestatic 119, [151, 1, 1, 135]), (12, .istore_n 2, []), (13, .iload_n 2, []), (14, .bipush (-9), []), (16, .if_icmp .ne 5, [21]), (19, .iconst 0, []), (20, .ireturn, [1]), (21, .aload_n 0, []), (22, .getfield 35, [7, 21, 2, 101]), (25, .aload_n 0, []), (26, .getfield 122, [7, 19, 0, 99]), (29, .iload_n 2, []), (30, .iastore, []), (31, .aload_n 0, []), (32, .dup, []), (33, .getfield 122, [7, 19, 0, 99]), (36, .iconst 1, []), (37, .iadd, []), (38, .putfield 122, [7, 19, 0, 99]), (41, .aload_n 0, []), (42, .dup, []), (43, .getfield 101, [7, 15, 0, 95]), (46, .iconst 1, []), (47, .iadd, []), (48, .putfield 101, [7, 15, 0, 95]), (51, .iconst 1, []), (52, .ireturn, [1])]
def h_155 : List (Nat × Nat) := []
/-- LastStirredModel.readsBeast(I)Z -/
def k_156 : List (Nat × Instr × List Nat) := [(0, .aload_n 0, []), (1, .iload_n 1, []), (2, .aload_n 0, []), (3, .getfield 101, [7, 15, 0, 95]), (6, .invokevirtual 104, [150, 2, 1, 7, 133]), (9, .invokestatic 125, [152, 1, 1, 136]), (12, .istore_n 2, []), (13, .iload_n 2, []), (14, .bipush (-9), []), (16, .if_icmp .eq 11, [27]), (19, .aload_n 0, []), (20, .getfield 128, [7, 20, 0, 100]), (23, .iconst 4, []), (24, .if_icmp .ne 5, [29]), (27, .iconst 0, []), (28, .ireturn, [1]), (29, .aload_n 0, []), (30, .dup, []), (31, .getfield 101, [7, 15, 0, 95]), (34, .iconst 1, []), (35, .iadd, []), (36, .putfield 101, [7, 15, 0, 95]), (39, .aload_n 0, []), (40, .iload_n 1, []), (41, .iconst 0, []), (42, .aload_n 0, []), (43, .getfield 113, [7, 17, 0, 97]), (46, .iconst 1, []), (47, .isub, []), (48, .invokevirtual 110, [153, 3, 1, 7, 134]), (51, .ifCond .ne 5, [56]), (54, .iconst 0, []), (55, .ireturn, [1]), (56, .aload_n 0, []), (57, .getfield 107, [7, 16, 0, 96]), (60, .istore_n 3, []), (61, .aload_n 0, []), (62, .iload_n 1, []), (63, .aload_n 0, []), (64, .getfield 101, [7, 15, 0, 95]), (67, .invokevirtual 104, [150, 2, 1, 7, 133]), (70, .bipush 48, []), (72, .isub, []), (73, .istore 4, []), (75, .iload 4, []), (77, .iconst 0, []), (78, .aload_n 0, []), (79, .getfield 116, [7, 18, 0, 98]), (82, .iconst 1, []), (83, .isub, []), (84, .invokestatic 73, [127, 3, 1, 127]), (87, .ifCond .eq 43, [130]), (90, .aload_n 0, []), (91, .getfield 35, [7, 21, 2, 101]), (94, .aload_n 0, []), (95, .getfield 113, [7, 17, 0, 97]), (98, .iload 4, []), (100, .imul, []), (101, .iload_n 3, []), (102, .iadd, []), (103, .iaload, []), (104, .iconst 1, []), (105, .if_icmp .eq 25, [130]), (108, .aload_n 0, []), (109, .getfield 35, [7, 21, 2, 101]), (112, .aload_n 0, []), (113, .getfield 113, [7, 17, 0, 97]), (116, .iload 4, []), (118, .imul, []), (119, .iload_n 3, []), (120, .iadd, []), (121, .iaload, []), (122, .iconst 2, []), (123, .if_icmp .eq 7, [130]), (126, .iconst 1, []), (127, .goto 4, [131]), (130, .iconst 0, []), (131, .istore 5, []), (133, .iconst 0, []), (134, .istore 6, []), (136, .iload 6, []), (138, .aload_n 0, []), (139, .getfield 128, [7, 20, 0, 100]), (142, .if_icmp .ge 40, [182]), (145, .iload 5, []), (147, .ifCond .eq 35, [182]), (150, .aload_n 0, []), (151, .getfield 41, [7, 23, 2, 103]), (154, .iload 6, []), (156, .iaload, []), (157, .aload_n 0, []), (158, .getfield 113, [7, 17, 0, 97]), (161, .iload 4, []), (163, .imul, []), (164, .iload_n 3, []), (165, .iadd, []), (166, .if_icmp .eq 7, [173]), (169, .iconst 1, []), (170, .goto 4, [174]), (173, .iconst 0, []), (174, .istore 5, []), (176, .iinc 6 1, []), (179, .goto (-43), [136]), (182, .iload 5, []), (184, .ifCond .ne 5, [189]), (187, .iconst 0, []), (188, .ireturn, [1]), (189, .aload_n 0, []), (190, .dup, []), (191, .getfield 101, [7, 15, 0, 95]), (194, .iconst 1, []), (195, .iadd, []), (196, .putfield 101, [7, 15, 0, 95]), (199, .aload_n 0, []), (200, .getfield 38, [7, 22, 2, 102]), (203, .aload_n 0, []), (204, .getfield 128, [7, 20, 0, 100]), (207, .iload_n 2, []), (208, .iastore, []), (209, .aload_n 0, []), (210, .getfield 41, [7, 23, 2, 103]), (213, .aload_n 0, []), (214, .getfield 128, [7, 20, 0, 100]), (217, .aload_n 0, []), (218, .getfield 113, [7, 17, 0, 97]), (221, .iload 4, []), (223, .imul, []), (224, .iload_n 3, []), (225, .iadd, []), (226, .iastore, []), (227, .aload_n 0, []), (228, .dup, []), (229, .getfield 128, [7, 20, 0, 100]), (232, .iconst 1, []), (233, .iadd, []), (234, .putfield 128, [7, 20, 0, 100]), (237, .iconst 1, []), (238, .ireturn, [1])]
def h_156 : List (Nat × Nat) := [(136, 7)]
/-- LastStirredModel.faultOf(I)I -/
def k_157 : List (Nat × Instr × List Nat) := [(0, .aload_n 0, []), (1, .iconst 0, []), (2, .putfield 101, [7, 15, 0, 95]), (5, .aload_n 0, []), (6, .iconst 0, []), (7, .putfield 113, [7, 17, 0, 97]), (10, .aload_n 0, []), (11, .iconst 0, []), (12, .putfield 116, [7, 18, 0, 98]), (15, .aload_n 0, []), (16, .iconst 0, []), (17, .putfield 122, [7, 19, 0, 99]), (20, .aload_n 0, []), (21, .iconst 0, []), (22, .putfield 128, [7, 20, 0, 100]), (25, .aload_n 0, []), (26, .getfield 101, [7, 15, 0, 95]), (29, .aload_n 0, []), (30, .getfield 22, [7, 8, 2, 88]), (33, .iload_n 1, []), (34, .iaload, []), (35, .if_icmp .ge 88, [123]), (38, .aload_n 0, []), (39, .iload_n 1, []), (40, .aload_n 0, []), (41, .getfield 101, [7, 15, 0, 95]), (44, .invokevirtual 104, [150, 2, 1, 7, 133]), (47, .bipush 32, []), (49, .if_icmp .ne 16, [65]), (52, .aload_n 0, []), (53, .dup, []), (54, .getfield 101, [7, 15, 0, 95]), (57, .iconst 1, []), (58, .iadd, []), (59, .putfield 101, [7, 15, 0, 95]), (62, .goto (-37), [25]), (65, .aload_n 0, []), (66, .getfield 113, [7, 17, 0, 97]), (69, .ifCond .ne 14, [83]), (72, .aload_n 0, []), (73, .iload_n 1, []), (74, .invokevirtual 131, [154, 1, 1, 7, 137]), (77, .ifCond .eq 41, [118]), (80, .goto (-55), [25]), (83, .aload_n 0, []), (84, .getfield 122, [7, 19, 0, 99]), (87, .aload_n 0, []), (88, .getfield 113, [7, 17, 0, 97]), (91, .aload_n 0, []), (92, .getfield 116, [7, 18, 0, 98]), (95, .imul, []), (96, .if_icmp .ge 14, [110]), (99, .aload_n 0, []), (100, .iload_n 1, []), (101, .invokevirtual 134, [155, 1, 1, 7, 138]), (104, .ifCond .eq 14, [118]), (107, .goto (-82), [25]), (110, .aload_n 0, []), (111, .iload_n 1, []), (112, .invokevirtual 137, [156, 1, 1, 7, 139]), (115, .ifCond .ne (-90), [25]), (118, .aload_n 0, []), (119, .getfield 101, [7, 15, 0, 95]), (122, .ireturn, [0]), (123, .aload_n 0, []), (124, .getfield 113, [7, 17, 0, 97]), (127, .ifCond .eq 19, [146]), (130, .aload_n 0, []), (131, .getfield 122, [7, 19, 0, 99]), (134, .aload_n 0, []), (135, .getfield 113, [7, 17, 0, 97]), (138, .aload_n 0, []), (139, .getfield 116, [7, 18, 0, 98]), (142, .imul, []), (143, .if_icmp .ge 12, [155]), (146, .aload_n 0, []), (147, .getfield 22, [7, 8, 2, 88]), (150, .iload_n 1, []), (151, .iaload, []), (152, .goto 5, [157]), (155, .bipush (-9), []), (157, .ireturn, [0])]
def h_157 : List (Nat × Nat) := [(25, 2)]
/-- LastStirredModel.fault(I)I -/
def k_158 : List (Nat × Instr × List Nat) := [(0, .iload_n 1, []), (1, .invokestatic 98, [147, 1, 1, 132]), (4, .ifCond .ne 5, [9]), (7, .iconst (-1), []), (8, .ireturn, [0]), (9, .aload_n 0, []), (10, .getfield 22, [7, 8, 2, 88]), (13, .iload_n 1, []), (14, .iaload, []), (15, .ifCond .ge 11, [26]), (18, .aload_n 0, []), (19, .iconst 1, []), (20, .invokevirtual 87, [131, 1, 1, 7, 129]), (23, .goto 8, [31]), (26, .aload_n 0, []), (27, .iload_n 1, []), (28, .invokevirtual 140, [157, 1, 1, 7, 140]), (31, .ireturn, [0])]
def h_158 : List (Nat × Nat) := []
/-- LastStirredModel.ground(I)I -/
def k_159 : List (Nat × Instr × List Nat) := [(0, .iload_n 1, []), (1, .invokestatic 98, [147, 1, 1, 132]), (4, .ifCond .ne 5, [9]), (7, .iconst (-1), []), (8, .ireturn, [0]), (9, .aload_n 0, []), (10, .getfield 22, [7, 8, 2, 88]), (13, .iload_n 1, []), (14, .iaload, []), (15, .ifCond .ge 9, [24]), (18, .aload_n 0, []), (19, .iconst 1, []), (20, .invokevirtual 87, [131, 1, 1, 7, 129]), (23, .ireturn, [0]), (24, .aload_n 0, []), (25, .iload_n 1, []), (26, .invokevirtual 140, [157, 1, 1, 7, 140]), (29, .bipush (-9), []), (31, .if_icmp .eq 6, [37]), (34, .bipush (-4), []), (36, .ireturn, [0]), (37, .aload_n 0, []), (38, .aload_n 0, []), (39, .getfield 113, [7, 17, 0, 97]), (42, .putfield 143, [7, 10, 0, 90]), (45, .aload_n 0, []), (46, .aload_n 0, []), (47, .getfield 122, [7, 19, 0, 99]), (50, .putfield 146, [7, 11, 0, 91]), (53, .aload_n 0, []), (54, .aload_n 0, []), (55, .getfield 128, [7, 20, 0, 100]), (58, .putfield 149, [7, 13, 0, 93]), (61, .iconst 0, []), (62, .istore_n 2, []), (63, .iload_n 2, []), (64, .aload_n 0, []), (65, .getfield 146, [7, 11, 0, 91]), (68, .if_icmp .ge 21, [89]), (71, .aload_n 0, []), (72, .getfield 29, [7, 12, 2, 92]), (75, .iload_n 2, []), (76, .aload_n 0, []), (77, .getfield 35, [7, 21, 2, 101]), (80, .iload_n 2, []), (81, .iaload, []), (82, .iastore, []), (83, .iinc 2 1, []), (86, .goto (-23), [63]), (89, .aload_n 0, []), (90, .iconst 0, []), (91, .iconst 0, []), (92, .iconst 0, []), (93, .invokevirtual 65, [163, 3, 0, 7, 126]), (96, .aload_n 0, []), (97, .iconst 0, []), (98, .iconst 1, []), (99, .bipush (-9), []), (101, .invokevirtual 65, [163, 3, 0, 7, 126]), (104, .aload_n 0, []), (105, .iconst 0, []), (106, .iconst 2, []), (107, .bipush (-9), []), (109, .invokevirtual 65, [163, 3, 0, 7, 126]), (112, .aload_n 0, []), (113, .iconst 0, []), (114, .iconst 3, []), (115, .bipush (-9), []), (117, .invokevirtual 65, [163, 3, 0, 7, 126]), (120, .aload_n 0, []), (121, .iconst 0, []), (122, .iconst 4, []), (123, .bipush (-9), []), (125, .invokevirtual 65, [163, 3, 0, 7, 126]), (128, .iconst 0, []), (129, .istore_n 2, []), (130, .iload_n 2, []), (131, .iconst 4, []), (132, .if_icmp .ge 58, [190]), (135, .aload_n 0, []), (136, .getfield 32, [7, 14, 2, 94]), (139, .iload_n 2, []), (140, .aload_n 0, []), (141, .getfield 38, [7, 22, 2, 102]), (144, .iload_n 2, []), (145, .iaload, []), (146, .iastore, []), (147, .aload_n 0, []), (148, .iconst 0, []), (149, .iconst 5, []), (150, .iload_n 2, []), (151, .iadd, []), (152, .iload_n 2, []), (153, .aload_n 0, []), (154, .getfield 149, [7, 13, 0, 93]), (157, .if_icmp .ge 12, [169]), (160, .aload_n 0, []), (161, .getfield 41, [7, 23, 2, 103]), (164, .iload_n 2, []), (165, .iaload, []), (166, .goto 5, [171]), (169, .bipush (-9), []), (171, .invokevirtual 65, [163, 3, 0, 7, 126]), (174, .aload_n 0, []), (175, .iconst 0, []), (176, .bipush 9, []), (178, .iload_n 2, []), (179, .iadd, []), (180, .iconst 0, []), (181, .invokevirtual 65, [163, 3, 0, 7, 126]), (184, .iinc 2 1, []), (187, .goto (-57), [130]), (190, .iconst 0, []), (191, .istore_n 2, []), (192, .iload_n 2, []), (193, .iconst 3, []), (194, .if_icmp .ge 16, [210]), (197, .aload_n 0, []), (198, .getfield 47, [7, 25, 2, 105]), (201, .iload_n 2, []), (202, .iconst 0, []), (203, .bastore, []), (204, .iinc 2 1, []), (207, .goto (-15), [192]), (210, .aload_n 0, []), (211, .getfield 149, [7, 13, 0, 93]), (214, .ireturn, [0])]
def h_159 : List (Nat × Nat) := [(63, 3), (130, 3), (192, 3)]
/-- LastStirredModel.isCell(I)Z -/
def k_160 : List (Nat × Instr × List Nat) := [(0, .iload_n 1, []), (1, .iconst 0, []), (2, .aload_n 0, []), (3, .getfield 146, [7, 11, 0, 91]), (6, .iconst 1, []), (7, .isub, []), (8, .invokestatic 73, [127, 3, 1, 127]), (11, .ireturn, [1])]
def h_160 : List (Nat × Nat) := []
/-- LastStirredModel.isBeast(I)Z -/
def k_161 : List (Nat × Instr × List Nat) := [(0, .iload_n 1, []), (1, .iconst 0, []), (2, .aload_n 0, []), (3, .getfield 149, [7, 13, 0, 93]), (6, .iconst 1, []), (7, .isub, []), (8, .invokestatic 73, [127, 3, 1, 127]), (11, .ireturn, [1])]
def h_161 : List (Nat × Nat) := []
/-- LastStirredModel.v(II)I -/
def k_162 : List (Nat × Instr × List Nat) := [(0, .aload_n 0, []), (1, .getfield 44, [7, 24, 2, 104]), (4, .bipush 13, []), (6, .iload_n 1, []), (7, .imul, []), (8, .iload_n 2, []), (9, .iadd, []), (10, .iaload, []), (11, .ireturn, [0])]
def h_162 : List (Nat × Nat) := []
/-- LastStirredModel.place(III)V -/
def k_163 : List (Nat × Instr × List Nat) := [(0, .aload_n 0, []), (1, .getfield 44, [7, 24, 2, 104]), (4, .bipush 13, []), (6, .iload_n 1, []), (7, .imul, []), (8, .iload_n 2, []), (9, .iadd, []), (10, .iload_n 3, []), (11, .iastore, []), (12, .return_, [])]
def h_163 : List (Nat × Nat) := []
/-- LastStirredModel.copyFlock(II)V -/
def k_164 : List (Nat × Instr × List Nat) := [(0, .iconst 0, []), (1, .istore_n 3, []), (2, .iload_n 3, []), (3, .bipush 13, []), (5, .if_icmp .ge 21, [26]), (8, .aload_n 0, []), (9, .iload_n 2, []), (10, .iload_n 3, []), (11, .aload_n 0, []), (12, .iload_n 1, []), (13, .iload_n 3, []), (14, .invokevirtual 152, [162, 2, 1, 7, 141]), (17, .invokevirtual 65, [163, 3, 0, 7, 126]), (20, .iinc 3 1, []), (23, .goto (-21), [2]), (26, .return_, [])]
def h_164 : List (Nat × Nat) := [(2, 4)]
/-- LastStirredModel.isLost(II)Z -/
def k_165 : List (Nat × Instr × List Nat) := [(0, .aload_n 0, []), (1, .iload_n 1, []), (2, .iconst 5, []), (3, .iload_n 2, []), (4, .iadd, []), (5, .invokevirtual 152, [162, 2, 1, 7, 141]), (8, .bipush (-9), []), (10, .if_icmp .ne 7, [17]), (13, .iconst 1, []), (14, .goto 4, [18]), (17, .iconst 0, []), (18, .ireturn, [1])]
def h_165 : List (Nat × Nat) := []
/-- LastStirredModel.lostMany(I)I -/
def k_166 : List (Nat × Instr × List Nat) := [(0, .iconst 0, []), (1, .istore_n 2, []), (2, .iconst 0, []), (3, .istore_n 3, []), (4, .iload_n 3, []), (5, .aload_n 0, []), (6, .getfield 149, [7, 13, 0, 93]), (9, .if_icmp .ge 26, [35]), (12, .iload_n 2, []), (13, .aload_n 0, []), (14, .iload_n 1, []), (15, .iload_n 3, []), (16, .invokevirtual 155, [165, 2, 1, 7, 142]), (19, .ifCond .eq 7, [26]), (22, .iconst 1, []), (23, .goto 4, [27]), (26, .iconst 0, []), (27, .iadd, []), (28, .istore_n 2, []), (29, .iinc 3 1, []), (32, .goto (-28), [4]), (35, .iload_n 2, []), (36, .ireturn, [0])]
def h_166 : List (Nat × Nat) := [(4, 4)]
/-- LastStirredModel.whoIn(III)I -/
def k_167 : List (Nat × Instr × List Nat) := [(0, .iconst 0, []), (1, .istore 4, []), (3, .iload 4, []), (5, .aload_n 0, []), (6, .getfield 149, [7, 13, 0, 93]), (9, .if_icmp .ge 31, [40]), (12, .iload 4, []), (14, .iload_n 3, []), (15, .if_icmp .eq 19, [34]), (18, .aload_n 0, []), (19, .iload_n 1, []), (20, .iconst 5, []), (21, .iload 4, []), (23, .iadd, []), (24, .invokevirtual 152, [162, 2, 1, 7, 141]), (27, .iload_n 2, []), (28, .if_icmp .ne 6, [34]), (31, .iload 4, []), (33, .ireturn, [0]), (34, .iinc 4 1, []), (37, .goto (-34), [3]), (40, .bipush (-9), []), (42, .ireturn, [0])]
def h_167 : List (Nat × Nat) := [(3, 5)]
/-- LastStirredModel.off(II)I -/
def k_168 : List (Nat × Instr × List Nat) := [(0, .iload_n 1, []), (1, .aload_n 0, []), (2, .getfield 143, [7, 10, 0, 90]), (5, .irem, []), (6, .iload_n 2, []), (7, .aload_n 0, []), (8, .getfield 143, [7, 10, 0, 90]), (11, .irem, []), (12, .isub, []), (13, .invokestatic 159, [130, 1, 1, 143]), (16, .iload_n 1, []), (17, .aload_n 0, []), (18, .getfield 143, [7, 10, 0, 90]), (21, .idiv, []), (22, .iload_n 2, []), (23, .aload_n 0, []), (24, .getfield 143, [7, 10, 0, 90]), (27, .idiv, []), (28, .isub, []), (29, .invokestatic 159, [130, 1, 1, 143]), (32, .iadd, []), (33, .ireturn, [0])]
def h_168 : List (Nat × Nat) := []
/-- LastStirredModel.cell(I)I -/
def k_169 : List (Nat × Instr × List Nat) := [(0, .aload_n 0, []), (1, .iload_n 1, []), (2, .invokevirtual 162, [160, 1, 1, 7, 144]), (5, .ifCond .eq 24, [29]), (8, .aload_n 0, []), (9, .aload_n 0, []), (10, .iconst 0, []), (11, .iload_n 1, []), (12, .bipush (-9), []), (14, .invokevirtual 165, [167, 3, 1, 7, 145]), (17, .aload_n 0, []), (18, .getfield 29, [7, 12, 2, 92]), (21, .iload_n 1, []), (22, .iaload, []), (23, .invokevirtual 95, [134, 2, 1, 7, 131]), (26, .goto 4, [30]), (29, .iconst (-1), []), (30, .ireturn, [0])]
def h_169 : List (Nat × Nat) := []
/-- LastStirredModel.build(II)I -/
def k_170 : List (Nat × Instr × List Nat) := [(0, .aload_n 0, []), (1, .iload_n 1, []), (2, .invokevirtual 162, [160, 1, 1, 7, 144]), (5, .ifCond .eq 12, [17]), (8, .iload_n 2, []), (9, .iconst 0, []), (10, .iconst 4, []), (11, .invokestatic 73, [127, 3, 1, 127]), (14, .ifCond .ne 5, [19]), (17, .iconst (-1), []), (18, .ireturn, [0]), (19, .iload_n 2, []), (20, .iconst 1, []), (21, .if_icmp .eq 8, [29]), (24, .iload_n 2, []), (25, .iconst 2, []), (26, .if_icmp .ne 19, [45]), (29, .aload_n 0, []), (30, .iconst 0, []), (31, .iload_n 1, []), (32, .bipush (-9), []), (34, .invokevirtual 165, [167, 3, 1, 7, 145]), (37, .bipush (-9), []), (39, .if_icmp .eq 6, [45]), (42, .bipush (-4), []), (44, .ireturn, [0]), (45, .aload_n 0, []), (46, .getfield 29, [7, 12, 2, 92]), (49, .iload_n 1, []), (50, .iaload, []), (51, .istore_n 3, []), (52, .aload_n 0, []), (53, .getfield 29, [7, 12, 2, 92]), (56, .iload_n 1, []), (57, .iload_n 2, []), (58, .iastore, []), (59, .iload_n 3, []), (60, .ireturn, [0])]
def h_170 : List (Nat × Nat) := []
/-- LastStirredModel.beastTells(II)I -/
def k_171 : List (Nat × Instr × List Nat) := [(0, .iload_n 2, []), (1, .ifCond .ne 12, [13]), (4, .aload_n 0, []), (5, .getfield 32, [7, 14, 2, 94]), (8, .iload_n 1, []), (9, .iaload, []), (10, .goto 28, [38]), (13, .iload_n 2, []), (14, .iconst 1, []), (15, .if_icmp .ne 14, [29]), (18, .aload_n 0, []), (19, .iconst 0, []), (20, .iconst 5, []), (21, .iload_n 1, []), (22, .iadd, []), (23, .invokevirtual 152, [162, 2, 1, 7, 141]), (26, .goto 12, [38]), (29, .aload_n 0, []), (30, .iconst 0, []), (31, .bipush 9, []), (33, .iload_n 1, []), (34, .iadd, []), (35, .invokevirtual 152, [162, 2, 1, 7, 141]), (38, .ireturn, [0])]
def h_171 : List (Nat × Nat) := []
/-- LastStirredModel.beast(II)I -/
def k_172 : List (Nat × Instr × List Nat) := [(0, .aload_n 0, []), (1, .iload_n 1, []), (2, .invokevirtual 169, [161, 1, 1, 7, 146]), (5, .ifCond .eq 26, [31]), (8, .iload_n 2, []), (9, .iconst 0, []), (10, .iconst 2, []), (11, .invokestatic 73, [127, 3, 1, 127]), (14, .ifCond .eq 17, [31]), (17, .aload_n 0, []), (18, .aload_n 0, []), (19, .iload_n 1, []), (20, .iload_n 2, []), (21, .invokevirtual 172, [171, 2, 1, 7, 147]), (24, .iconst 1, []), (25, .invokevirtual 95, [134, 2, 1, 7, 131]), (28, .goto 4, [32]), (31, .iconst (-1), []), (32, .ireturn, [0])]
def h_172 : List (Nat × Nat) := []
/-- LastStirredModel.isShy(I)Z -/
def k_173 : List (Nat × Instr × List Nat) := [(0, .aload_n 0, []), (1, .getfield 32, [7, 14, 2, 94]), (4, .iload_n 1, []), (5, .iaload, []), (6, .iconst 1, []), (7, .if_icmp .eq 13, [20]), (10, .aload_n 0, []), (11, .getfield 32, [7, 14, 2, 94]), (14, .iload_n 1, []), (15, .iaload, []), (16, .iconst 5, []), (17, .if_icmp .ne 7, [24]), (20, .iconst 1, []), (21, .goto 4, [25]), (24, .iconst 0, []), (25, .ireturn, [1])]
def h_173 : List (Nat × Nat) := []
/-- LastStirredModel.isSlow(I)Z -/
def k_174 : List (Nat × Instr × List Nat) := [(0, .aload_n 0, []), (1, .getfield 32, [7, 14, 2, 94]), (4, .iload_n 1, []), (5, .iaload, []), (6, .iconst 2, []), (7, .if_icmp .eq 13, [20]), (10, .aload_n 0, []), (11, .getfield 32, [7, 14, 2, 94]), (14, .iload_n 1, []), (15, .iaload, []), (16, .iconst 4, []), (17, .if_icmp .ne 7, [24]), (20, .iconst 1, []), (21, .goto 4, [25]), (24, .iconst 0, []), (25, .ireturn, [1])]
def h_174 : List (Nat × Nat) := []
/-- LastStirredModel.aimOf(II)I -/
def k_175 : List (Nat × Instr × List Nat) := [(0, .aload_n 0, []), (1, .getfield 32, [7, 14, 2, 94]), (4, .iload_n 2, []), (5, .iaload, []), (6, .iconst 3, []), (7, .if_icmp .ne 23, [30]), (10, .aload_n 0, []), (11, .iload_n 1, []), (12, .iconst 4, []), (13, .invokevirtual 152, [162, 2, 1, 7, 141]), (16, .bipush (-9), []), (18, .if_icmp .eq 12, [30]), (21, .aload_n 0, []), (22, .iload_n 1, []), (23, .iconst 4, []), (24, .invokevirtual 152, [162, 2, 1, 7, 141]), (27, .goto 9, [36]), (30, .aload_n 0, []), (31, .iload_n 1, []), (32, .iconst 2, []), (33, .invokevirtual 152, [162, 2, 1, 7, 141]), (36, .ireturn, [0])]
def h_175 : List (Nat × Nat) := []
/-- LastStirredModel.near(I)I -/
def k_176 : List (Nat × Instr × List Nat) := [(0, .iconst 0, []), (1, .istore_n 2, []), (2, .iconst 0, []), (3, .istore_n 3, []), (4, .iload_n 3, []), (5, .aload_n 0, []), (6, .getfield 149, [7, 13, 0, 93]), (9, .if_icmp .ge 55, [64]), (12, .iload_n 2, []), (13, .iload_n 3, []), (14, .iload_n 1, []), (15, .if_icmp .eq 40, [55]), (18, .aload_n 0, []), (19, .iconst 0, []), (20, .iload_n 3, []), (21, .invokevirtual 155, [165, 2, 1, 7, 142]), (24, .ifCond .ne 31, [55]), (27, .aload_n 0, []), (28, .aload_n 0, []), (29, .iconst 0, []), (30, .iconst 5, []), (31, .iload_n 3, []), (32, .iadd, []), (33, .invokevirtual 152, [162, 2, 1, 7, 141]), (36, .aload_n 0, []), (37, .iconst 0, []), (38, .iconst 5, []), (39, .iload_n 1, []), (40, .iadd, []), (41, .invokevirtual 152, [162, 2, 1, 7, 141]), (44, .invokevirtual 175, [168, 2, 1, 7, 148]), (47, .iconst 3, []), (48, .if_icmp .ge 7, [55]), (51, .iconst 1, []), (52, .goto 4, [56]), (55, .iconst 0, []), (56, .iadd, []), (57, .istore_n 2, []), (58, .iinc 3 1, []), (61, .goto (-57), [4]), (64, .iload_n 2, []), (65, .ireturn, [0])]
def h_176 : List (Nat × Nat) := [(4, 4)]
/-- LastStirredModel.gates()I -/
def k_177 : List (Nat × Instr × List Nat) := [(0, .iconst 0, []), (1, .istore_n 1, []), (2, .iconst 0, []), (3, .istore_n 2, []), (4, .iload_n 2, []), (5, .aload_n 0, []), (6, .getfield 146, [7, 11, 0, 91]), (9, .if_icmp .ge 27, [36]), (12, .iload_n 1, []), (13, .aload_n 0, []), (14, .getfield 29, [7, 12, 2, 92]), (17, .iload_n 2, []), (18, .iaload, []), (19, .iconst 4, []), (20, .if_icmp .ne 7, [27]), (23, .iconst 1, []), (24, .goto 4, [28]), (27, .iconst 0, []), (28, .iadd, []), (29, .istore_n 1, []), (30, .iinc 2 1, []), (33, .goto (-29), [4]), (36, .iload_n 1, []), (37, .ireturn, [0])]
def h_177 : List (Nat × Nat) := [(4, 3)]
/-- LastStirredModel.mark(II)I -/
def k_178 : List (Nat × Instr × List Nat) := [(0, .aload_n 0, []), (1, .iload_n 1, []), (2, .invokevirtual 169, [161, 1, 1, 7, 146]), (5, .ifCond .eq 12, [17]), (8, .iload_n 2, []), (9, .iconst 1, []), (10, .iconst 5, []), (11, .invokestatic 73, [127, 3, 1, 127]), (14, .ifCond .ne 5, [19]), (17, .iconst (-1), []), (18, .ireturn, [0]), (19, .aload_n 0, []), (20, .getfield 32, [7, 14, 2, 94]), (23, .iload_n 1, []), (24, .iaload, []), (25, .iload_n 2, []), (26, .if_icmp .eq 35, [61]), (29, .iload_n 2, []), (30, .iconst 1, []), (31, .if_icmp .ne 11, [42]), (34, .aload_n 0, []), (35, .iload_n 1, []), (36, .invokevirtual 178, [173, 1, 1, 7, 149]), (39, .ifCond .ne 22, [61]), (42, .iload_n 2, []), (43, .iconst 2, []), (44, .if_icmp .ne 11, [55]), (47, .aload_n 0, []), (48, .iload_n 1, []), (49, .invokevirtual 181, [174, 1, 1, 7, 150]), (52, .ifCond .ne 9, [61]), (55, .aload_n 0, []), (56, .iconst 3, []), (57, .invokevirtual 87, [131, 1, 1, 7, 129]), (60, .ireturn, [0]), (61, .iload_n 2, []), (62, .tableswitch 95 1 4 #[30, 74, 83, 90], [157, 92, 136, 145, 152]), (92, .aload_n 0, []), (93, .iconst 0, []), (94, .iload_n 1, []), (95, .invokevirtual 155, [165, 2, 1, 7, 142]), (98, .ifCond .ne 14, [112]), (101, .aload_n 0, []), (102, .iconst 0, []), (103, .iconst 1, []), (104, .invokevirtual 152, [162, 2, 1, 7, 141]), (107, .bipush (-9), []), (109, .if_icmp .ne 8, [117]), (112, .bipush (-9), []), (114, .goto 21, [135]), (117, .aload_n 0, []), (118, .aload_n 0, []), (119, .iconst 0, []), (120, .iconst 5, []), (121, .iload_n 1, []), (122, .iadd, []), (123, .invokevirtual 152, [162, 2, 1, 7, 141]), (126, .aload_n 0, []), (127, .iconst 0, []), (128, .iconst 2, []), (129, .invokevirtual 152, [162, 2, 1, 7, 141]), (132, .invokevirtual 175, [168, 2, 1, 7, 148]), (135, .ireturn, [0]), (136, .aload_n 0, []), (137, .iconst 0, []), (138, .iconst 0, []), (139, .invokevirtual 152, [162, 2, 1, 7, 141]), (142, .iconst 2, []), (143, .irem, []), (144, .ireturn, [0]), (145, .aload_n 0, []), (146, .iconst 0, []), (147, .iload_n 1, []), (148, .invokevirtual 184, [175, 2, 1, 7, 151]), (151, .ireturn, [0]), (152, .aload_n 0, []), (153, .invokevirtual 187, [177, 0, 1, 7, 152]), (156, .ireturn, [0]), (157, .aload_n 0, []), (158, .iconst 0, []), (159, .iload_n 1, []), (160, .invokevirtual 155, [165, 2, 1, 7, 142]), (163, .ifCond .eq 8, [171]), (166, .bipush (-9), []), (168, .goto 8, [176]), (171, .aload_n 0, []), (172, .iload_n 1, []), (173, .invokevirtual 191, [176, 1, 1, 7, 153]), (176, .ireturn, [0])]
def h_178 : List (Nat × Nat) := []
/-- LastStirredModel.last()I -/
def k_179 : List (Nat × Instr × List Nat) := [(0, .aload_n 0, []), (1, .aload_n 0, []), (2, .iconst 0, []), (3, .iconst 2, []), (4, .invokevirtual 152, [162, 2, 1, 7, 141]), (7, .aload_n 0, []), (8, .iconst 0, []), (9, .iconst 1, []), (10, .invokevirtual 152, [162, 2, 1, 7, 141]), (13, .invokevirtual 95, [134, 2, 1, 7, 131]), (16, .ireturn, [0])]
def h_179 : List (Nat × Nat) := []
/-- LastStirredModel.can(III)Z -/
def k_180 : List (Nat × Instr × List Nat) := [(0, .aload_n 0, []), (1, .getfield 29, [7, 12, 2, 92]), (4, .iload_n 3, []), (5, .iaload, []), (6, .iconst 1, []), (7, .if_icmp .eq 46, [53]), (10, .aload_n 0, []), (11, .iload_n 1, []), (12, .iload_n 3, []), (13, .iload_n 2, []), (14, .invokevirtual 165, [167, 3, 1, 7, 145]), (17, .bipush (-9), []), (19, .if_icmp .ne 34, [53]), (22, .aload_n 0, []), (23, .getfield 29, [7, 12, 2, 92]), (26, .iload_n 3, []), (27, .iaload, []), (28, .iconst 4, []), (29, .if_icmp .ne 20, [49]), (32, .aload_n 0, []), (33, .getfield 32, [7, 14, 2, 94]), (36, .iload_n 2, []), (37, .iaload, []), (38, .iconst 4, []), (39, .if_icmp .eq 14, [53]), (42, .aload_n 0, []), (43, .getfield 194, [7, 26, 3, 106]), (46, .ifCond .ne 7, [53]), (49, .iconst 1, []), (50, .goto 4, [54]), (53, .iconst 0, []), (54, .ireturn, [1])]
def h_180 : List (Nat × Nat) := []
/-- LastStirredModel.by(III)I -/
def k_181 : List (Nat × Instr × List Nat) := [(0, .iload_n 1, []), (1, .aload_n 0, []), (2, .getfield 143, [7, 10, 0, 90]), (5, .irem, []), (6, .iload_n 2, []), (7, .iadd, []), (8, .istore 4, []), (10, .iload_n 1, []), (11, .aload_n 0, []), (12, .getfield 143, [7, 10, 0, 90]), (15, .idiv, []), (16, .iload_n 3, []), (17, .iadd, []), (18, .istore 5, []), (20, .iload 4, []), (22, .iconst 0, []), (23, .aload_n 0, []), (24, .getfield 143, [7, 10, 0, 90]), (27, .iconst 1, []), (28, .isub, []), (29, .invokestatic 73, [127, 3, 1, 127]), (32, .ifCond .eq 36, [68]), (35, .iload 5, []), (37, .iconst 0, []), (38, .aload_n 0, []), (39, .getfield 146, [7, 11, 0, 91]), (42, .aload_n 0, []), (43, .getfield 143, [7, 10, 0, 90]), (46, .idiv, []), (47, .iconst 1, []), (48, .isub, []), (49, .invokestatic 73, [127, 3, 1, 127]), (52, .ifCond .eq 16, [68]), (55, .aload_n 0, []), (56, .getfield 143, [7, 10, 0, 90]), (59, .iload 5, []), (61, .imul, []), (62, .iload 4, []), (64, .iadd, []), (65, .goto 5, [70]), (68, .bipush (-9), []), (70, .ireturn, [0])]
def h_181 : List (Nat × Nat) := []
/-- LastStirredModel.goesTo(III)Z -/
def k_182 : List (Nat × Instr × List Nat) := [(0, .iload_n 3, []), (1, .bipush (-9), []), (3, .if_icmp .eq 13, [16]), (6, .aload_n 0, []), (7, .iload_n 1, []), (8, .iload_n 2, []), (9, .iload_n 3, []), (10, .invokevirtual 198, [180, 3, 1, 7, 154]), (13, .ifCond .ne 5, [18]), (16, .iconst 0, []), (17, .ireturn, [1]), (18, .aload_n 0, []), (19, .aload_n 0, []), (20, .getfield 194, [7, 26, 3, 106]), (23, .ifCond .ne 13, [36]), (26, .aload_n 0, []), (27, .getfield 29, [7, 12, 2, 92]), (30, .iload_n 3, []), (31, .iaload, []), (32, .iconst 4, []), (33, .if_icmp .ne 7, [40]), (36, .iconst 1, []), (37, .goto 4, [41]), (40, .iconst 0, []), (41, .putfield 194, [7, 26, 3, 106]), (44, .aload_n 0, []), (45, .iload_n 1, []), (46, .iconst 5, []), (47, .iload_n 2, []), (48, .iadd, []), (49, .aload_n 0, []), (50, .getfield 29, [7, 12, 2, 92]), (53, .iload_n 3, []), (54, .iaload, []), (55, .iconst 2, []), (56, .if_icmp .ne 8, [64]), (59, .bipush (-9), []), (61, .goto 4, [65]), (64, .iload_n 3, []), (65, .invokevirtual 65, [163, 3, 0, 7, 126]), (68, .aload_n 0, []), (69, .iload_n 1, []), (70, .bipush 9, []), (72, .iload_n 2, []), (73, .iadd, []), (74, .aload_n 0, []), (75, .iload_n 1, []), (76, .bipush 9, []), (78, .iload_n 2, []), (79, .iadd, []), (80, .invokevirtual 152, [162, 2, 1, 7, 141]), (83, .iconst 1, []), (84, .iadd, []), (85, .invokevirtual 65, [163, 3, 0, 7, 126]), (88, .aload_n 0, []), (89, .iload_n 3, []), (90, .putfield 201, [7, 27, 0, 107]), (93, .iconst 1, []), (94, .ireturn, [1])]
def h_182 : List (Nat × Nat) := []
/-- LastStirredModel.becomesLast(III)V -/
def k_183 : List (Nat × Instr × List Nat) := [(0, .aload_n 0, []), (1, .iload_n 1, []), (2, .iconst 3, []), (3, .aload_n 0, []), (4, .iload_n 1, []), (5, .iconst 1, []), (6, .invokevirtual 152, [162, 2, 1, 7, 141]), (9, .invokevirtual 65, [163, 3, 0, 7, 126]), (12, .aload_n 0, []), (13, .iload_n 1, []), (14, .iconst 4, []), (15, .aload_n 0, []), (16, .iload_n 1, []), (17, .iconst 2, []), (18, .invokevirtual 152, [162, 2, 1, 7, 141]), (21, .invokevirtual 65, [163, 3, 0, 7, 126]), (24, .aload_n 0, []), (25, .iload_n 1, []), (26, .iconst 1, []), (27, .iload_n 2, []), (28, .invokevirtual 65, [163, 3, 0, 7, 126]), (31, .aload_n 0, []), (32, .iload_n 1, []), (33, .iconst 2, []), (34, .iload_n 3, []), (35, .invokevirtual 65, [163, 3, 0, 7, 126]), (38, .return_, [])]
def h_183 : List (Nat × Nat) := []
/-- LastStirredModel.sign(I)I -/
def k_184 : List (Nat × Instr × List Nat) := [(0, .iload_n 0, []), (1, .ifCond .ge 7, [8]), (4, .iconst (-1), []), (5, .goto 12, [17]), (8, .iload_n 0, []), (9, .ifCond .le 7, [16]), (12, .iconst 1, []), (13, .goto 4, [17]), (16, .iconst 0, []), (17, .ireturn, [0])]
def h_184 : List (Nat × Nat) := []
/-- LastStirredModel.goes(III)Z -/
def k_185 : List (Nat × Instr × List Nat) := [(0, .aload_n 0, []), (1, .iload_n 1, []), (2, .iconst 5, []), (3, .iload_n 2, []), (4, .iadd, []), (5, .invokevirtual 152, [162, 2, 1, 7, 141]), (8, .istore 4, []), (10, .iload_n 3, []), (11, .aload_n 0, []), (12, .getfield 143, [7, 10, 0, 90]), (15, .irem, []), (16, .iload 4, []), (18, .aload_n 0, []), (19, .getfield 143, [7, 10, 0, 90]), (22, .irem, []), (23, .isub, []), (24, .istore 5, []), (26, .iload_n 3, []), (27, .aload_n 0, []), (28, .getfield 143, [7, 10, 0, 90]), (31, .idiv, []), (32, .iload 4, []), (34, .aload_n 0, []), (35, .getfield 143, [7, 10, 0, 90]), (38, .idiv, []), (39, .isub, []), (40, .istore 6, []), (42, .iload 5, []), (44, .invokestatic 159, [130, 1, 1, 143]), (47, .iload 6, []), (49, .invokestatic 159, [130, 1, 1, 143]), (52, .iadd, []), (53, .istore 7, []), (55, .aload_n 0, []), (56, .iload_n 2, []), (57, .invokevirtual 181, [174, 1, 1, 7, 150]), (60, .ifCond .eq 17, [77]), (63, .aload_n 0, []), (64, .iload_n 1, []), (65, .iconst 0, []), (66, .invokevirtual 152, [162, 2, 1, 7, 141]), (69, .iconst 2, []), (70, .irem, []), (71, .iconst 1, []), (72, .if_icmp .ne 5, [77]), (75, .iconst 0, []), (76, .ireturn, [1]), (77, .aload_n 0, []), (78, .iload_n 2, []), (79, .invokevirtual 178, [173, 1, 1, 7, 149]), (82, .ifCond .eq 22, [104]), (85, .aload_n 0, []), (86, .getfield 32, [7, 14, 2, 94]), (89, .iload_n 2, []), (90, .iaload, []), (91, .iconst 5, []), (92, .if_icmp .ne 20, [112]), (95, .iload 7, []), (97, .iconst 2, []), (98, .if_icmp .le 14, [112]), (101, .goto 9, [110]), (104, .iload 7, []), (106, .iconst 2, []), (107, .if_icmp .ge 5, [112]), (110, .iconst 0, []), (111, .ireturn, [1]), (112, .aload_n 0, []), (113, .iload_n 2, []), (114, .invokevirtual 178, [173, 1, 1, 7, 149]), (117, .ifCond .eq 7, [124]), (120, .iconst (-1), []), (121, .goto 4, [125]), (124, .iconst 1, []), (125, .istore 8, []), (127, .iload 5, []), (129, .invokestatic 159, [130, 1, 1, 143]), (132, .iload 6, []), (134, .invokestatic 159, [130, 1, 1, 143]), (137, .if_icmp .lt 7, [144]), (140, .iconst 1, []), (141, .goto 4, [145]), (144, .iconst 0, []), (145, .istore 9, []), (147, .iload 8, []), (149, .iload 5, []), (151, .invokestatic 204, [184, 1, 1, 155]), (154, .imul, []), (155, .istore 10, []), (157, .iload 8, []), (159, .iload 6, []), (161, .invokestatic 204, [184, 1, 1, 155]), (164, .imul, []), (165, .istore 11, []), (167, .iload 9, []), (169, .ifCond .eq 34, [203]), (172, .iload 10, []), (174, .ifCond .eq 25, [199]), (177, .aload_n 0, []), (178, .iload_n 1, []), (179, .iload_n 2, []), (180, .aload_n 0, []), (181, .iload 4, []), (183, .iload 10, []), (185, .iconst 0, []), (186, .invokevirtual 207, [181, 3, 1, 7, 156]), (189, .invokevirtual 210, [182, 3, 1, 7, 157]), (192, .ifCond .eq 7, [199]), (195, .iconst 1, []), (196, .goto 22, [218]), (199, .iconst 0, []), (200, .goto 18, [218]), (203, .aload_n 0, []), (204, .iload_n 1, []), (205, .iload_n 2, []), (206, .aload_n 0, []), (207, .iload 4, []), (209, .iconst 0, []), (210, .iload 11, []), (212, .invokevirtual 207, [181, 3, 1, 7, 156]), (215, .invokevirtual 210, [182, 3, 1, 7, 157]), (218, .istore 12, []), (220, .iload 12, []), (222, .ifCond .ne 57, [279]), (225, .iload 9, []), (227, .ifCond .eq 29, [256]), (230, .iload 11, []), (232, .ifCond .eq 51, [283]), (235, .aload_n 0, []), (236, .iload_n 1, []), (237, .iload_n 2, []), (238, .aload_n 0, []), (239, .iload 4, []), (241, .iconst 0, []), (242, .iload 11, []), (244, .invokevirtual 207, [181, 3, 1, 7, 156]), (247, .invokevirtual 210, [182, 3, 1, 7, 157]), (250, .ifCond .eq 33, [283]), (253, .goto 26, [279]), (256, .iload 10, []), (258, .ifCond .eq 25, [283]), (261, .aload_n 0, []), (262, .iload_n 1, []), (263, .iload_n 2, []), (264, .aload_n 0, []), (265, .iload 4, []), (267, .iload 10, []), (269, .iconst 0, []), (270, .invokevirtual 207, [181, 3, 1, 7, 156]), (273, .invokevirtual 210, [182, 3, 1, 7, 157]), (276, .ifCond .eq 7, [283]), (279, .iconst 1, []), (280, .goto 4, [284]), (283, .iconst 0, []), (284, .ireturn, [1])]
def h_185 : List (Nat × Nat) := [(77, 8), (112, 8), (127, 9), (147, 10), (220, 13)]
/-- LastStirredModel.stepOf(I)I -/
def k_186 : List (Nat × Instr × List Nat) := [(0, .iconst 0, []), (1, .istore_n 2, []), (2, .bipush (-9), []), (4, .istore_n 3, []), (5, .bipush (-9), []), (7, .istore 4, []), (9, .aload_n 0, []), (10, .iload_n 1, []), (11, .iconst 1, []), (12, .invokevirtual 152, [162, 2, 1, 7, 141]), (15, .bipush (-9), []), (17, .if_icmp .eq 127, [144]), (20, .iconst 0, []), (21, .istore 5, []), (23, .iload 5, []), (25, .aload_n 0, []), (26, .getfield 149, [7, 13, 0, 93]), (29, .if_icmp .ge 23, [52]), (32, .aload_n 0, []), (33, .getfield 51, [7, 28, 2, 108]), (36, .iload 5, []), (38, .aload_n 0, []), (39, .iload_n 1, []), (40, .iload 5, []), (42, .invokevirtual 184, [175, 2, 1, 7, 151]), (45, .iastore, []), (46, .iinc 5 1, []), (49, .goto (-26), [23]), (52, .aload_n 0, []), (53, .iconst 0, []), (54, .putfield 194, [7, 26, 3, 106]), (57, .iconst 0, []), (58, .istore 5, []), (60, .iload 5, []), (62, .aload_n 0, []), (63, .getfield 149, [7, 13, 0, 93]), (66, .if_icmp .ge 63, [129]), (69, .aload_n 0, []), (70, .iload_n 1, []), (71, .iload 5, []), (73, .invokevirtual 155, [165, 2, 1, 7, 142]), (76, .ifCond .ne 47, [123]), (79, .iload 5, []), (81, .aload_n 0, []), (82, .iload_n 1, []), (83, .iconst 1, []), (84, .invokevirtual 152, [162, 2, 1, 7, 141]), (87, .if_icmp .eq 36, [123]), (90, .aload_n 0, []), (91, .iload_n 1, []), (92, .iload 5, []), (94, .aload_n 0, []), (95, .getfield 51, [7, 28, 2, 108]), (98, .iload 5, []), (100, .iaload, []), (101, .invokevirtual 213, [185, 3, 1, 7, 158]), (104, .ifCond .eq 19, [123]), (107, .iload_n 2, []), (108, .iconst 1, []), (109, .iload 5, []), (111, .ishl, []), (112, .ior, []), (113, .istore_n 2, []), (114, .iload 5, []), (116, .istore 4, []), (118, .aload_n 0, []), (119, .getfield 201, [7, 27, 0, 107]), (122, .istore_n 3, []), (123, .iinc 5 1, []), (126, .goto (-66), [60]), (129, .iload 4, []), (131, .bipush (-9), []), (133, .if_icmp .eq 11, [144]), (136, .aload_n 0, []), (137, .iload_n 1, []), (138, .iload 4, []), (140, .iload_n 3, []), (141, .invokevirtual 216, [183, 3, 0, 7, 159]), (144, .aload_n 0, []), (145, .iload_n 1, []), (146, .iconst 0, []), (147, .aload_n 0, []), (148, .iload_n 1, []), (149, .iconst 0, []), (150, .invokevirtual 152, [162, 2, 1, 7, 141]), (153, .iconst 1, []), (154, .iadd, []), (155, .invokevirtual 65, [163, 3, 0, 7, 126]), (158, .iload_n 2, []), (159, .ireturn, [0])]
def h_186 : List (Nat × Nat) := [(23, 6), (60, 6)]
/-- LastStirredModel.runs(I)I -/
def k_187 : List (Nat × Instr × List Nat) := [(0, .iconst 0, []), (1, .istore_n 2, []), (2, .iconst 0, []), (3, .istore_n 3, []), (4, .aload_n 0, []), (5, .iconst 0, []), (6, .putfield 219, [7, 30, 0, 110]), (9, .iload_n 2, []), (10, .iconst 2, []), (11, .if_icmp .ge 46, [57]), (14, .iload_n 3, []), (15, .bipush 40, []), (17, .if_icmp .ge 40, [57]), (20, .aload_n 0, []), (21, .iload_n 1, []), (22, .invokevirtual 222, [186, 1, 1, 7, 160]), (25, .istore 4, []), (27, .aload_n 0, []), (28, .dup, []), (29, .getfield 219, [7, 30, 0, 110]), (32, .iload 4, []), (34, .ior, []), (35, .putfield 219, [7, 30, 0, 110]), (38, .iload 4, []), (40, .ifCond .ne 9, [49]), (43, .iload_n 2, []), (44, .iconst 1, []), (45, .iadd, []), (46, .goto 4, [50]), (49, .iconst 0, []), (50, .istore_n 2, []), (51, .iinc 3 1, []), (54, .goto (-45), [9]), (57, .aload_n 0, []), (58, .iload_n 2, []), (59, .iconst 2, []), (60, .if_icmp .ne 7, [67]), (63, .iconst 1, []), (64, .goto 4, [68]), (67, .iconst 0, []), (68, .putfield 225, [7, 29, 3, 109]), (71, .iload_n 3, []), (72, .ireturn, [0])]
def h_187 : List (Nat × Nat) := [(9, 4)]
/-- LastStirredModel.stirs(III)Z -/
def k_188 : List (Nat × Instr × List Nat) := [(0, .aload_n 0, []), (1, .iload_n 1, []), (2, .iload_n 2, []), (3, .invokevirtual 155, [165, 2, 1, 7, 142]), (6, .ifCond .eq 5, [11]), (9, .iconst 0, []), (10, .ireturn, [1]), (11, .aload_n 0, []), (12, .iconst 0, []), (13, .putfield 194, [7, 26, 3, 106]), (16, .aload_n 0, []), (17, .aload_n 0, []), (18, .iload_n 1, []), (19, .iconst 5, []), (20, .iload_n 2, []), (21, .iadd, []), (22, .invokevirtual 152, [162, 2, 1, 7, 141]), (25, .iload_n 3, []), (26, .iconst 1, []), (27, .if_icmp .ne 7, [34]), (30, .iconst 1, []), (31, .goto 13, [44]), (34, .iload_n 3, []), (35, .iconst 3, []), (36, .if_icmp .ne 7, [43]), (39, .iconst (-1), []), (40, .goto 4, [44]), (43, .iconst 0, []), (44, .iload_n 3, []), (45, .ifCond .ne 7, [52]), (48, .iconst (-1), []), (49, .goto 13, [62]), (52, .iload_n 3, []), (53, .iconst 2, []), (54, .if_icmp .ne 7, [61]), (57, .iconst 1, []), (58, .goto 4, [62]), (61, .iconst 0, []), (62, .invokevirtual 207, [181, 3, 1, 7, 156]), (65, .istore 4, []), (67, .aload_n 0, []), (68, .iload_n 1, []), (69, .iload_n 2, []), (70, .iload 4, []), (72, .invokevirtual 210, [182, 3, 1, 7, 157]), (75, .ifCond .ne 5, [80]), (78, .iconst 0, []), (79, .ireturn, [1]), (80, .aload_n 0, []), (81, .iload_n 1, []), (82, .iload_n 2, []), (83, .iload 4, []), (85, .invokevirtual 216, [183, 3, 0, 7, 159]), (88, .iconst 1, []), (89, .ireturn, [1])]
def h_188 : List (Nat × Nat) := []
/-- LastStirredModel.drives(II)Z -/
def k_189 : List (Nat × Instr × List Nat) := [(0, .aload_n 0, []), (1, .iload_n 1, []), (2, .iload_n 2, []), (3, .iconst 4, []), (4, .idiv, []), (5, .iload_n 2, []), (6, .iconst 4, []), (7, .irem, []), (8, .invokevirtual 228, [188, 3, 1, 7, 161]), (11, .ifCond .ne 5, [16]), (14, .iconst 0, []), (15, .ireturn, [1]), (16, .aload_n 0, []), (17, .iload_n 1, []), (18, .invokevirtual 231, [187, 1, 1, 7, 162]), (21, .pop, []), (22, .iconst 1, []), (23, .ireturn, [1])]
def h_189 : List (Nat × Nat) := []
/-- LastStirredModel.stir(II)I -/
def k_190 : List (Nat × Instr × List Nat) := [(0, .aload_n 0, []), (1, .iload_n 1, []), (2, .invokevirtual 169, [161, 1, 1, 7, 146]), (5, .ifCond .eq 12, [17]), (8, .iload_n 2, []), (9, .iconst 0, []), (10, .iconst 3, []), (11, .invokestatic 73, [127, 3, 1, 127]), (14, .ifCond .ne 5, [19]), (17, .iconst (-1), []), (18, .ireturn, [0]), (19, .aload_n 0, []), (20, .iconst 0, []), (21, .iload_n 1, []), (22, .iload_n 2, []), (23, .invokevirtual 228, [188, 3, 1, 7, 161]), (26, .ifCond .eq 10, [36]), (29, .aload_n 0, []), (30, .getfield 201, [7, 27, 0, 107]), (33, .goto 5, [38]), (36, .bipush (-4), []), (38, .ireturn, [0])]
def h_190 : List (Nat × Nat) := []
/-- LastStirredModel.go(I)I -/
def k_191 : List (Nat × Instr × List Nat) := [(0, .iload_n 1, []), (1, .iconst 0, []), (2, .bipush 40, []), (4, .invokestatic 73, [127, 3, 1, 127]), (7, .ifCond .ne 5, [12]), (10, .iconst (-1), []), (11, .ireturn, [0]), (12, .aload_n 0, []), (13, .getfield 146, [7, 11, 0, 91]), (16, .ifCond .ne 6, [22]), (19, .bipush (-4), []), (21, .ireturn, [0]), (22, .aload_n 0, []), (23, .iconst 0, []), (24, .iconst 0, []), (25, .invokevirtual 152, [162, 2, 1, 7, 141]), (28, .iload_n 1, []), (29, .iadd, []), (30, .sipush 10000, []), (33, .if_icmp .le 6, [39]), (36, .bipush (-6), []), (38, .ireturn, [0]), (39, .iconst 0, []), (40, .istore_n 2, []), (41, .iconst 0, []), (42, .istore_n 3, []), (43, .iload_n 3, []), (44, .iload_n 1, []), (45, .if_icmp .ge 15, [60]), (48, .aload_n 0, []), (49, .iconst 0, []), (50, .invokevirtual 222, [186, 1, 1, 7, 160]), (53, .istore_n 2, []), (54, .iinc 3 1, []), (57, .goto (-14), [43]), (60, .iload_n 2, []), (61, .ireturn, [0])]
def h_191 : List (Nat × Nat) := [(43, 4)]
/-- LastStirredModel.run()I -/
def k_192 : List (Nat × Instr × List Nat) := [(0, .aload_n 0, []), (1, .getfield 146, [7, 11, 0, 91]), (4, .ifCond .ne 6, [10]), (7, .bipush (-4), []), (9, .ireturn, [0]), (10, .aload_n 0, []), (11, .iconst 0, []), (12, .iconst 0, []), (13, .invokevirtual 152, [162, 2, 1, 7, 141]), (16, .sipush 9960, []), (19, .if_icmp .le 6, [25]), (22, .bipush (-6), []), (24, .ireturn, [0]), (25, .aload_n 0, []), (26, .iconst 0, []), (27, .invokevirtual 231, [187, 1, 1, 7, 162]), (30, .istore_n 1, []), (31, .aload_n 0, []), (32, .aload_n 0, []), (33, .getfield 225, [7, 29, 3, 109]), (36, .ifCond .eq 7, [43]), (39, .iconst 1, []), (40, .goto 4, [44]), (43, .iconst 0, []), (44, .iload_n 1, []), (45, .invokevirtual 95, [134, 2, 1, 7, 131]), (48, .ireturn, [0])]
def h_192 : List (Nat × Nat) := []
/-- LastStirredModel.stateOf(I)J -/
def k_193 : List (Nat × Instr × List Nat) := [(0, .aload_n 0, []), (1, .iload_n 1, []), (2, .iconst 0, []), (3, .invokevirtual 152, [162, 2, 1, 7, 141]), (6, .iconst 2, []), (7, .irem, []), (8, .i2l, []), (9, .lstore_n 2, []), (10, .iconst 1, []), (11, .istore 4, []), (13, .iload 4, []), (15, .bipush 9, []), (17, .if_icmp .ge 28, [45]), (20, .ldc2_w 234, [4, 1242]), (23, .lload_n 2, []), (24, .lmul, []), (25, .aload_n 0, []), (26, .iload_n 1, []), (27, .iload 4, []), (29, .invokevirtual 152, [162, 2, 1, 7, 141]), (32, .i2l, []), (33, .ladd, []), (34, .ldc2_w 236, [5, 1243]), (37, .ladd, []), (38, .lstore_n 2, []), (39, .iinc 4 1, []), (42, .goto (-29), [13]), (45, .lload_n 2, []), (46, .lreturn, [])]
def h_193 : List (Nat × Nat) := [(13, 5)]
/-- LastStirredModel.ring()I -/
def k_194 : List (Nat × Instr × List Nat) := [(0, .aload_n 0, []), (1, .getfield 146, [7, 11, 0, 91]), (4, .ifCond .ne 6, [10]), (7, .bipush (-4), []), (9, .ireturn, [0]), (10, .aload_n 0, []), (11, .iconst 0, []), (12, .iconst 4, []), (13, .invokevirtual 238, [164, 2, 0, 7, 163]), (16, .iconst 0, []), (17, .istore_n 1, []), (18, .iload_n 1, []), (19, .sipush 200, []), (22, .if_icmp .gt 64, [86]), (25, .aload_n 0, []), (26, .getfield 54, [7, 31, 2, 111]), (29, .iload_n 1, []), (30, .aload_n 0, []), (31, .iconst 4, []), (32, .invokevirtual 242, [193, 1, 2, 7, 164]), (35, .lastore, []), (36, .iconst 0, []), (37, .istore_n 2, []), (38, .iload_n 2, []), (39, .iload_n 1, []), (40, .if_icmp .ge 34, [74]), (43, .aload_n 0, []), (44, .getfield 54, [7, 31, 2, 111]), (47, .iload_n 2, []), (48, .laload, []), (49, .aload_n 0, []), (50, .getfield 54, [7, 31, 2, 111]), (53, .iload_n 1, []), (54, .laload, []), (55, .lcmp, []), (56, .ifCond .ne 12, [68]), (59, .aload_n 0, []), (60, .iload_n 1, []), (61, .iload_n 2, []), (62, .isub, []), (63, .iload_n 1, []), (64, .invokevirtual 95, [134, 2, 1, 7, 131]), (67, .ireturn, [0]), (68, .iinc 2 1, []), (71, .goto (-33), [38]), (74, .aload_n 0, []), (75, .iconst 4, []), (76, .invokevirtual 222, [186, 1, 1, 7, 160]), (79, .pop, []), (80, .iinc 1 1, []), (83, .goto (-65), [18]), (86, .bipush (-9), []), (88, .ireturn, [0])]
def h_194 : List (Nat × Nat) := [(18, 2), (38, 3)]
/-- LastStirredModel.where(I)I -/
def k_195 : List (Nat × Instr × List Nat) := [(0, .iload_n 1, []), (1, .invokestatic 83, [139, 1, 1, 128]), (4, .ifCond .ne 5, [9]), (7, .iconst (-1), []), (8, .ireturn, [0]), (9, .aload_n 0, []), (10, .getfield 13, [7, 5, 2, 85]), (13, .iload_n 1, []), (14, .aload_n 0, []), (15, .getfield 149, [7, 13, 0, 93]), (18, .iastore, []), (19, .iconst 0, []), (20, .istore_n 2, []), (21, .iload_n 2, []), (22, .bipush 60, []), (24, .if_icmp .ge 40, [64]), (27, .aload_n 0, []), (28, .getfield 16, [7, 6, 2, 86]), (31, .bipush 60, []), (33, .iload_n 1, []), (34, .imul, []), (35, .iload_n 2, []), (36, .iadd, []), (37, .iload_n 2, []), (38, .aload_n 0, []), (39, .getfield 149, [7, 13, 0, 93]), (42, .if_icmp .ge 14, [56]), (45, .aload_n 0, []), (46, .iconst 0, []), (47, .iconst 5, []), (48, .iload_n 2, []), (49, .iadd, []), (50, .invokevirtual 152, [162, 2, 1, 7, 141]), (53, .goto 4, [57]), (56, .iconst 0, []), (57, .iastore, []), (58, .iinc 2 1, []), (61, .goto (-40), [21]), (64, .aload_n 0, []), (65, .iconst 0, []), (66, .invokevirtual 246, [166, 1, 1, 7, 165]), (69, .ireturn, [0])]
def h_195 : List (Nat × Nat) := [(21, 3)]
/-- LastStirredModel.apartOf(I)I -/
def k_196 : List (Nat × Instr × List Nat) := [(0, .iconst 0, []), (1, .istore_n 2, []), (2, .iconst 0, []), (3, .istore_n 3, []), (4, .iload_n 3, []), (5, .aload_n 0, []), (6, .getfield 149, [7, 13, 0, 93]), (9, .if_icmp .ge 76, [85]), (12, .iload_n 3, []), (13, .iconst 1, []), (14, .iadd, []), (15, .istore 4, []), (17, .iload 4, []), (19, .aload_n 0, []), (20, .getfield 149, [7, 13, 0, 93]), (23, .if_icmp .ge 56, [79]), (26, .iload_n 2, []), (27, .aload_n 0, []), (28, .iload_n 1, []), (29, .iload_n 3, []), (30, .invokevirtual 155, [165, 2, 1, 7, 142]), (33, .ifCond .ne 13, [46]), (36, .aload_n 0, []), (37, .iload_n 1, []), (38, .iload 4, []), (40, .invokevirtual 155, [165, 2, 1, 7, 142]), (43, .ifCond .eq 7, [50]), (46, .iconst 0, []), (47, .goto 24, [71]), (50, .aload_n 0, []), (51, .aload_n 0, []), (52, .iload_n 1, []), (53, .iconst 5, []), (54, .iload_n 3, []), (55, .iadd, []), (56, .invokevirtual 152, [162, 2, 1, 7, 141]), (59, .aload_n 0, []), (60, .iload_n 1, []), (61, .iconst 5, []), (62, .iload 4, []), (64, .iadd, []), (65, .invokevirtual 152, [162, 2, 1, 7, 141]), (68, .invokevirtual 175, [168, 2, 1, 7, 148]), (71, .iadd, []), (72, .istore_n 2, []), (73, .iinc 4 1, []), (76, .goto (-59), [17]), (79, .iinc 3 1, []), (82, .goto (-78), [4]), (85, .iload_n 2, []), (86, .ireturn, [0])]
def h_196 : List (Nat × Nat) := [(4, 4), (17, 5)]
/-- LastStirredModel.apart()I -/
def k_197 : List (Nat × Instr × List Nat) := [(0, .aload_n 0, []), (1, .iconst 0, []), (2, .invokevirtual 249, [196, 1, 1, 7, 166]), (5, .ireturn, [0])]
def h_197 : List (Nat × Nat) := []
/-- LastStirredModel.keep(I)I -/
def k_198 : List (Nat × Instr × List Nat) := [(0, .iload_n 1, []), (1, .iconst 0, []), (2, .iconst 2, []), (3, .invokestatic 73, [127, 3, 1, 127]), (6, .ifCond .ne 5, [11]), (9, .iconst (-1), []), (10, .ireturn, [0]), (11, .aload_n 0, []), (12, .getfield 146, [7, 11, 0, 91]), (15, .ifCond .ne 6, [21]), (18, .bipush (-4), []), (20, .ireturn, [0]), (21, .aload_n 0, []), (22, .iconst 0, []), (23, .iconst 1, []), (24, .iload_n 1, []), (25, .iadd, []), (26, .invokevirtual 238, [164, 2, 0, 7, 163]), (29, .aload_n 0, []), (30, .getfield 47, [7, 25, 2, 105]), (33, .iload_n 1, []), (34, .iconst 1, []), (35, .bastore, []), (36, .aload_n 0, []), (37, .iconst 0, []), (38, .iconst 0, []), (39, .invokevirtual 152, [162, 2, 1, 7, 141]), (42, .ireturn, [0])]
def h_198 : List (Nat × Nat) := []
/-- LastStirredModel.on(I)I -/
def k_199 : List (Nat × Instr × List Nat) := [(0, .iload_n 1, []), (1, .iconst 0, []), (2, .iconst 2, []), (3, .invokestatic 73, [127, 3, 1, 127]), (6, .ifCond .ne 5, [11]), (9, .iconst (-1), []), (10, .ireturn, [0]), (11, .aload_n 0, []), (12, .getfield 47, [7, 25, 2, 105]), (15, .iload_n 1, []), (16, .baload, []), (17, .ifCond .ne 9, [26]), (20, .aload_n 0, []), (21, .iconst 1, []), (22, .invokevirtual 87, [131, 1, 1, 7, 129]), (25, .ireturn, [0]), (26, .aload_n 0, []), (27, .iconst 1, []), (28, .iload_n 1, []), (29, .iadd, []), (30, .iconst 0, []), (31, .invokevirtual 238, [164, 2, 0, 7, 163]), (34, .aload_n 0, []), (35, .iconst 0, []), (36, .iconst 0, []), (37, .invokevirtual 152, [162, 2, 1, 7, 141]), (40, .ireturn, [0])]
def h_199 : List (Nat × Nat) := []
/-- LastStirredModel.isSafe(I)Z -/
def k_200 : List (Nat × Instr × List Nat) := [(0, .aload_n 0, []), (1, .getfield 149, [7, 13, 0, 93]), (4, .ifCond .le 7, [11]), (7, .iconst 1, []), (8, .goto 4, [12]), (11, .iconst 0, []), (12, .istore_n 2, []), (13, .iconst 0, []), (14, .istore_n 3, []), (15, .iload_n 3, []), (16, .aload_n 0, []), (17, .getfield 149, [7, 13, 0, 93]), (20, .if_icmp .ge 45, [65]), (23, .iload_n 2, []), (24, .ifCond .eq 33, [57]), (27, .aload_n 0, []), (28, .iload_n 1, []), (29, .iload_n 3, []), (30, .invokevirtual 155, [165, 2, 1, 7, 142]), (33, .ifCond .ne 24, [57]), (36, .aload_n 0, []), (37, .getfield 29, [7, 12, 2, 92]), (40, .aload_n 0, []), (41, .iload_n 1, []), (42, .iconst 5, []), (43, .iload_n 3, []), (44, .iadd, []), (45, .invokevirtual 152, [162, 2, 1, 7, 141]), (48, .iaload, []), (49, .iconst 3, []), (50, .if_icmp .ne 7, [57]), (53, .iconst 1, []), (54, .goto 4, [58]), (57, .iconst 0, []), (58, .istore_n 2, []), (59, .iinc 3 1, []), (62, .goto (-47), [15]), (65, .iload_n 2, []), (66, .ireturn, [1])]
def h_200 : List (Nat × Nat) := [(15, 4)]
/-- LastStirredModel.codes()I -/
def k_201 : List (Nat × Instr × List Nat) := [(0, .iconst 4, []), (1, .aload_n 0, []), (2, .getfield 149, [7, 13, 0, 93]), (5, .imul, []), (6, .ireturn, [0])]
def h_201 : List (Nat × Nat) := []
/-- LastStirredModel.driven(II)Z -/
def k_202 : List (Nat × Instr × List Nat) := [(0, .aload_n 0, []), (1, .iload_n 1, []), (2, .iload_n 1, []), (3, .iconst 1, []), (4, .iadd, []), (5, .invokevirtual 238, [164, 2, 0, 7, 163]), (8, .aload_n 0, []), (9, .iload_n 1, []), (10, .iconst 1, []), (11, .iadd, []), (12, .iload_n 2, []), (13, .invokevirtual 252, [189, 2, 1, 7, 167]), (16, .ireturn, [1])]
def h_202 : List (Nat × Nat) := []
/-- LastStirredModel.isWanted(II)Z -/
def k_203 : List (Nat × Instr × List Nat) := [(0, .iload_n 2, []), (1, .ifCond .ge 9, [10]), (4, .aload_n 0, []), (5, .iload_n 1, []), (6, .invokevirtual 255, [200, 1, 1, 7, 168]), (9, .ireturn, [1]), (10, .iconst 1, []), (11, .istore_n 3, []), (12, .iconst 0, []), (13, .istore 4, []), (15, .iload 4, []), (17, .aload_n 0, []), (18, .getfield 149, [7, 13, 0, 93]), (21, .if_icmp .ge 38, [59]), (24, .iload_n 3, []), (25, .ifCond .eq 26, [51]), (28, .aload_n 0, []), (29, .iload_n 1, []), (30, .iconst 5, []), (31, .iload 4, []), (33, .iadd, []), (34, .invokevirtual 152, [162, 2, 1, 7, 141]), (37, .aload_n 0, []), (38, .iload_n 2, []), (39, .iload 4, []), (41, .invokevirtual 91, [140, 2, 1, 7, 130]), (44, .if_icmp .ne 7, [51]), (47, .iconst 1, []), (48, .goto 4, [52]), (51, .iconst 0, []), (52, .istore_n 3, []), (53, .iinc 4 1, []), (56, .goto (-41), [15]), (59, .iload_n 3, []), (60, .ireturn, [1])]
def h_203 : List (Nat × Nat) := [(15, 5)]
/-- LastStirredModel.layRows(II)V -/
def k_204 : List (Nat × Instr × List Nat) := [(0, .aload_n 0, []), (1, .iconst 0, []), (2, .putfield 258, [7, 32, 0, 112]), (5, .aload_n 0, []), (6, .iconst 0, []), (7, .putfield 261, [7, 33, 0, 113]), (10, .aload_n 0, []), (11, .bipush (-9), []), (13, .putfield 264, [7, 34, 0, 114]), (16, .aload_n 0, []), (17, .iconst 0, []), (18, .putfield 267, [7, 35, 0, 115]), (21, .aload_n 0, []), (22, .iconst 0, []), (23, .putfield 270, [7, 36, 0, 116]), (26, .aload_n 0, []), (27, .iconst 0, []), (28, .iconst 4, []), (29, .invokevirtual 238, [164, 2, 0, 7, 163]), (32, .iload_n 1, []), (33, .ifCond .ne 12, [45]), (36, .aload_n 0, []), (37, .iconst 4, []), (38, .iconst 0, []), (39, .iload_n 2, []), (40, .bipush (-9), []), (42, .invokevirtual 273, [206, 4, 0, 7, 169]), (45, .iconst 0, []), (46, .istore_n 3, []), (47, .iload_n 3, []), (48, .aload_n 0, []), (49, .invokevirtual 277, [201, 0, 1, 7, 170]), (52, .if_icmp .ge 45, [97]), (55, .iload_n 1, []), (56, .ifCond .le 41, [97]), (59, .aload_n 0, []), (60, .iconst 4, []), (61, .iload_n 3, []), (62, .invokevirtual 280, [202, 2, 1, 7, 171]), (65, .ifCond .eq 26, [91]), (68, .iload_n 1, []), (69, .iconst 1, []), (70, .if_icmp .ne 14, [84]), (73, .aload_n 0, []), (74, .iconst 5, []), (75, .iload_n 3, []), (76, .iload_n 2, []), (77, .iload_n 3, []), (78, .invokevirtual 273, [206, 4, 0, 7, 169]), (81, .goto 10, [91]), (84, .aload_n 0, []), (85, .iload_n 3, []), (86, .iload_n 1, []), (87, .iload_n 2, []), (88, .invokevirtual 283, [205, 3, 0, 7, 172]), (91, .iinc 3 1, []), (94, .goto (-47), [47]), (97, .return_, [])]
def h_204 : List (Nat × Nat) := [(47, 4)]
/-- LastStirredModel.layDeeper(III)V -/
def k_205 : List (Nat × Instr × List Nat) := [(0, .iconst 0, []), (1, .istore 4, []), (3, .iload 4, []), (5, .aload_n 0, []), (6, .invokevirtual 277, [201, 0, 1, 7, 170]), (9, .if_icmp .ge 94, [103]), (12, .aload_n 0, []), (13, .iconst 5, []), (14, .iload 4, []), (16, .invokevirtual 280, [202, 2, 1, 7, 171]), (19, .ifCond .eq 78, [97]), (22, .iload_n 2, []), (23, .iconst 2, []), (24, .if_icmp .ne 18, [42]), (27, .aload_n 0, []), (28, .bipush 6, []), (30, .bipush 16, []), (32, .iload_n 1, []), (33, .imul, []), (34, .iload 4, []), (36, .iadd, []), (37, .iload_n 3, []), (38, .iload_n 1, []), (39, .invokevirtual 273, [206, 4, 0, 7, 169]), (42, .iconst 0, []), (43, .istore 5, []), (45, .iload 5, []), (47, .aload_n 0, []), (48, .invokevirtual 277, [201, 0, 1, 7, 170]), (51, .if_icmp .ge 46, [97]), (54, .iload_n 2, []), (55, .iconst 3, []), (56, .if_icmp .ne 41, [97]), (59, .aload_n 0, []), (60, .bipush 6, []), (62, .iload 5, []), (64, .invokevirtual 280, [202, 2, 1, 7, 171]), (67, .ifCond .eq 24, [91]), (70, .aload_n 0, []), (71, .bipush 7, []), (73, .bipush 16, []), (75, .bipush 16, []), (77, .iload_n 1, []), (78, .imul, []), (79, .iload 4, []), (81, .iadd, []), (82, .imul, []), (83, .iload 5, []), (85, .iadd, []), (86, .iload_n 3, []), (87, .iload_n 1, []), (88, .invokevirtual 273, [206, 4, 0, 7, 169]), (91, .iinc 5 1, []), (94, .goto (-49), [45]), (97, .iinc 4 1, []), (100, .goto (-97), [3]), (103, .return_, [])]
def h_205 : List (Nat × Nat) := [(3, 5), (45, 6)]
/-- LastStirredModel.layRow(IIII)V -/
def k_206 : List (Nat × Instr × List Nat) := [(0, .aload_n 0, []), (1, .dup, []), (2, .getfield 258, [7, 32, 0, 112]), (5, .iconst 1, []), (6, .iadd, []), (7, .putfield 258, [7, 32, 0, 112]), (10, .aload_n 0, []), (11, .iload_n 1, []), (12, .iload_n 3, []), (13, .invokevirtual 286, [203, 2, 1, 7, 173]), (16, .ifCond .eq 84, [100]), (19, .aload_n 0, []), (20, .aload_n 0, []), (21, .getfield 261, [7, 33, 0, 113]), (24, .ifCond .ne 7, [31]), (27, .iload_n 2, []), (28, .goto 7, [35]), (31, .aload_n 0, []), (32, .getfield 264, [7, 34, 0, 114]), (35, .putfield 264, [7, 34, 0, 114]), (38, .aload_n 0, []), (39, .dup, []), (40, .getfield 261, [7, 33, 0, 113]), (43, .iconst 1, []), (44, .iadd, []), (45, .putfield 261, [7, 33, 0, 113]), (48, .aload_n 0, []), (49, .dup, []), (50, .getfield 267, [7, 35, 0, 115]), (53, .iload 4, []), (55, .bipush (-9), []), (57, .if_icmp .ne 7, [64]), (60, .iconst 0, []), (61, .goto 9, [70]), (64, .iconst 1, []), (65, .iload 4, []), (67, .iconst 4, []), (68, .idiv, []), (69, .ishl, []), (70, .ior, []), (71, .putfield 267, [7, 35, 0, 115]), (74, .aload_n 0, []), (75, .dup, []), (76, .getfield 270, [7, 36, 0, 116]), (79, .iload 4, []), (81, .bipush (-9), []), (83, .if_icmp .ne 7, [90]), (86, .iconst 0, []), (87, .goto 9, [96]), (90, .iconst 1, []), (91, .iload 4, []), (93, .iconst 4, []), (94, .irem, []), (95, .ishl, []), (96, .ior, []), (97, .putfield 270, [7, 36, 0, 116]), (100, .return_, [])]
def h_206 : List (Nat × Nat) := []
/-- LastStirredModel.fewestOf(II)I -/
def k_207 : List (Nat × Instr × List Nat) := [(0, .iconst 0, []), (1, .istore_n 3, []), (2, .iload_n 3, []), (3, .iload_n 1, []), (4, .if_icmp .gt 24, [28]), (7, .aload_n 0, []), (8, .iload_n 3, []), (9, .iload_n 2, []), (10, .invokevirtual 289, [204, 2, 0, 7, 174]), (13, .aload_n 0, []), (14, .getfield 261, [7, 33, 0, 113]), (17, .ifCond .le 5, [22]), (20, .iload_n 3, []), (21, .ireturn, [0]), (22, .iinc 3 1, []), (25, .goto (-23), [2]), (28, .bipush (-9), []), (30, .ireturn, [0])]
def h_207 : List (Nat × Nat) := [(2, 4)]
/-- LastStirredModel.fewest()I -/
def k_208 : List (Nat × Instr × List Nat) := [(0, .aload_n 0, []), (1, .getfield 146, [7, 11, 0, 91]), (4, .ifCond .ne 6, [10]), (7, .bipush (-4), []), (9, .ireturn, [0]), (10, .aload_n 0, []), (11, .iconst 3, []), (12, .iconst (-1), []), (13, .invokevirtual 292, [207, 2, 1, 7, 175]), (16, .istore_n 1, []), (17, .iload_n 1, []), (18, .bipush (-9), []), (20, .if_icmp .ne 8, [28]), (23, .bipush (-9), []), (25, .goto 12, [37]), (28, .aload_n 0, []), (29, .aload_n 0, []), (30, .getfield 264, [7, 34, 0, 114]), (33, .iload_n 1, []), (34, .invokevirtual 95, [134, 2, 1, 7, 131]), (37, .ireturn, [0])]
def h_208 : List (Nat × Nat) := []
/-- LastStirredModel.ways(I)I -/
def k_209 : List (Nat × Instr × List Nat) := [(0, .iload_n 1, []), (1, .iconst 1, []), (2, .iconst 2, []), (3, .invokestatic 73, [127, 3, 1, 127]), (6, .ifCond .ne 5, [11]), (9, .iconst (-1), []), (10, .ireturn, [0]), (11, .aload_n 0, []), (12, .iload_n 1, []), (13, .iconst (-1), []), (14, .invokevirtual 289, [204, 2, 0, 7, 174]), (17, .aload_n 0, []), (18, .getfield 258, [7, 32, 0, 112]), (21, .ifCond .ne 11, [32]), (24, .aload_n 0, []), (25, .iconst 4, []), (26, .invokevirtual 87, [131, 1, 1, 7, 129]), (29, .goto 21, [50]), (32, .aload_n 0, []), (33, .aload_n 0, []), (34, .getfield 261, [7, 33, 0, 113]), (37, .i2l, []), (38, .aload_n 0, []), (39, .getfield 258, [7, 32, 0, 112]), (42, .i2l, []), (43, .aload_n 0, []), (44, .getfield 261, [7, 33, 0, 113]), (47, .invokevirtual 295, [136, 3, 1, 7, 176]), (50, .ireturn, [0])]
def h_209 : List (Nat × Nat) := []
/-- LastStirredModel.gather()I -/
def k_210 : List (Nat × Instr × List Nat) := [(0, .bipush (-9), []), (2, .istore_n 1, []), (3, .iconst 0, []), (4, .istore_n 2, []), (5, .aload_n 0, []), (6, .iconst 0, []), (7, .iconst 4, []), (8, .invokevirtual 238, [164, 2, 0, 7, 163]), (11, .iconst 0, []), (12, .istore_n 3, []), (13, .iload_n 3, []), (14, .aload_n 0, []), (15, .invokevirtual 277, [201, 0, 1, 7, 170]), (18, .if_icmp .ge 55, [73]), (21, .aload_n 0, []), (22, .iconst 4, []), (23, .iload_n 3, []), (24, .invokevirtual 280, [202, 2, 1, 7, 171]), (27, .ifCond .eq 40, [67]), (30, .aload_n 0, []), (31, .iconst 5, []), (32, .invokevirtual 246, [166, 1, 1, 7, 165]), (35, .aload_n 0, []), (36, .iconst 0, []), (37, .invokevirtual 246, [166, 1, 1, 7, 165]), (40, .if_icmp .gt 27, [67]), (43, .aload_n 0, []), (44, .iconst 5, []), (45, .invokevirtual 249, [196, 1, 1, 7, 166]), (48, .istore 4, []), (50, .iload_n 1, []), (51, .bipush (-9), []), (53, .if_icmp .eq 9, [62]), (56, .iload 4, []), (58, .iload_n 2, []), (59, .if_icmp .ge 8, [67]), (62, .iload_n 3, []), (63, .istore_n 1, []), (64, .iload 4, []), (66, .istore_n 2, []), (67, .iinc 3 1, []), (70, .goto (-57), [13]), (73, .iload_n 1, []), (74, .bipush (-9), []), (76, .if_icmp .ne 8, [84]), (79, .bipush (-9), []), (81, .goto 9, [90]), (84, .aload_n 0, []), (85, .iload_n 2, []), (86, .iload_n 1, []), (87, .invokevirtual 95, [134, 2, 1, 7, 131]), (90, .ireturn, [0])]
def h_210 : List (Nat × Nat) := [(13, 4)]
/-- LastStirredModel.part(II)I -/
def k_211 : List (Nat × Instr × List Nat) := [(0, .aload_n 0, []), (1, .iload_n 1, []), (2, .invokevirtual 169, [161, 1, 1, 7, 146]), (5, .ifCond .eq 16, [21]), (8, .aload_n 0, []), (9, .iload_n 2, []), (10, .invokevirtual 169, [161, 1, 1, 7, 146]), (13, .ifCond .eq 8, [21]), (16, .iload_n 1, []), (17, .iload_n 2, []), (18, .if_icmp .ne 5, [23]), (21, .iconst (-1), []), (22, .ireturn, [0]), (23, .bipush (-9), []), (25, .istore_n 3, []), (26, .iconst 0, []), (27, .istore 4, []), (29, .iconst 5, []), (30, .istore 5, []), (32, .aload_n 0, []), (33, .iconst 0, []), (34, .iconst 4, []), (35, .invokevirtual 238, [164, 2, 0, 7, 163]), (38, .iconst 0, []), (39, .istore 6, []), (41, .iload 6, []), (43, .aload_n 0, []), (44, .invokevirtual 277, [201, 0, 1, 7, 170]), (47, .if_icmp .ge 83, [130]), (50, .aload_n 0, []), (51, .iconst 4, []), (52, .iload 6, []), (54, .invokevirtual 280, [202, 2, 1, 7, 171]), (57, .ifCond .eq 67, [124]), (60, .aload_n 0, []), (61, .iload 5, []), (63, .iload_n 1, []), (64, .invokevirtual 155, [165, 2, 1, 7, 142]), (67, .ifCond .ne 57, [124]), (70, .aload_n 0, []), (71, .iload 5, []), (73, .iload_n 2, []), (74, .invokevirtual 155, [165, 2, 1, 7, 142]), (77, .ifCond .ne 47, [124]), (80, .aload_n 0, []), (81, .aload_n 0, []), (82, .iload 5, []), (84, .iconst 5, []), (85, .iload_n 1, []), (86, .iadd, []), (87, .invokevirtual 152, [162, 2, 1, 7, 141]), (90, .aload_n 0, []), (91, .iload 5, []), (93, .iconst 5, []), (94, .iload_n 2, []), (95, .iadd, []), (96, .invokevirtual 152, [162, 2, 1, 7, 141]), (99, .invokevirtual 175, [168, 2, 1, 7, 148]), (102, .istore 7, []), (104, .iload_n 3, []), (105, .bipush (-9), []), (107, .if_icmp .eq 10, [117]), (110, .iload 7, []), (112, .iload 4, []), (114, .if_icmp .le 10, [124]), (117, .iload 6, []), (119, .istore_n 3, []), (120, .iload 7, []), (122, .istore 4, []), (124, .iinc 6 1, []), (127, .goto (-86), [41]), (130, .iload_n 3, []), (131, .bipush (-9), []), (133, .if_icmp .ne 8, [141]), (136, .bipush (-9), []), (138, .goto 10, [148]), (141, .aload_n 0, []), (142, .iload 4, []), (144, .iload_n 3, []), (145, .invokevirtual 95, [134, 2, 1, 7, 131]), (148, .ireturn, [0])]
def h_211 : List (Nat × Nat) := [(41, 7)]
/-- LastStirredModel.wentIn(I)I -/
def k_212 : List (Nat × Instr × List Nat) := [(0, .iconst 0, []), (1, .istore_n 2, []), (2, .iconst 0, []), (3, .istore_n 3, []), (4, .iload_n 3, []), (5, .aload_n 0, []), (6, .getfield 149, [7, 13, 0, 93]), (9, .if_icmp .ge 21, [30]), (12, .iload_n 2, []), (13, .aload_n 0, []), (14, .iload_n 1, []), (15, .bipush 9, []), (17, .iload_n 3, []), (18, .iadd, []), (19, .invokevirtual 152, [162, 2, 1, 7, 141]), (22, .iadd, []), (23, .istore_n 2, []), (24, .iinc 3 1, []), (27, .goto (-23), [4]), (30, .iload_n 2, []), (31, .ireturn, [0])]
def h_212 : List (Nat × Nat) := [(4, 4)]
/-- LastStirredModel.worth(II)I -/
def k_213 : List (Nat × Instr × List Nat) := [(0, .aload_n 0, []), (1, .iload_n 1, []), (2, .invokevirtual 169, [161, 1, 1, 7, 146]), (5, .ifCond .eq 12, [17]), (8, .iload_n 2, []), (9, .iconst 0, []), (10, .iconst 3, []), (11, .invokestatic 73, [127, 3, 1, 127]), (14, .ifCond .ne 5, [19]), (17, .iconst (-1), []), (18, .ireturn, [0]), (19, .aload_n 0, []), (20, .iconst 0, []), (21, .iconst 4, []), (22, .invokevirtual 238, [164, 2, 0, 7, 163]), (25, .aload_n 0, []), (26, .iconst 4, []), (27, .iload_n 1, []), (28, .iload_n 2, []), (29, .invokevirtual 228, [188, 3, 1, 7, 161]), (32, .ifCond .ne 6, [38]), (35, .bipush (-4), []), (37, .ireturn, [0]), (38, .aload_n 0, []), (39, .iconst 4, []), (40, .invokevirtual 299, [212, 1, 1, 7, 177]), (43, .istore_n 3, []), (44, .aload_n 0, []), (45, .iconst 4, []), (46, .invokevirtual 231, [187, 1, 1, 7, 162]), (49, .pop, []), (50, .aload_n 0, []), (51, .aload_n 0, []), (52, .iconst 4, []), (53, .invokevirtual 299, [212, 1, 1, 7, 177]), (56, .iload_n 3, []), (57, .isub, []), (58, .aload_n 0, []), (59, .getfield 219, [7, 30, 0, 110]), (62, .invokestatic 302, [129, 1, 1, 178]), (65, .invokevirtual 95, [134, 2, 1, 7, 131]), (68, .ireturn, [0])]
def h_213 : List (Nat × Nat) := []
/-- LastStirredModel.stone(I)I -/
def k_214 : List (Nat × Instr × List Nat) := [(0, .aload_n 0, []), (1, .iload_n 1, []), (2, .invokevirtual 162, [160, 1, 1, 7, 144]), (5, .ifCond .eq 13, [18]), (8, .aload_n 0, []), (9, .getfield 29, [7, 12, 2, 92]), (12, .iload_n 1, []), (13, .iaload, []), (14, .iconst 1, []), (15, .if_icmp .ne 5, [20]), (18, .iconst (-1), []), (19, .ireturn, [0]), (20, .iconst 0, []), (21, .istore_n 2, []), (22, .bipush (-9), []), (24, .istore_n 3, []), (25, .bipush (-9), []), (27, .istore 4, []), (29, .iconst 0, []), (30, .istore 5, []), (32, .iload 5, []), (34, .aload_n 0, []), (35, .getfield 149, [7, 13, 0, 93]), (38, .if_icmp .ge 99, [137]), (41, .aload_n 0, []), (42, .iconst 0, []), (43, .iconst 5, []), (44, .iload 5, []), (46, .iadd, []), (47, .invokevirtual 152, [162, 2, 1, 7, 141]), (50, .istore 6, []), (52, .iload 6, []), (54, .bipush (-9), []), (56, .if_icmp .eq 75, [131]), (59, .aload_n 0, []), (60, .iload 6, []), (62, .iload_n 1, []), (63, .invokevirtual 175, [168, 2, 1, 7, 148]), (66, .iconst 1, []), (67, .if_icmp .ne 64, [131]), (70, .aload_n 0, []), (71, .iconst 0, []), (72, .putfield 194, [7, 26, 3, 106]), (75, .aload_n 0, []), (76, .iconst 0, []), (77, .iload 5, []), (79, .aload_n 0, []), (80, .iload 6, []), (82, .iload 6, []), (84, .aload_n 0, []), (85, .getfield 143, [7, 10, 0, 90]), (88, .irem, []), (89, .iload_n 1, []), (90, .aload_n 0, []), (91, .getfield 143, [7, 10, 0, 90]), (94, .irem, []), (95, .isub, []), (96, .iload 6, []), (98, .aload_n 0, []), (99, .getfield 143, [7, 10, 0, 90]), (102, .idiv, []), (103, .iload_n 1, []), (104, .aload_n 0, []), (105, .getfield 143, [7, 10, 0, 90]), (108, .idiv, []), (109, .isub, []), (110, .invokevirtual 207, [181, 3, 1, 7, 156]), (113, .invokevirtual 210, [182, 3, 1, 7, 157]), (116, .ifCond .eq 15, [131]), (119, .iinc 2 1, []), (122, .iload 5, []), (124, .istore_n 3, []), (125, .aload_n 0, []), (126, .getfield 201, [7, 27, 0, 107]), (129, .istore 4, []), (131, .iinc 5 1, []), (134, .goto (-102), [32]), (137, .iload_n 2, []), (138, .ifCond .le 11, [149]), (141, .aload_n 0, []), (142, .iconst 0, []), (143, .iload_n 3, []), (144, .iload 4, []), (146, .invokevirtual 216, [183, 3, 0, 7, 159]), (149, .iload_n 2, []), (150, .ireturn, [0])]
def h_214 : List (Nat × Nat) := [(32, 6)]
/-- LastStirredModel.drive(I)I -/
def k_215 : List (Nat × Instr × List Nat) := [(0, .iload_n 1, []), (1, .invokestatic 83, [139, 1, 1, 128]), (4, .ifCond .ne 5, [9]), (7, .iconst (-1), []), (8, .ireturn, [0]), (9, .aload_n 0, []), (10, .getfield 146, [7, 11, 0, 91]), (13, .ifCond .ne 6, [19]), (16, .bipush (-4), []), (18, .ireturn, [0]), (19, .aload_n 0, []), (20, .getfield 13, [7, 5, 2, 85]), (23, .iload_n 1, []), (24, .iaload, []), (25, .ifCond .ge 9, [34]), (28, .aload_n 0, []), (29, .iconst 1, []), (30, .invokevirtual 87, [131, 1, 1, 7, 129]), (33, .ireturn, [0]), (34, .iconst 1, []), (35, .istore_n 2, []), (36, .iconst 0, []), (37, .istore_n 3, []), (38, .iload_n 3, []), (39, .aload_n 0, []), (40, .getfield 13, [7, 5, 2, 85]), (43, .iload_n 1, []), (44, .iaload, []), (45, .if_icmp .ge 38, [83]), (48, .iload_n 2, []), (49, .ifCond .eq 26, [75]), (52, .aload_n 0, []), (53, .iload_n 1, []), (54, .iload_n 3, []), (55, .invokevirtual 91, [140, 2, 1, 7, 130]), (58, .iconst 0, []), (59, .aload_n 0, []), (60, .invokevirtual 277, [201, 0, 1, 7, 170]), (63, .iconst 1, []), (64, .isub, []), (65, .invokestatic 73, [127, 3, 1, 127]), (68, .ifCond .eq 7, [75]), (71, .iconst 1, []), (72, .goto 4, [76]), (75, .iconst 0, []), (76, .istore_n 2, []), (77, .iinc 3 1, []), (80, .goto (-42), [38]), (83, .iload_n 2, []), (84, .ifCond .ne 9, [93]), (87, .aload_n 0, []), (88, .iconst 3, []), (89, .invokevirtual 87, [131, 1, 1, 7, 129]), (92, .ireturn, [0]), (93, .aload_n 0, []), (94, .iconst 0, []), (95, .iconst 0, []), (96, .invokevirtual 152, [162, 2, 1, 7, 141]), (99, .bipush 40, []), (101, .aload_n 0, []), (102, .getfield 13, [7, 5, 2, 85]), (105, .iload_n 1, []), (106, .iaload, []), (107, .imul, []), (108, .iadd, []), (109, .sipush 10000, []), (112, .if_icmp .le 6, [118]), (115, .bipush (-6), []), (117, .ireturn, [0]), (118, .iconst 0, []), (119, .istore_n 3, []), (120, .iload_n 3, []), (121, .aload_n 0, []), (122, .getfield 13, [7, 5, 2, 85]), (125, .iload_n 1, []), (126, .iaload, []), (127, .if_icmp .ge 23, [150]), (130, .aload_n 0, []), (131, .iconst 0, []), (132, .aload_n 0, []), (133, .iload_n 1, []), (134, .iload_n 3, []), (135, .invokevirtual 91, [140, 2, 1, 7, 130]), (138, .invokevirtual 252, [189, 2, 1, 7, 167]), (141, .ifCond .eq 9, [150]), (144, .iinc 3 1, []), (147, .goto (-27), [120]), (150, .aload_n 0, []), (151, .aload_n 0, []), (152, .iconst 0, []), (153, .invokevirtual 246, [166, 1, 1, 7, 165]), (156, .iload_n 3, []), (157, .invokevirtual 95, [134, 2, 1, 7, 131]), (160, .ireturn, [0])]
def h_215 : List (Nat × Nat) := [(38, 4), (120, 4)]
/-- LastStirredModel.isOpen(IZ)Z -/
def k_216 : List (Nat × Instr × List Nat) := [(0, .aload_n 0, []), (1, .getfield 29, [7, 12, 2, 92]), (4, .iload_n 1, []), (5, .iaload, []), (6, .iconst 1, []), (7, .if_icmp .eq 31, [38]), (10, .aload_n 0, []), (11, .getfield 29, [7, 12, 2, 92]), (14, .iload_n 1, []), (15, .iaload, []), (16, .iconst 2, []), (17, .if_icmp .eq 21, [38]), (20, .iload_n 2, []), (21, .ifCond .ne 13, [34]), (24, .aload_n 0, []), (25, .getfield 29, [7, 12, 2, 92]), (28, .iload_n 1, []), (29, .iaload, []), (30, .iconst 4, []), (31, .if_icmp .eq 7, [38]), (34, .iconst 1, []), (35, .goto 4, [39]), (38, .iconst 0, []), (39, .ireturn, [1])]
def h_216 : List (Nat × Nat) := []
/-- LastStirredModel.reached(IZ)I -/
def k_217 : List (Nat × Instr × List Nat) := [(0, .aload_n 0, []), (1, .getfield 29, [7, 12, 2, 92]), (4, .iload_n 1, []), (5, .iaload, []), (6, .iconst 1, []), (7, .if_icmp .eq 13, [20]), (10, .aload_n 0, []), (11, .getfield 29, [7, 12, 2, 92]), (14, .iload_n 1, []), (15, .iaload, []), (16, .iconst 2, []), (17, .if_icmp .ne 5, [22]), (20, .iconst 0, []), (21, .ireturn, [0]), (22, .iconst 1, []), (23, .iload_n 1, []), (24, .ishl, []), (25, .istore_n 3, []), (26, .iconst 1, []), (27, .istore 4, []), (29, .iload 4, []), (31, .ifCond .eq 161, [192]), (34, .iload_n 3, []), (35, .istore 5, []), (37, .iconst 0, []), (38, .istore 6, []), (40, .iload 6, []), (42, .aload_n 0, []), (43, .getfield 146, [7, 11, 0, 91]), (46, .if_icmp .ge 130, [176]), (49, .iconst 0, []), (50, .istore 7, []), (52, .iconst 0, []), (53, .istore 8, []), (55, .iload 8, []), (57, .iconst 4, []), (58, .if_icmp .ge 86, [144]), (61, .aload_n 0, []), (62, .iload 6, []), (64, .iload 8, []), (66, .iconst 1, []), (67, .if_icmp .ne 7, [74]), (70, .iconst 1, []), (71, .goto 14, [85]), (74, .iload 8, []), (76, .iconst 3, []), (77, .if_icmp .ne 7, [84]), (80, .iconst (-1), []), (81, .goto 4, [85]), (84, .iconst 0, []), (85, .iload 8, []), (87, .ifCond .ne 7, [94]), (90, .iconst (-1), []), (91, .goto 14, [105]), (94, .iload 8, []), (96, .iconst 2, []), (97, .if_icmp .ne 7, [104]), (100, .iconst 1, []), (101, .goto 4, [105]), (104, .iconst 0, []), (105, .invokevirtual 207, [181, 3, 1, 7, 156]), (108, .istore 9, []), (110, .iload 7, []), (112, .ifCond .ne 19, [131]), (115, .iload 9, []), (117, .bipush (-9), []), (119, .if_icmp .eq 16, [135]), (122, .iload_n 3, []), (123, .iload 9, []), (125, .invokestatic 305, [128, 2, 1, 179]), (128, .ifCond .eq 7, [135]), (131, .iconst 1, []), (132, .goto 4, [136]), (135, .iconst 0, []), (136, .istore 7, []), (138, .iinc 8 1, []), (141, .goto (-86), [55]), (144, .iload_n 3, []), (145, .iload 7, []), (147, .ifCond .eq 20, [167]), (150, .aload_n 0, []), (151, .iload 6, []), (153, .iload_n 2, []), (154, .invokevirtual 308, [216, 2, 1, 7, 180]), (157, .ifCond .eq 10, [167]), (160, .iconst 1, []), (161, .iload 6, []), (163, .ishl, []), (164, .goto 4, [168]), (167, .iconst 0, []), (168, .ior, []), (169, .istore_n 3, []), (170, .iinc 6 1, []), (173, .goto (-133), [40]), (176, .iload_n 3, []), (177, .iload 5, []), (179, .if_icmp .eq 7, [186]), (182, .iconst 1, []), (183, .goto 4, [187]), (186, .iconst 0, []), (187, .istore 4, []), (189, .goto (-160), [29]), (192, .iload_n 3, []), (193, .ireturn, [0])]
def h_217 : List (Nat × Nat) := [(29, 5), (40, 7), (55, 9)]
/-- LastStirredModel.reach(II)I -/
def k_218 : List (Nat × Instr × List Nat) := [(0, .aload_n 0, []), (1, .iload_n 1, []), (2, .invokevirtual 162, [160, 1, 1, 7, 144]), (5, .ifCond .eq 30, [35]), (8, .iload_n 2, []), (9, .iconst 0, []), (10, .iconst 1, []), (11, .invokestatic 73, [127, 3, 1, 127]), (14, .ifCond .eq 21, [35]), (17, .aload_n 0, []), (18, .iload_n 1, []), (19, .iload_n 2, []), (20, .iconst 1, []), (21, .if_icmp .ne 7, [28]), (24, .iconst 1, []), (25, .goto 4, [29]), (28, .iconst 0, []), (29, .invokevirtual 312, [217, 2, 1, 7, 181]), (32, .goto 4, [36]), (35, .iconst (-1), []), (36, .ireturn, [0])]
def h_218 : List (Nat × Nat) := []
/-- LastStirredModel.never()I -/
def k_219 : List (Nat × Instr × List Nat) := [(0, .iconst 0, []), (1, .istore_n 1, []), (2, .bipush (-9), []), (4, .istore_n 2, []), (5, .iconst 0, []), (6, .istore_n 3, []), (7, .iload_n 3, []), (8, .aload_n 0, []), (9, .getfield 149, [7, 13, 0, 93]), (12, .if_icmp .ge 95, [107]), (15, .iload_n 3, []), (16, .iconst 1, []), (17, .iadd, []), (18, .istore 4, []), (20, .iload 4, []), (22, .aload_n 0, []), (23, .getfield 149, [7, 13, 0, 93]), (26, .if_icmp .ge 75, [101]), (29, .aload_n 0, []), (30, .iconst 0, []), (31, .iload_n 3, []), (32, .invokevirtual 155, [165, 2, 1, 7, 142]), (35, .ifCond .ne 60, [95]), (38, .aload_n 0, []), (39, .iconst 0, []), (40, .iload 4, []), (42, .invokevirtual 155, [165, 2, 1, 7, 142]), (45, .ifCond .ne 50, [95]), (48, .aload_n 0, []), (49, .aload_n 0, []), (50, .iconst 0, []), (51, .iconst 5, []), (52, .iload_n 3, []), (53, .iadd, []), (54, .invokevirtual 152, [162, 2, 1, 7, 141]), (57, .iconst 1, []), (58, .invokevirtual 312, [217, 2, 1, 7, 181]), (61, .aload_n 0, []), (62, .iconst 0, []), (63, .iconst 5, []), (64, .iload 4, []), (66, .iadd, []), (67, .invokevirtual 152, [162, 2, 1, 7, 141]), (70, .invokestatic 305, [128, 2, 1, 179]), (73, .ifCond .ne 22, [95]), (76, .iload_n 1, []), (77, .ifCond .ne 13, [90]), (80, .bipush 10, []), (82, .iload_n 3, []), (83, .imul, []), (84, .iload 4, []), (86, .iadd, []), (87, .goto 4, [91]), (90, .iload_n 2, []), (91, .istore_n 2, []), (92, .iinc 1 1, []), (95, .iinc 4 1, []), (98, .goto (-78), [20]), (101, .iinc 3 1, []), (104, .goto (-97), [7]), (107, .aload_n 0, []), (108, .iload_n 2, []), (109, .iload_n 1, []), (110, .invokevirtual 95, [134, 2, 1, 7, 131]), (113, .ireturn, [0])]
def h_219 : List (Nat × Nat) := [(7, 4), (20, 5)]
/-- LastStirredModel.wolfTo(II)I -/
def k_220 : List (Nat × Instr × List Nat) := [(0, .iload_n 2, []), (1, .iconst 4, []), (2, .if_icmp .ne 7, [9]), (5, .iload_n 1, []), (6, .goto 45, [51]), (9, .aload_n 0, []), (10, .iload_n 1, []), (11, .iload_n 2, []), (12, .iconst 1, []), (13, .if_icmp .ne 7, [20]), (16, .iconst 1, []), (17, .goto 13, [30]), (20, .iload_n 2, []), (21, .iconst 3, []), (22, .if_icmp .ne 7, [29]), (25, .iconst (-1), []), (26, .goto 4, [30]), (29, .iconst 0, []), (30, .iload_n 2, []), (31, .ifCond .ne 7, [38]), (34, .iconst (-1), []), (35, .goto 13, [48]), (38, .iload_n 2, []), (39, .iconst 2, []), (40, .if_icmp .ne 7, [47]), (43, .iconst 1, []), (44, .goto 4, [48]), (47, .iconst 0, []), (48, .invokevirtual 207, [181, 3, 1, 7, 156]), (51, .istore_n 3, []), (52, .iload_n 3, []), (53, .bipush (-9), []), (55, .if_icmp .eq 32, [87]), (58, .iload_n 2, []), (59, .iconst 4, []), (60, .if_icmp .eq 23, [83]), (63, .aload_n 0, []), (64, .getfield 29, [7, 12, 2, 92]), (67, .iload_n 3, []), (68, .iaload, []), (69, .iconst 1, []), (70, .if_icmp .eq 17, [87]), (73, .aload_n 0, []), (74, .getfield 29, [7, 12, 2, 92]), (77, .iload_n 3, []), (78, .iaload, []), (79, .iconst 2, []), (80, .if_icmp .eq 7, [87]), (83, .iload_n 3, []), (84, .goto 5, [89]), (87, .bipush (-9), []), (89, .ireturn, [0])]
def h_220 : List (Nat × Nat) := [(52, 4)]
/-- LastStirredModel.keeps(IIII)Z -/
def k_221 : List (Nat × Instr × List Nat) := [(0, .aload_n 0, []), (1, .iload_n 1, []), (2, .iload_n 1, []), (3, .iconst 1, []), (4, .iadd, []), (5, .invokevirtual 238, [164, 2, 0, 7, 163]), (8, .iload_n 2, []), (9, .bipush (-9), []), (11, .if_icmp .eq 14, [25]), (14, .aload_n 0, []), (15, .iload_n 1, []), (16, .iconst 1, []), (17, .iadd, []), (18, .iload_n 2, []), (19, .invokevirtual 252, [189, 2, 1, 7, 167]), (22, .ifCond .eq 18, [40]), (25, .aload_n 0, []), (26, .iload_n 1, []), (27, .iconst 1, []), (28, .iadd, []), (29, .invokevirtual 246, [166, 1, 1, 7, 165]), (32, .aload_n 0, []), (33, .iload_n 1, []), (34, .invokevirtual 246, [166, 1, 1, 7, 165]), (37, .if_icmp .le 5, [42]), (40, .iconst 0, []), (41, .ireturn, [1]), (42, .iconst 1, []), (43, .istore 5, []), (45, .iconst 0, []), (46, .istore 6, []), (48, .iload 6, []), (50, .iconst 5, []), (51, .if_icmp .ge 71, [122]), (54, .iload 5, []), (56, .ifCond .eq 66, [122]), (59, .aload_n 0, []), (60, .iload_n 3, []), (61, .iload 6, []), (63, .invokevirtual 316, [220, 2, 1, 7, 182]), (66, .istore 7, []), (68, .iload 7, []), (70, .bipush (-9), []), (72, .if_icmp .eq 44, [116]), (75, .aload_n 0, []), (76, .iload_n 1, []), (77, .iconst 1, []), (78, .iadd, []), (79, .iload 7, []), (81, .bipush (-9), []), (83, .invokevirtual 165, [167, 3, 1, 7, 145]), (86, .bipush (-9), []), (88, .if_icmp .ne 25, [113]), (91, .iload 4, []), (93, .iconst 1, []), (94, .if_icmp .eq 15, [109]), (97, .aload_n 0, []), (98, .iload_n 1, []), (99, .iconst 1, []), (100, .iadd, []), (101, .iload 7, []), (103, .invokevirtual 319, [222, 2, 1, 7, 183]), (106, .ifCond .eq 7, [113]), (109, .iconst 1, []), (110, .goto 4, [114]), (113, .iconst 0, []), (114, .istore 5, []), (116, .iinc 6 1, []), (119, .goto (-71), [48]), (122, .iload 5, []), (124, .ireturn, [1])]
def h_221 : List (Nat × Nat) := [(48, 7)]
/-- LastStirredModel.canKeep(II)Z -/
def k_222 : List (Nat × Instr × List Nat) := [(0, .iconst 0, []), (1, .istore_n 3, []), (2, .iconst (-1), []), (3, .istore 4, []), (5, .iload 4, []), (7, .aload_n 0, []), (8, .invokevirtual 277, [201, 0, 1, 7, 170]), (11, .if_icmp .ge 32, [43]), (14, .iload_n 3, []), (15, .ifCond .ne 28, [43]), (18, .aload_n 0, []), (19, .iload_n 1, []), (20, .iload 4, []), (22, .ifCond .ge 8, [30]), (25, .bipush (-9), []), (27, .goto 5, [32]), (30, .iload 4, []), (32, .iload_n 2, []), (33, .invokevirtual 322, [223, 3, 1, 7, 184]), (36, .istore_n 3, []), (37, .iinc 4 1, []), (40, .goto (-35), [5]), (43, .iload_n 3, []), (44, .ireturn, [1])]
def h_222 : List (Nat × Nat) := [(5, 5)]
/-- LastStirredModel.keepsLast(III)Z -/
def k_223 : List (Nat × Instr × List Nat) := [(0, .aload_n 0, []), (1, .iload_n 1, []), (2, .iload_n 1, []), (3, .iconst 1, []), (4, .iadd, []), (5, .invokevirtual 238, [164, 2, 0, 7, 163]), (8, .iload_n 2, []), (9, .bipush (-9), []), (11, .if_icmp .eq 14, [25]), (14, .aload_n 0, []), (15, .iload_n 1, []), (16, .iconst 1, []), (17, .iadd, []), (18, .iload_n 2, []), (19, .invokevirtual 252, [189, 2, 1, 7, 167]), (22, .ifCond .eq 18, [40]), (25, .aload_n 0, []), (26, .iload_n 1, []), (27, .iconst 1, []), (28, .iadd, []), (29, .invokevirtual 246, [166, 1, 1, 7, 165]), (32, .aload_n 0, []), (33, .iload_n 1, []), (34, .invokevirtual 246, [166, 1, 1, 7, 165]), (37, .if_icmp .le 5, [42]), (40, .iconst 0, []), (41, .ireturn, [1]), (42, .iconst 1, []), (43, .istore 4, []), (45, .iconst 0, []), (46, .istore 5, []), (48, .iload 5, []), (50, .iconst 5, []), (51, .if_icmp .ge 53, [104]), (54, .aload_n 0, []), (55, .iload_n 3, []), (56, .iload 5, []), (58, .invokevirtual 316, [220, 2, 1, 7, 182]), (61, .istore 6, []), (63, .iload 4, []), (65, .ifCond .eq 30, [95]), (68, .iload 6, []), (70, .bipush (-9), []), (72, .if_icmp .eq 19, [91]), (75, .aload_n 0, []), (76, .iload_n 1, []), (77, .iconst 1, []), (78, .iadd, []), (79, .iload 6, []), (81, .bipush (-9), []), (83, .invokevirtual 165, [167, 3, 1, 7, 145]), (86, .bipush (-9), []), (88, .if_icmp .ne 7, [95]), (91, .iconst 1, []), (92, .goto 4, [96]), (95, .iconst 0, []), (96, .istore 4, []), (98, .iinc 5 1, []), (101, .goto (-53), [48]), (104, .iload 4, []), (106, .ireturn, [1])]
def h_223 : List (Nat × Nat) := [(48, 6)]
/-- LastStirredModel.wolf(II)I -/
def k_224 : List (Nat × Instr × List Nat) := [(0, .aload_n 0, []), (1, .iload_n 1, []), (2, .invokevirtual 162, [160, 1, 1, 7, 144]), (5, .ifCond .eq 32, [37]), (8, .iload_n 2, []), (9, .iconst 1, []), (10, .iconst 2, []), (11, .invokestatic 73, [127, 3, 1, 127]), (14, .ifCond .eq 23, [37]), (17, .aload_n 0, []), (18, .getfield 29, [7, 12, 2, 92]), (21, .iload_n 1, []), (22, .iaload, []), (23, .iconst 1, []), (24, .if_icmp .eq 13, [37]), (27, .aload_n 0, []), (28, .getfield 29, [7, 12, 2, 92]), (31, .iload_n 1, []), (32, .iaload, []), (33, .iconst 2, []), (34, .if_icmp .ne 5, [39]), (37, .iconst (-1), []), (38, .ireturn, [0]), (39, .aload_n 0, []), (40, .iconst 0, []), (41, .iload_n 1, []), (42, .bipush (-9), []), (44, .invokevirtual 165, [167, 3, 1, 7, 145]), (47, .bipush (-9), []), (49, .if_icmp .eq 6, [55]), (52, .bipush (-4), []), (54, .ireturn, [0]), (55, .aload_n 0, []), (56, .iconst 0, []), (57, .iconst 4, []), (58, .invokevirtual 238, [164, 2, 0, 7, 163]), (61, .iconst (-1), []), (62, .istore_n 3, []), (63, .iload_n 3, []), (64, .aload_n 0, []), (65, .invokevirtual 277, [201, 0, 1, 7, 170]), (68, .if_icmp .ge 45, [113]), (71, .aload_n 0, []), (72, .iconst 4, []), (73, .iload_n 3, []), (74, .ifCond .ge 8, [82]), (77, .bipush (-9), []), (79, .goto 4, [83]), (82, .iload_n 3, []), (83, .iload_n 1, []), (84, .iload_n 2, []), (85, .invokevirtual 325, [221, 4, 1, 7, 185]), (88, .ifCond .eq 19, [107]), (91, .aload_n 0, []), (92, .iload_n 3, []), (93, .ifCond .ge 8, [101]), (96, .bipush (-9), []), (98, .goto 4, [102]), (101, .iload_n 3, []), (102, .iconst 1, []), (103, .invokevirtual 95, [134, 2, 1, 7, 131]), (106, .ireturn, [0]), (107, .iinc 3 1, []), (110, .goto (-47), [63]), (113, .aload_n 0, []), (114, .bipush (-9), []), (116, .iconst 0, []), (117, .invokevirtual 95, [134, 2, 1, 7, 131]), (120, .ireturn, [0])]
def h_224 : List (Nat × Nat) := [(63, 4)]
/-- LastStirredModel.needDawn(I)I -/
def k_225 : List (Nat × Instr × List Nat) := [(0, .aload_n 0, []), (1, .getfield 13, [7, 5, 2, 85]), (4, .iload_n 1, []), (5, .iaload, []), (6, .ifCond .ge 9, [15]), (9, .aload_n 0, []), (10, .iconst 1, []), (11, .invokevirtual 87, [131, 1, 1, 7, 129]), (14, .ireturn, [0]), (15, .aload_n 0, []), (16, .getfield 13, [7, 5, 2, 85]), (19, .iload_n 1, []), (20, .iaload, []), (21, .aload_n 0, []), (22, .getfield 149, [7, 13, 0, 93]), (25, .if_icmp .eq 9, [34]), (28, .aload_n 0, []), (29, .iconst 5, []), (30, .invokevirtual 87, [131, 1, 1, 7, 129]), (33, .ireturn, [0]), (34, .iconst 1, []), (35, .istore_n 2, []), (36, .iconst 0, []), (37, .istore_n 3, []), (38, .iload_n 3, []), (39, .aload_n 0, []), (40, .getfield 149, [7, 13, 0, 93]), (43, .if_icmp .ge 43, [86]), (46, .iload_n 2, []), (47, .ifCond .eq 31, [78]), (50, .aload_n 0, []), (51, .aload_n 0, []), (52, .iload_n 1, []), (53, .iload_n 3, []), (54, .invokevirtual 91, [140, 2, 1, 7, 130]), (57, .invokevirtual 162, [160, 1, 1, 7, 144]), (60, .ifCond .ne 14, [74]), (63, .aload_n 0, []), (64, .iload_n 1, []), (65, .iload_n 3, []), (66, .invokevirtual 91, [140, 2, 1, 7, 130]), (69, .bipush (-9), []), (71, .if_icmp .ne 7, [78]), (74, .iconst 1, []), (75, .goto 4, [79]), (78, .iconst 0, []), (79, .istore_n 2, []), (80, .iinc 3 1, []), (83, .goto (-45), [38]), (86, .iload_n 2, []), (87, .ifCond .eq 7, [94]), (90, .iconst 0, []), (91, .goto 8, [99]), (94, .aload_n 0, []), (95, .iconst 3, []), (96, .invokevirtual 87, [131, 1, 1, 7, 129]), (99, .ireturn, [0])]
def h_225 : List (Nat × Nat) := [(38, 4)]
/-- LastStirredModel.dawn(I)I -/
def k_226 : List (Nat × Instr × List Nat) := [(0, .iload_n 1, []), (1, .invokestatic 83, [139, 1, 1, 128]), (4, .ifCond .ne 5, [9]), (7, .iconst (-1), []), (8, .ireturn, [0]), (9, .aload_n 0, []), (10, .iload_n 1, []), (11, .invokevirtual 329, [225, 1, 1, 7, 186]), (14, .istore_n 2, []), (15, .iload_n 2, []), (16, .ifCond .ge 5, [21]), (19, .iload_n 2, []), (20, .ireturn, [0]), (21, .aload_n 0, []), (22, .iconst 2, []), (23, .iload_n 1, []), (24, .invokevirtual 292, [207, 2, 1, 7, 175]), (27, .istore_n 3, []), (28, .iload_n 3, []), (29, .bipush (-9), []), (31, .if_icmp .ne 8, [39]), (34, .bipush (-9), []), (36, .goto 12, [48]), (39, .aload_n 0, []), (40, .aload_n 0, []), (41, .getfield 261, [7, 33, 0, 113]), (44, .iload_n 3, []), (45, .invokevirtual 95, [134, 2, 1, 7, 131]), (48, .ireturn, [0])]
def h_226 : List (Nat × Nat) := []
/-- LastStirredModel.who(I)I -/
def k_227 : List (Nat × Instr × List Nat) := [(0, .iload_n 1, []), (1, .invokestatic 83, [139, 1, 1, 128]), (4, .ifCond .ne 5, [9]), (7, .iconst (-1), []), (8, .ireturn, [0]), (9, .aload_n 0, []), (10, .iload_n 1, []), (11, .invokevirtual 329, [225, 1, 1, 7, 186]), (14, .istore_n 2, []), (15, .iload_n 2, []), (16, .ifCond .ge 5, [21]), (19, .iload_n 2, []), (20, .ireturn, [0]), (21, .aload_n 0, []), (22, .iconst 2, []), (23, .iload_n 1, []), (24, .invokevirtual 292, [207, 2, 1, 7, 175]), (27, .istore_n 3, []), (28, .iload_n 3, []), (29, .bipush (-9), []), (31, .if_icmp .eq 7, [38]), (34, .iload_n 3, []), (35, .ifCond .ne 8, [43]), (38, .bipush (-9), []), (40, .goto 15, [55]), (43, .aload_n 0, []), (44, .aload_n 0, []), (45, .getfield 270, [7, 36, 0, 116]), (48, .aload_n 0, []), (49, .getfield 267, [7, 35, 0, 115]), (52, .invokevirtual 95, [134, 2, 1, 7, 131]), (55, .ireturn, [0])]
def h_227 : List (Nat × Nat) := []
/-- LastStirredModel.breed(I)I -/
def k_228 : List (Nat × Instr × List Nat) := [(0, .iload_n 1, []), (1, .iconst 0, []), (2, .iconst 5, []), (3, .invokestatic 73, [127, 3, 1, 127]), (6, .ifCond .ne 5, [11]), (9, .iconst (-1), []), (10, .ireturn, [0]), (11, .aload_n 0, []), (12, .getfield 146, [7, 11, 0, 91]), (15, .ifCond .ne 6, [21]), (18, .bipush (-4), []), (20, .ireturn, [0]), (21, .iconst 0, []), (22, .istore_n 2, []), (23, .iload_n 2, []), (24, .aload_n 0, []), (25, .getfield 149, [7, 13, 0, 93]), (28, .if_icmp .ge 28, [56]), (31, .aload_n 0, []), (32, .getfield 58, [7, 37, 2, 117]), (35, .iload_n 2, []), (36, .aload_n 0, []), (37, .getfield 32, [7, 14, 2, 94]), (40, .iload_n 2, []), (41, .iaload, []), (42, .iastore, []), (43, .aload_n 0, []), (44, .getfield 32, [7, 14, 2, 94]), (47, .iload_n 2, []), (48, .iload_n 1, []), (49, .iastore, []), (50, .iinc 2 1, []), (53, .goto (-30), [23]), (56, .aload_n 0, []), (57, .iconst 2, []), (58, .iconst (-1), []), (59, .invokevirtual 292, [207, 2, 1, 7, 175]), (62, .istore_n 2, []), (63, .iconst 0, []), (64, .istore_n 3, []), (65, .iload_n 3, []), (66, .aload_n 0, []), (67, .getfield 149, [7, 13, 0, 93]), (70, .if_icmp .ge 21, [91]), (73, .aload_n 0, []), (74, .getfield 32, [7, 14, 2, 94]), (77, .iload_n 3, []), (78, .aload_n 0, []), (79, .getfield 58, [7, 37, 2, 117]), (82, .iload_n 3, []), (83, .iaload, []), (84, .iastore, []), (85, .iinc 3 1, []), (88, .goto (-23), [65]), (91, .iload_n 2, []), (92, .ireturn, [0])]
def h_228 : List (Nat × Nat) := [(23, 3), (65, 4)]
/-- LastStirredModel.counted(I)I -/
def k_229 : List (Nat × Instr × List Nat) := [(0, .iconst 0, []), (1, .istore_n 2, []), (2, .iconst 0, []), (3, .istore_n 3, []), (4, .iload_n 3, []), (5, .aload_n 0, []), (6, .getfield 149, [7, 13, 0, 93]), (9, .if_icmp .ge 30, [39]), (12, .iload_n 2, []), (13, .iload_n 1, []), (14, .iconst 4, []), (15, .if_icmp .ne 15, [30]), (18, .aload_n 0, []), (19, .iload_n 3, []), (20, .invokevirtual 178, [173, 1, 1, 7, 149]), (23, .ifCond .eq 7, [30]), (26, .iconst 1, []), (27, .goto 4, [31]), (30, .iconst 0, []), (31, .iadd, []), (32, .istore_n 2, []), (33, .iinc 3 1, []), (36, .goto (-32), [4]), (39, .iconst 0, []), (40, .istore_n 3, []), (41, .iload_n 3, []), (42, .iconst 3, []), (43, .if_icmp .ge 31, [74]), (46, .iload_n 2, []), (47, .iload_n 1, []), (48, .iconst 5, []), (49, .if_icmp .ne 16, [65]), (52, .aload_n 0, []), (53, .getfield 47, [7, 25, 2, 105]), (56, .iload_n 3, []), (57, .baload, []), (58, .ifCond .eq 7, [65]), (61, .iconst 1, []), (62, .goto 4, [66]), (65, .iconst 0, []), (66, .iadd, []), (67, .istore_n 2, []), (68, .iinc 3 1, []), (71, .goto (-30), [41]), (74, .iconst 0, []), (75, .istore_n 3, []), (76, .iload_n 3, []), (77, .bipush 6, []), (79, .if_icmp .ge 32, [111]), (82, .iload_n 2, []), (83, .iload_n 1, []), (84, .bipush 6, []), (86, .if_icmp .ne 16, [102]), (89, .aload_n 0, []), (90, .getfield 13, [7, 5, 2, 85]), (93, .iload_n 3, []), (94, .iaload, []), (95, .ifCond .lt 7, [102]), (98, .iconst 1, []), (99, .goto 4, [103]), (102, .iconst 0, []), (103, .iadd, []), (104, .istore_n 2, []), (105, .iinc 3 1, []), (108, .goto (-32), [76]), (111, .iconst 0, []), (112, .istore_n 3, []), (113, .iload_n 3, []), (114, .iconst 4, []), (115, .if_icmp .ge 32, [147]), (118, .iload_n 2, []), (119, .iload_n 1, []), (120, .bipush 7, []), (122, .if_icmp .ne 16, [138]), (125, .aload_n 0, []), (126, .getfield 22, [7, 8, 2, 88]), (129, .iload_n 3, []), (130, .iaload, []), (131, .ifCond .lt 7, [138]), (134, .iconst 1, []), (135, .goto 4, [139]), (138, .iconst 0, []), (139, .iadd, []), (140, .istore_n 2, []), (141, .iinc 3 1, []), (144, .goto (-31), [113]), (147, .iload_n 1, []), (148, .tableswitch 55 0 3 #[32, 37, 42, 48], [203, 180, 185, 190, 196]), (180, .aload_n 0, []), (181, .getfield 146, [7, 11, 0, 91]), (184, .ireturn, [0]), (185, .aload_n 0, []), (186, .getfield 149, [7, 13, 0, 93]), (189, .ireturn, [0]), (190, .aload_n 0, []), (191, .iconst 0, []), (192, .invokevirtual 246, [166, 1, 1, 7, 165]), (195, .ireturn, [0]), (196, .aload_n 0, []), (197, .iconst 0, []), (198, .iconst 0, []), (199, .invokevirtual 152, [162, 2, 1, 7, 141]), (202, .ireturn, [0]), (203, .iload_n 2, []), (204, .ireturn, [0])]
def h_229 : List (Nat × Nat) := [(4, 4), (41, 4), (76, 4), (113, 4)]
/-- LastStirredModel.count(I)I -/
def k_230 : List (Nat × Instr × List Nat) := [(0, .iload_n 1, []), (1, .iconst 0, []), (2, .bipush 7, []), (4, .invokestatic 73, [127, 3, 1, 127]), (7, .ifCond .eq 11, [18]), (10, .aload_n 0, []), (11, .iload_n 1, []), (12, .invokevirtual 332, [229, 1, 1, 7, 187]), (15, .goto 4, [19]), (18, .iconst (-1), []), (19, .ireturn, [0])]
def h_230 : List (Nat × Nat) := []
/-- LastStirredModel.mix(J)V -/
def k_231 : List (Nat × Instr × List Nat) := [(0, .aload_n 0, []), (1, .ldc2_w 335, [7, 1415]), (4, .aload_n 0, []), (5, .getfield 337, [7, 38, 1, 118]), (8, .lmul, []), (9, .lload_n 1, []), (10, .ladd, []), (11, .putfield 337, [7, 38, 1, 118]), (14, .return_, [])]
def h_231 : List (Nat × Nat) := []
/-- LastStirredModel.mixFlock()V -/
def k_232 : List (Nat × Instr × List Nat) := [(0, .iconst 0, []), (1, .istore_n 1, []), (2, .iload_n 1, []), (3, .aload_n 0, []), (4, .getfield 146, [7, 11, 0, 91]), (7, .if_icmp .ge 20, [27]), (10, .aload_n 0, []), (11, .aload_n 0, []), (12, .getfield 29, [7, 12, 2, 92]), (15, .iload_n 1, []), (16, .iaload, []), (17, .i2l, []), (18, .invokevirtual 340, [231, 1, 0, 7, 188]), (21, .iinc 1 1, []), (24, .goto (-22), [2]), (27, .iconst 0, []), (28, .istore_n 1, []), (29, .iload_n 1, []), (30, .aload_n 0, []), (31, .getfield 149, [7, 13, 0, 93]), (34, .if_icmp .ge 33, [67]), (37, .iconst 0, []), (38, .istore_n 2, []), (39, .iload_n 2, []), (40, .iconst 3, []), (41, .if_icmp .ge 20, [61]), (44, .aload_n 0, []), (45, .aload_n 0, []), (46, .iload_n 1, []), (47, .iload_n 2, []), (48, .invokevirtual 172, [171, 2, 1, 7, 147]), (51, .i2l, []), (52, .invokevirtual 340, [231, 1, 0, 7, 188]), (55, .iinc 2 1, []), (58, .goto (-19), [39]), (61, .iinc 1 1, []), (64, .goto (-35), [29]), (67, .iconst 1, []), (68, .istore_n 1, []), (69, .iload_n 1, []), (70, .iconst 4, []), (71, .if_icmp .gt 20, [91]), (74, .aload_n 0, []), (75, .aload_n 0, []), (76, .iconst 0, []), (77, .iload_n 1, []), (78, .invokevirtual 152, [162, 2, 1, 7, 141]), (81, .i2l, []), (82, .invokevirtual 340, [231, 1, 0, 7, 188]), (85, .iinc 1 1, []), (88, .goto (-19), [69]), (91, .iconst 0, []), (92, .istore_n 1, []), (93, .iload_n 1, []), (94, .iconst 3, []), (95, .if_icmp .ge 37, [132]), (98, .aload_n 0, []), (99, .aload_n 0, []), (100, .getfield 47, [7, 25, 2, 105]), (103, .iload_n 1, []), (104, .baload, []), (105, .ifCond .eq 15, [120]), (108, .aload_n 0, []), (109, .iconst 1, []), (110, .iload_n 1, []), (111, .iadd, []), (112, .iconst 0, []), (113, .invokevirtual 152, [162, 2, 1, 7, 141]), (116, .i2l, []), (117, .goto 6, [123]), (120, .ldc2_w 344, [8, 1420]), (123, .invokevirtual 340, [231, 1, 0, 7, 188]), (126, .iinc 1 1, []), (129, .goto (-36), [93]), (132, .return_, [])]
def h_232 : List (Nat × Nat) := [(2, 2), (29, 2), (39, 3), (69, 2), (93, 2)]
/-- LastStirredModel.digest()J -/
def k_233 : List (Nat × Instr × List Nat) := [(0, .aload_n 0, []), (1, .ldc2_w 346, [6, 1410]), (4, .putfield 337, [7, 38, 1, 118]), (7, .iconst 0, []), (8, .istore_n 1, []), (9, .iload_n 1, []), (10, .bipush 8, []), (12, .if_icmp .ge 19, [31]), (15, .aload_n 0, []), (16, .aload_n 0, []), (17, .iload_n 1, []), (18, .invokevirtual 332, [229, 1, 1, 7, 187]), (21, .i2l, []), (22, .invokevirtual 340, [231, 1, 0, 7, 188]), (25, .iinc 1 1, []), (28, .goto (-19), [9]), (31, .aload_n 0, []), (32, .invokevirtual 348, [232, 0, 0, 7, 189]), (35, .iconst 0, []), (36, .istore_n 1, []), (37, .iload_n 1, []), (38, .bipush 6, []), (40, .if_icmp .ge 49, [89]), (43, .aload_n 0, []), (44, .aload_n 0, []), (45, .getfield 13, [7, 5, 2, 85]), (48, .iload_n 1, []), (49, .iaload, []), (50, .i2l, []), (51, .invokevirtual 340, [231, 1, 0, 7, 188]), (54, .iconst 0, []), (55, .istore_n 2, []), (56, .iload_n 2, []), (57, .aload_n 0, []), (58, .getfield 13, [7, 5, 2, 85]), (61, .iload_n 1, []), (62, .iaload, []), (63, .if_icmp .ge 20, [83]), (66, .aload_n 0, []), (67, .aload_n 0, []), (68, .iload_n 1, []), (69, .iload_n 2, []), (70, .invokevirtual 91, [140, 2, 1, 7, 130]), (73, .i2l, []), (74, .invokevirtual 340, [231, 1, 0, 7, 188]), (77, .iinc 2 1, []), (80, .goto (-24), [56]), (83, .iinc 1 1, []), (86, .goto (-49), [37]), (89, .iconst 0, []), (90, .istore_n 1, []), (91, .iload_n 1, []), (92, .iconst 4, []), (93, .if_icmp .ge 49, [142]), (96, .aload_n 0, []), (97, .aload_n 0, []), (98, .getfield 22, [7, 8, 2, 88]), (101, .iload_n 1, []), (102, .iaload, []), (103, .i2l, []), (104, .invokevirtual 340, [231, 1, 0, 7, 188]), (107, .iconst 0, []), (108, .istore_n 2, []), (109, .iload_n 2, []), (110, .aload_n 0, []), (111, .getfield 22, [7, 8, 2, 88]), (114, .iload_n 1, []), (115, .iaload, []), (116, .if_icmp .ge 20, [136]), (119, .aload_n 0, []), (120, .aload_n 0, []), (121, .iload_n 1, []), (122, .iload_n 2, []), (123, .invokevirtual 104, [150, 2, 1, 7, 133]), (126, .i2l, []), (127, .invokevirtual 340, [231, 1, 0, 7, 188]), (130, .iinc 2 1, []), (133, .goto (-24), [109]), (136, .iinc 1 1, []), (139, .goto (-48), [91]), (142, .aload_n 0, []), (143, .getfield 337, [7, 38, 1, 118]), (146, .lreturn, [])]
def h_233 : List (Nat × Nat) := [(9, 2), (37, 2), (56, 3), (91, 2), (109, 3)]
/-- java/lang/Integer.bitCount(I)I -/
def k_234 : List (Nat × Instr × List Nat) := [(0, .iload_n 0, []), (1, .iload_n 0, []), (2, .iconst 1, []), (3, .iushr, []), (4, .ldc_w 265, [0, 844]), (7, .iand, []), (8, .isub, []), (9, .istore_n 0, []), (10, .iload_n 0, []), (11, .ldc_w 266, [1, 845]), (14, .iand, []), (15, .iload_n 0, []), (16, .iconst 2, []), (17, .iushr, []), (18, .ldc_w 266, [1, 845]), (21, .iand, []), (22, .iadd, []), (23, .istore_n 0, []), (24, .iload_n 0, []), (25, .iload_n 0, []), (26, .iconst 4, []), (27, .iushr, []), (28, .iadd, []), (29, .ldc_w 267, [2, 846]), (32, .iand, []), (33, .istore_n 0, []), (34, .iload_n 0, []), (35, .iload_n 0, []), (36, .bipush 8, []), (38, .iushr, []), (39, .iadd, []), (40, .istore_n 0, []), (41, .iload_n 0, []), (42, .iload_n 0, []), (43, .bipush 16, []), (45, .iushr, []), (46, .iadd, []), (47, .istore_n 0, []), (48, .iload_n 0, []), (49, .bipush 63, []), (51, .iand, []), (52, .ireturn, [0])]
def h_234 : List (Nat × Nat) := []
/-- java/util/Arrays.fill([II)V -/
def k_235 : List (Nat × Instr × List Nat) := [(0, .iconst 0, []), (1, .istore_n 2, []), (2, .aload_n 0, []), (3, .arraylength, []), (4, .istore_n 3, []), (5, .iload_n 2, []), (6, .iload_n 3, []), (7, .if_icmp .ge 13, [20]), (10, .aload_n 0, []), (11, .iload_n 2, []), (12, .iload_n 1, []), (13, .iastore, []), (14, .iinc 2 1, []), (17, .goto (-12), [5]), (20, .return_, [])]
def h_235 : List (Nat × Nat) := [(5, 4)]
/-- LastStirredLaw.law([I)Z -/
def k_236 : List (Nat × Instr × List Nat) := [(0, .new 7, [6, 16, 96]), (3, .dup, []), (4, .invokespecial 9, [68, 0, 0, 190]), (7, .astore_n 1, []), (8, .new 10, [7, 39, 871]), (11, .dup, []), (12, .invokespecial 12, [126, 0, 0, 191]), (15, .astore_n 2, []), (16, .iconst 0, []), (17, .istore_n 3, []), (18, .iload_n 3, []), (19, .aload_n 0, []), (20, .arraylength, []), (21, .bipush 6, []), (23, .isub, []), (24, .if_icmp .gt 1264, [1288]), (27, .aload_n 0, []), (28, .iload_n 3, []), (29, .iaload, []), (30, .bipush 63, []), (32, .iand, []), (33, .tableswitch 1249 0 42 #[187, 220, 263, 296, 319, 382, 405, 438, 481, 504, 527, 550, 583, 616, 649, 662, 695, 718, 731, 744, 767, 780, 803, 826, 839, 862, 875, 908, 941, 964, 987, 1020, 1033, 1066, 1089, 1112, 1135, 1148, 1162, 1176, 1199, 1212, 1235], [1282, 220, 253, 296, 329, 352, 415, 438, 471, 514, 537, 560, 583, 616, 649, 682, 695, 728, 751, 764, 777, 800, 813, 836, 859, 872, 895, 908, 941, 974, 997, 1020, 1053, 1066, 1099, 1122, 1145, 1168, 1181, 1195, 1209, 1232, 1245, 1268]), (220, .aload_n 1, []), (221, .aload_n 0, []), (222, .iload_n 3, []), (223, .iconst 1, []), (224, .iadd, []), (225, .iaload, []), (226, .aload_n 0, []), (227, .iload_n 3, []), (228, .iconst 2, []), (229, .iadd, []), (230, .iaload, []), (231, .invokevirtual 13, [69, 2, 1, 6, 192]), (234, .aload_n 2, []), (235, .aload_n 0, []), (236, .iload_n 3, []), (237, .iconst 1, []), (238, .iadd, []), (239, .iaload, []), (240, .aload_n 0, []), (241, .iload_n 3, []), (242, .iconst 2, []), (243, .iadd, []), (244, .iaload, []), (245, .invokevirtual 17, [141, 2, 1, 7, 193]), (248, .if_icmp .eq 1034, [1282]), (251, .iconst 0, []), (252, .ireturn, [1]), (253, .aload_n 1, []), (254, .aload_n 0, []), (255, .iload_n 3, []), (256, .iconst 1, []), (257, .iadd, []), (258, .iaload, []), (259, .aload_n 0, []), (260, .iload_n 3, []), (261, .iconst 2, []), (262, .iadd, []), (263, .iaload, []), (264, .aload_n 0, []), (265, .iload_n 3, []), (266, .iconst 3, []), (267, .iadd, []), (268, .iaload, []), (269, .invokevirtual 18, [70, 3, 1, 6, 194]), (272, .aload_n 2, []), (273, .aload_n 0, []), (274, .iload_n 3, []), (275, .iconst 1, []), (276, .iadd, []), (277, .iaload, []), (278, .aload_n 0, []), (279, .iload_n 3, []), (280, .iconst 2, []), (281, .iadd, []), (282, .iaload, []), (283, .aload_n 0, []), (284, .iload_n 3, []), (285, .iconst 3, []), (286, .iadd, []), (287, .iaload, []), (288, .invokevirtual 22, [142, 3, 1, 7, 195]), (291, .if_icmp .eq 991, [1282]), (294, .iconst 0, []), (295, .ireturn, [1]), (296, .aload_n 1, []), (297, .aload_n 0, []), (298, .iload_n 3, []), (299, .iconst 1, []), (300, .iadd, []), (301, .iaload, []), (302, .aload_n 0, []), (303, .iload_n 3, []), (304, .iconst 2, []), (305, .iadd, []), (306, .iaload, []), (307, .invokevirtual 23, [71, 2, 1, 6, 196]), (310, .aload_n 2, []), (311, .aload_n 0, []), (312, .iload_n 3, []), (313, .iconst 1, []), (314, .iadd, []), (315, .iaload, []), (316, .aload_n 0, []), (317, .iload_n 3, []), (318, .iconst 2, []), (319, .iadd, []), (320, .iaload, []), (321, .invokevirtual 26, [143, 2, 1, 7, 197]), (324, .if_icmp .eq 958, [1282]), (327, .iconst 0, []), (328, .ireturn, [1]), (329, .aload_n 1, []), (330, .aload_n 0, []), (331, .iload_n 3, []), (332, .iconst 1, []), (333, .iadd, []), (334, .iaload, []), (335, .invokevirtual 27, [72, 1, 1, 6, 198]), (338, .aload_n 2, []), (339, .aload_n 0, []), (340, .iload_n 3, []), (341, .iconst 1, []), (342, .iadd, []), (343, .iaload, []), (344, .invokevirtual 31, [144, 1, 1, 7, 199]), (347, .if_icmp .eq 935, [1282]), (350, .iconst 0, []), (351, .ireturn, [1]), (352, .aload_n 1, []), (353, .aload_n 0, []), (354, .iload_n 3, []), (355, .iconst 1, []), (356, .iadd, []), (357, .iaload, []), (358, .aload_n 0, []), (359, .iload_n 3, []), (360, .iconst 2, []), (361, .iadd, []), (362, .iaload, []), (363, .aload_n 0, []), (364, .iload_n 3, []), (365, .iconst 3, []), (366, .iadd, []), (367, .iaload, []), (368, .aload_n 0, []), (369, .iload_n 3, []), (370, .iconst 4, []), (371, .iadd, []), (372, .iaload, []), (373, .aload_n 0, []), (374, .iload_n 3, []), (375, .iconst 5, []), (376, .iadd, []), (377, .iaload, []), (378, .invokevirtual 32, [73, 5, 1, 6, 200]), (381, .aload_n 2, []), (382, .aload_n 0, []), (383, .iload_n 3, []), (384, .iconst 1, []), (385, .iadd, []), (386, .iaload, []), (387, .aload_n 0, []), (388, .iload_n 3, []), (389, .iconst 2, []), (390, .iadd, []), (391, .iaload, []), (392, .aload_n 0, []), (393, .iload_n 3, []), (394, .iconst 3, []), (395, .iadd, []), (396, .iaload, []), (397, .aload_n 0, []), (398, .iload_n 3, []), (399, .iconst 4, []), (400, .iadd, []), (401, .iaload, []), (402, .aload_n 0, []), (403, .iload_n 3, []), (404, .iconst 5, []), (405, .iadd, []), (406, .iaload, []), (407, .invokevirtual 36, [145, 5, 1, 7, 201]), (410, .if_icmp .eq 872, [1282]), (413, .iconst 0, []), (414, .ireturn, [1]), (415, .aload_n 1, []), (416, .aload_n 0, []), (417, .iload_n 3, []), (418, .iconst 1, []), (419, .iadd, []), (420, .iaload, []), (421, .invokevirtual 37, [74, 1, 1, 6, 202]), (424, .aload_n 2, []), (425, .aload_n 0, []), (426, .iload_n 3, []), (427, .iconst 1, []), (428, .iadd, []), (429, .iaload, []), (430, .invokevirtual 40, [146, 1, 1, 7, 203]), (433, .if_icmp .eq 849, [1282]), (436, .iconst 0, []), (437, .ireturn, [1]), (438, .aload_n 1, []), (439, .aload_n 0, []), (440, .iload_n 3, []), (441, .iconst 1, []), (442, .iadd, []), (443, .iaload, []), (444, .aload_n 0, []), (445, .iload_n 3, []), (446, .iconst 2, []), (447, .iadd, []), (448, .iaload, []), (449, .invokevirtual 41, [75, 2, 1, 6, 204]), (452, .aload_n 2, []), (453, .aload_n 0, []), (454, .iload_n 3, []), (455, .iconst 1, []), (456, .iadd, []), (457, .iaload, []), (458, .aload_n 0, []), (459, .iload_n 3, []), (460, .iconst 2, []), (461, .iadd, []), (462, .iaload, []), (463, .invokevirtual 44, [148, 2, 1, 7, 205]), (466, .if_icmp .eq 816, [1282]), (469, .iconst 0, []), (470, .ireturn, [1]), (471, .aload_n 1, []), (472, .aload_n 0, []), (473, .iload_n 3, []), (474, .iconst 1, []), (475, .iadd, []), (476, .iaload, []), (477, .aload_n 0, []), (478, .iload_n 3, []), (479, .iconst 2, []), (480, .iadd, []), (481, .iaload, []), (482, .aload_n 0, []), (483, .iload_n 3, []), (484, .iconst 3, []), (485, .iadd, []), (486, .iaload, []), (487, .invokevirtual 45, [76, 3, 1, 6, 206]), (490, .aload_n 2, []), (491, .aload_n 0, []), (492, .iload_n 3, []), (493, .iconst 1, []), (494, .iadd, []), (495, .iaload, []), (496, .aload_n 0, []), (497, .iload_n 3, []), (498, .iconst 2, []), (499, .iadd, []), (500, .iaload, []), (501, .aload_n 0, []), (502, .iload_n 3, []), (503, .iconst 3, []), (504, .iadd, []), (505, .iaload, []), (506, .invokevirtual 48, [149, 3, 1, 7, 207]), (509, .if_icmp .eq 773, [1282]), (512, .iconst 0, []), (513, .ireturn, [1]), (514, .aload_n 1, []), (515, .aload_n 0, []), (516, .iload_n 3, []), (517, .iconst 1, []), (518, .iadd, []), (519, .iaload, []), (520, .invokevirtual 49, [77, 1, 1, 6, 208]), (523, .aload_n 2, []), (524, .aload_n 0, []), (525, .iload_n 3, []), (526, .iconst 1, []), (527, .iadd, []), (528, .iaload, []), (529, .invokevirtual 52, [158, 1, 1, 7, 209]), (532, .if_icmp .eq 750, [1282]), (535, .iconst 0, []), (536, .ireturn, [1]), (537, .aload_n 1, []), (538, .aload_n 0, []), (539, .iload_n 3, []), (540, .iconst 1, []), (541, .iadd, []), (542, .iaload, []), (543, .invokevirtual 53, [78, 1, 1, 6, 210]), (546, .aload_n 2, []), (547, .aload_n 0, []), (548, .iload_n 3, []), (549, .iconst 1, []), (550, .iadd, []), (551, .iaload, []), (552, .invokevirtual 56, [159, 1, 1, 7, 211]), (555, .if_icmp .eq 727, [1282]), (558, .iconst 0, []), (559, .ireturn, [1]), (560, .aload_n 1, []), (561, .aload_n 0, []), (562, .iload_n 3, []), (563, .iconst 1, []), (564, .iadd, []), (565, .iaload, []), (566, .invokevirtual 57, [79, 1, 1, 6, 212]), (569, .aload_n 2, []), (570, .aload_n 0, []), (571, .iload_n 3, []), (572, .iconst 1, []), (573, .iadd, []), (574, .iaload, []), (575, .invokevirtual 60, [169, 1, 1, 7, 213]), (578, .if_icmp .eq 704, [1282]), (581, .iconst 0, []), (582, .ireturn, [1]), (583, .aload_n 1, []), (584, .aload_n 0, []), (585, .iload_n 3, []), (586, .iconst 1, []), (587, .iadd, []), (588, .iaload, []), (589, .aload_n 0, []), (590, .iload_n 3, []), (591, .iconst 2, []), (592, .iadd, []), (593, .iaload, []), (594, .invokevirtual 61, [80, 2, 1, 6, 214]), (597, .aload_n 2, []), (598, .aload_n 0, []), (599, .iload_n 3, []), (600, .iconst 1, []), (601, .iadd, []), (602, .iaload, []), (603, .aload_n 0, []), (604, .iload_n 3, []), (605, .iconst 2, []), (606, .iadd, []), (607, .iaload, []), (608, .invokevirtual 64, [170, 2, 1, 7, 215]), (611, .if_icmp .eq 671, [1282]), (614, .iconst 0, []), (615, .ireturn, [1]), (616, .aload_n 1, []), (617, .aload_n 0, []), (618, .iload_n 3, []), (619, .iconst 1, []), (620, .iadd, []), (621, .iaload, []), (622, .aload_n 0, []), (623, .iload_n 3, []), (624, .iconst 2, []), (625, .iadd, []), (626, .iaload, []), (627, .invokevirtual 65, [81, 2, 1, 6, 216]), (630, .aload_n 2, []), (631, .aload_n 0, []), (632, .iload_n 3, []), (633, .iconst 1, []), (634, .iadd, []), (635, .iaload, []), (636, .aload_n 0, []), (637, .iload_n 3, []), (638, .iconst 2, []), (639, .iadd, []), (640, .iaload, []), (641, .invokevirtual 68, [172, 2, 1, 7, 217]), (644, .if_icmp .eq 638, [1282]), (647, .iconst 0, []), (648, .ireturn, [1]), (649, .aload_n 1, []), (650, .aload_n 0, []), (651, .iload_n 3, []), (652, .iconst 1, []), (653, .iadd, []), (654, .iaload, []), (655, .aload_n 0, []), (656, .iload_n 3, []), (657, .iconst 2, []), (658, .iadd, []), (659, .iaload, []), (660, .invokevirtual 69, [82, 2, 1, 6, 218]), (663, .aload_n 2, []), (664, .aload_n 0, []), (665, .iload_n 3, []), (666, .iconst 1, []), (667, .iadd, []), (668, .iaload, []), (669, .aload_n 0, []), (670, .iload_n 3, []), (671, .iconst 2, []), (672, .iadd, []), (673, .iaload, []), (674, .invokevirtual 72, [178, 2, 1, 7, 219]), (677, .if_icmp .eq 605, [1282]), (680, .iconst 0, []), (681, .ireturn, [1]), (682, .aload_n 1, []), (683, .invokevirtual 73, [83, 0, 1, 6, 220]), (686, .aload_n 2, []), (687, .invokevirtual 77, [179, 0, 1, 7, 221]), (690, .if_icmp .eq 592, [1282]), (693, .iconst 0, []), (694, .ireturn, [1]), (695, .aload_n 1, []), (696, .aload_n 0, []), (697, .iload_n 3, []), (698, .iconst 1, []), (699, .iadd, []), (700, .iaload, []), (701, .aload_n 0, []), (702, .iload_n 3, []), (703, .iconst 2, []), (704, .iadd, []), (705, .iaload, []), (706, .invokevirtual 78, [84, 2, 1, 6, 222]), (709, .aload_n 2, []), (710, .aload_n 0, []), (711, .iload_n 3, []), (712, .iconst 1, []), (713, .iadd, []), (714, .iaload, []), (715, .aload_n 0, []), (716, .iload_n 3, []), (717, .iconst 2, []), (718, .iadd, []), (719, .iaload, []), (720, .invokevirtual 81, [190, 2, 1, 7, 223]), (723, .if_icmp .eq 559, [1282]), (726, .iconst 0, []), (727, .ireturn, [1]), (728, .aload_n 1, []), (729, .aload_n 0, []), (730, .iload_n 3, []), (731, .iconst 1, []), (732, .iadd, []), (733, .iaload, []), (734, .invokevirtual 82, [85, 1, 1, 6, 224]), (737, .aload_n 2, []), (738, .aload_n 0, []), (739, .iload_n 3, []), (740, .iconst 1, []), (741, .iadd, []), (742, .iaload, []), (743, .invokevirtual 85, [191, 1, 1, 7, 225]), (746, .if_icmp .eq 536, [1282]), (749, .iconst 0, []), (750, .ireturn, [1]), (751, .aload_n 1, []), (752, .invokevirtual 86, [86, 0, 1, 6, 226]), (755, .aload_n 2, []), (756, .invokevirtual 89, [192, 0, 1, 7, 227]), (759, .if_icmp .eq 523, [1282]), (762, .iconst 0, []), (763, .ireturn, [1]), (764, .aload_n 1, []), (765, .invokevirtual 90, [87, 0, 1, 6, 228]), (768, .aload_n 2, []), (769, .invokevirtual 93, [194, 0, 1, 7, 229]), (772, .if_icmp .eq 510, [1282]), (775, .iconst 0, []), (776, .ireturn, [1]), (777, .aload_n 1, []), (778, .aload_n 0, []), (779, .iload_n 3, []), (780, .iconst 1, []), (781, .iadd, []), (782, .iaload, []), (783, .invokevirtual 94, [88, 1, 1, 6, 230]), (786, .aload_n 2, []), (787, .aload_n 0, []), (788, .iload_n 3, []), (789, .iconst 1, []), (790, .iadd, []), (791, .iaload, []), (792, .invokevirtual 97, [195, 1, 1, 7, 231]), (795, .if_icmp .eq 487, [1282]), (798, .iconst 0, []), (799, .ireturn, [1]), (800, .aload_n 1, []), (801, .invokevirtual 98, [89, 0, 1, 6, 232]), (804, .aload_n 2, []), (805, .invokevirtual 101, [197, 0, 1, 7, 233]), (808, .if_icmp .eq 474, [1282]), (811, .iconst 0, []), (812, .ireturn, [1]), (813, .aload_n 1, []), (814, .aload_n 0, []), (815, .iload_n 3, []), (816, .iconst 1, []), (817, .iadd, []), (818, .iaload, []), (819, .invokevirtual 102, [90, 1, 1, 6, 234]), (822, .aload_n 2, []), (823, .aload_n 0, []), (824, .iload_n 3, []), (825, .iconst 1, []), (826, .iadd, []), (827, .iaload, []), (828, .invokevirtual 105, [198, 1, 1, 7, 235]), (831, .if_icmp .eq 451, [1282]), (834, .iconst 0, []), (835, .ireturn, [1]), (836, .aload_n 1, []), (837, .aload_n 0, []), (838, .iload_n 3, []), (839, .iconst 1, []), (840, .iadd, []), (841, .iaload, []), (842, .invokevirtual 106, [91, 1, 1, 6, 236]), (845, .aload_n 2, []), (846, .aload_n 0, []), (847, .iload_n 3, []), (848, .iconst 1, []), (849, .iadd, []), (850, .iaload, []), (851, .invokevirtual 109, [199, 1, 1, 7, 237]), (854, .if_icmp .eq 428, [1282]), (857, .iconst 0, []), (858, .ireturn, [1]), (859, .aload_n 1, []), (860, .invokevirtual 110, [92, 0, 1, 6, 238]), (863, .aload_n 2, []), (864, .invokevirtual 113, [208, 0, 1, 7, 239]), (867, .if_icmp .eq 415, [1282]), (870, .iconst 0, []), (871, .ireturn, [1]), (872, .aload_n 1, []), (873, .aload_n 0, []), (874, .iload_n 3, []), (875, .iconst 1, []), (876, .iadd, []), (877, .iaload, []), (878, .invokevirtual 114, [93, 1, 1, 6, 240]), (881, .aload_n 2, []), (882, .aload_n 0, []), (883, .iload_n 3, []), (884, .iconst 1, []), (885, .iadd, []), (886, .iaload, []), (887, .invokevirtual 117, [209, 1, 1, 7, 241]), (890, .if_icmp .eq 392, [1282]), (893, .iconst 0, []), (894, .ireturn, [1]), (895, .aload_n 1, []), (896, .invokevirtual 118, [94, 0, 1, 6, 242]), (899, .aload_n 2, []), (900, .invokevirtual 121, [210, 0, 1, 7, 243]), (903, .if_icmp .eq 379, [1282]), (906, .iconst 0, []), (907, .ireturn, [1]), (908, .aload_n 1, []), (909, .aload_n 0, []), (910, .iload_n 3, []), (911, .iconst 1, []), (912, .iadd, []), (913, .iaload, []), (914, .aload_n 0, []), (915, .iload_n 3, []), (916, .iconst 2, []), (917, .iadd, []), (918, .iaload, []), (919, .invokevirtual 122, [95, 2, 1, 6, 244]), (922, .aload_n 2, []), (923, .aload_n 0, []), (924, .iload_n 3, []), (925, .iconst 1, []), (926, .iadd, []), (927, .iaload, []), (928, .aload_n 0, []), (929, .iload_n 3, []), (930, .iconst 2, []), (931, .iadd, []), (932, .iaload, []), (933, .invokevirtual 125, [211, 2, 1, 7, 245]), (936, .if_icmp .eq 346, [1282]), (939, .iconst 0, []), (940, .ireturn, [1]), (941, .aload_n 1, []), (942, .aload_n 0, []), (943, .iload_n 3, []), (944, .iconst 1, []), (945, .iadd, []), (946, .iaload, []), (947, .aload_n 0, []), (948, .iload_n 3, []), (949, .iconst 2, []), (950, .iadd, []), (951, .iaload, []), (952, .invokevirtual 126, [96, 2, 1, 6, 246]), (955, .aload_n 2, []), (956, .aload_n 0, []), (957, .iload_n 3, []), (958, .iconst 1, []), (959, .iadd, []), (960, .iaload, []), (961, .aload_n 0, []), (962, .iload_n 3, []), (963, .iconst 2, []), (964, .iadd, []), (965, .iaload, []), (966, .invokevirtual 129, [213, 2, 1, 7, 247]), (969, .if_icmp .eq 313, [1282]), (972, .iconst 0, []), (973, .ireturn, [1]), (974, .aload_n 1, []), (975, .aload_n 0, []), (976, .iload_n 3, []), (977, .iconst 1, []), (978, .iadd, []), (979, .iaload, []), (980, .invokevirtual 130, [97, 1, 1, 6, 248]), (983, .aload_n 2, []), (984, .aload_n 0, []), (985, .iload_n 3, []), (986, .iconst 1, []), (987, .iadd, []), (988, .iaload, []), (989, .invokevirtual 133, [214, 1, 1, 7, 249]), (992, .if_icmp .eq 290, [1282]), (995, .iconst 0, []), (996, .ireturn, [1]), (997, .aload_n 1, []), (998, .aload_n 0, []), (999, .iload_n 3, []), (1000, .iconst 1, []), (1001, .iadd, []), (1002, .iaload, []), (1003, .invokevirtual 134, [98, 1, 1, 6, 250]), (1006, .aload_n 2, []), (1007, .aload_n 0, []), (1008, .iload_n 3, []), (1009, .iconst 1, []), (1010, .iadd, []), (1011, .iaload, []), (1012, .invokevirtual 137, [215, 1, 1, 7, 251]), (1015, .if_icmp .eq 267, [1282]), (1018, .iconst 0, []), (1019, .ireturn, [1]), (1020, .aload_n 1, []), (1021, .aload_n 0, []), (1022, .iload_n 3, []), (1023, .iconst 1, []), (1024, .iadd, []), (1025, .iaload, []), (1026, .aload_n 0, []), (1027, .iload_n 3, []), (1028, .iconst 2, []), (1029, .iadd, []), (1030, .iaload, []), (1031, .invokevirtual 138, [99, 2, 1, 6, 252]), (1034, .aload_n 2, []), (1035, .aload_n 0, []), (1036, .iload_n 3, []), (1037, .iconst 1, []), (1038, .iadd, []), (1039, .iaload, []), (1040, .aload_n 0, []), (1041, .iload_n 3, []), (1042, .iconst 2, []), (1043, .iadd, []), (1044, .iaload, []), (1045, .invokevirtual 141, [218, 2, 1, 7, 253]), (1048, .if_icmp .eq 234, [1282]), (1051, .iconst 0, []), (1052, .ireturn, [1]), (1053, .aload_n 1, []), (1054, .invokevirtual 142, [100, 0, 1, 6, 254]), (1057, .aload_n 2, []), (1058, .invokevirtual 145, [219, 0, 1, 7, 255]), (1061, .if_icmp .eq 221, [1282]), (1064, .iconst 0, []), (1065, .ireturn, [1]), (1066, .aload_n 1, []), (1067, .aload_n 0, []), (1068, .iload_n 3, []), (1069, .iconst 1, []), (1070, .iadd, []), (1071, .iaload, []), (1072, .aload_n 0, []), (1073, .iload_n 3, []), (1074, .iconst 2, []), (1075, .iadd, []), (1076, .iaload, []), (1077, .invokevirtual 146, [101, 2, 1, 6, 256]), (1080, .aload_n 2, []), (1081, .aload_n 0, []), (1082, .iload_n 3, []), (1083, .iconst 1, []), (1084, .iadd, []), (1085, .iaload, []), (1086, .aload_n 0, []), (1087, .iload_n 3, []), (1088, .iconst 2, []), (1089, .iadd, []), (1090, .iaload, []), (1091, .invokevirtual 149, [224, 2, 1, 7, 257]), (1094, .if_icmp .eq 188, [1282]), (1097, .iconst 0, []), (1098, .ireturn, [1]), (1099, .aload_n 1, []), (1100, .aload_n 0, []), (1101, .iload_n 3, []), (1102, .iconst 1, []), (1103, .iadd, []), (1104, .iaload, []), (1105, .invokevirtual 150, [102, 1, 1, 6, 258]), (1108, .aload_n 2, []), (1109, .aload_n 0, []), (1110, .iload_n 3, []), (1111, .iconst 1, []), (1112, .iadd, []), (1113, .iaload, []), (1114, .invokevirtual 153, [226, 1, 1, 7, 259]), (1117, .if_icmp .eq 165, [1282]), (1120, .iconst 0, []), (1121, .ireturn, [1]), (1122, .aload_n 1, []), (1123, .aload_n 0, []), (1124, .iload_n 3, []), (1125, .iconst 1, []), (1126, .iadd, []), (1127, .iaload, []), (1128, .invokevirtual 154, [103, 1, 1, 6, 260]), (1131, .aload_n 2, []), (1132, .aload_n 0, []), (1133, .iload_n 3, []), (1134, .iconst 1, []), (1135, .iadd, []), (1136, .iaload, []), (1137, .invokevirtual 157, [227, 1, 1, 7, 261]), (1140, .if_icmp .eq 142, [1282]), (1143, .iconst 0, []), (1144, .ireturn, [1]), (1145, .aload_n 1, []), (1146, .aload_n 0, []), (1147, .iload_n 3, []), (1148, .iconst 1, []), (1149, .iadd, []), (1150, .iaload, []), (1151, .invokevirtual 158, [104, 1, 1, 6, 262]), (1154, .aload_n 2, []), (1155, .aload_n 0, []), (1156, .iload_n 3, []), (1157, .iconst 1, []), (1158, .iadd, []), (1159, .iaload, []), (1160, .invokevirtual 161, [228, 1, 1, 7, 263]), (1163, .if_icmp .eq 119, [1282]), (1166, .iconst 0, []), (1167, .ireturn, [1]), (1168, .aload_n 1, []), (1169, .invokevirtual 162, [105, 0, 1, 6, 264]), (1172, .aload_n 2, []), (1173, .invokevirtual 165, [135, 0, 1, 7, 265]), (1176, .if_icmp .eq 106, [1282]), (1179, .iconst 0, []), (1180, .ireturn, [1]), (1181, .aload_n 1, []), (1182, .invokevirtual 166, [106, 0, 2, 6, 266]), (1185, .aload_n 2, []), (1186, .invokevirtual 170, [137, 0, 2, 7, 267]), (1189, .lcmp, []), (1190, .ifCond .eq 92, [1282]), (1193, .iconst 0, []), (1194, .ireturn, [1]), (1195, .aload_n 1, []), (1196, .invokevirtual 171, [107, 0, 2, 6, 268]), (1199, .aload_n 2, []), (1200, .invokevirtual 174, [138, 0, 2, 7, 269]), (1203, .lcmp, []), (1204, .ifCond .eq 78, [1282]), (1207, .iconst 0, []), (1208, .ireturn, [1]), (1209, .aload_n 1, []), (1210, .aload_n 0, []), (1211, .iload_n 3, []), (1212, .iconst 1, []), (1213, .iadd, []), (1214, .iaload, []), (1215, .invokevirtual 175, [108, 1, 1, 6, 270]), (1218, .aload_n 2, []), (1219, .aload_n 0, []), (1220, .iload_n 3, []), (1221, .iconst 1, []), (1222, .iadd, []), (1223, .iaload, []), (1224, .invokevirtual 178, [230, 1, 1, 7, 271]), (1227, .if_icmp .eq 55, [1282]), (1230, .iconst 0, []), (1231, .ireturn, [1]), (1232, .aload_n 1, []), (1233, .invokevirtual 179, [109, 0, 1, 6, 272]), (1236, .aload_n 2, []), (1237, .invokevirtual 182, [132, 0, 1, 7, 273]), (1240, .if_icmp .eq 42, [1282]), (1243, .iconst 0, []), (1244, .ireturn, [1]), (1245, .aload_n 1, []), (1246, .aload_n 0, []), (1247, .iload_n 3, []), (1248, .iconst 1, []), (1249, .iadd, []), (1250, .iaload, []), (1251, .invokevirtual 183, [110, 1, 1, 6, 274]), (1254, .aload_n 2, []), (1255, .aload_n 0, []), (1256, .iload_n 3, []), (1257, .iconst 1, []), (1258, .iadd, []), (1259, .iaload, []), (1260, .invokevirtual 186, [133, 1, 1, 7, 275]), (1263, .if_icmp .eq 19, [1282]), (1266, .iconst 0, []), (1267, .ireturn, [1]), (1268, .aload_n 1, []), (1269, .invokevirtual 187, [111, 0, 2, 6, 276]), (1272, .aload_n 2, []), (1273, .invokevirtual 190, [233, 0, 2, 7, 277]), (1276, .lcmp, []), (1277, .ifCond .eq 5, [1282]), (1280, .iconst 0, []), (1281, .ireturn, [1]), (1282, .iinc 3 6, []), (1285, .goto (-1267), [18]), (1288, .iconst 1, []), (1289, .ireturn, [1])]
def h_236 : List (Nat × Nat) := [(18, 4)]
def j_code (m : Nat) : List (Nat × Instr × List Nat) := [k_0, k_1, k_2, k_3, k_4, k_5, k_6, k_7, k_8, k_9, k_10, k_11, k_12, k_13, k_14, k_15, k_16, k_17, k_18, k_19, k_20, k_21, k_22, k_23, k_24, k_25, k_26, k_27, k_28, k_29, k_30, k_31, k_32, k_33, k_34, k_35, k_36, k_37, k_38, k_39, k_40, k_41, k_42, k_43, k_44, k_45, k_46, k_47, k_48, k_49, k_50, k_51, k_52, k_53, k_54, k_55, k_56, k_57, k_58, k_59, k_60, k_61, k_62, k_63, k_64, k_65, k_66, k_67, k_68, k_69, k_70, k_71, k_72, k_73, k_74, k_75, k_76, k_77, k_78, k_79, k_80, k_81, k_82, k_83, k_84, k_85, k_86, k_87, k_88, k_89, k_90, k_91, k_92, k_93, k_94, k_95, k_96, k_97, k_98, k_99, k_100, k_101, k_102, k_103, k_104, k_105, k_106, k_107, k_108, k_109, k_110, k_111, k_112, k_113, k_114, k_115, k_116, k_117, k_118, k_119, k_120, k_121, k_122, k_123, k_124, k_125, k_126, k_127, k_128, k_129, k_130, k_131, k_132, k_133, k_134, k_135, k_136, k_137, k_138, k_139, k_140, k_141, k_142, k_143, k_144, k_145, k_146, k_147, k_148, k_149, k_150, k_151, k_152, k_153, k_154, k_155, k_156, k_157, k_158, k_159, k_160, k_161, k_162, k_163, k_164, k_165, k_166, k_167, k_168, k_169, k_170, k_171, k_172, k_173, k_174, k_175, k_176, k_177, k_178, k_179, k_180, k_181, k_182, k_183, k_184, k_185, k_186, k_187, k_188, k_189, k_190, k_191, k_192, k_193, k_194, k_195, k_196, k_197, k_198, k_199, k_200, k_201, k_202, k_203, k_204, k_205, k_206, k_207, k_208, k_209, k_210, k_211, k_212, k_213, k_214, k_215, k_216, k_217, k_218, k_219, k_220, k_221, k_222, k_223, k_224, k_225, k_226, k_227, k_228, k_229, k_230, k_231, k_232, k_233, k_234, k_235, k_236].getD m []
def j_head (m : Nat) : List (Nat × Nat) := [h_0, h_1, h_2, h_3, h_4, h_5, h_6, h_7, h_8, h_9, h_10, h_11, h_12, h_13, h_14, h_15, h_16, h_17, h_18, h_19, h_20, h_21, h_22, h_23, h_24, h_25, h_26, h_27, h_28, h_29, h_30, h_31, h_32, h_33, h_34, h_35, h_36, h_37, h_38, h_39, h_40, h_41, h_42, h_43, h_44, h_45, h_46, h_47, h_48, h_49, h_50, h_51, h_52, h_53, h_54, h_55, h_56, h_57, h_58, h_59, h_60, h_61, h_62, h_63, h_64, h_65, h_66, h_67, h_68, h_69, h_70, h_71, h_72, h_73, h_74, h_75, h_76, h_77, h_78, h_79, h_80, h_81, h_82, h_83, h_84, h_85, h_86, h_87, h_88, h_89, h_90, h_91, h_92, h_93, h_94, h_95, h_96, h_97, h_98, h_99, h_100, h_101, h_102, h_103, h_104, h_105, h_106, h_107, h_108, h_109, h_110, h_111, h_112, h_113, h_114, h_115, h_116, h_117, h_118, h_119, h_120, h_121, h_122, h_123, h_124, h_125, h_126, h_127, h_128, h_129, h_130, h_131, h_132, h_133, h_134, h_135, h_136, h_137, h_138, h_139, h_140, h_141, h_142, h_143, h_144, h_145, h_146, h_147, h_148, h_149, h_150, h_151, h_152, h_153, h_154, h_155, h_156, h_157, h_158, h_159, h_160, h_161, h_162, h_163, h_164, h_165, h_166, h_167, h_168, h_169, h_170, h_171, h_172, h_173, h_174, h_175, h_176, h_177, h_178, h_179, h_180, h_181, h_182, h_183, h_184, h_185, h_186, h_187, h_188, h_189, h_190, h_191, h_192, h_193, h_194, h_195, h_196, h_197, h_198, h_199, h_200, h_201, h_202, h_203, h_204, h_205, h_206, h_207, h_208, h_209, h_210, h_211, h_212, h_213, h_214, h_215, h_216, h_217, h_218, h_219, h_220, h_221, h_222, h_223, h_224, h_225, h_226, h_227, h_228, h_229, h_230, h_231, h_232, h_233, h_234, h_235, h_236].getD m []
def j_NF : Nat := 1000000
/-- the little machine: method m called with its values, calls nested d deep at most -/
def j_run : Nat → Nat → List Value → Sto → Option Rr
  | 0, _, _, _ => none
  | d + 1, m, as, σ => if (j_ent0 as).length ≤ j_mL.getD m 0 then j_exec (j_code m) (j_head m) (j_run d) j_NF 0 (j_ent (j_mL.getD m 0) as) [] σ else none
end
section
/-! ===== THE MACHINE FOLLOWS THE LITTLE MACHINE, part 1: pictures of stores in the heap ===== -/
def j_T : Nat → u_T := fun k => match k with
  | 0 => TX0 | 1 => TX1 | 2 => TX2 | 3 => TX3 | 4 => TX4 | 5 => TX5 | 6 => TX6 | _ => TX7
def j_ty : Nat → Nat → FieldType := fun k => match k with
  | 0 => tyX0 | 1 => tyX1 | 2 => tyX2 | 3 => tyX3 | 4 => tyX4 | 5 => tyX5 | 6 => tyX6 | _ => tyX7
def j_nf : Nat → Nat := fun k => match k with
  | 0 => 10 | 1 => 6 | 2 => 5 | 3 => 9 | 4 => 2 | 5 => 4 | 6 => 16 | _ => 39
theorem m_c8 {P : Nat → Prop} (h0 : P 0) (h1 : P 1) (h2 : P 2) (h3 : P 3) (h4 : P 4) (h5 : P 5) (h6 : P 6) (h7 : P 7) {k : Nat} (hk : k < 8) : P k := by
  rcases k with _ | _ | _ | _ | _ | _ | _ | _ | k
  · exact h0
  · exact h1
  · exact h2
  · exact h3
  · exact h4
  · exact h5
  · exact h6
  · exact h7
  · omega
theorem j_cls_get {k : Nat} (hk : k < 8) : j_cls[k]? = some (j_CN k, j_T k, j_nf k) := m_c8 (P := fun k => j_cls[k]? = some (j_CN k, j_T k, j_nf k)) rfl rfl rfl rfl rfl rfl rfl rfl hk
theorem j_ty_ok {c : Nat} (hc : c < 8) : ∀ k, k < j_nf c → parseFieldDescriptor (j_T c k).2.2.1 = some (j_ty c k) := m_c8 (P := fun c => ∀ k, k < j_nf c → parseFieldDescriptor (j_T c k).2.2.1 = some (j_ty c k)) tyX0_ok tyX1_ok tyX2_ok tyX3_ok tyX4_ok tyX5_ok tyX6_ok tyX7_ok hc
theorem j_nm {c : Nat} (hc : c < 8) : ∀ a, a < j_nf c → ∀ b, b < j_nf c → a ≠ b → (j_T c a).2.1 ≠ (j_T c b).2.1 := m_c8 (P := fun c => ∀ a, a < j_nf c → ∀ b, b < j_nf c → a ≠ b → (j_T c a).2.1 ≠ (j_T c b).2.1) nmX0 nmX1 nmX2 nmX3 nmX4 nmX5 nmX6 nmX7 hc
/-- addresses, values -/
def m_ad (ρ τ : Nat → Nat) (r : Nat) : Nat := if r < j_b then ρ r else τ (r - j_b)
theorem m_ad_lt {ρ τ : Nat → Nat} {r : Nat} (h : r < j_b) : m_ad ρ τ r = ρ r := if_pos h
theorem m_ad_ro {ρ τ : Nat → Nat} {k : Nat} : m_ad ρ τ (j_b + k) = τ k := by
  unfold m_ad
  rw [if_neg (by omega), Nat.add_sub_cancel_left]
def m_v (ρ τ : Nat → Nat) : Value → Value
  | .ref r => .ref (m_ad ρ τ r)
  | v => v
theorem m_v_cat (ρ τ : Nat → Nat) (v : Value) : (m_v ρ τ v).category = v.category := by cases v <;> rfl
def m_rf (ρ τ : Nat → Nat) (o : Option Nat) : Option Nat := o.map (m_ad ρ τ)
/-- what a field of a type holds -/
def m_f (ρ τ : Nat → Nat) (σ : Sto) (r k : Nat) (ty : FieldType) : Value := match ty with
  | .long => .long (σ.2.2.2.1 r k)
  | .object _ => va_rf (m_rf ρ τ (σ.2.1 r k))
  | .array _ => va_rf (m_rf ρ τ (σ.2.1 r k))
  | _ => .int (σ.2.2.1 r k)
def m_fs (ρ τ : Nat → Nat) (σ : Sto) (r c : Nat) : List Value := (List.range (j_nf c)).map fun k => m_f ρ τ σ r k (j_ty c k)
def m_ar (ρ τ : Nat → Nat) (σ : Sto) (r : Nat) (ty : FieldType) : (Nat → Int32) ⊕ (Nat → Int64) ⊕ (Nat → UInt32) ⊕ (Nat → UInt64) ⊕ (Nat → Option Nat) := match ty with
  | .long => .inr (.inl (σ.2.2.2.1 r))
  | .object _ => .inr (.inr (.inr (.inr fun k => m_rf ρ τ (σ.2.1 r k))))
  | .array _ => .inr (.inr (.inr (.inr fun k => m_rf ρ τ (σ.2.1 r k))))
  | _ => .inl (σ.2.2.1 r)
def m_E (cA : FieldType → ClassId) (ρ τ : Nat → Nat) (σ : Sto) (r : Nat) : va_E := match σ.1 r with
  | some (.inl c) => .inr (c, m_fs ρ τ σ r c)
  | some (.inr (ty, n)) => .inl (cA ty, n, m_ar ρ τ σ r ty)
  | none => .inl (0, 0, .inl fun _ => 0)
def m_ws (cA : FieldType → ClassId) (ρ τ : Nat → Nat) (σ : Sto) : va_W := (List.range (s_n σ)).map fun r => (ρ r, m_E cA ρ τ σ r)
theorem m_E_obj {cA : FieldType → ClassId} {ρ τ : Nat → Nat} {σ : Sto} {r c : Nat} (h : σ.1 r = some (.inl c)) : m_E cA ρ τ σ r = .inr (c, m_fs ρ τ σ r c) := by
  unfold m_E
  rw [h]
theorem m_E_arr {cA : FieldType → ClassId} {ρ τ : Nat → Nat} {σ : Sto} {r n : Nat} {ty : FieldType} (h : σ.1 r = some (.inr (ty, n))) : m_E cA ρ τ σ r = .inl (cA ty, n, m_ar ρ τ σ r ty) := by
  unfold m_E
  rw [h]
theorem m_E_ext {cA : FieldType → ClassId} {ρ ρ' τ : Nat → Nat} {σ σ' : Sto} {r : Nat} (h1 : σ'.1 r = σ.1 r) (h2 : ∀ k, m_rf ρ' τ (σ'.2.1 r k) = m_rf ρ τ (σ.2.1 r k)) (h3 : σ'.2.2.1 r = σ.2.2.1 r) (h4 : σ'.2.2.2.1 r = σ.2.2.2.1 r) : m_E cA ρ' τ σ' r = m_E cA ρ τ σ r := by
  have hf : ∀ k ty, m_f ρ' τ σ' r k ty = m_f ρ τ σ r k ty := fun k ty => by
    cases ty <;> simp only [m_f, h2, h3, h4]
  have ha : ∀ ty, m_ar ρ' τ σ' r ty = m_ar ρ τ σ r ty := fun ty => by
    cases ty <;> simp only [m_ar, h2, h3, h4]
  unfold m_E
  rw [h1]
  cases σ.1 r with
  | none => rfl
  | some x =>
    cases x with
    | inl c =>
      show Sum.inr (c, m_fs ρ' τ σ' r c) = Sum.inr (c, m_fs ρ τ σ r c)
      unfold m_fs
      simp only [hf]
    | inr q =>
      show Sum.inl (cA q.1, q.2, m_ar ρ' τ σ' r q.1) = Sum.inl (cA q.1, q.2, m_ar ρ τ σ r q.1)
      rw [ha]
theorem m_ws_get {cA : FieldType → ClassId} {ρ τ : Nat → Nat} {σ : Sto} {r : Nat} (h : r < s_n σ) : (m_ws cA ρ τ σ)[r]? = some (ρ r, m_E cA ρ τ σ r) := by
  unfold m_ws
  rw [List.getElem?_map, List.getElem?_range h]
  rfl
theorem m_ws_len {cA : FieldType → ClassId} {ρ τ : Nat → Nat} {σ : Sto} : (m_ws cA ρ τ σ).length = s_n σ := by
  unfold m_ws
  rw [List.length_map, List.length_range]
theorem m_ws_some {cA : FieldType → ClassId} {ρ τ : Nat → Nat} {σ : Sto} {k : Nat} {q : Nat × va_E} (h : (m_ws cA ρ τ σ)[k]? = some q) : k < s_n σ ∧ q = (ρ k, m_E cA ρ τ σ k) := by
  have hk : k < s_n σ := by
    have := (List.getElem?_eq_some_iff.mp h).1
    rwa [m_ws_len] at this
  rw [m_ws_get hk] at h
  exact ⟨hk, (Option.some.inj h).symm⟩
theorem m_ws_set {cA : FieldType → ClassId} {ρ τ : Nat → Nat} {σ σ' : Sto} {r : Nat} {e : va_E} (hn : s_n σ' = s_n σ) (ho : ∀ q, q ≠ r → m_E cA ρ τ σ' q = m_E cA ρ τ σ q) (he : e = m_E cA ρ τ σ' r) : (m_ws cA ρ τ σ).set r (ρ r, e) = m_ws cA ρ τ σ' := by
  apply List.ext_getElem?
  intro i
  rw [List.getElem?_set]
  by_cases hi : i < s_n σ
  · rw [m_ws_get (show i < s_n σ' by rw [hn]; exact hi)]
    by_cases h : r = i
    · subst h
      rw [if_pos rfl, if_pos (by rw [m_ws_len]; exact hi), he]
    · rw [if_neg h, m_ws_get hi, ho i (fun z => h z.symm)]
  · have h1 : (m_ws cA ρ τ σ)[i]? = none := List.getElem?_eq_none (by rw [m_ws_len]; omega)
    have h2 : (m_ws cA ρ τ σ')[i]? = none := List.getElem?_eq_none (by rw [m_ws_len, hn]; omega)
    rw [h1, h2]
    by_cases h : r = i
    · rw [if_pos h, if_neg (by rw [m_ws_len]; omega)]
    · rw [if_neg h]
theorem u1_same {α : Type} (f : Nat → α) (k : Nat) (v : α) : u1 f k v k = v := if_pos rfl
theorem u1_ne {α : Type} {f : Nat → α} {k j : Nat} {v : α} (h : j ≠ k) : u1 f k v j = f j := if_neg h
theorem u2_row {α : Type} {f : Nat → Nat → α} {r k q : Nat} {v : α} (h : q ≠ r) : u2 f r k v q = f q := if_neg h
theorem u2_self {α : Type} (f : Nat → Nat → α) (r k : Nat) (v : α) : u2 f r k v r = u1 (f r) k v := if_pos rfl
/-- which references may stand anywhere -/
def m_ok (n : Nat) : Value → Prop
  | .ref r => r < n ∨ j_b ≤ r
  | _ => True
theorem m_ok_le {n n' : Nat} (h : n ≤ n') {v : Value} (hv : m_ok n v) : m_ok n' v := by
  cases v <;> first | trivial | exact hv.elim (fun z => Or.inl (Nat.lt_of_lt_of_le z h)) Or.inr
theorem m_v_ext {ρ ρ' τ : Nat → Nat} {n : Nat} (h : ∀ r, r < n → ρ' r = ρ r) (hb : n ≤ j_b) {v : Value} (hv : m_ok n v) : m_v ρ' τ v = m_v ρ τ v := by
  cases v with
  | ref r =>
    show Value.ref (m_ad ρ' τ r) = Value.ref (m_ad ρ τ r)
    unfold m_ad
    by_cases hr : r < j_b
    · rw [if_pos hr, if_pos hr, h r (hv.elim id fun z => absurd hr (Nat.not_lt.mpr z))]
    · rw [if_neg hr, if_neg hr]
  | _ => rfl
/-- what is true of a store by itself -/
def m_Wf (rn : Nat → Nat) (rx : Nat → Nat → Int32) (σ : Sto) : Prop :=
  (∀ r, σ.1 r ≠ none → r < s_n σ ∨ ∃ k, k < 5 ∧ r = j_b + k) ∧ s_n σ ≤ j_b ∧ (∀ k, k < 5 → σ.1 (j_b + k) = some (.inr (.int, rn k)) ∧ σ.2.2.1 (j_b + k) = rx k) ∧ (∀ r k q, r < s_n σ → σ.2.1 r k = some q → q < s_n σ ∨ j_b ≤ q)
/-- the tables and the script, which stand before the call and stay -/
def j_sC : Nat → String := fun k => match k with
  | 0 => RX2 | 1 => RX2 | _ => RX1
def j_sN : Nat → String := fun k => match k with
  | 0 => "SIGNS" | 1 => "LETTERS" | 2 => "ACROSS" | _ => "DOWN"
/-- words of the tables that hold of a state, not of its first tables alone -/
def j_isN : Jvm.Cond → Bool
  | .methodLinkNest .. => true
  | .arrayOver .. => true
  | _ => false
def m_X (U : State) : Prop := ∀ w ∈ lw_tbl, j_isN w = true → w.before #[] U = true
theorem m_aoF {vm vm' : Vm} (h : vm.Alike vm') (f : Class → Bool) (hf : ∀ k : Class, f k.bare = f k) : vm'.classes.findIdx? f = vm.classes.findIdx? f := by
  have e : ∀ v : Vm, v.bare.classes.findIdx? f = v.classes.findIdx? f := fun v => by
    simp only [Vm.bare, Array.findIdx?_map]
    congr 1; funext k; exact hf k
  rw [← e vm', ← e vm, h.bare_eq]
theorem m_ao {ty : FieldType} {u U : State} (h : u.vm.Alike U.vm) (h1 : (Jvm.Cond.arrayOver ty).before #[] u = true) : (Jvm.Cond.arrayOver ty).before #[] U = true := by
  rw [← h1]
  simp only [Jvm.Cond.before, Jvm.Cond.holds, Jvm.Cond.value, h.findClass]
  congr 1
  congr 1
  funext comp
  rw [m_aoF h _ (fun k => rfl)]
  congr 1
  funext c
  exact h.class_map _ (fun k r _ _ => rfl) c
theorem m_X.same {u U : State} (h : u.vm = U.vm) (hX : m_X u) : m_X U := fun w hw hn => by
  have h1 := hX w hw hn
  cases w <;> first | exact va_tabs rfl h h1 | exact m_ao (by rw [h]; exact Vm.Alike.refl _) h1 | cases hn
theorem m_X.warm {u U : State} (hW : u.WarmedH U.vm) (hX : m_X u) : m_X U := fun w hw hn => by
  have h1 := hX w hw hn
  cases w <;> first | exact va_Nw.warmM hW h1 | exact m_ao hW.alike h1 | cases hn
def m_G (τ rn : Nat → Nat) (rx : Nat → Nat → Int32) (A : Nat → Prop) (U : State) (H : Heap) : Prop :=
  (m_X U ∧ ∀ k, k < 4 → va_Z (j_sC k) (j_sN k) "[I" (.ref (τ k)) A U H) ∧ ∀ k, k < 5 → va_T .int (τ k) (rn k) (fun j => .int (rx k j)) A U H
theorem m_G.warm {τ rn : Nat → Nat} {rx : Nat → Nat → Int32} {A : Nat → Prop} {u U : State} {H : Heap} (hW : u.WarmedH U.vm) (h : m_G τ rn rx A u H) : m_G τ rn rx A U H := ⟨⟨h.1.1.warm hW, fun k hk => va_Z.moved hW.alike (h.1.2 k hk)⟩, fun k hk => va_T.moved hW.alike (h.2 k hk)⟩
theorem m_G.same {τ rn : Nat → Nat} {rx : Nat → Nat → Int32} {A : Nat → Prop} {u U : State} {H : Heap} (hv : u.vm = U.vm) (h : m_G τ rn rx A u H) : m_G τ rn rx A U H := by
  have ha : u.vm.Alike U.vm := by rw [hv]; exact Vm.Alike.refl _
  exact ⟨⟨h.1.1.same hv, fun k hk => va_Z.moved ha (h.1.2 k hk)⟩, fun k hk => va_T.moved ha (h.2 k hk)⟩
theorem m_G.kept {τ rn : Nat → Nat} {rx : Nat → Nat → Int32} {A B : Nat → Prop} {U : State} {H H1 : Heap} (h : m_G τ rn rx A U H) (hq : ∀ a : Nat, a < H.size → ¬ A a → H1[a]? = H[a]?) (hAB : ∀ q, B q → A q) : m_G τ rn rx B U H1 := ⟨⟨h.1.1, fun k hk => ((h.1.2 k hk).kept hq).narrow hAB⟩, fun k hk => ((h.2 k hk).kept hq).narrow hAB⟩
def m_TYL : List FieldType := [.int, .byte, .boolean, .long, .object RX0, .array .int]
def m_tys (cA : FieldType → ClassId) : List (ClassId × FieldType) := m_TYL.map fun ty => (cA ty, ty)
/-- the store σ, seen in the heap H -/
def m_Inv (dC : Nat → ClassId) (dI : Nat → Nat → Nat) (cA : FieldType → ClassId) (τ rn : Nat → Nat) (rx : Nat → Nat → Int32) (A : Nat → Prop) (s : State) (ρ : Nat → Nat) (σ : Sto) (H : Heap) (locs : List Loc) : Prop :=
  va_P (dC, dI) j_cls (m_ws cA ρ τ σ) H ∧ va_D A (m_ws cA ρ τ σ) ∧ va_S A s.heap H locs ∧ m_Wf rn rx σ
def m_LR (ρ τ : Nat → Nat) (nL n : Nat) (ls : Array Slot) (L : j_L) : Prop :=
  L.length = nL ∧ (∃ lv : List (Nat × Value), lv_has ls nL lv ∧ ∀ (k : Nat) (v : Value), L[k]? = some (some v) → (k, m_v ρ τ v) ∈ lv) ∧ ∀ v, some v ∈ L → m_ok n v
theorem m_LR_at {ρ τ : Nat → Nat} {nL n : Nat} {ls : Array Slot} {L : j_L} (h : m_LR ρ τ nL n ls L) {k : Nat} {v : Value} (hk : L[k]? = some (some v)) : ls[k]? = some (.val (m_v ρ τ v)) := by
  obtain ⟨-, ⟨lv, h1, h2⟩, -⟩ := h
  exact h1.2.2 _ (h2 k v hk)
theorem m_LR_ok {ρ τ : Nat → Nat} {nL n : Nat} {ls : Array Slot} {L : j_L} (h : m_LR ρ τ nL n ls L) {k : Nat} {v : Value} (hk : L[k]? = some (some v)) : m_ok n v := h.2.2 v (List.mem_of_getElem? hk)
theorem m_LR_sz {ρ τ : Nat → Nat} {nL n : Nat} {ls : Array Slot} {L : j_L} (h : m_LR ρ τ nL n ls L) : ls.size = nL := by
  obtain ⟨-, ⟨lv, h1, -⟩, -⟩ := h
  exact h1.1
theorem j_st1_eq : ∀ (L : j_L) (k : Nat) (v : Value), j_st1 L k v = (j_kill L k).set k (some v)
  | [], k, v => by cases k <;> simp [j_st1, j_kill]
  | x :: r, 0, v => by simp [j_st1, j_kill]
  | x :: r, 1, v => by
    have e : j_st1 r 0 v = r.set 0 (some v) := by cases r <;> simp [j_st1]
    cases x with
    | none => simp [j_st1, j_kill, j_killv, e]
    | some u => by_cases h : u.category = 2 <;> simp [j_st1, j_kill, j_killv, h, e]
  | x :: r, k + 2, v => by
    have ih := j_st1_eq r (k + 1) v
    rw [show j_st1 (x :: r) (k + 2) v = x :: j_st1 r (k + 1) v from rfl, ih]
    have e : j_kill (x :: r) (k + 2) = x :: j_kill r (k + 1) := by
      unfold j_kill
      dsimp only
      rw [List.getElem?_cons_succ]
      rcases hr : r[k]? with _ | (_ | u)
      · rfl
      · rfl
      · by_cases h : u.category = 2
        · simp [h]
        · simp [h]
    rw [e, List.set_cons_succ]
theorem j_st2_eq : ∀ (L : j_L) (k : Nat) (v : Value), j_st2 L k v = ((j_kill L k).set k (some v)).set (k + 1) none
  | [], k, v => by cases k <;> simp [j_st2, j_kill]
  | x :: r, 0, v => by cases r <;> simp [j_st2, j_kill]
  | x :: r, 1, v => by
    have e : j_st2 r 0 v = (r.set 0 (some v)).set 1 none := by
      rcases r with _ | ⟨a, _ | ⟨b, r⟩⟩ <;> simp [j_st2]
    cases x with
    | none => simp [j_st2, j_kill, j_killv, e]
    | some u => by_cases h : u.category = 2 <;> simp [j_st2, j_kill, j_killv, h, e]
  | x :: r, k + 2, v => by
    have ih := j_st2_eq r (k + 1) v
    rw [show j_st2 (x :: r) (k + 2) v = x :: j_st2 r (k + 1) v from rfl, ih]
    have e : j_kill (x :: r) (k + 2) = x :: j_kill r (k + 1) := by
      unfold j_kill
      dsimp only
      rw [List.getElem?_cons_succ]
      rcases hr : r[k]? with _ | (_ | u)
      · rfl
      · rfl
      · by_cases h : u.category = 2
        · simp [h]
        · simp [h]
    rw [e, List.set_cons_succ, List.set_cons_succ]
theorem m_kill_len (L : j_L) (k : Nat) : (j_kill L k).length = L.length := by
  unfold j_kill
  cases k with
  | zero => rfl
  | succ q =>
    dsimp only
    split
    · split
      · simp
      · rfl
    · rfl
theorem m_kill_get {L : j_L} {k j : Nat} {w : Value} (h : (j_kill L k)[j]? = some (some w)) : L[j]? = some (some w) ∧ ¬ (j + 1 = k ∧ w.category = 2) := by
  unfold j_kill at h
  cases k with
  | zero => exact ⟨h, fun z => by omega⟩
  | succ q =>
    dsimp only at h
    split at h
    next v hv =>
      split at h
      next hc =>
        rw [List.getElem?_set] at h
        by_cases e : q = j
        · rw [if_pos e] at h
          split at h <;> cases h
        · rw [if_neg e] at h
          exact ⟨h, fun z => e (by omega)⟩
      next hc =>
        refine ⟨h, fun z => ?_⟩
        have e : q = j := by omega
        subst e
        rw [hv] at h
        cases h
        exact hc z.2
    next hv =>
      refine ⟨h, fun z => ?_⟩
      have e : q = j := by omega
      subst e
      exact hv w h
theorem m_LR_st1 {ρ τ : Nat → Nat} {nL n : Nat} {ls' : Array Slot} {L : j_L} {i : Nat} {v : Value} {lv : List (Nat × Value)} (hlen : L.length = nL) (h2 : ∀ (k : Nat) (v : Value), L[k]? = some (some v) → (k, m_v ρ τ v) ∈ lv) (h3 : ∀ v, some v ∈ L → m_ok n v) (hv : m_ok n v)
    (h : lv_has ls' nL ((i, m_v ρ τ v) :: lv.filter (fun q => !(q.1 == i) && !(q.1 + 1 == i && q.2.category == 2)))) : m_LR ρ τ nL n ls' (j_st1 L i v) := by
  have key : ∀ (k : Nat) (w : Value), (j_st1 L i v)[k]? = some (some w) → (k = i ∧ w = v) ∨ (k ≠ i ∧ L[k]? = some (some w) ∧ ¬ (k + 1 = i ∧ w.category = 2)) := by
    intro k w hk
    rw [j_st1_eq] at hk
    rw [List.getElem?_set] at hk
    by_cases e : i = k
    · rw [if_pos e] at hk
      split at hk
      · cases hk
        exact Or.inl ⟨e.symm, rfl⟩
      · cases hk
    · rw [if_neg e] at hk
      obtain ⟨a, b⟩ := m_kill_get hk
      exact Or.inr ⟨fun z => e z.symm, a, b⟩
  refine ⟨by rw [j_st1_eq, List.length_set, m_kill_len, hlen], ⟨_, h, fun k w hk => ?_⟩, fun w hw => ?_⟩
  · rcases key k w hk with ⟨rfl, rfl⟩ | ⟨e, a, b⟩
    · exact List.mem_cons_self
    · refine List.mem_cons_of_mem _ (List.mem_filter.mpr ⟨h2 k w a, ?_⟩)
      rw [m_v_cat]
      by_cases e1 : k + 1 = i
      · have : ¬ w.category = 2 := fun z => b ⟨e1, z⟩
        simp [e, this]
      · simp [e, e1]
  · obtain ⟨k, hk⟩ := List.getElem?_of_mem hw
    rcases key k w hk with ⟨-, rfl⟩ | ⟨-, a, -⟩
    · exact hv
    · exact h3 w (List.mem_of_getElem? a)
theorem m_LR_st2 {ρ τ : Nat → Nat} {nL n : Nat} {ls' : Array Slot} {L : j_L} {i : Nat} {v : Value} {lv : List (Nat × Value)} (hlen : L.length = nL) (h2 : ∀ (k : Nat) (v : Value), L[k]? = some (some v) → (k, m_v ρ τ v) ∈ lv) (h3 : ∀ v, some v ∈ L → m_ok n v) (hv : m_ok n v)
    (h : lv_has ls' nL ((i, m_v ρ τ v) :: lv.filter (fun q => !(q.1 == i) && (!(q.1 == i + 1) && !(q.1 + 1 == i && q.2.category == 2))))) : m_LR ρ τ nL n ls' (j_st2 L i v) := by
  have key : ∀ (k : Nat) (w : Value), (j_st2 L i v)[k]? = some (some w) → (k = i ∧ w = v) ∨ (k ≠ i ∧ k ≠ i + 1 ∧ L[k]? = some (some w) ∧ ¬ (k + 1 = i ∧ w.category = 2)) := by
    intro k w hk
    rw [j_st2_eq] at hk
    rw [List.getElem?_set] at hk
    by_cases e2 : i + 1 = k
    · rw [if_pos e2] at hk
      split at hk <;> cases hk
    · rw [if_neg e2, List.getElem?_set] at hk
      by_cases e : i = k
      · rw [if_pos e] at hk
        split at hk
        · cases hk
          exact Or.inl ⟨e.symm, rfl⟩
        · cases hk
      · rw [if_neg e] at hk
        obtain ⟨a, b⟩ := m_kill_get hk
        exact Or.inr ⟨fun z => e z.symm, fun z => e2 z.symm, a, b⟩
  refine ⟨by rw [j_st2_eq, List.length_set, List.length_set, m_kill_len, hlen], ⟨_, h, fun k w hk => ?_⟩, fun w hw => ?_⟩
  · rcases key k w hk with ⟨rfl, rfl⟩ | ⟨e, e2, a, b⟩
    · exact List.mem_cons_self
    · refine List.mem_cons_of_mem _ (List.mem_filter.mpr ⟨h2 k w a, ?_⟩)
      rw [m_v_cat]
      by_cases e1 : k + 1 = i
      · have : ¬ w.category = 2 := fun z => b ⟨e1, z⟩
        simp [e, e2, this]
      · simp [e, e2, e1]
  · obtain ⟨k, hk⟩ := List.getElem?_of_mem hw
    rcases key k w hk with ⟨-, rfl⟩ | ⟨-, -, a, -⟩
    · exact hv
    · exact h3 w (List.mem_of_getElem? a)
theorem m_cut_get {L : j_L} {w k : Nat} {v : Value} (h : (j_cut w L)[k]? = some (some v)) : L[k]? = some (some v) := by
  unfold j_cut at h
  by_cases hk : k < (L.take w).length
  · rw [List.getElem?_append_left hk, List.getElem?_take] at h
    split at h
    · exact h
    · cases h
  · rw [List.getElem?_append_right (by omega), List.getElem?_replicate] at h
    split at h <;> cases h
theorem m_LR_cut {ρ τ : Nat → Nat} {nL n : Nat} {ls : Array Slot} {L : j_L} (w : Nat) (h : m_LR ρ τ nL n ls L) : m_LR ρ τ nL n ls (j_cut w L) := by
  obtain ⟨h1, ⟨lv, h2, h3⟩, h4⟩ := h
  refine ⟨by unfold j_cut; simp; omega, ⟨lv, h2, fun k v hk => h3 k v (m_cut_get hk)⟩, fun v hv => ?_⟩
  obtain ⟨k, hk⟩ := List.getElem?_of_mem hv
  exact h4 v (List.mem_of_getElem? (m_cut_get hk))
theorem m_LR_ext {ρ ρ' τ : Nat → Nat} {nL n n' : Nat} {ls : Array Slot} {L : j_L} (h : m_LR ρ τ nL n ls L) (hn : n ≤ n') (hb : n ≤ j_b) (he : ∀ r, r < n → ρ' r = ρ r) : m_LR ρ' τ nL n' ls L := by
  obtain ⟨h1, ⟨lv, h2, h3⟩, h4⟩ := h
  refine ⟨h1, ⟨lv, h2, fun k v hk => ?_⟩, fun v hv => m_ok_le hn (h4 v hv)⟩
  rw [m_v_ext he hb (h4 v (List.mem_of_getElem? hk))]
  exact h3 k v hk
/-- the locals at the entry -/
theorem m_ent_len : ∀ as : List Value, (j_ent0 as).length = (lg_sl as).length
  | [] => rfl
  | v :: vs => by
    unfold j_ent0 lg_sl
    rw [List.flatMap_cons, List.length_append]
    have ih := m_ent_len vs
    unfold lg_sl at ih
    split
    · simp [ih]; omega
    · simp [ih]; omega
theorem m_ent_get (ρ τ : Nat → Nat) : ∀ (as : List Value) (i k : Nat) (v : Value), (j_ent0 as)[k]? = some (some v) → (i + k, m_v ρ τ v) ∈ lv_args i (as.map (m_v ρ τ)) ∧ v ∈ as
  | [], _, _, _, h => by simp [j_ent0] at h
  | a :: as, i, k, v, h => by
    rw [List.map_cons]
    unfold lv_args
    rw [m_v_cat]
    unfold j_ent0 at h
    by_cases hc : a.category = 2
    · rw [if_pos hc] at h ⊢
      match k, h with
      | 0, h => simp at h; subst h; exact ⟨List.mem_cons_self, List.mem_cons_self⟩
      | 1, h => simp at h
      | k + 2, h =>
        rw [List.getElem?_cons_succ, List.getElem?_cons_succ] at h
        obtain ⟨q1, q2⟩ := m_ent_get ρ τ as (i + 2) k v h
        exact ⟨List.mem_cons_of_mem _ (by rw [show i + (k + 2) = i + 2 + k by omega]; exact q1), List.mem_cons_of_mem _ q2⟩
    · rw [if_neg hc] at h ⊢
      match k, h with
      | 0, h => simp at h; subst h; exact ⟨List.mem_cons_self, List.mem_cons_self⟩
      | k + 1, h =>
        rw [List.getElem?_cons_succ] at h
        obtain ⟨q1, q2⟩ := m_ent_get ρ τ as (i + 1) k v h
        exact ⟨List.mem_cons_of_mem _ (by rw [show i + (k + 1) = i + 1 + k by omega]; exact q1), List.mem_cons_of_mem _ q2⟩
theorem m_sl_map (ρ τ : Nat → Nat) (as : List Value) : (lg_sl (as.map (m_v ρ τ))).length = (lg_sl as).length := by
  induction as with
  | nil => rfl
  | cons a as ih =>
    unfold lg_sl at ih ⊢
    rw [List.map_cons, List.flatMap_cons, List.flatMap_cons, List.length_append, List.length_append, ih, m_v_cat]
    split <;> rfl
theorem m_LR_ent {ρ τ : Nat → Nat} {nL n : Nat} {as : List Value} (hw : ∀ v ∈ as, m_ok n v) (hl : (j_ent0 as).length ≤ nL) : m_LR ρ τ nL n ((lg_sl (as.map (m_v ρ τ)) ++ List.replicate (nL - (lg_sl (as.map (m_v ρ τ))).length) Slot.unset).toArray) (j_ent nL as) := by
  have h := lv_entry (as.map (m_v ρ τ)) (n := nL) (by rw [m_sl_map, ← m_ent_len]; exact hl)
  have key : ∀ (k : Nat) (v : Value), (j_ent nL as)[k]? = some (some v) → (j_ent0 as)[k]? = some (some v) := by
    intro k v hk
    unfold j_ent at hk
    by_cases hl : k < (j_ent0 as).length
    · rwa [List.getElem?_append_left hl] at hk
    · rw [List.getElem?_append_right (by omega), List.getElem?_replicate] at hk
      split at hk <;> cases hk
  refine ⟨by unfold j_ent; simp; omega, ⟨_, h, fun k v hk => ?_⟩, fun v hv => ?_⟩
  · have := (m_ent_get ρ τ as 0 k v (key k v hk)).1
    rwa [Nat.zero_add] at this
  · obtain ⟨k, hk⟩ := List.getElem?_of_mem hv
    exact hw v (m_ent_get ρ τ as 0 k v (key k v hk)).2
/-- a place of an object written -/
theorem m_fs_get {ρ τ : Nat → Nat} {σ : Sto} {r c k : Nat} (hk : k < j_nf c) : (m_fs ρ τ σ r c)[k]? = some (m_f ρ τ σ r k (j_ty c k)) := by
  unfold m_fs
  rw [List.getElem?_map, List.getElem?_range hk]
  rfl
theorem m_fs_len {ρ τ : Nat → Nat} {σ : Sto} {r c : Nat} : (m_fs ρ τ σ r c).length = j_nf c := by
  unfold m_fs
  rw [List.length_map, List.length_range]
theorem m_fs_set {ρ τ : Nat → Nat} {σ σ' : Sto} {r c k : Nat} {v : Value} (hk : k < j_nf c) (hv : v = m_f ρ τ σ' r k (j_ty c k)) (ho : ∀ j, j ≠ k → m_f ρ τ σ' r j (j_ty c j) = m_f ρ τ σ r j (j_ty c j)) : (m_fs ρ τ σ r c).set k v = m_fs ρ τ σ' r c := by
  apply List.ext_getElem?
  intro i
  rw [List.getElem?_set]
  by_cases hi : i < j_nf c
  · have hR : (m_fs ρ τ σ' r c)[i]? = some (m_f ρ τ σ' r i (j_ty c i)) := m_fs_get hi
    rw [hR]
    by_cases e : k = i
    · subst e
      rw [if_pos rfl, if_pos (by rw [m_fs_len]; exact hi), hv]
    · rw [if_neg e, m_fs_get hi, ho i (fun z => e z.symm)]
  · have h1 : (m_fs ρ τ σ r c)[i]? = none := List.getElem?_eq_none (by rw [m_fs_len]; omega)
    have h2 : (m_fs ρ τ σ' r c)[i]? = none := List.getElem?_eq_none (by rw [m_fs_len]; omega)
    rw [h1, h2]
    by_cases e : k = i
    · rw [if_pos e, if_neg (by rw [m_fs_len]; omega)]
    · rw [if_neg e]
theorem m_Wf_uI {rn : Nat → Nat} {rx : Nat → Nat → Int32} {σ : Sto} {r k : Nat} {v : Int32} (hr : r < j_b) (h : m_Wf rn rx σ) : m_Wf rn rx (s_uI σ r k v) := ⟨h.1, h.2.1, fun q hq => ⟨(h.2.2.1 q hq).1, by show u2 _ r k v (j_b + q) = _; rw [u2_row (by omega)]; exact (h.2.2.1 q hq).2⟩, h.2.2.2⟩
theorem m_Wf_uJ {rn : Nat → Nat} {rx : Nat → Nat → Int32} {σ : Sto} {r k : Nat} {v : Int64} (h : m_Wf rn rx σ) : m_Wf rn rx (s_uJ σ r k v) := ⟨h.1, h.2.1, h.2.2.1, h.2.2.2⟩
theorem m_Wf_rI {rn : Nat → Nat} {rx : Nat → Nat → Int32} {σ : Sto} {r : Nat} {f : Nat → Int32} (hr : r < j_b) (h : m_Wf rn rx σ) : m_Wf rn rx (s_rI σ r f) := ⟨h.1, h.2.1, fun q hq => ⟨(h.2.2.1 q hq).1, by show u1 _ r f (j_b + q) = _; rw [u1_ne (by omega)]; exact (h.2.2.1 q hq).2⟩, h.2.2.2⟩
theorem m_Wf_uP {rn : Nat → Nat} {rx : Nat → Nat → Int32} {σ : Sto} {r k v : Nat} (hv : m_ok (s_n σ) (.ref v)) (h : m_Wf rn rx σ) : m_Wf rn rx (s_uP σ r k (some v)) := ⟨h.1, h.2.1, h.2.2.1, fun q j x hq hx => by
  by_cases e : q = r
  · subst e
    change u2 σ.2.1 q k (some v) q j = some x at hx
    rw [u2_self] at hx
    by_cases e2 : j = k
    · subst e2
      rw [u1_same] at hx
      cases hx
      exact hv
    · rw [u1_ne e2] at hx
      exact h.2.2.2 q j x hq hx
  · change u2 σ.2.1 r k (some v) q j = some x at hx
    rw [u2_row e] at hx
    exact h.2.2.2 q j x hq hx⟩
theorem m_inr {rn : Nat → Nat} {rx : Nat → Nat → Int32} {σ : Sto} (h : m_Wf rn rx σ) {r : Nat} {x : j_Sh} (hr : σ.1 r = some x) (hb : r < j_b) : r < s_n σ := (h.1 r (by rw [hr]; exact fun z => by cases z)).elim id (fun ⟨k, _, e⟩ => by omega)
theorem m_inr' {rn : Nat → Nat} {rx : Nat → Nat → Int32} {σ : Sto} (h : m_Wf rn rx σ) {r c : Nat} (hr : σ.1 r = some (.inl c)) : r < s_n σ := (h.1 r (by rw [hr]; exact fun z => by cases z)).elim id (fun ⟨k, hk, e⟩ => by
  subst e
  rw [(h.2.2.1 k hk).1] at hr
  cases hr)
theorem m_inr2 {rn : Nat → Nat} {rx : Nat → Nat → Int32} {σ : Sto} (h : m_Wf rn rx σ) {r : Nat} {x : j_Sh} (hr : σ.1 r = some x) : r < s_n σ ∨ ∃ k, k < 5 ∧ r = j_b + k := h.1 r (by rw [hr]; exact fun z => by cases z)
end
section
/-! ===== what each stretch of each method does (by program wip/gen) ===== -/
-- LastStirred$Flock.clear()V
set_option maxRecDepth 1000000 in
set_option maxHeartbeats 8000000 in
theorem t_1_0 (call : Nat → List Value → Sto → Option Rr) (again : Nat → j_L → List Value → Sto → Option Rr) (σ : Sto) (v0 : Nat) :
    j_seg k_1 h_1 call again 2000 0 [some (.ref v0)] [] σ =
    if v0 < j_b then j_oc σ 0 v0 (let τ1 : Sto := s_uI σ v0 3 (j_k 0);
    if v0 < j_b then j_oc τ1 0 v0 (let τ2 : Sto := s_uI τ1 v0 4 (j_k (-9));
    if v0 < j_b then j_oc τ2 0 v0 (let τ3 : Sto := s_uI τ2 v0 5 (j_k (-9));
    if v0 < j_b then j_oc τ3 0 v0 (let τ4 : Sto := s_uI τ3 v0 6 (j_k (-9));
    if v0 < j_b then j_oc τ4 0 v0 (let τ5 : Sto := s_uI τ4 v0 7 (j_k (-9));
    if v0 < j_b then j_oc τ5 0 v0 (let τ6 : Sto := s_uI τ5 v0 8 (j_k 0);
    if v0 < j_b then j_oc τ6 0 v0 (let τ7 : Sto := s_uI τ6 v0 9 (j_k 0);
    some (none, τ7)) else none) else none) else none) else none) else none) else none) else none := rfl

-- LastStirred$Flock.add(II)V
set_option maxRecDepth 1000000 in
set_option maxHeartbeats 8000000 in
theorem t_2_0 (call : Nat → List Value → Sto → Option Rr) (again : Nat → j_L → List Value → Sto → Option Rr) (σ : Sto) (v0 : Nat) (v1 : Int32) (v2 : Int32) :
    j_seg k_2 h_2 call again 2000 0 [some (.ref v0), some (.int v1), some (.int v2)] [] σ =
    j_oc σ 0 v0 (if (s_I σ v0 3) < (j_k 4) then (j_gP σ 0 v0 0 (fun a1 =>
     j_oc σ 0 v0 (j_is σ a1 (s_I σ v0 3) (let τ2 : Sto := s_uI σ a1 (s_I σ v0 3).toNatClampNeg v1;
     j_gP τ2 0 v0 1 (fun a3 =>
     j_oc τ2 0 v0 (j_is τ2 a3 (s_I τ2 v0 3) (let τ4 : Sto := s_uI τ2 a3 (s_I τ2 v0 3).toNatClampNeg v2;
     j_gP τ4 0 v0 2 (fun a5 =>
     j_oc τ4 0 v0 (j_is τ4 a5 (s_I τ4 v0 3) (let τ6 : Sto := s_uI τ4 a5 (s_I τ4 v0 3).toNatClampNeg (j_k 0);
     j_oc τ6 0 v0 (if v0 < j_b then j_oc τ6 0 v0 (let τ7 : Sto := s_uI τ6 v0 9 ((s_I τ6 v0 9) ||| ((j_k 1) <<< (v2 &&& 31)));
     j_oc τ7 0 v0 (if v0 < j_b then j_oc τ7 0 v0 (let τ8 : Sto := s_uI τ7 v0 3 ((s_I τ7 v0 3) + (j_k 1));
     some (none, τ8)) else none)) else none)))))))))))
    else some (none, σ)) := rfl

-- LastStirred$Flock.take(LLastStirred$Flock;)V
set_option maxRecDepth 1000000 in
set_option maxHeartbeats 8000000 in
theorem t_3_0 (call : Nat → List Value → Sto → Option Rr) (again : Nat → j_L → List Value → Sto → Option Rr) (σ : Sto) (v0 : Nat) (v1 : Nat) :
    j_seg k_3 h_3 call again 2000 0 [some (.ref v0), some (.ref v1), none] [] σ =
    j_oc σ 0 v1 (if v0 < j_b then j_oc σ 0 v0 (let τ1 : Sto := s_uI σ v0 3 (s_I σ v1 3);
    again 10 [some (.ref v0), some (.ref v1), some (.int (j_k 0))] [] τ1) else none) := rfl

set_option maxRecDepth 1000000 in
set_option maxHeartbeats 8000000 in
theorem t_3_10 (call : Nat → List Value → Sto → Option Rr) (again : Nat → j_L → List Value → Sto → Option Rr) (σ : Sto) (v0 : Nat) (v1 : Nat) (v2 : Int32) :
    j_seg k_3 h_3 call again 2000 10 [some (.ref v0), some (.ref v1), some (.int v2)] [] σ =
    j_oc σ 0 v0 (if v2 < (s_I σ v0 3) then (j_gP σ 0 v0 0 (fun a1 =>
     j_gP σ 0 v1 0 (fun a2 =>
     j_ia σ a2 v2 (
     j_is σ a1 v2 (let τ3 : Sto := s_uI σ a1 v2.toNatClampNeg (s_I σ a2 v2.toNatClampNeg);
     j_gP τ3 0 v0 1 (fun a4 =>
     j_gP τ3 0 v1 1 (fun a5 =>
     j_ia τ3 a5 v2 (
     j_is τ3 a4 v2 (let τ6 : Sto := s_uI τ3 a4 v2.toNatClampNeg (s_I τ3 a5 v2.toNatClampNeg);
     j_gP τ6 0 v0 2 (fun a7 =>
     j_gP τ6 0 v1 2 (fun a8 =>
     j_ia τ6 a8 v2 (
     j_is τ6 a7 v2 (let τ9 : Sto := s_uI τ6 a7 v2.toNatClampNeg (s_I τ6 a8 v2.toNatClampNeg);
     again 10 [some (.ref v0), some (.ref v1), some (.int (v2 + (j_k 1)))] [] τ9)))))))))))))
    else j_oc σ 0 v1 (if v0 < j_b then j_oc σ 0 v0 (let τ10 : Sto := s_uI σ v0 4 (s_I σ v1 4);
    j_oc τ10 0 v1 (if v0 < j_b then j_oc τ10 0 v0 (let τ11 : Sto := s_uI τ10 v0 5 (s_I τ10 v1 5);
    j_oc τ11 0 v1 (if v0 < j_b then j_oc τ11 0 v0 (let τ12 : Sto := s_uI τ11 v0 6 (s_I τ11 v1 6);
    j_oc τ12 0 v1 (if v0 < j_b then j_oc τ12 0 v0 (let τ13 : Sto := s_uI τ12 v0 7 (s_I τ12 v1 7);
    j_oc τ13 0 v1 (if v0 < j_b then j_oc τ13 0 v0 (let τ14 : Sto := s_uI τ13 v0 8 (s_I τ13 v1 8);
    j_oc τ14 0 v1 (if v0 < j_b then j_oc τ14 0 v0 (let τ15 : Sto := s_uI τ14 v0 9 (s_I τ14 v1 9);
    some (none, τ15)) else none)) else none)) else none)) else none)) else none)) else none)) := rfl

-- LastStirred$Flock.forgetGone()V
set_option maxRecDepth 1000000 in
set_option maxHeartbeats 8000000 in
theorem t_4_0 (call : Nat → List Value → Sto → Option Rr) (again : Nat → j_L → List Value → Sto → Option Rr) (σ : Sto) (v0 : Nat) :
    j_seg k_4 h_4 call again 2000 0 [some (.ref v0)] [] σ =
    j_gP σ 0 v0 2 (fun a1 =>
    j_c0 call 235 [.ref a1, .int (j_k 0)] σ (fun τ2 =>
    some (none, τ2))) := rfl

-- LastStirred$Flock.has(I)Z
set_option maxRecDepth 1000000 in
set_option maxHeartbeats 8000000 in
theorem t_5_0 (call : Nat → List Value → Sto → Option Rr) (again : Nat → j_L → List Value → Sto → Option Rr) (σ : Sto) (v0 : Nat) (v1 : Int32) :
    j_seg k_5 h_5 call again 2000 0 [some (.ref v0), some (.int v1)] [] σ =
    if v1 < 0 then (if (j_k 0) = 0 ∨ (j_k 0) = 1 then some (some (.int (j_k 0)), σ) else none)
    else j_oc σ 0 v0 (if v1 < (s_I σ v0 3) then (if (j_k 1) = 0 ∨ (j_k 1) = 1 then some (some (.int (j_k 1)), σ) else none)
    else if (j_k 0) = 0 ∨ (j_k 0) = 1 then some (some (.int (j_k 0)), σ) else none) := rfl

-- LastStirred$Flock.isLost(I)Z
set_option maxRecDepth 1000000 in
set_option maxHeartbeats 8000000 in
theorem t_6_0 (call : Nat → List Value → Sto → Option Rr) (again : Nat → j_L → List Value → Sto → Option Rr) (σ : Sto) (v0 : Nat) (v1 : Int32) :
    j_seg k_6 h_6 call again 2000 0 [some (.ref v0), some (.int v1)] [] σ =
    j_gP σ 0 v0 1 (fun a1 =>
    j_ia σ a1 v1 (
    if (s_I σ a1 v1.toNatClampNeg) = (j_k (-9)) then (if (j_k 1) = 0 ∨ (j_k 1) = 1 then some (some (.int (j_k 1)), σ) else none)
    else if (j_k 0) = 0 ∨ (j_k 0) = 1 then some (some (.int (j_k 0)), σ) else none)) := rfl

-- LastStirred$Flock.isIn(I)Z
set_option maxRecDepth 1000000 in
set_option maxHeartbeats 8000000 in
theorem t_7_0 (call : Nat → List Value → Sto → Option Rr) (again : Nat → j_L → List Value → Sto → Option Rr) (σ : Sto) (v0 : Nat) (v1 : Int32) :
    j_seg k_7 h_7 call again 2000 0 [some (.ref v0), some (.int v1)] [] σ =
    j_oc σ 0 v0 (if (((s_I σ v0 9) >>> (v1 &&& 31)) &&& (j_k 1)) = (j_k 1) then (if (j_k 1) = 0 ∨ (j_k 1) = 1 then some (some (.int (j_k 1)), σ) else none)
    else if (j_k 0) = 0 ∨ (j_k 0) = 1 then some (some (.int (j_k 0)), σ) else none) := rfl

-- LastStirred$Flock.whoIsIn(I)I
set_option maxRecDepth 1000000 in
set_option maxHeartbeats 8000000 in
theorem t_8_0 (call : Nat → List Value → Sto → Option Rr) (again : Nat → j_L → List Value → Sto → Option Rr) (σ : Sto) (v0 : Nat) (v1 : Int32) :
    j_seg k_8 h_8 call again 2000 0 [some (.ref v0), some (.int v1), none] [] σ =
    again 2 [some (.ref v0), some (.int v1), some (.int (j_k 0))] [] σ := rfl

set_option maxRecDepth 1000000 in
set_option maxHeartbeats 8000000 in
theorem t_8_2 (call : Nat → List Value → Sto → Option Rr) (again : Nat → j_L → List Value → Sto → Option Rr) (σ : Sto) (v0 : Nat) (v1 : Int32) (v2 : Int32) :
    j_seg k_8 h_8 call again 2000 2 [some (.ref v0), some (.int v1), some (.int v2)] [] σ =
    j_oc σ 0 v0 (if v2 < (s_I σ v0 3) then (j_gP σ 0 v0 1 (fun a1 =>
     j_ia σ a1 v2 (
     if (s_I σ a1 v2.toNatClampNeg) = v1 then (some (some (.int v2), σ))
     else again 2 [some (.ref v0), some (.int v1), some (.int (v2 + (j_k 1)))] [] σ)))
    else some (some (.int (j_k (-9))), σ)) := rfl

-- LastStirred$Flock.isOf(II)Z
set_option maxRecDepth 1000000 in
set_option maxHeartbeats 8000000 in
theorem t_9_0 (call : Nat → List Value → Sto → Option Rr) (again : Nat → j_L → List Value → Sto → Option Rr) (σ : Sto) (v0 : Nat) (v1 : Int32) (v2 : Int32) :
    j_seg k_9 h_9 call again 2000 0 [some (.ref v0), some (.int v1), some (.int v2)] [] σ =
    j_gP σ 0 v0 0 (fun a1 =>
    j_ia σ a1 v1 (
    if (s_I σ a1 v1.toNatClampNeg) = v2 then (if (j_k 1) = 0 ∨ (j_k 1) = 1 then some (some (.int (j_k 1)), σ) else none)
    else if v2 = (j_k 1) then (j_oc σ 0 v0 (j_c1 call 10 [.ref v0, .int v1] σ (fun x3 τ2 =>
     if x3 = 0 then (if v2 = (j_k 2) then (j_oc τ2 0 v0 (j_c1 call 11 [.ref v0, .int v1] τ2 (fun x5 τ4 =>
       if x5 = 0 then (if (j_k 0) = 0 ∨ (j_k 0) = 1 then some (some (.int (j_k 0)), τ4) else none)
       else if (j_k 1) = 0 ∨ (j_k 1) = 1 then some (some (.int (j_k 1)), τ4) else none)))
      else if (j_k 0) = 0 ∨ (j_k 0) = 1 then some (some (.int (j_k 0)), τ2) else none)
     else if (j_k 1) = 0 ∨ (j_k 1) = 1 then some (some (.int (j_k 1)), τ2) else none)))
    else if v2 = (j_k 2) then (j_oc σ 0 v0 (j_c1 call 11 [.ref v0, .int v1] σ (fun x7 τ6 =>
     if x7 = 0 then (if (j_k 0) = 0 ∨ (j_k 0) = 1 then some (some (.int (j_k 0)), τ6) else none)
     else if (j_k 1) = 0 ∨ (j_k 1) = 1 then some (some (.int (j_k 1)), τ6) else none)))
    else if (j_k 0) = 0 ∨ (j_k 0) = 1 then some (some (.int (j_k 0)), σ) else none)) := rfl

-- LastStirred$Flock.isShy(I)Z
set_option maxRecDepth 1000000 in
set_option maxHeartbeats 8000000 in
theorem t_10_0 (call : Nat → List Value → Sto → Option Rr) (again : Nat → j_L → List Value → Sto → Option Rr) (σ : Sto) (v0 : Nat) (v1 : Int32) :
    j_seg k_10 h_10 call again 2000 0 [some (.ref v0), some (.int v1)] [] σ =
    j_gP σ 0 v0 0 (fun a1 =>
    j_ia σ a1 v1 (
    if (s_I σ a1 v1.toNatClampNeg) = (j_k 1) then (if (j_k 1) = 0 ∨ (j_k 1) = 1 then some (some (.int (j_k 1)), σ) else none)
    else j_gP σ 0 v0 0 (fun a2 =>
    j_ia σ a2 v1 (
    if (s_I σ a2 v1.toNatClampNeg) = (j_k 5) then (if (j_k 1) = 0 ∨ (j_k 1) = 1 then some (some (.int (j_k 1)), σ) else none)
    else if (j_k 0) = 0 ∨ (j_k 0) = 1 then some (some (.int (j_k 0)), σ) else none)))) := rfl

-- LastStirred$Flock.isSlow(I)Z
set_option maxRecDepth 1000000 in
set_option maxHeartbeats 8000000 in
theorem t_11_0 (call : Nat → List Value → Sto → Option Rr) (again : Nat → j_L → List Value → Sto → Option Rr) (σ : Sto) (v0 : Nat) (v1 : Int32) :
    j_seg k_11 h_11 call again 2000 0 [some (.ref v0), some (.int v1)] [] σ =
    j_gP σ 0 v0 0 (fun a1 =>
    j_ia σ a1 v1 (
    if (s_I σ a1 v1.toNatClampNeg) = (j_k 2) then (if (j_k 1) = 0 ∨ (j_k 1) = 1 then some (some (.int (j_k 1)), σ) else none)
    else j_gP σ 0 v0 0 (fun a2 =>
    j_ia σ a2 v1 (
    if (s_I σ a2 v1.toNatClampNeg) = (j_k 4) then (if (j_k 1) = 0 ∨ (j_k 1) = 1 then some (some (.int (j_k 1)), σ) else none)
    else if (j_k 0) = 0 ∨ (j_k 0) = 1 then some (some (.int (j_k 0)), σ) else none)))) := rfl

-- LastStirred$Flock.tells(II)I
set_option maxRecDepth 1000000 in
set_option maxHeartbeats 8000000 in
theorem t_12_0 (call : Nat → List Value → Sto → Option Rr) (again : Nat → j_L → List Value → Sto → Option Rr) (σ : Sto) (v0 : Nat) (v1 : Int32) (v2 : Int32) :
    j_seg k_12 h_12 call again 2000 0 [some (.ref v0), some (.int v1), some (.int v2)] [] σ =
    if v2 = (j_k 0) then (j_gP σ 0 v0 0 (fun a1 =>
     j_ia σ a1 v1 (
     some (some (.int (s_I σ a1 v1.toNatClampNeg)), σ))))
    else if v2 = (j_k 1) then (j_gP σ 0 v0 1 (fun a2 =>
     j_ia σ a2 v1 (
     some (some (.int (s_I σ a2 v1.toNatClampNeg)), σ))))
    else j_gP σ 0 v0 2 (fun a3 =>
    j_ia σ a3 v1 (
    some (some (.int (s_I σ a3 v1.toNatClampNeg)), σ))) := rfl

-- LastStirred$Flock.drives()I
set_option maxRecDepth 1000000 in
set_option maxHeartbeats 8000000 in
theorem t_13_0 (call : Nat → List Value → Sto → Option Rr) (again : Nat → j_L → List Value → Sto → Option Rr) (σ : Sto) (v0 : Nat) :
    j_seg k_13 h_13 call again 2000 0 [some (.ref v0)] [] σ =
    j_oc σ 0 v0 (some (some (.int ((j_k 4) * (s_I σ v0 3))), σ)) := rfl

-- LastStirred$Flock.lostOnes()I
set_option maxRecDepth 1000000 in
set_option maxHeartbeats 8000000 in
theorem t_14_0 (call : Nat → List Value → Sto → Option Rr) (again : Nat → j_L → List Value → Sto → Option Rr) (σ : Sto) (v0 : Nat) :
    j_seg k_14 h_14 call again 2000 0 [some (.ref v0), none, none] [] σ =
    again 4 [some (.ref v0), some (.int (j_k 0)), some (.int (j_k 0))] [] σ := rfl

set_option maxRecDepth 1000000 in
set_option maxHeartbeats 8000000 in
theorem t_14_4 (call : Nat → List Value → Sto → Option Rr) (again : Nat → j_L → List Value → Sto → Option Rr) (σ : Sto) (v0 : Nat) (v1 : Int32) (v2 : Int32) :
    j_seg k_14 h_14 call again 2000 4 [some (.ref v0), some (.int v1), some (.int v2)] [] σ =
    j_oc σ 0 v0 (if v2 < (s_I σ v0 3) then (j_gP σ 0 v0 1 (fun a1 =>
     j_ia σ a1 v2 (
     if (s_I σ a1 v2.toNatClampNeg) = (j_k (-9)) then (again 4 [some (.ref v0), some (.int (v1 + (j_k 1))), some (.int (v2 + (j_k 1)))] [] σ)
     else again 4 [some (.ref v0), some (.int v1), some (.int (v2 + (j_k 1)))] [] σ)))
    else some (some (.int v1), σ)) := rfl

-- LastStirred$Flock.shyOnes()I
set_option maxRecDepth 1000000 in
set_option maxHeartbeats 8000000 in
theorem t_15_0 (call : Nat → List Value → Sto → Option Rr) (again : Nat → j_L → List Value → Sto → Option Rr) (σ : Sto) (v0 : Nat) :
    j_seg k_15 h_15 call again 2000 0 [some (.ref v0), none, none] [] σ =
    again 4 [some (.ref v0), some (.int (j_k 0)), some (.int (j_k 0))] [] σ := rfl

set_option maxRecDepth 1000000 in
set_option maxHeartbeats 8000000 in
theorem t_15_4 (call : Nat → List Value → Sto → Option Rr) (again : Nat → j_L → List Value → Sto → Option Rr) (σ : Sto) (v0 : Nat) (v1 : Int32) (v2 : Int32) :
    j_seg k_15 h_15 call again 2000 4 [some (.ref v0), some (.int v1), some (.int v2)] [] σ =
    j_oc σ 0 v0 (if v2 < (s_I σ v0 3) then (j_oc σ 0 v0 (j_c1 call 10 [.ref v0, .int v2] σ (fun x2 τ1 =>
     if x2 = 0 then (again 4 [some (.ref v0), some (.int v1), some (.int (v2 + (j_k 1)))] [] τ1)
     else again 4 [some (.ref v0), some (.int (v1 + (j_k 1))), some (.int (v2 + (j_k 1)))] [] τ1)))
    else some (some (.int v1), σ)) := rfl

-- LastStirred$Flock.allOff(LLastStirred$Ground;)I
set_option maxRecDepth 1000000 in
set_option maxHeartbeats 8000000 in
theorem t_16_0 (call : Nat → List Value → Sto → Option Rr) (again : Nat → j_L → List Value → Sto → Option Rr) (σ : Sto) (v0 : Nat) (v1 : Nat) :
    j_seg k_16 h_16 call again 2000 0 [some (.ref v0), some (.ref v1), none, none, none] [] σ =
    again 4 [some (.ref v0), some (.ref v1), some (.int (j_k 0)), some (.int (j_k 0)), none] [] σ := rfl

set_option maxRecDepth 1000000 in
set_option maxHeartbeats 8000000 in
theorem t_16_4 (call : Nat → List Value → Sto → Option Rr) (again : Nat → j_L → List Value → Sto → Option Rr) (σ : Sto) (v0 : Nat) (v1 : Nat) (v2 : Int32) (v3 : Int32) :
    j_seg k_16 h_16 call again 2000 4 [some (.ref v0), some (.ref v1), some (.int v2), some (.int v3), none] [] σ =
    j_oc σ 0 v0 (if v3 < (s_I σ v0 3) then (again 17 [some (.ref v0), some (.ref v1), some (.int v2), some (.int v3), some (.int (v3 + (j_k 1)))] [] σ)
    else some (some (.int v2), σ)) := rfl

set_option maxRecDepth 1000000 in
set_option maxHeartbeats 8000000 in
theorem t_16_17 (call : Nat → List Value → Sto → Option Rr) (again : Nat → j_L → List Value → Sto → Option Rr) (σ : Sto) (v0 : Nat) (v1 : Nat) (v2 : Int32) (v3 : Int32) (v4 : Int32) :
    j_seg k_16 h_16 call again 2000 17 [some (.ref v0), some (.ref v1), some (.int v2), some (.int v3), some (.int v4)] [] σ =
    j_oc σ 0 v0 (if v4 < (s_I σ v0 3) then (j_gP σ 0 v0 1 (fun a1 =>
     j_ia σ a1 v3 (
     if (s_I σ a1 v3.toNatClampNeg) = (j_k (-9)) then (again 17 [some (.ref v0), some (.ref v1), some (.int v2), some (.int v3), some (.int (v4 + (j_k 1)))] [] σ)
     else j_gP σ 0 v0 1 (fun a2 =>
     j_ia σ a2 v4 (
     if (s_I σ a2 v4.toNatClampNeg) = (j_k (-9)) then (again 17 [some (.ref v0), some (.ref v1), some (.int v2), some (.int v3), some (.int (v4 + (j_k 1)))] [] σ)
     else j_gP σ 0 v0 1 (fun a3 =>
     j_ia σ a3 v3 (
     j_gP σ 0 v0 1 (fun a4 =>
     j_ia σ a4 v4 (
     j_oc σ 1 v1 (j_c1 call 37 [.ref v1, .int (s_I σ a3 v3.toNatClampNeg), .int (s_I σ a4 v4.toNatClampNeg)] σ (fun x6 τ5 =>
     again 17 [some (.ref v0), some (.ref v1), some (.int (v2 + x6)), some (.int v3), some (.int (v4 + (j_k 1)))] [] τ5)))))))))))
    else again 4 [some (.ref v0), some (.ref v1), some (.int v2), some (.int (v3 + (j_k 1))), none] [] σ) := rfl

-- LastStirred$Flock.areSafe(LLastStirred$Ground;)Z
set_option maxRecDepth 1000000 in
set_option maxHeartbeats 8000000 in
theorem t_17_0 (call : Nat → List Value → Sto → Option Rr) (again : Nat → j_L → List Value → Sto → Option Rr) (σ : Sto) (v0 : Nat) (v1 : Nat) :
    j_seg k_17 h_17 call again 2000 0 [some (.ref v0), some (.ref v1), none] [] σ =
    again 2 [some (.ref v0), some (.ref v1), some (.int (j_k 0))] [] σ := rfl

set_option maxRecDepth 1000000 in
set_option maxHeartbeats 8000000 in
theorem t_17_2 (call : Nat → List Value → Sto → Option Rr) (again : Nat → j_L → List Value → Sto → Option Rr) (σ : Sto) (v0 : Nat) (v1 : Nat) (v2 : Int32) :
    j_seg k_17 h_17 call again 2000 2 [some (.ref v0), some (.ref v1), some (.int v2)] [] σ =
    j_oc σ 0 v0 (if v2 < (s_I σ v0 3) then (j_gP σ 0 v0 1 (fun a1 =>
     j_ia σ a1 v2 (
     if (s_I σ a1 v2.toNatClampNeg) = (j_k (-9)) then (if (j_k 0) = 0 ∨ (j_k 0) = 1 then some (some (.int (j_k 0)), σ) else none)
     else j_gP σ 1 v1 0 (fun a2 =>
     j_gP σ 0 v0 1 (fun a3 =>
     j_ia σ a3 v2 (
     j_ia σ a2 (s_I σ a3 v2.toNatClampNeg) (
     if (s_I σ a2 (s_I σ a3 v2.toNatClampNeg).toNatClampNeg) = (j_k 3) then (again 2 [some (.ref v0), some (.ref v1), some (.int (v2 + (j_k 1)))] [] σ)
     else if (j_k 0) = 0 ∨ (j_k 0) = 1 then some (some (.int (j_k 0)), σ) else none)))))))
    else j_oc σ 0 v0 (if 0 < (s_I σ v0 3) then (if (j_k 1) = 0 ∨ (j_k 1) = 1 then some (some (.int (j_k 1)), σ) else none)
    else if (j_k 0) = 0 ∨ (j_k 0) = 1 then some (some (.int (j_k 0)), σ) else none)) := rfl

-- LastStirred$Flock.areAt([I)Z
set_option maxRecDepth 1000000 in
set_option maxHeartbeats 8000000 in
theorem t_18_0 (call : Nat → List Value → Sto → Option Rr) (again : Nat → j_L → List Value → Sto → Option Rr) (σ : Sto) (v0 : Nat) (v1 : Nat) :
    j_seg k_18 h_18 call again 2000 0 [some (.ref v0), some (.ref v1), none] [] σ =
    again 2 [some (.ref v0), some (.ref v1), some (.int (j_k 0))] [] σ := rfl

set_option maxRecDepth 1000000 in
set_option maxHeartbeats 8000000 in
theorem t_18_2 (call : Nat → List Value → Sto → Option Rr) (again : Nat → j_L → List Value → Sto → Option Rr) (σ : Sto) (v0 : Nat) (v1 : Nat) (v2 : Int32) :
    j_seg k_18 h_18 call again 2000 2 [some (.ref v0), some (.ref v1), some (.int v2)] [] σ =
    j_oc σ 0 v0 (if v2 < (s_I σ v0 3) then (j_gP σ 0 v0 1 (fun a1 =>
     j_ia σ a1 v2 (
     j_ia σ v1 v2 (
     if (s_I σ a1 v2.toNatClampNeg) = (s_I σ v1 v2.toNatClampNeg) then (again 2 [some (.ref v0), some (.ref v1), some (.int (v2 + (j_k 1)))] [] σ)
     else if (j_k 0) = 0 ∨ (j_k 0) = 1 then some (some (.int (j_k 0)), σ) else none))))
    else if (j_k 1) = 0 ∨ (j_k 1) = 1 then some (some (.int (j_k 1)), σ) else none) := rfl

-- LastStirred$Flock.inOneNumber()J
set_option maxRecDepth 1000000 in
set_option maxHeartbeats 8000000 in
theorem t_19_0 (call : Nat → List Value → Sto → Option Rr) (again : Nat → j_L → List Value → Sto → Option Rr) (σ : Sto) (v0 : Nat) :
    j_seg k_19 h_19 call again 2000 0 [some (.ref v0), none, none, none] [] σ =
    j_oc σ 0 v0 (again 10 [some (.ref v0), some (.long (((s_I σ v0 8) &&& (j_k 1)).toInt64)), none, some (.int (j_k 0))] [] σ) := rfl

set_option maxRecDepth 1000000 in
set_option maxHeartbeats 8000000 in
theorem t_19_10 (call : Nat → List Value → Sto → Option Rr) (again : Nat → j_L → List Value → Sto → Option Rr) (σ : Sto) (v0 : Nat) (v1 : Int64) (v3 : Int32) :
    j_seg k_19 h_19 call again 2000 10 [some (.ref v0), some (.long v1), none, some (.int v3)] [] σ =
    j_oc σ 0 v0 (if v3 < (s_I σ v0 3) then (j_gP σ 0 v0 1 (fun a1 =>
     j_ia σ a1 v3 (
     j_c2 call 20 [.long v1, .int (s_I σ a1 v3.toNatClampNeg)] σ (fun x3 τ2 =>
     again 10 [some (.ref v0), some (.long x3), none, some (.int (v3 + (j_k 1)))] [] τ2))))
    else j_oc σ 0 v0 (j_c2 call 20 [.long v1, .int (s_I σ v0 4)] σ (fun x5 τ4 =>
    j_oc τ4 0 v0 (j_c2 call 20 [.long x5, .int (s_I τ4 v0 5)] τ4 (fun x7 τ6 =>
    j_oc τ6 0 v0 (j_c2 call 20 [.long x7, .int (s_I τ6 v0 6)] τ6 (fun x9 τ8 =>
    j_oc τ8 0 v0 (j_c2 call 20 [.long x9, .int (s_I τ8 v0 7)] τ8 (fun x11 τ10 =>
    some (some (.long x11), τ10)))))))))) := rfl

-- LastStirred$Flock.joined(JI)J
set_option maxRecDepth 1000000 in
set_option maxHeartbeats 8000000 in
theorem t_20_0 (call : Nat → List Value → Sto → Option Rr) (again : Nat → j_L → List Value → Sto → Option Rr) (σ : Sto) (v0 : Int64) (v2 : Int32) :
    j_seg k_20 h_20 call again 2000 0 [some (.long v0), none, some (.int v2)] [] σ =
    if v2 = (j_k (-9)) then (some (some (.long (((j_cJ 0) * v0) + (j_k 31).toInt64)), σ))
    else some (some (.long (((j_cJ 0) * v0) + v2.toInt64)), σ) := rfl

-- LastStirred$Flock.aimOf(I)I
set_option maxRecDepth 1000000 in
set_option maxHeartbeats 8000000 in
theorem t_21_0 (call : Nat → List Value → Sto → Option Rr) (again : Nat → j_L → List Value → Sto → Option Rr) (σ : Sto) (v0 : Nat) (v1 : Int32) :
    j_seg k_21 h_21 call again 2000 0 [some (.ref v0), some (.int v1)] [] σ =
    j_gP σ 0 v0 0 (fun a1 =>
    j_ia σ a1 v1 (
    if (s_I σ a1 v1.toNatClampNeg) = (j_k 3) then (j_oc σ 0 v0 (if (s_I σ v0 6) = (j_k (-9)) then (j_oc σ 0 v0 (some (some (.int (s_I σ v0 5)), σ)))
     else j_oc σ 0 v0 (some (some (.int (s_I σ v0 7)), σ))))
    else j_oc σ 0 v0 (some (some (.int (s_I σ v0 5)), σ)))) := rfl

-- LastStirred$Flock.can(LLastStirred$Ground;IIZ)Z
set_option maxRecDepth 1000000 in
set_option maxHeartbeats 8000000 in
theorem t_22_0 (call : Nat → List Value → Sto → Option Rr) (again : Nat → j_L → List Value → Sto → Option Rr) (σ : Sto) (v0 : Nat) (v1 : Nat) (v2 : Int32) (v3 : Int32) (v4 : Int32) :
    j_seg k_22 h_22 call again 2000 0 [some (.ref v0), some (.ref v1), some (.int v2), some (.int v3), some (.int v4)] [] σ =
    if v3 = (j_k (-9)) then (if (j_k 0) = 0 ∨ (j_k 0) = 1 then some (some (.int (j_k 0)), σ) else none)
    else j_gP σ 1 v1 0 (fun a1 =>
    j_ia σ a1 v3 (
    if (s_I σ a1 v3.toNatClampNeg) = (j_k 1) then (if (j_k 0) = 0 ∨ (j_k 0) = 1 then some (some (.int (j_k 0)), σ) else none)
    else j_oc σ 0 v0 (if (((s_I σ v0 9) >>> (v3 &&& 31)) &&& (j_k 1)) = (j_k 1) then (if (j_k 0) = 0 ∨ (j_k 0) = 1 then some (some (.int (j_k 0)), σ) else none)
    else j_gP σ 1 v1 0 (fun a2 =>
    j_ia σ a2 v3 (
    if (s_I σ a2 v3.toNatClampNeg) = (j_k 4) then (j_gP σ 0 v0 0 (fun a3 =>
     j_ia σ a3 v2 (
     if (s_I σ a3 v2.toNatClampNeg) = (j_k 4) then (if (j_k 0) = 0 ∨ (j_k 0) = 1 then some (some (.int (j_k 0)), σ) else none)
     else if v4 = 0 then (if (j_k 1) = 0 ∨ (j_k 1) = 1 then some (some (.int (j_k 1)), σ) else none)
     else if (j_k 0) = 0 ∨ (j_k 0) = 1 then some (some (.int (j_k 0)), σ) else none)))
    else if (j_k 1) = 0 ∨ (j_k 1) = 1 then some (some (.int (j_k 1)), σ) else none))))) := rfl

-- LastStirred$Flock.move(LLastStirred$Ground;II)V
set_option maxRecDepth 1000000 in
set_option maxHeartbeats 8000000 in
theorem t_23_0 (call : Nat → List Value → Sto → Option Rr) (again : Nat → j_L → List Value → Sto → Option Rr) (σ : Sto) (v0 : Nat) (v1 : Nat) (v2 : Int32) (v3 : Int32) :
    j_seg k_23 h_23 call again 2000 0 [some (.ref v0), some (.ref v1), some (.int v2), some (.int v3)] [] σ =
    j_oc σ 0 v0 (j_gP σ 0 v0 1 (fun a1 =>
    j_ia σ a1 v2 (
    if v0 < j_b then j_oc σ 0 v0 (let τ2 : Sto := s_uI σ v0 9 ((s_I σ v0 9) &&& (((j_k 1) <<< ((s_I σ a1 v2.toNatClampNeg) &&& 31)) ^^^ (j_k (-1))));
    j_gP τ2 1 v1 0 (fun a3 =>
    j_ia τ2 a3 v3 (
    if (s_I τ2 a3 v3.toNatClampNeg) = (j_k 2) then (j_gP τ2 0 v0 1 (fun a4 =>
     j_is τ2 a4 v2 (let τ5 : Sto := s_uI τ2 a4 v2.toNatClampNeg (j_k (-9));
     j_gP τ5 0 v0 2 (fun a6 =>
     j_ia τ5 a6 v2 (
     j_is τ5 a6 v2 (let τ7 : Sto := s_uI τ5 a6 v2.toNatClampNeg ((s_I τ5 a6 v2.toNatClampNeg) + (j_k 1));
     some (none, τ7)))))))
    else j_gP τ2 0 v0 1 (fun a8 =>
    j_is τ2 a8 v2 (let τ9 : Sto := s_uI τ2 a8 v2.toNatClampNeg v3;
    j_oc τ9 0 v0 (if v0 < j_b then j_oc τ9 0 v0 (let τ10 : Sto := s_uI τ9 v0 9 ((s_I τ9 v0 9) ||| ((j_k 1) <<< (v3 &&& 31)));
    j_gP τ10 0 v0 2 (fun a11 =>
    j_ia τ10 a11 v2 (
    j_is τ10 a11 v2 (let τ12 : Sto := s_uI τ10 a11 v2.toNatClampNeg ((s_I τ10 a11 v2.toNatClampNeg) + (j_k 1));
    some (none, τ12))))) else none)))))) else none))) := rfl

-- LastStirred$Flock.becomesLast(II)V
set_option maxRecDepth 1000000 in
set_option maxHeartbeats 8000000 in
theorem t_24_0 (call : Nat → List Value → Sto → Option Rr) (again : Nat → j_L → List Value → Sto → Option Rr) (σ : Sto) (v0 : Nat) (v1 : Int32) (v2 : Int32) :
    j_seg k_24 h_24 call again 2000 0 [some (.ref v0), some (.int v1), some (.int v2)] [] σ =
    j_oc σ 0 v0 (if v0 < j_b then j_oc σ 0 v0 (let τ1 : Sto := s_uI σ v0 6 (s_I σ v0 4);
    j_oc τ1 0 v0 (if v0 < j_b then j_oc τ1 0 v0 (let τ2 : Sto := s_uI τ1 v0 7 (s_I τ1 v0 5);
    if v0 < j_b then j_oc τ2 0 v0 (let τ3 : Sto := s_uI τ2 v0 4 v1;
    if v0 < j_b then j_oc τ3 0 v0 (let τ4 : Sto := s_uI τ3 v0 5 v2;
    some (none, τ4)) else none) else none) else none)) else none) := rfl

-- LastStirred$Flock.stirBy(LLastStirred$Ground;II)I
set_option maxRecDepth 1000000 in
set_option maxHeartbeats 8000000 in
theorem t_25_0 (call : Nat → List Value → Sto → Option Rr) (again : Nat → j_L → List Value → Sto → Option Rr) (σ : Sto) (v0 : Nat) (v1 : Nat) (v2 : Int32) (v3 : Int32) :
    j_seg k_25 h_25 call again 2000 0 [some (.ref v0), some (.ref v1), some (.int v2), some (.int v3), none] [] σ =
    j_oc σ 0 v0 (j_c1 call 5 [.ref v0, .int v2] σ (fun x2 τ1 =>
    if x2 = 0 then (some (some (.int (j_k (-9))), τ1))
    else j_gP τ1 0 v0 1 (fun a3 =>
    j_ia τ1 a3 v2 (
    if (s_I τ1 a3 v2.toNatClampNeg) = (j_k (-9)) then (some (some (.int (j_k (-9))), τ1))
    else j_gP τ1 0 v0 1 (fun a4 =>
    j_ia τ1 a4 v2 (
    j_oc τ1 1 v1 (j_c1 call 38 [.ref v1, .int (s_I τ1 a4 v2.toNatClampNeg), .int v3] τ1 (fun x6 τ5 =>
    j_oc τ5 0 v0 (j_c1 call 22 [.ref v0, .ref v1, .int v2, .int x6, .int (j_k 0)] τ5 (fun x8 τ7 =>
    if x8 = 0 then (some (some (.int (j_k (-9))), τ7))
    else j_oc τ7 0 v0 (j_c0 call 23 [.ref v0, .ref v1, .int v2, .int x6] τ7 (fun τ9 =>
    j_oc τ9 0 v0 (j_c0 call 24 [.ref v0, .int v2, .int x6] τ9 (fun τ10 =>
    some (some (.int x6), τ10))))))))))))))) := rfl

-- LastStirred$Flock.takeStep(LLastStirred$Ground;)I
set_option maxRecDepth 1000000 in
set_option maxHeartbeats 8000000 in
theorem t_26_0 (call : Nat → List Value → Sto → Option Rr) (again : Nat → j_L → List Value → Sto → Option Rr) (σ : Sto) (v0 : Nat) (v1 : Nat) :
    j_seg k_26 h_26 call again 2000 0 [some (.ref v0), some (.ref v1), none, none, none, none, none, none] [] σ =
    again 15 [some (.ref v0), some (.ref v1), some (.int (j_k 0)), some (.int (j_k (-9))), some (.int (j_k (-9))), some (.int (j_k 0)), some (.int (j_k 0)), none] [] σ := rfl

set_option maxRecDepth 1000000 in
set_option maxHeartbeats 8000000 in
theorem t_26_15 (call : Nat → List Value → Sto → Option Rr) (again : Nat → j_L → List Value → Sto → Option Rr) (σ : Sto) (v0 : Nat) (v1 : Nat) (v2 : Int32) (v3 : Int32) (v4 : Int32) (v5 : Int32) (v6 : Int32) :
    j_seg k_26 h_26 call again 2000 15 [some (.ref v0), some (.ref v1), some (.int v2), some (.int v3), some (.int v4), some (.int v5), some (.int v6), none] [] σ =
    j_oc σ 0 v0 (if v6 < (s_I σ v0 3) then (j_oc σ 0 v0 (if v6 = (s_I σ v0 4) then (again 15 [some (.ref v0), some (.ref v1), some (.int v2), some (.int v3), some (.int v4), some (.int v5), some (.int (v6 + (j_k 1))), none] [] σ)
     else j_gP σ 0 v0 1 (fun a1 =>
     j_ia σ a1 v6 (
     if (s_I σ a1 v6.toNatClampNeg) = (j_k (-9)) then (again 15 [some (.ref v0), some (.ref v1), some (.int v2), some (.int v3), some (.int v4), some (.int v5), some (.int (v6 + (j_k 1))), none] [] σ)
     else j_oc σ 0 v0 (if ((s_I σ v0 8) &&& (j_k 1)) = (j_k 1) then (j_oc σ 0 v0 (j_c1 call 11 [.ref v0, .int v6] σ (fun x3 τ2 =>
      if x3 = 0 then (j_oc τ2 0 v0 (j_c1 call 27 [.ref v0, .ref v1, .int v6, .int v5] τ2 (fun x5 τ4 =>
       if x5 = (j_k (-9)) then (again 15 [some (.ref v0), some (.ref v1), some (.int v2), some (.int v3), some (.int v4), some (.int v5), some (.int (v6 + (j_k 1))), none] [] τ4)
       else j_oc τ4 0 v0 (j_c0 call 23 [.ref v0, .ref v1, .int v6, .int x5] τ4 (fun τ6 =>
       j_gP τ6 1 v1 0 (fun a7 =>
       j_ia τ6 a7 x5 (
       if (s_I τ6 a7 x5.toNatClampNeg) = (j_k 4) then (again 15 [some (.ref v0), some (.ref v1), some (.int (v2 ||| ((j_k 1) <<< (v6 &&& 31)))), some (.int v6), some (.int x5), some (.int (j_k 1)), some (.int (v6 + (j_k 1))), none] [] τ6)
       else again 15 [some (.ref v0), some (.ref v1), some (.int (v2 ||| ((j_k 1) <<< (v6 &&& 31)))), some (.int v6), some (.int x5), some (.int v5), some (.int (v6 + (j_k 1))), none] [] τ6)))))))
      else again 15 [some (.ref v0), some (.ref v1), some (.int v2), some (.int v3), some (.int v4), some (.int v5), some (.int (v6 + (j_k 1))), none] [] τ2)))
     else j_oc σ 0 v0 (j_c1 call 27 [.ref v0, .ref v1, .int v6, .int v5] σ (fun x9 τ8 =>
     if x9 = (j_k (-9)) then (again 15 [some (.ref v0), some (.ref v1), some (.int v2), some (.int v3), some (.int v4), some (.int v5), some (.int (v6 + (j_k 1))), none] [] τ8)
     else j_oc τ8 0 v0 (j_c0 call 23 [.ref v0, .ref v1, .int v6, .int x9] τ8 (fun τ10 =>
     j_gP τ10 1 v1 0 (fun a11 =>
     j_ia τ10 a11 x9 (
     if (s_I τ10 a11 x9.toNatClampNeg) = (j_k 4) then (again 15 [some (.ref v0), some (.ref v1), some (.int (v2 ||| ((j_k 1) <<< (v6 &&& 31)))), some (.int v6), some (.int x9), some (.int (j_k 1)), some (.int (v6 + (j_k 1))), none] [] τ10)
     else again 15 [some (.ref v0), some (.ref v1), some (.int (v2 ||| ((j_k 1) <<< (v6 &&& 31)))), some (.int v6), some (.int x9), some (.int v5), some (.int (v6 + (j_k 1))), none] [] τ10)))))))))))
    else j_oc σ 0 v0 (if v0 < j_b then j_oc σ 0 v0 (let τ12 : Sto := s_uI σ v0 8 ((s_I σ v0 8) + (j_k 1));
    if v3 = (j_k (-9)) then (some (some (.int v2), τ12))
    else j_oc τ12 0 v0 (j_c0 call 24 [.ref v0, .int v3, .int v4] τ12 (fun τ13 =>
    some (some (.int v2), τ13)))) else none)) := rfl

-- LastStirred$Flock.nextCell(LLastStirred$Ground;IZ)I
set_option maxRecDepth 1000000 in
set_option maxHeartbeats 8000000 in
theorem t_27_0 (call : Nat → List Value → Sto → Option Rr) (again : Nat → j_L → List Value → Sto → Option Rr) (σ : Sto) (v0 : Nat) (v1 : Nat) (v2 : Int32) (v3 : Int32) :
    j_seg k_27 h_27 call again 2000 0 [some (.ref v0), some (.ref v1), some (.int v2), some (.int v3), none, none, none, none, none, none, none, none, none, none, none, none] [] σ =
    j_oc σ 0 v0 (j_c1 call 21 [.ref v0, .int v2] σ (fun x2 τ1 =>
    if x2 = (j_k (-9)) then (some (some (.int (j_k (-9))), τ1))
    else j_gP τ1 0 v0 1 (fun a3 =>
    j_ia τ1 a3 v2 (
    j_gP τ1 1 v1 1 (fun a4 =>
    j_ia τ1 a4 x2 (
    j_gP τ1 1 v1 1 (fun a5 =>
    j_ia τ1 a5 (s_I τ1 a3 v2.toNatClampNeg) (
    j_gP τ1 1 v1 2 (fun a6 =>
    j_ia τ1 a6 x2 (
    j_gP τ1 1 v1 2 (fun a7 =>
    j_ia τ1 a7 (s_I τ1 a3 v2.toNatClampNeg) (
    j_oc τ1 0 v0 (j_c1 call 10 [.ref v0, .int v2] τ1 (fun x9 τ8 =>
    if x9 = 0 then (if (j_k 1) < ((j_abs ((s_I τ1 a4 x2.toNatClampNeg) - (s_I τ1 a5 (s_I τ1 a3 v2.toNatClampNeg).toNatClampNeg))) + (j_abs ((s_I τ1 a6 x2.toNatClampNeg) - (s_I τ1 a7 (s_I τ1 a3 v2.toNatClampNeg).toNatClampNeg)))) then (again 112 [some (.ref v0), some (.ref v1), some (.int v2), some (.int v3), some (.int x2), some (.int (s_I τ1 a3 v2.toNatClampNeg)), some (.int ((s_I τ1 a4 x2.toNatClampNeg) - (s_I τ1 a5 (s_I τ1 a3 v2.toNatClampNeg).toNatClampNeg))), some (.int ((s_I τ1 a6 x2.toNatClampNeg) - (s_I τ1 a7 (s_I τ1 a3 v2.toNatClampNeg).toNatClampNeg))), some (.int ((j_abs ((s_I τ1 a4 x2.toNatClampNeg) - (s_I τ1 a5 (s_I τ1 a3 v2.toNatClampNeg).toNatClampNeg))) + (j_abs ((s_I τ1 a6 x2.toNatClampNeg) - (s_I τ1 a7 (s_I τ1 a3 v2.toNatClampNeg).toNatClampNeg))))), some (.int x9), none, none, none, none, none, none] [] τ8)
     else some (some (.int (j_k (-9))), τ8))
    else j_gP τ8 0 v0 0 (fun a10 =>
    j_ia τ8 a10 v2 (
    if (s_I τ8 a10 v2.toNatClampNeg) = (j_k 5) then (if ((j_abs ((s_I τ1 a4 x2.toNatClampNeg) - (s_I τ1 a5 (s_I τ1 a3 v2.toNatClampNeg).toNatClampNeg))) + (j_abs ((s_I τ1 a6 x2.toNatClampNeg) - (s_I τ1 a7 (s_I τ1 a3 v2.toNatClampNeg).toNatClampNeg)))) < (j_k 3) then (again 112 [some (.ref v0), some (.ref v1), some (.int v2), some (.int v3), some (.int x2), some (.int (s_I τ1 a3 v2.toNatClampNeg)), some (.int ((s_I τ1 a4 x2.toNatClampNeg) - (s_I τ1 a5 (s_I τ1 a3 v2.toNatClampNeg).toNatClampNeg))), some (.int ((s_I τ1 a6 x2.toNatClampNeg) - (s_I τ1 a7 (s_I τ1 a3 v2.toNatClampNeg).toNatClampNeg))), some (.int ((j_abs ((s_I τ1 a4 x2.toNatClampNeg) - (s_I τ1 a5 (s_I τ1 a3 v2.toNatClampNeg).toNatClampNeg))) + (j_abs ((s_I τ1 a6 x2.toNatClampNeg) - (s_I τ1 a7 (s_I τ1 a3 v2.toNatClampNeg).toNatClampNeg))))), some (.int x9), none, none, none, none, none, none] [] τ8)
     else some (some (.int (j_k (-9))), τ8))
    else again 112 [some (.ref v0), some (.ref v1), some (.int v2), some (.int v3), some (.int x2), some (.int (s_I τ1 a3 v2.toNatClampNeg)), some (.int ((s_I τ1 a4 x2.toNatClampNeg) - (s_I τ1 a5 (s_I τ1 a3 v2.toNatClampNeg).toNatClampNeg))), some (.int ((s_I τ1 a6 x2.toNatClampNeg) - (s_I τ1 a7 (s_I τ1 a3 v2.toNatClampNeg).toNatClampNeg))), some (.int ((j_abs ((s_I τ1 a4 x2.toNatClampNeg) - (s_I τ1 a5 (s_I τ1 a3 v2.toNatClampNeg).toNatClampNeg))) + (j_abs ((s_I τ1 a6 x2.toNatClampNeg) - (s_I τ1 a7 (s_I τ1 a3 v2.toNatClampNeg).toNatClampNeg))))), some (.int x9), none, none, none, none, none, none] [] τ8)))))))))))))))) := rfl

set_option maxRecDepth 1000000 in
set_option maxHeartbeats 8000000 in
theorem t_27_112 (call : Nat → List Value → Sto → Option Rr) (again : Nat → j_L → List Value → Sto → Option Rr) (σ : Sto) (v0 : Nat) (v1 : Nat) (v2 : Int32) (v3 : Int32) (v4 : Int32) (v5 : Int32) (v6 : Int32) (v7 : Int32) (v8 : Int32) (v9 : Int32) :
    j_seg k_27 h_27 call again 2000 112 [some (.ref v0), some (.ref v1), some (.int v2), some (.int v3), some (.int v4), some (.int v5), some (.int v6), some (.int v7), some (.int v8), some (.int v9), none, none, none, none, none, none] [] σ =
    if (j_abs v6) < (j_abs v7) then (again 132 [some (.ref v0), some (.ref v1), some (.int v2), some (.int v3), some (.int v4), some (.int v5), some (.int v6), some (.int v7), some (.int v8), some (.int v9), some (.int (j_k 0)), none, none, none, none, none] [] σ)
    else again 132 [some (.ref v0), some (.ref v1), some (.int v2), some (.int v3), some (.int v4), some (.int v5), some (.int v6), some (.int v7), some (.int v8), some (.int v9), some (.int (j_k 1)), none, none, none, none, none] [] σ := rfl

set_option maxRecDepth 1000000 in
set_option maxHeartbeats 8000000 in
theorem t_27_132 (call : Nat → List Value → Sto → Option Rr) (again : Nat → j_L → List Value → Sto → Option Rr) (σ : Sto) (v0 : Nat) (v1 : Nat) (v2 : Int32) (v3 : Int32) (v4 : Int32) (v5 : Int32) (v6 : Int32) (v7 : Int32) (v8 : Int32) (v9 : Int32) (v10 : Int32) :
    j_seg k_27 h_27 call again 2000 132 [some (.ref v0), some (.ref v1), some (.int v2), some (.int v3), some (.int v4), some (.int v5), some (.int v6), some (.int v7), some (.int v8), some (.int v9), some (.int v10), none, none, none, none, none] [] σ =
    again 135 [some (.ref v0), some (.ref v1), some (.int v2), some (.int v3), some (.int v4), some (.int v5), some (.int v6), some (.int v7), some (.int v8), some (.int v9), some (.int v10), some (.int (j_k 0)), none, none, none, none] [] σ := rfl

set_option maxRecDepth 1000000 in
set_option maxHeartbeats 8000000 in
theorem t_27_135 (call : Nat → List Value → Sto → Option Rr) (again : Nat → j_L → List Value → Sto → Option Rr) (σ : Sto) (v0 : Nat) (v1 : Nat) (v2 : Int32) (v3 : Int32) (v4 : Int32) (v5 : Int32) (v6 : Int32) (v7 : Int32) (v8 : Int32) (v9 : Int32) (v10 : Int32) (v11 : Int32) :
    j_seg k_27 h_27 call again 2000 135 [some (.ref v0), some (.ref v1), some (.int v2), some (.int v3), some (.int v4), some (.int v5), some (.int v6), some (.int v7), some (.int v8), some (.int v9), some (.int v10), some (.int v11), none, none, none, none] [] σ =
    if v11 < (j_k 2) then (if v10 = 0 then (again 155 [some (.ref v0), some (.ref v1), some (.int v2), some (.int v3), some (.int v4), some (.int v5), some (.int v6), some (.int v7), some (.int v8), some (.int v9), some (.int v10), some (.int v11), some (.int v7), none, none, none] [] σ)
     else again 155 [some (.ref v0), some (.ref v1), some (.int v2), some (.int v3), some (.int v4), some (.int v5), some (.int v6), some (.int v7), some (.int v8), some (.int v9), some (.int v10), some (.int v11), some (.int v6), none, none, none] [] σ)
    else some (some (.int (j_k (-9))), σ) := rfl

set_option maxRecDepth 1000000 in
set_option maxHeartbeats 8000000 in
theorem t_27_155 (call : Nat → List Value → Sto → Option Rr) (again : Nat → j_L → List Value → Sto → Option Rr) (σ : Sto) (v0 : Nat) (v1 : Nat) (v2 : Int32) (v3 : Int32) (v4 : Int32) (v5 : Int32) (v6 : Int32) (v7 : Int32) (v8 : Int32) (v9 : Int32) (v10 : Int32) (v11 : Int32) (v12 : Int32) :
    j_seg k_27 h_27 call again 2000 155 [some (.ref v0), some (.ref v1), some (.int v2), some (.int v3), some (.int v4), some (.int v5), some (.int v6), some (.int v7), some (.int v8), some (.int v9), some (.int v10), some (.int v11), some (.int v12), none, none, none] [] σ =
    if v12 = 0 then (again 237 [some (.ref v0), some (.ref v1), some (.int v2), some (.int v3), some (.int v4), some (.int v5), some (.int v6), some (.int v7), some (.int v8), some (.int v9), some (.int v10), some (.int v11), some (.int v12), none, none, none] [] σ)
    else if 0 < v12 then (if (j_k 1) = v9 then (again 182 [some (.ref v0), some (.ref v1), some (.int v2), some (.int v3), some (.int v4), some (.int v5), some (.int v6), some (.int v7), some (.int v8), some (.int v9), some (.int v10), some (.int v11), some (.int v12), some (.int (j_k 0)), none, none] [] σ)
     else again 182 [some (.ref v0), some (.ref v1), some (.int v2), some (.int v3), some (.int v4), some (.int v5), some (.int v6), some (.int v7), some (.int v8), some (.int v9), some (.int v10), some (.int v11), some (.int v12), some (.int (j_k 1)), none, none] [] σ)
    else if (j_k 0) = v9 then (again 182 [some (.ref v0), some (.ref v1), some (.int v2), some (.int v3), some (.int v4), some (.int v5), some (.int v6), some (.int v7), some (.int v8), some (.int v9), some (.int v10), some (.int v11), some (.int v12), some (.int (j_k 0)), none, none] [] σ)
    else again 182 [some (.ref v0), some (.ref v1), some (.int v2), some (.int v3), some (.int v4), some (.int v5), some (.int v6), some (.int v7), some (.int v8), some (.int v9), some (.int v10), some (.int v11), some (.int v12), some (.int (j_k 1)), none, none] [] σ := rfl

set_option maxRecDepth 1000000 in
set_option maxHeartbeats 8000000 in
theorem t_27_182 (call : Nat → List Value → Sto → Option Rr) (again : Nat → j_L → List Value → Sto → Option Rr) (σ : Sto) (v0 : Nat) (v1 : Nat) (v2 : Int32) (v3 : Int32) (v4 : Int32) (v5 : Int32) (v6 : Int32) (v7 : Int32) (v8 : Int32) (v9 : Int32) (v10 : Int32) (v11 : Int32) (v12 : Int32) (v13 : Int32) :
    j_seg k_27 h_27 call again 2000 182 [some (.ref v0), some (.ref v1), some (.int v2), some (.int v3), some (.int v4), some (.int v5), some (.int v6), some (.int v7), some (.int v8), some (.int v9), some (.int v10), some (.int v11), some (.int v12), some (.int v13), none, none] [] σ =
    if v10 = 0 then (if v13 = 0 then (again 212 [some (.ref v0), some (.ref v1), some (.int v2), some (.int v3), some (.int v4), some (.int v5), some (.int v6), some (.int v7), some (.int v8), some (.int v9), some (.int v10), some (.int v11), some (.int v12), some (.int v13), some (.int (j_k 0)), none] [] σ)
     else again 212 [some (.ref v0), some (.ref v1), some (.int v2), some (.int v3), some (.int v4), some (.int v5), some (.int v6), some (.int v7), some (.int v8), some (.int v9), some (.int v10), some (.int v11), some (.int v12), some (.int v13), some (.int (j_k 2)), none] [] σ)
    else if v13 = 0 then (again 212 [some (.ref v0), some (.ref v1), some (.int v2), some (.int v3), some (.int v4), some (.int v5), some (.int v6), some (.int v7), some (.int v8), some (.int v9), some (.int v10), some (.int v11), some (.int v12), some (.int v13), some (.int (j_k 3)), none] [] σ)
    else again 212 [some (.ref v0), some (.ref v1), some (.int v2), some (.int v3), some (.int v4), some (.int v5), some (.int v6), some (.int v7), some (.int v8), some (.int v9), some (.int v10), some (.int v11), some (.int v12), some (.int v13), some (.int (j_k 1)), none] [] σ := rfl

set_option maxRecDepth 1000000 in
set_option maxHeartbeats 8000000 in
theorem t_27_212 (call : Nat → List Value → Sto → Option Rr) (again : Nat → j_L → List Value → Sto → Option Rr) (σ : Sto) (v0 : Nat) (v1 : Nat) (v2 : Int32) (v3 : Int32) (v4 : Int32) (v5 : Int32) (v6 : Int32) (v7 : Int32) (v8 : Int32) (v9 : Int32) (v10 : Int32) (v11 : Int32) (v12 : Int32) (v13 : Int32) (v14 : Int32) :
    j_seg k_27 h_27 call again 2000 212 [some (.ref v0), some (.ref v1), some (.int v2), some (.int v3), some (.int v4), some (.int v5), some (.int v6), some (.int v7), some (.int v8), some (.int v9), some (.int v10), some (.int v11), some (.int v12), some (.int v13), some (.int v14), none] [] σ =
    j_oc σ 1 v1 (j_c1 call 38 [.ref v1, .int v5, .int v14] σ (fun x2 τ1 =>
    j_oc τ1 0 v0 (j_c1 call 22 [.ref v0, .ref v1, .int v2, .int x2, .int v3] τ1 (fun x4 τ3 =>
    if x4 = 0 then (again 237 [some (.ref v0), some (.ref v1), some (.int v2), some (.int v3), some (.int v4), some (.int v5), some (.int v6), some (.int v7), some (.int v8), some (.int v9), some (.int v10), some (.int v11), some (.int v12), none, none, none] [] τ3)
    else some (some (.int x2), τ3))))) := rfl

set_option maxRecDepth 1000000 in
set_option maxHeartbeats 8000000 in
theorem t_27_237 (call : Nat → List Value → Sto → Option Rr) (again : Nat → j_L → List Value → Sto → Option Rr) (σ : Sto) (v0 : Nat) (v1 : Nat) (v2 : Int32) (v3 : Int32) (v4 : Int32) (v5 : Int32) (v6 : Int32) (v7 : Int32) (v8 : Int32) (v9 : Int32) (v10 : Int32) (v11 : Int32) (v12 : Int32) :
    j_seg k_27 h_27 call again 2000 237 [some (.ref v0), some (.ref v1), some (.int v2), some (.int v3), some (.int v4), some (.int v5), some (.int v6), some (.int v7), some (.int v8), some (.int v9), some (.int v10), some (.int v11), some (.int v12), none, none, none] [] σ =
    if v10 = 0 then (again 135 [some (.ref v0), some (.ref v1), some (.int v2), some (.int v3), some (.int v4), some (.int v5), some (.int v6), some (.int v7), some (.int v8), some (.int v9), some (.int (j_k 1)), some (.int (v11 + (j_k 1))), none, none, none, none] [] σ)
    else again 135 [some (.ref v0), some (.ref v1), some (.int v2), some (.int v3), some (.int v4), some (.int v5), some (.int v6), some (.int v7), some (.int v8), some (.int v9), some (.int (j_k 0)), some (.int (v11 + (j_k 1))), none, none, none, none] [] σ := rfl

-- LastStirred$Flock.runOut(LLastStirred$Ground;)Z
set_option maxRecDepth 1000000 in
set_option maxHeartbeats 8000000 in
theorem t_28_0 (call : Nat → List Value → Sto → Option Rr) (again : Nat → j_L → List Value → Sto → Option Rr) (σ : Sto) (v0 : Nat) (v1 : Nat) :
    j_seg k_28 h_28 call again 2000 0 [some (.ref v0), some (.ref v1), none, none] [] σ =
    again 4 [some (.ref v0), some (.ref v1), some (.int (j_k 0)), some (.int (j_k 0))] [] σ := rfl

set_option maxRecDepth 1000000 in
set_option maxHeartbeats 8000000 in
theorem t_28_4 (call : Nat → List Value → Sto → Option Rr) (again : Nat → j_L → List Value → Sto → Option Rr) (σ : Sto) (v0 : Nat) (v1 : Nat) (v2 : Int32) (v3 : Int32) :
    j_seg k_28 h_28 call again 2000 4 [some (.ref v0), some (.ref v1), some (.int v2), some (.int v3)] [] σ =
    if v3 < (j_k 40) then (if v2 < (j_k 2) then (j_oc σ 0 v0 (j_c1 call 26 [.ref v0, .ref v1] σ (fun x2 τ1 =>
      if x2 = 0 then (again 4 [some (.ref v0), some (.ref v1), some (.int (v2 + (j_k 1))), some (.int (v3 + (j_k 1)))] [] τ1)
      else again 4 [some (.ref v0), some (.ref v1), some (.int (j_k 0)), some (.int (v3 + (j_k 1)))] [] τ1)))
     else if v2 = (j_k 2) then (if (j_k 1) = 0 ∨ (j_k 1) = 1 then some (some (.int (j_k 1)), σ) else none)
     else if (j_k 0) = 0 ∨ (j_k 0) = 1 then some (some (.int (j_k 0)), σ) else none)
    else if v2 = (j_k 2) then (if (j_k 1) = 0 ∨ (j_k 1) = 1 then some (some (.int (j_k 1)), σ) else none)
    else if (j_k 0) = 0 ∨ (j_k 0) = 1 then some (some (.int (j_k 0)), σ) else none := rfl

-- LastStirred$Flock.driveBy(LLastStirred$Ground;I)Z
set_option maxRecDepth 1000000 in
set_option maxHeartbeats 8000000 in
theorem t_29_0 (call : Nat → List Value → Sto → Option Rr) (again : Nat → j_L → List Value → Sto → Option Rr) (σ : Sto) (v0 : Nat) (v1 : Nat) (v2 : Int32) :
    j_seg k_29 h_29 call again 2000 0 [some (.ref v0), some (.ref v1), some (.int v2)] [] σ =
    if (j_k 4) = 0 then none else
    if (j_k 4) = 0 then none else
    j_oc σ 0 v0 (j_c1 call 25 [.ref v0, .ref v1, .int (v2 / (j_k 4)), .int (v2 - v2 / (j_k 4) * (j_k 4))] σ (fun x2 τ1 =>
    if x2 = (j_k (-9)) then (if (j_k 0) = 0 ∨ (j_k 0) = 1 then some (some (.int (j_k 0)), τ1) else none)
    else j_oc τ1 0 v0 (j_c1 call 28 [.ref v0, .ref v1] τ1 (fun x4 τ3 =>
    if (j_k 1) = 0 ∨ (j_k 1) = 1 then some (some (.int (j_k 1)), τ3) else none)))) := rfl

-- LastStirred$Flock.fleeFrom(LLastStirred$Ground;I)I
set_option maxRecDepth 1000000 in
set_option maxHeartbeats 8000000 in
theorem t_30_0 (call : Nat → List Value → Sto → Option Rr) (again : Nat → j_L → List Value → Sto → Option Rr) (σ : Sto) (v0 : Nat) (v1 : Nat) (v2 : Int32) :
    j_seg k_30 h_30 call again 2000 0 [some (.ref v0), some (.ref v1), some (.int v2), none, none, none, none, none] [] σ =
    again 13 [some (.ref v0), some (.ref v1), some (.int v2), some (.int (j_k 0)), some (.int (j_k (-9))), some (.int (j_k (-9))), some (.int (j_k 0)), none] [] σ := rfl

set_option maxRecDepth 1000000 in
set_option maxHeartbeats 8000000 in
theorem t_30_13 (call : Nat → List Value → Sto → Option Rr) (again : Nat → j_L → List Value → Sto → Option Rr) (σ : Sto) (v0 : Nat) (v1 : Nat) (v2 : Int32) (v3 : Int32) (v4 : Int32) (v5 : Int32) (v6 : Int32) :
    j_seg k_30 h_30 call again 2000 13 [some (.ref v0), some (.ref v1), some (.int v2), some (.int v3), some (.int v4), some (.int v5), some (.int v6), none] [] σ =
    j_oc σ 0 v0 (if v6 < (s_I σ v0 3) then (j_gP σ 0 v0 1 (fun a1 =>
     j_ia σ a1 v6 (
     if (s_I σ a1 v6.toNatClampNeg) = (j_k (-9)) then (again 13 [some (.ref v0), some (.ref v1), some (.int v2), some (.int v3), some (.int v4), some (.int v5), some (.int (v6 + (j_k 1))), none] [] σ)
     else j_gP σ 0 v0 1 (fun a2 =>
     j_ia σ a2 v6 (
     j_oc σ 1 v1 (j_c1 call 37 [.ref v1, .int (s_I σ a2 v6.toNatClampNeg), .int v2] σ (fun x4 τ3 =>
     if x4 = (j_k 1) then (j_gP τ3 0 v0 1 (fun a5 =>
      j_ia τ3 a5 v6 (
      j_gP τ3 0 v0 1 (fun a6 =>
      j_ia τ3 a6 v6 (
      j_c1 call 31 [.ref v1, .int v2, .int (s_I τ3 a6 v6.toNatClampNeg)] τ3 (fun x8 τ7 =>
      j_oc τ7 1 v1 (j_c1 call 38 [.ref v1, .int (s_I τ3 a5 v6.toNatClampNeg), .int x8] τ7 (fun x10 τ9 =>
      j_oc τ9 0 v0 (j_c1 call 22 [.ref v0, .ref v1, .int v6, .int x10, .int (j_k 0)] τ9 (fun x12 τ11 =>
      if x12 = 0 then (again 13 [some (.ref v0), some (.ref v1), some (.int v2), some (.int v3), some (.int v4), some (.int v5), some (.int (v6 + (j_k 1))), none] [] τ11)
      else j_oc τ11 0 v0 (j_c0 call 23 [.ref v0, .ref v1, .int v6, .int x10] τ11 (fun τ13 =>
      again 13 [some (.ref v0), some (.ref v1), some (.int v2), some (.int (v3 + (j_k 1))), some (.int v6), some (.int x10), some (.int (v6 + (j_k 1))), none] [] τ13))))))))))))
     else again 13 [some (.ref v0), some (.ref v1), some (.int v2), some (.int v3), some (.int v4), some (.int v5), some (.int (v6 + (j_k 1))), none] [] τ3)))))))
    else if v4 = (j_k (-9)) then (some (some (.int v3), σ))
    else j_oc σ 0 v0 (j_c0 call 24 [.ref v0, .int v4, .int v5] σ (fun τ14 =>
    some (some (.int v3), τ14)))) := rfl

-- LastStirred$Flock.wayTo(LLastStirred$Ground;II)I
set_option maxRecDepth 1000000 in
set_option maxHeartbeats 8000000 in
theorem t_31_0 (call : Nat → List Value → Sto → Option Rr) (again : Nat → j_L → List Value → Sto → Option Rr) (σ : Sto) (v0 : Nat) (v1 : Int32) (v2 : Int32) :
    j_seg k_31 h_31 call again 2000 0 [some (.ref v0), some (.int v1), some (.int v2), none] [] σ =
    again 2 [some (.ref v0), some (.int v1), some (.int v2), some (.int (j_k 0))] [] σ := rfl

set_option maxRecDepth 1000000 in
set_option maxHeartbeats 8000000 in
theorem t_31_2 (call : Nat → List Value → Sto → Option Rr) (again : Nat → j_L → List Value → Sto → Option Rr) (σ : Sto) (v0 : Nat) (v1 : Int32) (v2 : Int32) (v3 : Int32) :
    j_seg k_31 h_31 call again 2000 2 [some (.ref v0), some (.int v1), some (.int v2), some (.int v3)] [] σ =
    if v3 < (j_k 3) then (j_oc σ 1 v0 (j_c1 call 38 [.ref v0, .int v1, .int v3] σ (fun x2 τ1 =>
     if x2 = v2 then (some (some (.int v3), τ1))
     else again 2 [some (.ref v0), some (.int v1), some (.int v2), some (.int (v3 + (j_k 1)))] [] τ1)))
    else some (some (.int (j_k 3)), σ) := rfl

-- LastStirred$Ground.spread(II)V
set_option maxRecDepth 1000000 in
set_option maxHeartbeats 8000000 in
theorem t_33_0 (call : Nat → List Value → Sto → Option Rr) (again : Nat → j_L → List Value → Sto → Option Rr) (σ : Sto) (v0 : Nat) (v1 : Int32) (v2 : Int32) :
    j_seg k_33 h_33 call again 2000 0 [some (.ref v0), some (.int v1), some (.int v2), none, none] [] σ =
    if v0 < j_b then j_oc σ 1 v0 (let τ1 : Sto := s_uI σ v0 3 v1;
    if v0 < j_b then j_oc τ1 1 v0 (let τ2 : Sto := s_uI τ1 v0 4 v2;
    if v0 < j_b then j_oc τ2 1 v0 (let τ3 : Sto := s_uI τ2 v0 5 (j_k 0);
    again 17 [some (.ref v0), some (.int v1), some (.int v2), some (.int (j_k 0)), none] [] τ3) else none) else none) else none := rfl

set_option maxRecDepth 1000000 in
set_option maxHeartbeats 8000000 in
theorem t_33_17 (call : Nat → List Value → Sto → Option Rr) (again : Nat → j_L → List Value → Sto → Option Rr) (σ : Sto) (v0 : Nat) (v1 : Int32) (v2 : Int32) (v3 : Int32) :
    j_seg k_33 h_33 call again 2000 17 [some (.ref v0), some (.int v1), some (.int v2), some (.int v3), none] [] σ =
    if v3 < v2 then (again 25 [some (.ref v0), some (.int v1), some (.int v2), some (.int v3), some (.int (j_k 0))] [] σ)
    else some (none, σ) := rfl

set_option maxRecDepth 1000000 in
set_option maxHeartbeats 8000000 in
theorem t_33_25 (call : Nat → List Value → Sto → Option Rr) (again : Nat → j_L → List Value → Sto → Option Rr) (σ : Sto) (v0 : Nat) (v1 : Int32) (v2 : Int32) (v3 : Int32) (v4 : Int32) :
    j_seg k_33 h_33 call again 2000 25 [some (.ref v0), some (.int v1), some (.int v2), some (.int v3), some (.int v4)] [] σ =
    if v4 < v1 then (j_oc σ 1 v0 (if (s_I σ v0 5) < (j_k 30) then (j_gP σ 1 v0 1 (fun a1 =>
      j_oc σ 1 v0 (j_is σ a1 (s_I σ v0 5) (let τ2 : Sto := s_uI σ a1 (s_I σ v0 5).toNatClampNeg v4;
      j_gP τ2 1 v0 2 (fun a3 =>
      j_oc τ2 1 v0 (j_is τ2 a3 (s_I τ2 v0 5) (let τ4 : Sto := s_uI τ2 a3 (s_I τ2 v0 5).toNatClampNeg v3;
      j_oc τ4 1 v0 (if v0 < j_b then j_oc τ4 1 v0 (let τ5 : Sto := s_uI τ4 v0 5 ((s_I τ4 v0 5) + (j_k 1));
      again 25 [some (.ref v0), some (.int v1), some (.int v2), some (.int v3), some (.int (v4 + (j_k 1)))] [] τ5) else none))))))))
     else again 17 [some (.ref v0), some (.int v1), some (.int v2), some (.int (v3 + (j_k 1))), none] [] σ))
    else again 17 [some (.ref v0), some (.int v1), some (.int v2), some (.int (v3 + (j_k 1))), none] [] σ := rfl

-- LastStirred$Ground.take(LLastStirred$Ground;)V
set_option maxRecDepth 1000000 in
set_option maxHeartbeats 8000000 in
theorem t_34_0 (call : Nat → List Value → Sto → Option Rr) (again : Nat → j_L → List Value → Sto → Option Rr) (σ : Sto) (v0 : Nat) (v1 : Nat) :
    j_seg k_34 h_34 call again 2000 0 [some (.ref v0), some (.ref v1)] [] σ =
    j_oc σ 1 v1 (j_oc σ 1 v1 (j_oc σ 1 v0 (j_c0 call 33 [.ref v0, .int (s_I σ v1 3), .int (s_I σ v1 4)] σ (fun τ1 =>
    j_gP τ1 1 v1 0 (fun a2 =>
    j_gP τ1 1 v0 0 (fun a3 =>
    j_ac τ1 a2 (j_k 0) a3 (j_k 0) (j_k 30) (fun τ4 =>
    some (none, τ4)))))))) := rfl

-- LastStirred$Ground.has(I)Z
set_option maxRecDepth 1000000 in
set_option maxHeartbeats 8000000 in
theorem t_35_0 (call : Nat → List Value → Sto → Option Rr) (again : Nat → j_L → List Value → Sto → Option Rr) (σ : Sto) (v0 : Nat) (v1 : Int32) :
    j_seg k_35 h_35 call again 2000 0 [some (.ref v0), some (.int v1)] [] σ =
    if v1 < 0 then (if (j_k 0) = 0 ∨ (j_k 0) = 1 then some (some (.int (j_k 0)), σ) else none)
    else j_oc σ 1 v0 (if v1 < (s_I σ v0 5) then (if (j_k 1) = 0 ∨ (j_k 1) = 1 then some (some (.int (j_k 1)), σ) else none)
    else if (j_k 0) = 0 ∨ (j_k 0) = 1 then some (some (.int (j_k 0)), σ) else none) := rfl

-- LastStirred$Ground.isOpen(I)Z
set_option maxRecDepth 1000000 in
set_option maxHeartbeats 8000000 in
theorem t_36_0 (call : Nat → List Value → Sto → Option Rr) (again : Nat → j_L → List Value → Sto → Option Rr) (σ : Sto) (v0 : Nat) (v1 : Int32) :
    j_seg k_36 h_36 call again 2000 0 [some (.ref v0), some (.int v1)] [] σ =
    j_gP σ 1 v0 0 (fun a1 =>
    j_ia σ a1 v1 (
    if (s_I σ a1 v1.toNatClampNeg) = (j_k 1) then (if (j_k 0) = 0 ∨ (j_k 0) = 1 then some (some (.int (j_k 0)), σ) else none)
    else j_gP σ 1 v0 0 (fun a2 =>
    j_ia σ a2 v1 (
    if (s_I σ a2 v1.toNatClampNeg) = (j_k 2) then (if (j_k 0) = 0 ∨ (j_k 0) = 1 then some (some (.int (j_k 0)), σ) else none)
    else if (j_k 1) = 0 ∨ (j_k 1) = 1 then some (some (.int (j_k 1)), σ) else none)))) := rfl

-- LastStirred$Ground.off(II)I
set_option maxRecDepth 1000000 in
set_option maxHeartbeats 8000000 in
theorem t_37_0 (call : Nat → List Value → Sto → Option Rr) (again : Nat → j_L → List Value → Sto → Option Rr) (σ : Sto) (v0 : Nat) (v1 : Int32) (v2 : Int32) :
    j_seg k_37 h_37 call again 2000 0 [some (.ref v0), some (.int v1), some (.int v2)] [] σ =
    j_gP σ 1 v0 1 (fun a1 =>
    j_ia σ a1 v1 (
    j_gP σ 1 v0 1 (fun a2 =>
    j_ia σ a2 v2 (
    j_gP σ 1 v0 2 (fun a3 =>
    j_ia σ a3 v1 (
    j_gP σ 1 v0 2 (fun a4 =>
    j_ia σ a4 v2 (
    some (some (.int ((j_abs ((s_I σ a1 v1.toNatClampNeg) - (s_I σ a2 v2.toNatClampNeg))) + (j_abs ((s_I σ a3 v1.toNatClampNeg) - (s_I σ a4 v2.toNatClampNeg))))), σ))))))))) := rfl

-- LastStirred$Ground.beside(II)I
set_option maxRecDepth 1000000 in
set_option maxHeartbeats 8000000 in
theorem t_38_0 (call : Nat → List Value → Sto → Option Rr) (again : Nat → j_L → List Value → Sto → Option Rr) (σ : Sto) (v0 : Nat) (v1 : Int32) (v2 : Int32) :
    j_seg k_38 h_38 call again 2000 0 [some (.ref v0), some (.int v1), some (.int v2), none, none] [] σ =
    j_gP σ 1 v0 1 (fun a1 =>
    j_ia σ a1 v1 (
    j_ia σ (j_b + 2) v2 (
    j_gP σ 1 v0 2 (fun a2 =>
    j_ia σ a2 v1 (
    j_ia σ (j_b + 3) v2 (
    if ((s_I σ a1 v1.toNatClampNeg) + (s_I σ (j_b + 2) v2.toNatClampNeg)) < 0 then (some (some (.int (j_k (-9))), σ))
    else j_oc σ 1 v0 (if ((s_I σ a1 v1.toNatClampNeg) + (s_I σ (j_b + 2) v2.toNatClampNeg)) < (s_I σ v0 3) then (if ((s_I σ a2 v1.toNatClampNeg) + (s_I σ (j_b + 3) v2.toNatClampNeg)) < 0 then (some (some (.int (j_k (-9))), σ))
     else j_oc σ 1 v0 (if ((s_I σ a2 v1.toNatClampNeg) + (s_I σ (j_b + 3) v2.toNatClampNeg)) < (s_I σ v0 4) then (j_oc σ 1 v0 (some (some (.int ((((s_I σ a2 v1.toNatClampNeg) + (s_I σ (j_b + 3) v2.toNatClampNeg)) * (s_I σ v0 3)) + ((s_I σ a1 v1.toNatClampNeg) + (s_I σ (j_b + 2) v2.toNatClampNeg)))), σ)))
     else some (some (.int (j_k (-9))), σ)))
    else some (some (.int (j_k (-9))), σ)))))))) := rfl

-- LastStirred$Ground.howMany(I)I
set_option maxRecDepth 1000000 in
set_option maxHeartbeats 8000000 in
theorem t_39_0 (call : Nat → List Value → Sto → Option Rr) (again : Nat → j_L → List Value → Sto → Option Rr) (σ : Sto) (v0 : Nat) (v1 : Int32) :
    j_seg k_39 h_39 call again 2000 0 [some (.ref v0), some (.int v1), none, none] [] σ =
    again 4 [some (.ref v0), some (.int v1), some (.int (j_k 0)), some (.int (j_k 0))] [] σ := rfl

set_option maxRecDepth 1000000 in
set_option maxHeartbeats 8000000 in
theorem t_39_4 (call : Nat → List Value → Sto → Option Rr) (again : Nat → j_L → List Value → Sto → Option Rr) (σ : Sto) (v0 : Nat) (v1 : Int32) (v2 : Int32) (v3 : Int32) :
    j_seg k_39 h_39 call again 2000 4 [some (.ref v0), some (.int v1), some (.int v2), some (.int v3)] [] σ =
    j_oc σ 1 v0 (if v3 < (s_I σ v0 5) then (j_gP σ 1 v0 0 (fun a1 =>
     j_ia σ a1 v3 (
     if (s_I σ a1 v3.toNatClampNeg) = v1 then (again 4 [some (.ref v0), some (.int v1), some (.int (v2 + (j_k 1))), some (.int (v3 + (j_k 1)))] [] σ)
     else again 4 [some (.ref v0), some (.int v1), some (.int v2), some (.int (v3 + (j_k 1)))] [] σ)))
    else some (some (.int v2), σ)) := rfl

-- LastStirred$Ground.reachFrom(IZ)I
set_option maxRecDepth 1000000 in
set_option maxHeartbeats 8000000 in
theorem t_40_0 (call : Nat → List Value → Sto → Option Rr) (again : Nat → j_L → List Value → Sto → Option Rr) (σ : Sto) (v0 : Nat) (v1 : Int32) (v2 : Int32) :
    j_seg k_40 h_40 call again 2000 0 [some (.ref v0), some (.int v1), some (.int v2), none, none, none, none] [] σ =
    j_oc σ 1 v0 (j_c1 call 36 [.ref v0, .int v1] σ (fun x2 τ1 =>
    if x2 = 0 then (some (some (.int (j_k 0)), τ1))
    else again 20 [some (.ref v0), some (.int v1), some (.int v2), some (.int ((j_k 1) <<< (v1 &&& 31))), some (.int (j_k 0)), some (.int (j_k 0)), none] [] τ1)) := rfl

set_option maxRecDepth 1000000 in
set_option maxHeartbeats 8000000 in
theorem t_40_20 (call : Nat → List Value → Sto → Option Rr) (again : Nat → j_L → List Value → Sto → Option Rr) (σ : Sto) (v0 : Nat) (v1 : Int32) (v2 : Int32) (v3 : Int32) (v4 : Int32) (v5 : Int32) :
    j_seg k_40 h_40 call again 2000 20 [some (.ref v0), some (.int v1), some (.int v2), some (.int v3), some (.int v4), some (.int v5), none] [] σ =
    j_oc σ 1 v0 (if v5 < (s_I σ v0 5) then (if v3 = v4 then (some (some (.int v3), σ))
     else again 41 [some (.ref v0), some (.int v1), some (.int v2), some (.int v3), some (.int v3), some (.int v5), some (.int (j_k 0))] [] σ)
    else some (some (.int v3), σ)) := rfl

set_option maxRecDepth 1000000 in
set_option maxHeartbeats 8000000 in
theorem t_40_41 (call : Nat → List Value → Sto → Option Rr) (again : Nat → j_L → List Value → Sto → Option Rr) (σ : Sto) (v0 : Nat) (v1 : Int32) (v2 : Int32) (v3 : Int32) (v4 : Int32) (v5 : Int32) (v6 : Int32) :
    j_seg k_40 h_40 call again 2000 41 [some (.ref v0), some (.int v1), some (.int v2), some (.int v3), some (.int v4), some (.int v5), some (.int v6)] [] σ =
    j_oc σ 1 v0 (if v6 < (s_I σ v0 5) then (if ((v3 >>> (v6 &&& 31)) &&& (j_k 1)) = (j_k 1) then (j_oc σ 1 v0 (j_c1 call 41 [.ref v0, .int v6, .int v2] σ (fun x2 τ1 =>
      again 41 [some (.ref v0), some (.int v1), some (.int v2), some (.int (v3 ||| x2)), some (.int v4), some (.int v5), some (.int (v6 + (j_k 1)))] [] τ1)))
     else again 41 [some (.ref v0), some (.int v1), some (.int v2), some (.int v3), some (.int v4), some (.int v5), some (.int (v6 + (j_k 1)))] [] σ)
    else again 20 [some (.ref v0), some (.int v1), some (.int v2), some (.int v3), some (.int v4), some (.int (v5 + (j_k 1))), none] [] σ) := rfl

-- LastStirred$Ground.openBeside(IZ)I
set_option maxRecDepth 1000000 in
set_option maxHeartbeats 8000000 in
theorem t_41_0 (call : Nat → List Value → Sto → Option Rr) (again : Nat → j_L → List Value → Sto → Option Rr) (σ : Sto) (v0 : Nat) (v1 : Int32) (v2 : Int32) :
    j_seg k_41 h_41 call again 2000 0 [some (.ref v0), some (.int v1), some (.int v2), none, none, none] [] σ =
    again 5 [some (.ref v0), some (.int v1), some (.int v2), some (.int (j_k 0)), some (.int (j_k 0)), none] [] σ := rfl

set_option maxRecDepth 1000000 in
set_option maxHeartbeats 8000000 in
theorem t_41_5 (call : Nat → List Value → Sto → Option Rr) (again : Nat → j_L → List Value → Sto → Option Rr) (σ : Sto) (v0 : Nat) (v1 : Int32) (v2 : Int32) (v3 : Int32) (v4 : Int32) :
    j_seg k_41 h_41 call again 2000 5 [some (.ref v0), some (.int v1), some (.int v2), some (.int v3), some (.int v4), none] [] σ =
    if v4 < (j_k 4) then (j_oc σ 1 v0 (j_c1 call 38 [.ref v0, .int v1, .int v4] σ (fun x2 τ1 =>
     if x2 = (j_k (-9)) then (again 5 [some (.ref v0), some (.int v1), some (.int v2), some (.int v3), some (.int (v4 + (j_k 1))), none] [] τ1)
     else j_oc τ1 1 v0 (j_c1 call 36 [.ref v0, .int x2] τ1 (fun x4 τ3 =>
     if x4 = 0 then (again 5 [some (.ref v0), some (.int v1), some (.int v2), some (.int v3), some (.int (v4 + (j_k 1))), none] [] τ3)
     else if v2 = 0 then (j_gP τ3 1 v0 0 (fun a5 =>
      j_ia τ3 a5 x2 (
      if (s_I τ3 a5 x2.toNatClampNeg) = (j_k 4) then (again 5 [some (.ref v0), some (.int v1), some (.int v2), some (.int v3), some (.int (v4 + (j_k 1))), none] [] τ3)
      else again 5 [some (.ref v0), some (.int v1), some (.int v2), some (.int (v3 ||| ((j_k 1) <<< (x2 &&& 31)))), some (.int (v4 + (j_k 1))), none] [] τ3)))
     else again 5 [some (.ref v0), some (.int v1), some (.int v2), some (.int (v3 ||| ((j_k 1) <<< (x2 &&& 31)))), some (.int (v4 + (j_k 1))), none] [] τ3)))))
    else some (some (.int v3), σ) := rfl

-- LastStirred$Reader.readAll([II)I
set_option maxRecDepth 1000000 in
set_option maxHeartbeats 8000000 in
theorem t_43_0 (call : Nat → List Value → Sto → Option Rr) (again : Nat → j_L → List Value → Sto → Option Rr) (σ : Sto) (v0 : Nat) (v1 : Nat) (v2 : Int32) :
    j_seg k_43 h_43 call again 2000 0 [some (.ref v0), some (.ref v1), some (.int v2)] [] σ =
    if v0 < j_b then j_oc σ 2 v0 (let τ1 : Sto := s_uP σ v0 2 (some v1);
    if v0 < j_b then j_oc τ1 2 v0 (let τ2 : Sto := s_uI τ1 v0 3 v2;
    if v0 < j_b then j_oc τ2 2 v0 (let τ3 : Sto := s_uI τ2 v0 4 (j_k 0);
    j_oc τ3 2 v0 (j_c1 call 44 [.ref v0] τ3 (fun x5 τ4 =>
    if x5 = 0 then (j_oc τ4 2 v0 (some (some (.int (s_I τ4 v0 4)), τ4)))
    else j_oc τ4 2 v0 (j_c1 call 45 [.ref v0] τ4 (fun x7 τ6 =>
    if x7 = 0 then (j_oc τ6 2 v0 (some (some (.int (s_I τ6 v0 4)), τ6)))
    else j_oc τ6 2 v0 (j_c1 call 46 [.ref v0] τ6 (fun x9 τ8 =>
    if x9 = 0 then (j_oc τ8 2 v0 (some (some (.int (s_I τ8 v0 4)), τ8)))
    else some (some (.int (j_k (-9))), τ8)))))))) else none) else none) else none := rfl

-- LastStirred$Reader.readSize()Z
set_option maxRecDepth 1000000 in
set_option maxHeartbeats 8000000 in
theorem t_44_0 (call : Nat → List Value → Sto → Option Rr) (again : Nat → j_L → List Value → Sto → Option Rr) (σ : Sto) (v0 : Nat) :
    j_seg k_44 h_44 call again 2000 0 [some (.ref v0), none, none] [] σ =
    j_oc σ 2 v0 (j_c0 call 48 [.ref v0] σ (fun τ1 =>
    j_oc τ1 2 v0 (j_c1 call 49 [.ref v0] τ1 (fun x3 τ2 =>
    if x3 = (j_k 103) then (j_oc τ2 2 v0 (if v0 < j_b then j_oc τ2 2 v0 (let τ4 : Sto := s_uI τ2 v0 4 ((s_I τ2 v0 4) + (j_k 1));
     j_oc τ4 2 v0 (j_c1 call 50 [.ref v0, .int (j_k 2), .int (j_k 6)] τ4 (fun x6 τ5 =>
     if x6 = (j_k (-9)) then (if (j_k 0) = 0 ∨ (j_k 0) = 1 then some (some (.int (j_k 0)), τ5) else none)
     else j_oc τ5 2 v0 (j_c1 call 50 [.ref v0, .int (j_k 1), .int (j_k 5)] τ5 (fun x8 τ7 =>
     if x8 = (j_k (-9)) then (if (j_k 0) = 0 ∨ (j_k 0) = 1 then some (some (.int (j_k 0)), τ7) else none)
     else j_gP τ7 2 v0 0 (fun a9 =>
     j_oc τ7 1 a9 (j_c0 call 33 [.ref a9, .int x6, .int x8] τ7 (fun τ10 =>
     if (j_k 1) = 0 ∨ (j_k 1) = 1 then some (some (.int (j_k 1)), τ10) else none)))))))) else none))
    else if (j_k 0) = 0 ∨ (j_k 0) = 1 then some (some (.int (j_k 0)), τ2) else none)))) := rfl

-- LastStirred$Reader.readCells()Z
set_option maxRecDepth 1000000 in
set_option maxHeartbeats 8000000 in
theorem t_45_0 (call : Nat → List Value → Sto → Option Rr) (again : Nat → j_L → List Value → Sto → Option Rr) (σ : Sto) (v0 : Nat) :
    j_seg k_45 h_45 call again 2000 0 [some (.ref v0), none, none] [] σ =
    again 2 [some (.ref v0), some (.int (j_k 0)), none] [] σ := rfl

set_option maxRecDepth 1000000 in
set_option maxHeartbeats 8000000 in
theorem t_45_2 (call : Nat → List Value → Sto → Option Rr) (again : Nat → j_L → List Value → Sto → Option Rr) (σ : Sto) (v0 : Nat) (v1 : Int32) :
    j_seg k_45 h_45 call again 2000 2 [some (.ref v0), some (.int v1), none] [] σ =
    j_gP σ 2 v0 0 (fun a1 =>
    j_oc σ 1 a1 (if v1 < (s_I σ a1 5) then (j_oc σ 2 v0 (j_c0 call 48 [.ref v0] σ (fun τ2 =>
     j_oc τ2 2 v0 (j_c1 call 49 [.ref v0] τ2 (fun x4 τ3 =>
     j_c1 call 125 [.ref (j_b + 0), .int x4] τ3 (fun x6 τ5 =>
     if x6 = (j_k (-9)) then (if (j_k 0) = 0 ∨ (j_k 0) = 1 then some (some (.int (j_k 0)), τ5) else none)
     else j_gP τ5 2 v0 0 (fun a7 =>
     j_gP τ5 1 a7 0 (fun a8 =>
     j_is τ5 a8 v1 (let τ9 : Sto := s_uI τ5 a8 v1.toNatClampNeg x6;
     j_oc τ9 2 v0 (if v0 < j_b then j_oc τ9 2 v0 (let τ10 : Sto := s_uI τ9 v0 4 ((s_I τ9 v0 4) + (j_k 1));
     again 2 [some (.ref v0), some (.int (v1 + (j_k 1))), none] [] τ10) else none))))))))))
    else if (j_k 1) = 0 ∨ (j_k 1) = 1 then some (some (.int (j_k 1)), σ) else none)) := rfl

-- LastStirred$Reader.readBeasts()Z
set_option maxRecDepth 1000000 in
set_option maxHeartbeats 8000000 in
theorem t_46_0 (call : Nat → List Value → Sto → Option Rr) (again : Nat → j_L → List Value → Sto → Option Rr) (σ : Sto) (v0 : Nat) :
    j_seg k_46 h_46 call again 2000 0 [some (.ref v0), none] [] σ =
    j_gP σ 2 v0 1 (fun a1 =>
    j_oc σ 0 a1 (j_c0 call 1 [.ref a1] σ (fun τ2 =>
    again 9 [some (.ref v0), some (.int (j_k 0))] [] τ2))) := rfl

set_option maxRecDepth 1000000 in
set_option maxHeartbeats 8000000 in
theorem t_46_9 (call : Nat → List Value → Sto → Option Rr) (again : Nat → j_L → List Value → Sto → Option Rr) (σ : Sto) (v0 : Nat) (v1 : Int32) :
    j_seg k_46 h_46 call again 2000 9 [some (.ref v0), some (.int v1)] [] σ =
    if v1 < (j_k 4) then (j_oc σ 2 v0 (j_c0 call 48 [.ref v0] σ (fun τ1 =>
     j_oc τ1 2 v0 (j_oc τ1 2 v0 (if (s_I τ1 v0 4) = (s_I τ1 v0 3) then (if (j_k 1) = 0 ∨ (j_k 1) = 1 then some (some (.int (j_k 1)), τ1) else none)
     else j_oc τ1 2 v0 (j_c1 call 47 [.ref v0] τ1 (fun x3 τ2 =>
     if x3 = 0 then (if (j_k 0) = 0 ∨ (j_k 0) = 1 then some (some (.int (j_k 0)), τ2) else none)
     else again 9 [some (.ref v0), some (.int (v1 + (j_k 1)))] [] τ2)))))))
    else j_oc σ 2 v0 (j_c0 call 48 [.ref v0] σ (fun τ4 =>
    j_oc τ4 2 v0 (j_oc τ4 2 v0 (if (s_I τ4 v0 4) = (s_I τ4 v0 3) then (if (j_k 1) = 0 ∨ (j_k 1) = 1 then some (some (.int (j_k 1)), τ4) else none)
    else if (j_k 0) = 0 ∨ (j_k 0) = 1 then some (some (.int (j_k 0)), τ4) else none)))) := rfl

-- LastStirred$Reader.readBeast()Z
set_option maxRecDepth 1000000 in
set_option maxHeartbeats 8000000 in
theorem t_47_0 (call : Nat → List Value → Sto → Option Rr) (again : Nat → j_L → List Value → Sto → Option Rr) (σ : Sto) (v0 : Nat) :
    j_seg k_47 h_47 call again 2000 0 [some (.ref v0), none, none, none, none] [] σ =
    j_oc σ 2 v0 (j_c1 call 49 [.ref v0] σ (fun x2 τ1 =>
    j_c1 call 125 [.ref (j_b + 1), .int x2] τ1 (fun x4 τ3 =>
    if x4 = (j_k (-9)) then (if (j_k 0) = 0 ∨ (j_k 0) = 1 then some (some (.int (j_k 0)), τ3) else none)
    else j_oc τ3 2 v0 (if v0 < j_b then j_oc τ3 2 v0 (let τ5 : Sto := s_uI τ3 v0 4 ((s_I τ3 v0 4) + (j_k 1));
    j_gP τ5 2 v0 0 (fun a6 =>
    j_oc τ5 1 a6 (j_oc τ5 2 v0 (j_c1 call 50 [.ref v0, .int (j_k 0), .int ((s_I τ5 a6 3) - (j_k 1))] τ5 (fun x8 τ7 =>
    if x8 = (j_k (-9)) then (if (j_k 0) = 0 ∨ (j_k 0) = 1 then some (some (.int (j_k 0)), τ7) else none)
    else j_gP τ7 2 v0 0 (fun a9 =>
    j_oc τ7 1 a9 (j_oc τ7 2 v0 (j_c1 call 50 [.ref v0, .int (j_k 0), .int ((s_I τ7 a9 4) - (j_k 1))] τ7 (fun x11 τ10 =>
    if x11 = (j_k (-9)) then (if (j_k 0) = 0 ∨ (j_k 0) = 1 then some (some (.int (j_k 0)), τ10) else none)
    else j_gP τ10 2 v0 0 (fun a12 =>
    j_oc τ10 1 a12 (j_gP τ10 2 v0 0 (fun a13 =>
    j_oc τ10 1 a13 (j_c1 call 36 [.ref a13, .int ((x11 * (s_I τ10 a12 3)) + x8)] τ10 (fun x15 τ14 =>
    if x15 = 0 then (j_oc τ14 2 v0 (if v0 < j_b then j_oc τ14 2 v0 (let τ16 : Sto := s_uI τ14 v0 4 ((s_I τ14 v0 4) - (j_k 1));
     if (j_k 0) = 0 ∨ (j_k 0) = 1 then some (some (.int (j_k 0)), τ16) else none) else none))
    else j_gP τ14 2 v0 1 (fun a17 =>
    j_oc τ14 0 a17 (j_c1 call 7 [.ref a17, .int ((x11 * (s_I τ10 a12 3)) + x8)] τ14 (fun x19 τ18 =>
    if x19 = 0 then (j_gP τ18 2 v0 1 (fun a20 =>
     j_oc τ18 0 a20 (j_c0 call 2 [.ref a20, .int x4, .int ((x11 * (s_I τ10 a12 3)) + x8)] τ18 (fun τ21 =>
     if (j_k 1) = 0 ∨ (j_k 1) = 1 then some (some (.int (j_k 1)), τ21) else none))))
    else j_oc τ18 2 v0 (if v0 < j_b then j_oc τ18 2 v0 (let τ22 : Sto := s_uI τ18 v0 4 ((s_I τ18 v0 4) - (j_k 1));
    if (j_k 0) = 0 ∨ (j_k 0) = 1 then some (some (.int (j_k 0)), τ22) else none) else none)))))))))))))))))) else none)))) := rfl

-- LastStirred$Reader.skipBlanks()V
set_option maxRecDepth 1000000 in
set_option maxHeartbeats 8000000 in
theorem t_48_0 (call : Nat → List Value → Sto → Option Rr) (again : Nat → j_L → List Value → Sto → Option Rr) (σ : Sto) (v0 : Nat) :
    j_seg k_48 h_48 call again 2000 0 [some (.ref v0)] [] σ =
    j_oc σ 2 v0 (j_oc σ 2 v0 (if (s_I σ v0 4) < (s_I σ v0 3) then (j_gP σ 2 v0 2 (fun a1 =>
     j_oc σ 2 v0 (j_ia σ a1 (s_I σ v0 4) (
     if (s_I σ a1 (s_I σ v0 4).toNatClampNeg) = (j_k 32) then (j_oc σ 2 v0 (if v0 < j_b then j_oc σ 2 v0 (let τ2 : Sto := s_uI σ v0 4 ((s_I σ v0 4) + (j_k 1));
      again 0 [some (.ref v0)] [] τ2) else none))
     else some (none, σ)))))
    else some (none, σ))) := rfl

-- LastStirred$Reader.sign()I
set_option maxRecDepth 1000000 in
set_option maxHeartbeats 8000000 in
theorem t_49_0 (call : Nat → List Value → Sto → Option Rr) (again : Nat → j_L → List Value → Sto → Option Rr) (σ : Sto) (v0 : Nat) :
    j_seg k_49 h_49 call again 2000 0 [some (.ref v0)] [] σ =
    j_oc σ 2 v0 (j_oc σ 2 v0 (if (s_I σ v0 4) < (s_I σ v0 3) then (j_gP σ 2 v0 2 (fun a1 =>
     j_oc σ 2 v0 (j_ia σ a1 (s_I σ v0 4) (
     some (some (.int (s_I σ a1 (s_I σ v0 4).toNatClampNeg)), σ)))))
    else some (some (.int (j_k 1000)), σ))) := rfl

-- LastStirred$Reader.figure(II)I
set_option maxRecDepth 1000000 in
set_option maxHeartbeats 8000000 in
theorem t_50_0 (call : Nat → List Value → Sto → Option Rr) (again : Nat → j_L → List Value → Sto → Option Rr) (σ : Sto) (v0 : Nat) (v1 : Int32) (v2 : Int32) :
    j_seg k_50 h_50 call again 2000 0 [some (.ref v0), some (.int v1), some (.int v2), none] [] σ =
    j_oc σ 2 v0 (j_c1 call 49 [.ref v0] σ (fun x2 τ1 =>
    if (x2 - (j_k 48)) < v1 then (some (some (.int (j_k (-9))), τ1))
    else if v2 < (x2 - (j_k 48)) then (some (some (.int (j_k (-9))), τ1))
    else j_oc τ1 2 v0 (if v0 < j_b then j_oc τ1 2 v0 (let τ3 : Sto := s_uI τ1 v0 4 ((s_I τ1 v0 4) + (j_k 1));
    some (some (.int (x2 - (j_k 48))), τ3)) else none))) := rfl

-- LastStirred$Search.seekSafe()V
set_option maxRecDepth 1000000 in
set_option maxHeartbeats 8000000 in
theorem t_52_0 (call : Nat → List Value → Sto → Option Rr) (again : Nat → j_L → List Value → Sto → Option Rr) (σ : Sto) (v0 : Nat) :
    j_seg k_52 h_52 call again 2000 0 [some (.ref v0)] [] σ =
    if (j_k 1) = 0 ∨ (j_k 1) = 1 then (if v0 < j_b then j_oc σ 3 v0 (let τ1 : Sto := s_uI σ v0 2 (j_k 1);
    some (none, τ1)) else none) else none := rfl

-- LastStirred$Search.seekDawn([I)V
set_option maxRecDepth 1000000 in
set_option maxHeartbeats 8000000 in
theorem t_53_0 (call : Nat → List Value → Sto → Option Rr) (again : Nat → j_L → List Value → Sto → Option Rr) (σ : Sto) (v0 : Nat) (v1 : Nat) :
    j_seg k_53 h_53 call again 2000 0 [some (.ref v0), some (.ref v1)] [] σ =
    if (j_k 0) = 0 ∨ (j_k 0) = 1 then (if v0 < j_b then j_oc σ 3 v0 (let τ1 : Sto := s_uI σ v0 2 (j_k 0);
    j_gP τ1 3 v0 1 (fun a2 =>
    j_ac τ1 v1 (j_k 0) a2 (j_k 0) (j_k 4) (fun τ3 =>
    some (none, τ3)))) else none) else none := rfl

-- LastStirred$Search.fewFrom(LLastStirred$Ground;LLastStirred$Flock;I)I
set_option maxRecDepth 1000000 in
set_option maxHeartbeats 8000000 in
theorem t_54_0 (call : Nat → List Value → Sto → Option Rr) (again : Nat → j_L → List Value → Sto → Option Rr) (σ : Sto) (v0 : Nat) (v1 : Nat) (v2 : Nat) (v3 : Int32) :
    j_seg k_54 h_54 call again 2000 0 [some (.ref v0), some (.ref v1), some (.ref v2), some (.int v3), none] [] σ =
    again 3 [some (.ref v0), some (.ref v1), some (.ref v2), some (.int v3), some (.int (j_k 0))] [] σ := rfl

set_option maxRecDepth 1000000 in
set_option maxHeartbeats 8000000 in
theorem t_54_3 (call : Nat → List Value → Sto → Option Rr) (again : Nat → j_L → List Value → Sto → Option Rr) (σ : Sto) (v0 : Nat) (v1 : Nat) (v2 : Nat) (v3 : Int32) (v4 : Int32) :
    j_seg k_54 h_54 call again 2000 3 [some (.ref v0), some (.ref v1), some (.ref v2), some (.int v3), some (.int v4)] [] σ =
    if v3 < v4 then (some (some (.int (j_k (-9))), σ))
    else j_oc σ 3 v0 (j_c0 call 56 [.ref v0, .ref v2, .int v4] σ (fun τ1 =>
    j_c0 call 57 [.ref v0, .ref v1, .int (j_k 0), .int (j_k 0)] τ1 (fun τ2 =>
    j_oc τ2 3 v0 (if 0 < (s_I τ2 v0 5) then (some (some (.int v4), τ2))
    else again 3 [some (.ref v0), some (.ref v1), some (.ref v2), some (.int v3), some (.int (v4 + (j_k 1)))] [] τ2)))) := rfl

-- LastStirred$Search.allFrom(LLastStirred$Ground;LLastStirred$Flock;I)V
set_option maxRecDepth 1000000 in
set_option maxHeartbeats 8000000 in
theorem t_55_0 (call : Nat → List Value → Sto → Option Rr) (again : Nat → j_L → List Value → Sto → Option Rr) (σ : Sto) (v0 : Nat) (v1 : Nat) (v2 : Nat) (v3 : Int32) :
    j_seg k_55 h_55 call again 2000 0 [some (.ref v0), some (.ref v1), some (.ref v2), some (.int v3)] [] σ =
    j_oc σ 3 v0 (j_c0 call 56 [.ref v0, .ref v2, .int v3] σ (fun τ1 =>
    j_c0 call 57 [.ref v0, .ref v1, .int (j_k 0), .int (j_k 0)] τ1 (fun τ2 =>
    some (none, τ2)))) := rfl

-- LastStirred$Search.begin(LLastStirred$Flock;I)V
set_option maxRecDepth 1000000 in
set_option maxHeartbeats 8000000 in
theorem t_56_0 (call : Nat → List Value → Sto → Option Rr) (again : Nat → j_L → List Value → Sto → Option Rr) (σ : Sto) (v0 : Nat) (v1 : Nat) (v2 : Int32) :
    j_seg k_56 h_56 call again 2000 0 [some (.ref v0), some (.ref v1), some (.int v2)] [] σ =
    j_gP σ 3 v0 0 (fun a1 =>
    j_qa σ a1 (j_k 0) (fun a2 =>
    j_oc σ 0 a2 (j_c0 call 3 [.ref a2, .ref v1] σ (fun τ3 =>
    if v0 < j_b then j_oc τ3 3 v0 (let τ4 : Sto := s_uI τ3 v0 3 v2;
    if v0 < j_b then j_oc τ4 3 v0 (let τ5 : Sto := s_uI τ4 v0 4 (j_k 0);
    if v0 < j_b then j_oc τ5 3 v0 (let τ6 : Sto := s_uI τ5 v0 5 (j_k 0);
    if v0 < j_b then j_oc τ6 3 v0 (let τ7 : Sto := s_uI τ6 v0 6 (j_k 0);
    if v0 < j_b then j_oc τ7 3 v0 (let τ8 : Sto := s_uI τ7 v0 7 (j_k 0);
    if v0 < j_b then j_oc τ8 3 v0 (let τ9 : Sto := s_uI τ8 v0 8 (j_k 0);
    some (none, τ9)) else none) else none) else none) else none) else none) else none)))) := rfl

-- LastStirred$Search.follow(LLastStirred$Search;LLastStirred$Ground;II)V
set_option maxRecDepth 1000000 in
set_option maxHeartbeats 8000000 in
theorem t_57_0 (call : Nat → List Value → Sto → Option Rr) (again : Nat → j_L → List Value → Sto → Option Rr) (σ : Sto) (v0 : Nat) (v1 : Nat) (v2 : Int32) (v3 : Int32) :
    j_seg k_57 h_57 call again 2000 0 [some (.ref v0), some (.ref v1), some (.int v2), some (.int v3), none, none] [] σ =
    j_oc σ 3 v0 (if v2 < (s_I σ v0 3) then (if v2 < (j_k 3) then (j_gP σ 3 v0 0 (fun a1 =>
      j_qa σ a1 (v2 + (j_k 1)) (fun a2 =>
      again 34 [some (.ref v0), some (.ref v1), some (.int v2), some (.int v3), some (.ref a2), some (.int (j_k 0))] [] σ)))
     else j_oc σ 3 v0 (j_c0 call 58 [.ref v0, .ref v1, .int v2, .int v3] σ (fun τ3 =>
     some (none, τ3))))
    else j_oc σ 3 v0 (j_c0 call 58 [.ref v0, .ref v1, .int v2, .int v3] σ (fun τ4 =>
    some (none, τ4)))) := rfl

set_option maxRecDepth 1000000 in
set_option maxHeartbeats 8000000 in
theorem t_57_34 (call : Nat → List Value → Sto → Option Rr) (again : Nat → j_L → List Value → Sto → Option Rr) (σ : Sto) (v0 : Nat) (v1 : Nat) (v2 : Int32) (v3 : Int32) (v4 : Nat) (v5 : Int32) :
    j_seg k_57 h_57 call again 2000 34 [some (.ref v0), some (.ref v1), some (.int v2), some (.int v3), some (.ref v4), some (.int v5)] [] σ =
    j_gP σ 3 v0 0 (fun a1 =>
    j_qa σ a1 v2 (fun a2 =>
    j_oc σ 0 a2 (j_c1 call 13 [.ref a2] σ (fun x4 τ3 =>
    if v5 < x4 then (j_gP τ3 3 v0 0 (fun a5 =>
     j_qa τ3 a5 v2 (fun a6 =>
     j_oc τ3 0 v4 (j_c0 call 3 [.ref v4, .ref a6] τ3 (fun τ7 =>
     j_oc τ7 0 v4 (j_c1 call 29 [.ref v4, .ref v1, .int v5] τ7 (fun x9 τ8 =>
     if x9 = 0 then (again 34 [some (.ref v0), some (.ref v1), some (.int v2), some (.int v3), some (.ref v4), some (.int (v5 + (j_k 1)))] [] τ8)
     else j_c0 call 57 [.ref v0, .ref v1, .int (v2 + (j_k 1)), .int ((v3 <<< ((j_k 4) &&& 31)) ||| v5)] τ8 (fun τ10 =>
     again 34 [some (.ref v0), some (.ref v1), some (.int v2), some (.int v3), some (.ref v4), some (.int (v5 + (j_k 1)))] [] τ10))))))))
    else some (none, τ3))))) := rfl

-- LastStirred$Search.note(LLastStirred$Ground;II)V
set_option maxRecDepth 1000000 in
set_option maxHeartbeats 8000000 in
theorem t_58_0 (call : Nat → List Value → Sto → Option Rr) (again : Nat → j_L → List Value → Sto → Option Rr) (σ : Sto) (v0 : Nat) (v1 : Nat) (v2 : Int32) (v3 : Int32) :
    j_seg k_58 h_58 call again 2000 0 [some (.ref v0), some (.ref v1), some (.int v2), some (.int v3), none, none] [] σ =
    j_oc σ 3 v0 (if v0 < j_b then j_oc σ 3 v0 (let τ1 : Sto := s_uI σ v0 4 ((s_I σ v0 4) + (j_k 1));
    j_oc τ1 3 v0 (if (s_I τ1 v0 2) = 0 then (j_gP τ1 3 v0 0 (fun a2 =>
     j_qa τ1 a2 v2 (fun a3 =>
     j_gP τ1 3 v0 1 (fun a4 =>
     j_oc τ1 0 a3 (j_c1 call 18 [.ref a3, .ref a4] τ1 (fun x6 τ5 =>
     if x6 = 0 then (some (none, τ5))
     else j_oc τ5 3 v0 (if (s_I τ5 v0 5) = 0 then (if v0 < j_b then j_oc τ5 3 v0 (let τ7 : Sto := s_uI τ5 v0 6 v3;
      j_oc τ7 3 v0 (if v0 < j_b then j_oc τ7 3 v0 (let τ8 : Sto := s_uI τ7 v0 5 ((s_I τ7 v0 5) + (j_k 1));
      if v2 = 0 then (some (none, τ8))
      else j_oc τ8 3 v0 (if (j_k 4) = 0 then none else
      if v0 < j_b then j_oc τ8 3 v0 (let τ9 : Sto := s_uI τ8 v0 7 ((s_I τ8 v0 7) ||| ((j_k 1) <<< (((v3 >>> (((j_k 4) * (v2 - (j_k 1))) &&& 31)) / (j_k 4)) &&& 31)));
      j_oc τ9 3 v0 (if (j_k 4) = 0 then none else
      if v0 < j_b then j_oc τ9 3 v0 (let τ10 : Sto := s_uI τ9 v0 8 ((s_I τ9 v0 8) ||| ((j_k 1) <<< (((v3 >>> (((j_k 4) * (v2 - (j_k 1))) &&& 31)) - (v3 >>> (((j_k 4) * (v2 - (j_k 1))) &&& 31)) / (j_k 4) * (j_k 4)) &&& 31)));
      some (none, τ10)) else none)) else none)) else none)) else none)
     else j_oc τ5 3 v0 (if v0 < j_b then j_oc τ5 3 v0 (let τ11 : Sto := s_uI τ5 v0 5 ((s_I τ5 v0 5) + (j_k 1));
     if v2 = 0 then (some (none, τ11))
     else j_oc τ11 3 v0 (if (j_k 4) = 0 then none else
     if v0 < j_b then j_oc τ11 3 v0 (let τ12 : Sto := s_uI τ11 v0 7 ((s_I τ11 v0 7) ||| ((j_k 1) <<< (((v3 >>> (((j_k 4) * (v2 - (j_k 1))) &&& 31)) / (j_k 4)) &&& 31)));
     j_oc τ12 3 v0 (if (j_k 4) = 0 then none else
     if v0 < j_b then j_oc τ12 3 v0 (let τ13 : Sto := s_uI τ12 v0 8 ((s_I τ12 v0 8) ||| ((j_k 1) <<< (((v3 >>> (((j_k 4) * (v2 - (j_k 1))) &&& 31)) - (v3 >>> (((j_k 4) * (v2 - (j_k 1))) &&& 31)) / (j_k 4) * (j_k 4)) &&& 31)));
     some (none, τ13)) else none)) else none)) else none))))))))
    else j_gP τ1 3 v0 0 (fun a14 =>
    j_qa τ1 a14 v2 (fun a15 =>
    j_oc τ1 0 a15 (j_c1 call 17 [.ref a15, .ref v1] τ1 (fun x17 τ16 =>
    if x17 = 0 then (some (none, τ16))
    else j_oc τ16 3 v0 (if (s_I τ16 v0 5) = 0 then (if v0 < j_b then j_oc τ16 3 v0 (let τ18 : Sto := s_uI τ16 v0 6 v3;
     j_oc τ18 3 v0 (if v0 < j_b then j_oc τ18 3 v0 (let τ19 : Sto := s_uI τ18 v0 5 ((s_I τ18 v0 5) + (j_k 1));
     if v2 = 0 then (some (none, τ19))
     else j_oc τ19 3 v0 (if (j_k 4) = 0 then none else
     if v0 < j_b then j_oc τ19 3 v0 (let τ20 : Sto := s_uI τ19 v0 7 ((s_I τ19 v0 7) ||| ((j_k 1) <<< (((v3 >>> (((j_k 4) * (v2 - (j_k 1))) &&& 31)) / (j_k 4)) &&& 31)));
     j_oc τ20 3 v0 (if (j_k 4) = 0 then none else
     if v0 < j_b then j_oc τ20 3 v0 (let τ21 : Sto := s_uI τ20 v0 8 ((s_I τ20 v0 8) ||| ((j_k 1) <<< (((v3 >>> (((j_k 4) * (v2 - (j_k 1))) &&& 31)) - (v3 >>> (((j_k 4) * (v2 - (j_k 1))) &&& 31)) / (j_k 4) * (j_k 4)) &&& 31)));
     some (none, τ21)) else none)) else none)) else none)) else none)
    else j_oc τ16 3 v0 (if v0 < j_b then j_oc τ16 3 v0 (let τ22 : Sto := s_uI τ16 v0 5 ((s_I τ16 v0 5) + (j_k 1));
    if v2 = 0 then (some (none, τ22))
    else j_oc τ22 3 v0 (if (j_k 4) = 0 then none else
    if v0 < j_b then j_oc τ22 3 v0 (let τ23 : Sto := s_uI τ22 v0 7 ((s_I τ22 v0 7) ||| ((j_k 1) <<< (((v3 >>> (((j_k 4) * (v2 - (j_k 1))) &&& 31)) / (j_k 4)) &&& 31)));
    j_oc τ23 3 v0 (if (j_k 4) = 0 then none else
    if v0 < j_b then j_oc τ23 3 v0 (let τ24 : Sto := s_uI τ23 v0 8 ((s_I τ23 v0 8) ||| ((j_k 1) <<< (((v3 >>> (((j_k 4) * (v2 - (j_k 1))) &&& 31)) - (v3 >>> (((j_k 4) * (v2 - (j_k 1))) &&& 31)) / (j_k 4) * (j_k 4)) &&& 31)));
    some (none, τ24)) else none)) else none)) else none)))))))) else none) := rfl

-- LastStirred$Shelf.has(I)Z
set_option maxRecDepth 1000000 in
set_option maxHeartbeats 8000000 in
theorem t_60_0 (call : Nat → List Value → Sto → Option Rr) (again : Nat → j_L → List Value → Sto → Option Rr) (σ : Sto) (v0 : Nat) (v1 : Int32) :
    j_seg k_60 h_60 call again 2000 0 [some (.ref v0), some (.int v1)] [] σ =
    if v1 < 0 then (if (j_k 0) = 0 ∨ (j_k 0) = 1 then some (some (.int (j_k 0)), σ) else none)
    else j_gP σ 4 v0 1 (fun a1 =>
    j_len σ a1 (fun n2 =>
    if v1 < n2 then (if (j_k 1) = 0 ∨ (j_k 1) = 1 then some (some (.int (j_k 1)), σ) else none)
    else if (j_k 0) = 0 ∨ (j_k 0) = 1 then some (some (.int (j_k 0)), σ) else none)) := rfl

-- LastStirred$Shelf.make(III)V
set_option maxRecDepth 1000000 in
set_option maxHeartbeats 8000000 in
theorem t_61_0 (call : Nat → List Value → Sto → Option Rr) (again : Nat → j_L → List Value → Sto → Option Rr) (σ : Sto) (v0 : Nat) (v1 : Int32) (v2 : Int32) (v3 : Int32) :
    j_seg k_61 h_61 call again 2000 0 [some (.ref v0), some (.int v1), some (.int v2), some (.int v3)] [] σ =
    j_gP σ 4 v0 0 (fun a1 =>
    j_qa σ a1 v1 (fun a2 =>
    j_c0 call 235 [.ref a2, .int v3] σ (fun τ3 =>
    j_gP τ3 4 v0 1 (fun a4 =>
    j_is τ3 a4 v1 (let τ5 : Sto := s_uI τ3 a4 v1.toNatClampNeg v2;
    some (none, τ5)))))) := rfl

-- LastStirred$Shelf.thereAre()I
set_option maxRecDepth 1000000 in
set_option maxHeartbeats 8000000 in
theorem t_62_0 (call : Nat → List Value → Sto → Option Rr) (again : Nat → j_L → List Value → Sto → Option Rr) (σ : Sto) (v0 : Nat) :
    j_seg k_62 h_62 call again 2000 0 [some (.ref v0), none, none, none, none, none] [] σ =
    j_gP σ 4 v0 1 (fun a1 =>
    j_len σ a1 (fun n2 =>
    again 13 [some (.ref v0), some (.int (j_k 0)), some (.ref a1), some (.int n2), some (.int (j_k 0)), none] [] σ)) := rfl

set_option maxRecDepth 1000000 in
set_option maxHeartbeats 8000000 in
theorem t_62_13 (call : Nat → List Value → Sto → Option Rr) (again : Nat → j_L → List Value → Sto → Option Rr) (σ : Sto) (v0 : Nat) (v1 : Int32) (v2 : Nat) (v3 : Int32) (v4 : Int32) :
    j_seg k_62 h_62 call again 2000 13 [some (.ref v0), some (.int v1), some (.ref v2), some (.int v3), some (.int v4), none] [] σ =
    if v4 < v3 then (j_ia σ v2 v4 (
     if (s_I σ v2 v4.toNatClampNeg) = (j_k (-1)) then (again 13 [some (.ref v0), some (.int v1), some (.ref v2), some (.int v3), some (.int (v4 + (j_k 1))), none] [] σ)
     else again 13 [some (.ref v0), some (.int (v1 + (j_k 1))), some (.ref v2), some (.int v3), some (.int (v4 + (j_k 1))), none] [] σ))
    else some (some (.int v1), σ) := rfl

-- LastStirred$Shelf.addTo(J)J
set_option maxRecDepth 1000000 in
set_option maxHeartbeats 8000000 in
theorem t_63_0 (call : Nat → List Value → Sto → Option Rr) (again : Nat → j_L → List Value → Sto → Option Rr) (σ : Sto) (v0 : Nat) (v1 : Int64) :
    j_seg k_63 h_63 call again 2000 0 [some (.ref v0), some (.long v1), none, none, none, none, none] [] σ =
    again 5 [some (.ref v0), some (.long v1), none, some (.long v1), none, some (.int (j_k 0)), none] [] σ := rfl

set_option maxRecDepth 1000000 in
set_option maxHeartbeats 8000000 in
theorem t_63_5 (call : Nat → List Value → Sto → Option Rr) (again : Nat → j_L → List Value → Sto → Option Rr) (σ : Sto) (v0 : Nat) (v1 : Int64) (v3 : Int64) (v5 : Int32) :
    j_seg k_63 h_63 call again 2000 5 [some (.ref v0), some (.long v1), none, some (.long v3), none, some (.int v5), none] [] σ =
    j_gP σ 4 v0 1 (fun a1 =>
    j_len σ a1 (fun n2 =>
    if v5 < n2 then (j_gP σ 4 v0 1 (fun a3 =>
     j_ia σ a3 v5 (
     again 33 [some (.ref v0), some (.long v1), none, some (.long (((j_cJ 3) * v3) + (s_I σ a3 v5.toNatClampNeg).toInt64)), none, some (.int v5), some (.int (j_k 0))] [] σ)))
    else some (some (.long v3), σ))) := rfl

set_option maxRecDepth 1000000 in
set_option maxHeartbeats 8000000 in
theorem t_63_33 (call : Nat → List Value → Sto → Option Rr) (again : Nat → j_L → List Value → Sto → Option Rr) (σ : Sto) (v0 : Nat) (v1 : Int64) (v3 : Int64) (v5 : Int32) (v6 : Int32) :
    j_seg k_63 h_63 call again 2000 33 [some (.ref v0), some (.long v1), none, some (.long v3), none, some (.int v5), some (.int v6)] [] σ =
    j_gP σ 4 v0 1 (fun a1 =>
    j_ia σ a1 v5 (
    if v6 < (s_I σ a1 v5.toNatClampNeg) then (j_gP σ 4 v0 0 (fun a2 =>
     j_qa σ a2 v5 (fun a3 =>
     j_ia σ a3 v6 (
     again 33 [some (.ref v0), some (.long v1), none, some (.long (((j_cJ 3) * v3) + (s_I σ a3 v6.toNatClampNeg).toInt64)), none, some (.int v5), some (.int (v6 + (j_k 1)))] [] σ))))
    else again 5 [some (.ref v0), some (.long v1), none, some (.long v3), none, some (.int (v5 + (j_k 1))), none] [] σ)) := rfl

-- LastStirred$Watch.keepsAll(LLastStirred$Ground;LLastStirred$Flock;II)Z
set_option maxRecDepth 1000000 in
set_option maxHeartbeats 8000000 in
theorem t_65_0 (call : Nat → List Value → Sto → Option Rr) (again : Nat → j_L → List Value → Sto → Option Rr) (σ : Sto) (v0 : Nat) (v1 : Nat) (v2 : Nat) (v3 : Int32) (v4 : Int32) :
    j_seg k_65 h_65 call again 2000 0 [some (.ref v0), some (.ref v1), some (.ref v2), some (.int v3), some (.int v4)] [] σ =
    j_gP σ 5 v0 0 (fun a1 =>
    j_qa σ a1 (j_k 0) (fun a2 =>
    j_oc σ 0 a2 (j_c0 call 3 [.ref a2, .ref v2] σ (fun τ3 =>
    j_gP τ3 5 v0 0 (fun a4 =>
    j_len τ3 a4 (fun n5 =>
    if v0 < j_b then j_oc τ3 5 v0 (let τ6 : Sto := s_uI τ3 v0 1 (j_min v4 (n5 - (j_k 1)));
    j_oc τ6 0 v2 (j_c1 call 14 [.ref v2] τ6 (fun x8 τ7 =>
    if v0 < j_b then j_oc τ7 5 v0 (let τ9 : Sto := s_uI τ7 v0 2 x8;
    j_oc τ9 5 v0 (j_c1 call 66 [.ref v0, .ref v1, .int v3, .int (j_k 0)] τ9 (fun x11 τ10 =>
    if x11 = 0 ∨ x11 = 1 then some (some (.int x11), τ10) else none))) else none))) else none)))))) := rfl

-- LastStirred$Watch.shepherdKeeps(LLastStirred$Ground;II)Z
set_option maxRecDepth 1000000 in
set_option maxHeartbeats 8000000 in
theorem t_66_0 (call : Nat → List Value → Sto → Option Rr) (again : Nat → j_L → List Value → Sto → Option Rr) (σ : Sto) (v0 : Nat) (v1 : Nat) (v2 : Int32) (v3 : Int32) :
    j_seg k_66 h_66 call again 2000 0 [some (.ref v0), some (.ref v1), some (.int v2), some (.int v3), none, none] [] σ =
    j_oc σ 5 v0 (if v3 < (s_I σ v0 1) then (j_gP σ 5 v0 0 (fun a1 =>
     j_qa σ a1 (v3 + (j_k 1)) (fun a2 =>
     again 23 [some (.ref v0), some (.ref v1), some (.int v2), some (.int v3), some (.ref a2), some (.int (j_k (-1)))] [] σ)))
    else if (j_k 1) = 0 ∨ (j_k 1) = 1 then some (some (.int (j_k 1)), σ) else none) := rfl

set_option maxRecDepth 1000000 in
set_option maxHeartbeats 8000000 in
theorem t_66_23 (call : Nat → List Value → Sto → Option Rr) (again : Nat → j_L → List Value → Sto → Option Rr) (σ : Sto) (v0 : Nat) (v1 : Nat) (v2 : Int32) (v3 : Int32) (v4 : Nat) (v5 : Int32) :
    j_seg k_66 h_66 call again 2000 23 [some (.ref v0), some (.ref v1), some (.int v2), some (.int v3), some (.ref v4), some (.int v5)] [] σ =
    j_gP σ 5 v0 0 (fun a1 =>
    j_qa σ a1 v3 (fun a2 =>
    j_oc σ 0 a2 (j_c1 call 13 [.ref a2] σ (fun x4 τ3 =>
    if v5 < x4 then (j_gP τ3 5 v0 0 (fun a5 =>
     j_qa τ3 a5 v3 (fun a6 =>
     j_oc τ3 0 v4 (j_c0 call 3 [.ref v4, .ref a6] τ3 (fun τ7 =>
     if v5 < 0 then (j_oc τ7 0 v4 (j_c1 call 14 [.ref v4] τ7 (fun x9 τ8 =>
      j_oc τ8 5 v0 (if (s_I τ8 v0 2) < x9 then (again 23 [some (.ref v0), some (.ref v1), some (.int v2), some (.int v3), some (.ref v4), some (.int (v5 + (j_k 1)))] [] τ8)
      else j_oc τ8 5 v0 (j_c1 call 67 [.ref v0, .ref v1, .int v2, .int (v3 + (j_k 1))] τ8 (fun x11 τ10 =>
      if x11 = 0 then (again 23 [some (.ref v0), some (.ref v1), some (.int v2), some (.int v3), some (.ref v4), some (.int (v5 + (j_k 1)))] [] τ10)
      else if v3 = 0 then (if v5 < 0 then (if v0 < j_b then j_oc τ10 5 v0 (let τ12 : Sto := s_uI τ10 v0 3 (j_k (-9));
        if (j_k 1) = 0 ∨ (j_k 1) = 1 then some (some (.int (j_k 1)), τ12) else none) else none)
       else if v0 < j_b then j_oc τ10 5 v0 (let τ13 : Sto := s_uI τ10 v0 3 v5;
       if (j_k 1) = 0 ∨ (j_k 1) = 1 then some (some (.int (j_k 1)), τ13) else none) else none)
      else if (j_k 1) = 0 ∨ (j_k 1) = 1 then some (some (.int (j_k 1)), τ10) else none))))))
     else j_oc τ7 0 v4 (j_c1 call 29 [.ref v4, .ref v1, .int v5] τ7 (fun x15 τ14 =>
     if x15 = 0 then (again 23 [some (.ref v0), some (.ref v1), some (.int v2), some (.int v3), some (.ref v4), some (.int (v5 + (j_k 1)))] [] τ14)
     else j_oc τ14 0 v4 (j_c1 call 14 [.ref v4] τ14 (fun x17 τ16 =>
     j_oc τ16 5 v0 (if (s_I τ16 v0 2) < x17 then (again 23 [some (.ref v0), some (.ref v1), some (.int v2), some (.int v3), some (.ref v4), some (.int (v5 + (j_k 1)))] [] τ16)
     else j_oc τ16 5 v0 (j_c1 call 67 [.ref v0, .ref v1, .int v2, .int (v3 + (j_k 1))] τ16 (fun x19 τ18 =>
     if x19 = 0 then (again 23 [some (.ref v0), some (.ref v1), some (.int v2), some (.int v3), some (.ref v4), some (.int (v5 + (j_k 1)))] [] τ18)
     else if v3 = 0 then (if v5 < 0 then (if v0 < j_b then j_oc τ18 5 v0 (let τ20 : Sto := s_uI τ18 v0 3 (j_k (-9));
       if (j_k 1) = 0 ∨ (j_k 1) = 1 then some (some (.int (j_k 1)), τ20) else none) else none)
      else if v0 < j_b then j_oc τ18 5 v0 (let τ21 : Sto := s_uI τ18 v0 3 v5;
      if (j_k 1) = 0 ∨ (j_k 1) = 1 then some (some (.int (j_k 1)), τ21) else none) else none)
     else if (j_k 1) = 0 ∨ (j_k 1) = 1 then some (some (.int (j_k 1)), τ18) else none))))))))))))
    else if (j_k 0) = 0 ∨ (j_k 0) = 1 then some (some (.int (j_k 0)), τ3) else none)))) := rfl

-- LastStirred$Watch.wolfFails(LLastStirred$Ground;II)Z
set_option maxRecDepth 1000000 in
set_option maxHeartbeats 8000000 in
theorem t_67_0 (call : Nat → List Value → Sto → Option Rr) (again : Nat → j_L → List Value → Sto → Option Rr) (σ : Sto) (v0 : Nat) (v1 : Nat) (v2 : Int32) (v3 : Int32) :
    j_seg k_67 h_67 call again 2000 0 [some (.ref v0), some (.ref v1), some (.int v2), some (.int v3), none, none] [] σ =
    again 3 [some (.ref v0), some (.ref v1), some (.int v2), some (.int v3), some (.int (j_k (-1))), none] [] σ := rfl

set_option maxRecDepth 1000000 in
set_option maxHeartbeats 8000000 in
theorem t_67_3 (call : Nat → List Value → Sto → Option Rr) (again : Nat → j_L → List Value → Sto → Option Rr) (σ : Sto) (v0 : Nat) (v1 : Nat) (v2 : Int32) (v3 : Int32) (v4 : Int32) :
    j_seg k_67 h_67 call again 2000 3 [some (.ref v0), some (.ref v1), some (.int v2), some (.int v3), some (.int v4), none] [] σ =
    if v4 < (j_k 4) then (if v4 < 0 then (if v2 = (j_k (-9)) then (again 3 [some (.ref v0), some (.ref v1), some (.int v2), some (.int v3), some (.int (v4 + (j_k 1))), none] [] σ)
      else j_oc σ 1 v1 (j_c1 call 36 [.ref v1, .int v2] σ (fun x2 τ1 =>
      if x2 = 0 then (again 3 [some (.ref v0), some (.ref v1), some (.int v2), some (.int v3), some (.int (v4 + (j_k 1))), none] [] τ1)
      else j_gP τ1 5 v0 0 (fun a3 =>
      j_qa τ1 a3 v3 (fun a4 =>
      j_oc τ1 0 a4 (j_c1 call 7 [.ref a4, .int v2] τ1 (fun x6 τ5 =>
      if x6 = 0 then (j_oc τ5 5 v0 (j_c1 call 66 [.ref v0, .ref v1, .int v2, .int v3] τ5 (fun x8 τ7 =>
       if x8 = 0 then (if (j_k 0) = 0 ∨ (j_k 0) = 1 then some (some (.int (j_k 0)), τ7) else none)
       else again 3 [some (.ref v0), some (.ref v1), some (.int v2), some (.int v3), some (.int (v4 + (j_k 1))), none] [] τ7)))
      else if (j_k 0) = 0 ∨ (j_k 0) = 1 then some (some (.int (j_k 0)), τ5) else none)))))))
     else j_oc σ 1 v1 (j_c1 call 38 [.ref v1, .int v2, .int v4] σ (fun x10 τ9 =>
     if x10 = (j_k (-9)) then (again 3 [some (.ref v0), some (.ref v1), some (.int v2), some (.int v3), some (.int (v4 + (j_k 1))), none] [] τ9)
     else j_oc τ9 1 v1 (j_c1 call 36 [.ref v1, .int x10] τ9 (fun x12 τ11 =>
     if x12 = 0 then (again 3 [some (.ref v0), some (.ref v1), some (.int v2), some (.int v3), some (.int (v4 + (j_k 1))), none] [] τ11)
     else j_gP τ11 5 v0 0 (fun a13 =>
     j_qa τ11 a13 v3 (fun a14 =>
     j_oc τ11 0 a14 (j_c1 call 7 [.ref a14, .int x10] τ11 (fun x16 τ15 =>
     if x16 = 0 then (j_oc τ15 5 v0 (j_c1 call 66 [.ref v0, .ref v1, .int x10, .int v3] τ15 (fun x18 τ17 =>
      if x18 = 0 then (if (j_k 0) = 0 ∨ (j_k 0) = 1 then some (some (.int (j_k 0)), τ17) else none)
      else again 3 [some (.ref v0), some (.ref v1), some (.int v2), some (.int v3), some (.int (v4 + (j_k 1))), none] [] τ17)))
     else if (j_k 0) = 0 ∨ (j_k 0) = 1 then some (some (.int (j_k 0)), τ15) else none)))))))))
    else if (j_k 1) = 0 ∨ (j_k 1) = 1 then some (some (.int (j_k 1)), σ) else none := rfl

-- java/lang/Integer.bitCount(I)I
set_option maxRecDepth 1000000 in
set_option maxHeartbeats 8000000 in
theorem t_234_0 (call : Nat → List Value → Sto → Option Rr) (again : Nat → j_L → List Value → Sto → Option Rr) (σ : Sto) (v0 : Int32) :
    j_seg k_234 h_234 call again 2000 0 [some (.int v0)] [] σ =
    some (some (.int ((((((((v0 - ((v0.toUInt32 >>> ((j_k 1).toUInt32 &&& Int32.toUInt32 31)).toInt32 &&& (j_ci 0))) &&& (j_ci 1)) + (((v0 - ((v0.toUInt32 >>> ((j_k 1).toUInt32 &&& Int32.toUInt32 31)).toInt32 &&& (j_ci 0))).toUInt32 >>> ((j_k 2).toUInt32 &&& Int32.toUInt32 31)).toInt32 &&& (j_ci 1))) + ((((v0 - ((v0.toUInt32 >>> ((j_k 1).toUInt32 &&& Int32.toUInt32 31)).toInt32 &&& (j_ci 0))) &&& (j_ci 1)) + (((v0 - ((v0.toUInt32 >>> ((j_k 1).toUInt32 &&& Int32.toUInt32 31)).toInt32 &&& (j_ci 0))).toUInt32 >>> ((j_k 2).toUInt32 &&& Int32.toUInt32 31)).toInt32 &&& (j_ci 1))).toUInt32 >>> ((j_k 4).toUInt32 &&& Int32.toUInt32 31)).toInt32) &&& (j_ci 2)) + ((((((v0 - ((v0.toUInt32 >>> ((j_k 1).toUInt32 &&& Int32.toUInt32 31)).toInt32 &&& (j_ci 0))) &&& (j_ci 1)) + (((v0 - ((v0.toUInt32 >>> ((j_k 1).toUInt32 &&& Int32.toUInt32 31)).toInt32 &&& (j_ci 0))).toUInt32 >>> ((j_k 2).toUInt32 &&& Int32.toUInt32 31)).toInt32 &&& (j_ci 1))) + ((((v0 - ((v0.toUInt32 >>> ((j_k 1).toUInt32 &&& Int32.toUInt32 31)).toInt32 &&& (j_ci 0))) &&& (j_ci 1)) + (((v0 - ((v0.toUInt32 >>> ((j_k 1).toUInt32 &&& Int32.toUInt32 31)).toInt32 &&& (j_ci 0))).toUInt32 >>> ((j_k 2).toUInt32 &&& Int32.toUInt32 31)).toInt32 &&& (j_ci 1))).toUInt32 >>> ((j_k 4).toUInt32 &&& Int32.toUInt32 31)).toInt32) &&& (j_ci 2)).toUInt32 >>> ((j_k 8).toUInt32 &&& Int32.toUInt32 31)).toInt32) + (((((((v0 - ((v0.toUInt32 >>> ((j_k 1).toUInt32 &&& Int32.toUInt32 31)).toInt32 &&& (j_ci 0))) &&& (j_ci 1)) + (((v0 - ((v0.toUInt32 >>> ((j_k 1).toUInt32 &&& Int32.toUInt32 31)).toInt32 &&& (j_ci 0))).toUInt32 >>> ((j_k 2).toUInt32 &&& Int32.toUInt32 31)).toInt32 &&& (j_ci 1))) + ((((v0 - ((v0.toUInt32 >>> ((j_k 1).toUInt32 &&& Int32.toUInt32 31)).toInt32 &&& (j_ci 0))) &&& (j_ci 1)) + (((v0 - ((v0.toUInt32 >>> ((j_k 1).toUInt32 &&& Int32.toUInt32 31)).toInt32 &&& (j_ci 0))).toUInt32 >>> ((j_k 2).toUInt32 &&& Int32.toUInt32 31)).toInt32 &&& (j_ci 1))).toUInt32 >>> ((j_k 4).toUInt32 &&& Int32.toUInt32 31)).toInt32) &&& (j_ci 2)) + ((((((v0 - ((v0.toUInt32 >>> ((j_k 1).toUInt32 &&& Int32.toUInt32 31)).toInt32 &&& (j_ci 0))) &&& (j_ci 1)) + (((v0 - ((v0.toUInt32 >>> ((j_k 1).toUInt32 &&& Int32.toUInt32 31)).toInt32 &&& (j_ci 0))).toUInt32 >>> ((j_k 2).toUInt32 &&& Int32.toUInt32 31)).toInt32 &&& (j_ci 1))) + ((((v0 - ((v0.toUInt32 >>> ((j_k 1).toUInt32 &&& Int32.toUInt32 31)).toInt32 &&& (j_ci 0))) &&& (j_ci 1)) + (((v0 - ((v0.toUInt32 >>> ((j_k 1).toUInt32 &&& Int32.toUInt32 31)).toInt32 &&& (j_ci 0))).toUInt32 >>> ((j_k 2).toUInt32 &&& Int32.toUInt32 31)).toInt32 &&& (j_ci 1))).toUInt32 >>> ((j_k 4).toUInt32 &&& Int32.toUInt32 31)).toInt32) &&& (j_ci 2)).toUInt32 >>> ((j_k 8).toUInt32 &&& Int32.toUInt32 31)).toInt32).toUInt32 >>> ((j_k 16).toUInt32 &&& Int32.toUInt32 31)).toInt32) &&& (j_k 63))), σ) := rfl

-- java/util/Arrays.fill([II)V
set_option maxRecDepth 1000000 in
set_option maxHeartbeats 8000000 in
theorem t_235_0 (call : Nat → List Value → Sto → Option Rr) (again : Nat → j_L → List Value → Sto → Option Rr) (σ : Sto) (v0 : Nat) (v1 : Int32) :
    j_seg k_235 h_235 call again 2000 0 [some (.ref v0), some (.int v1), none, none] [] σ =
    j_len σ v0 (fun n1 =>
    again 5 [some (.ref v0), some (.int v1), some (.int (j_k 0)), some (.int n1)] [] σ) := rfl

set_option maxRecDepth 1000000 in
set_option maxHeartbeats 8000000 in
theorem t_235_5 (call : Nat → List Value → Sto → Option Rr) (again : Nat → j_L → List Value → Sto → Option Rr) (σ : Sto) (v0 : Nat) (v1 : Int32) (v2 : Int32) (v3 : Int32) :
    j_seg k_235 h_235 call again 2000 5 [some (.ref v0), some (.int v1), some (.int v2), some (.int v3)] [] σ =
    if v2 < v3 then (j_is σ v0 v2 (let τ1 : Sto := s_uI σ v0 v2.toNatClampNeg v1;
     again 5 [some (.ref v0), some (.int v1), some (.int (v2 + (j_k 1))), some (.int v3)] [] τ1))
    else some (none, σ) := rfl
end
section
/-! ===== what each stretch of each method does (by program wip/gen) ===== -/
-- LastStirred.row(II)I
set_option maxRecDepth 1000000 in
set_option maxHeartbeats 8000000 in
theorem t_69_0 (call : Nat → List Value → Sto → Option Rr) (again : Nat → j_L → List Value → Sto → Option Rr) (σ : Sto) (v0 : Nat) (v1 : Int32) (v2 : Int32) :
    j_seg k_69 h_69 call again 2000 0 [some (.ref v0), some (.int v1), some (.int v2)] [] σ =
    j_gP σ 6 v0 0 (fun a1 =>
    j_oc σ 6 v0 (j_c1 call 113 [.ref v0, .ref a1, .int v1, .int v2, .int (j_k 0)] σ (fun x3 τ2 =>
    some (some (.int x3), τ2)))) := rfl

-- LastStirred.lay(III)I
set_option maxRecDepth 1000000 in
set_option maxHeartbeats 8000000 in
theorem t_70_0 (call : Nat → List Value → Sto → Option Rr) (again : Nat → j_L → List Value → Sto → Option Rr) (σ : Sto) (v0 : Nat) (v1 : Int32) (v2 : Int32) (v3 : Int32) :
    j_seg k_70 h_70 call again 2000 0 [some (.ref v0), some (.int v1), some (.int v2), some (.int v3), none] [] σ =
    j_gP σ 6 v0 0 (fun a1 =>
    j_oc σ 6 v0 (j_c1 call 115 [.ref v0, .ref a1, .int v1, .int v2] σ (fun x3 τ2 =>
    if x3 = 0 then (j_gP τ2 6 v0 0 (fun a4 =>
     j_gP τ2 4 a4 0 (fun a5 =>
     j_qa τ2 a5 v1 (fun a6 =>
     j_ia τ2 a6 v2 (
     if v0 < j_b then j_oc τ2 6 v0 (let τ7 : Sto := s_uI τ2 v0 13 (s_I τ2 a6 v2.toNatClampNeg);
     j_gP τ7 6 v0 0 (fun a8 =>
     j_gP τ7 4 a8 0 (fun a9 =>
     j_qa τ7 a9 v1 (fun a10 =>
     j_is τ7 a10 v2 (let τ11 : Sto := s_uI τ7 a10 v2.toNatClampNeg v3;
     some (some (.int (j_k 1)), τ11)))))) else none)))))
    else some (some (.int x3), τ2)))) := rfl

-- LastStirred.at(II)I
set_option maxRecDepth 1000000 in
set_option maxHeartbeats 8000000 in
theorem t_71_0 (call : Nat → List Value → Sto → Option Rr) (again : Nat → j_L → List Value → Sto → Option Rr) (σ : Sto) (v0 : Nat) (v1 : Int32) (v2 : Int32) :
    j_seg k_71 h_71 call again 2000 0 [some (.ref v0), some (.int v1), some (.int v2), none] [] σ =
    j_gP σ 6 v0 0 (fun a1 =>
    j_oc σ 6 v0 (j_c1 call 115 [.ref v0, .ref a1, .int v1, .int v2] σ (fun x3 τ2 =>
    if x3 = 0 then (j_gP τ2 6 v0 0 (fun a4 =>
     j_gP τ2 4 a4 0 (fun a5 =>
     j_qa τ2 a5 v1 (fun a6 =>
     j_ia τ2 a6 v2 (
     if v0 < j_b then j_oc τ2 6 v0 (let τ7 : Sto := s_uI τ2 v0 13 (s_I τ2 a6 v2.toNatClampNeg);
     some (some (.int (j_k 1)), τ7)) else none)))))
    else some (some (.int x3), τ2)))) := rfl

-- LastStirred.tear(I)I
set_option maxRecDepth 1000000 in
set_option maxHeartbeats 8000000 in
theorem t_72_0 (call : Nat → List Value → Sto → Option Rr) (again : Nat → j_L → List Value → Sto → Option Rr) (σ : Sto) (v0 : Nat) (v1 : Int32) :
    j_seg k_72 h_72 call again 2000 0 [some (.ref v0), some (.int v1), none] [] σ =
    j_gP σ 6 v0 0 (fun a1 =>
    j_oc σ 6 v0 (j_c1 call 114 [.ref v0, .ref a1, .int v1] σ (fun x3 τ2 =>
    if x3 = 0 then (j_gP τ2 6 v0 0 (fun a4 =>
     j_gP τ2 4 a4 1 (fun a5 =>
     j_is τ2 a5 v1 (let τ6 : Sto := s_uI τ2 a5 v1.toNatClampNeg (j_k (-1));
     some (some (.int (j_k 1)), τ6)))))
    else some (some (.int x3), τ2)))) := rfl

-- LastStirred.copy(IIIII)I
set_option maxRecDepth 1000000 in
set_option maxHeartbeats 8000000 in
theorem t_73_0 (call : Nat → List Value → Sto → Option Rr) (again : Nat → j_L → List Value → Sto → Option Rr) (σ : Sto) (v0 : Nat) (v1 : Int32) (v2 : Int32) (v3 : Int32) (v4 : Int32) (v5 : Int32) :
    j_seg k_73 h_73 call again 2000 0 [some (.ref v0), some (.int v1), some (.int v2), some (.int v3), some (.int v4), some (.int v5)] [] σ =
    j_gP σ 6 v0 0 (fun a1 =>
    j_oc σ 4 a1 (j_c1 call 60 [.ref a1, .int v1] σ (fun x3 τ2 =>
    if x3 = 0 then (some (some (.int (j_k (-1))), τ2))
    else j_gP τ2 6 v0 0 (fun a4 =>
    j_oc τ2 4 a4 (j_c1 call 60 [.ref a4, .int v3] τ2 (fun x6 τ5 =>
    if x6 = 0 then (some (some (.int (j_k (-1))), τ5))
    else if v5 < 0 then (j_oc τ5 6 v0 (j_c1 call 112 [.ref v0, .int (j_k 5)] τ5 (fun x8 τ7 =>
     some (some (.int x8), τ7))))
    else j_gP τ5 6 v0 0 (fun a9 =>
    j_gP τ5 4 a9 1 (fun a10 =>
    j_ia τ5 a10 v1 (
    if (s_I τ5 a10 v1.toNatClampNeg) = (j_k (-1)) then (j_oc τ5 6 v0 (j_c1 call 112 [.ref v0, .int (j_k 1)] τ5 (fun x12 τ11 =>
     some (some (.int x12), τ11))))
    else j_gP τ5 6 v0 0 (fun a13 =>
    j_gP τ5 4 a13 1 (fun a14 =>
    j_ia τ5 a14 v3 (
    if (s_I τ5 a14 v3.toNatClampNeg) = (j_k (-1)) then (j_oc τ5 6 v0 (j_c1 call 112 [.ref v0, .int (j_k 1)] τ5 (fun x16 τ15 =>
     some (some (.int x16), τ15))))
    else j_gP τ5 6 v0 0 (fun a17 =>
    j_gP τ5 4 a17 1 (fun a18 =>
    j_ia τ5 a18 v1 (
    j_c1 call 117 [.int v2, .int v5, .int (s_I τ5 a18 v1.toNatClampNeg)] τ5 (fun x20 τ19 =>
    if x20 = 0 then (j_oc τ19 6 v0 (j_c1 call 112 [.ref v0, .int (j_k 2)] τ19 (fun x22 τ21 =>
     some (some (.int x22), τ21))))
    else j_gP τ19 6 v0 0 (fun a23 =>
    j_gP τ19 4 a23 1 (fun a24 =>
    j_ia τ19 a24 v3 (
    j_c1 call 117 [.int v4, .int v5, .int (s_I τ19 a24 v3.toNatClampNeg)] τ19 (fun x26 τ25 =>
    if x26 = 0 then (j_oc τ25 6 v0 (j_c1 call 112 [.ref v0, .int (j_k 2)] τ25 (fun x28 τ27 =>
     some (some (.int x28), τ27))))
    else j_gP τ25 6 v0 0 (fun a29 =>
    j_gP τ25 4 a29 0 (fun a30 =>
    j_qa τ25 a30 v1 (fun a31 =>
    j_gP τ25 6 v0 0 (fun a32 =>
    j_gP τ25 4 a32 0 (fun a33 =>
    j_qa τ25 a33 v3 (fun a34 =>
    j_ac τ25 a31 v2 a34 v4 v5 (fun τ35 =>
    some (some (.int (j_k 1)), τ35)))))))))))))))))))))))))))) := rfl

-- LastStirred.mean(I)I
set_option maxRecDepth 1000000 in
set_option maxHeartbeats 8000000 in
theorem t_74_0 (call : Nat → List Value → Sto → Option Rr) (again : Nat → j_L → List Value → Sto → Option Rr) (σ : Sto) (v0 : Nat) (v1 : Int32) :
    j_seg k_74 h_74 call again 2000 0 [some (.ref v0), some (.int v1), none, none, none, none, none] [] σ =
    j_gP σ 6 v0 0 (fun a1 =>
    j_oc σ 6 v0 (j_c1 call 114 [.ref v0, .ref a1, .int v1] σ (fun x3 τ2 =>
    if x3 = 0 then (j_gP τ2 6 v0 0 (fun a4 =>
     j_gP τ2 4 a4 1 (fun a5 =>
     j_ia τ2 a5 v1 (
     if (s_I τ2 a5 v1.toNatClampNeg) = 0 then (j_oc τ2 6 v0 (j_c1 call 112 [.ref v0, .int (j_k 4)] τ2 (fun x7 τ6 =>
      some (some (.int x7), τ6))))
     else again 42 [some (.ref v0), some (.int v1), some (.int x3), some (.int (s_I τ2 a5 v1.toNatClampNeg)), some (.long (Int64.ofNat 0)), none, some (.int (j_k 0))] [] τ2))))
    else some (some (.int x3), τ2)))) := rfl

set_option maxRecDepth 1000000 in
set_option maxHeartbeats 8000000 in
theorem t_74_42 (call : Nat → List Value → Sto → Option Rr) (again : Nat → j_L → List Value → Sto → Option Rr) (σ : Sto) (v0 : Nat) (v1 : Int32) (v2 : Int32) (v3 : Int32) (v4 : Int64) (v6 : Int32) :
    j_seg k_74 h_74 call again 2000 42 [some (.ref v0), some (.int v1), some (.int v2), some (.int v3), some (.long v4), none, some (.int v6)] [] σ =
    if v6 < v3 then (j_gP σ 6 v0 0 (fun a1 =>
     j_gP σ 4 a1 0 (fun a2 =>
     j_qa σ a2 v1 (fun a3 =>
     j_ia σ a3 v6 (
     again 42 [some (.ref v0), some (.int v1), some (.int v2), some (.int v3), some (.long (v4 + (s_I σ a3 v6.toNatClampNeg).toInt64)), none, some (.int (v6 + (j_k 1)))] [] σ)))))
    else if v3.toInt64 = 0 then none else
    if v0 < j_b then j_oc σ 6 v0 (let τ4 : Sto := s_uI σ v0 13 ((v4 / v3.toInt64).toInt32);
    some (some (.int (j_k 1)), τ4)) else none := rfl

-- LastStirred.text(II)I
set_option maxRecDepth 1000000 in
set_option maxHeartbeats 8000000 in
theorem t_75_0 (call : Nat → List Value → Sto → Option Rr) (again : Nat → j_L → List Value → Sto → Option Rr) (σ : Sto) (v0 : Nat) (v1 : Int32) (v2 : Int32) :
    j_seg k_75 h_75 call again 2000 0 [some (.ref v0), some (.int v1), some (.int v2)] [] σ =
    j_gP σ 6 v0 1 (fun a1 =>
    j_oc σ 6 v0 (j_c1 call 113 [.ref v0, .ref a1, .int v1, .int v2, .int (j_k 32)] σ (fun x3 τ2 =>
    some (some (.int x3), τ2)))) := rfl

-- LastStirred.put(III)I
set_option maxRecDepth 1000000 in
set_option maxHeartbeats 8000000 in
theorem t_76_0 (call : Nat → List Value → Sto → Option Rr) (again : Nat → j_L → List Value → Sto → Option Rr) (σ : Sto) (v0 : Nat) (v1 : Int32) (v2 : Int32) (v3 : Int32) :
    j_seg k_76 h_76 call again 2000 0 [some (.ref v0), some (.int v1), some (.int v2), some (.int v3), none, none] [] σ =
    j_gP σ 6 v0 1 (fun a1 =>
    j_oc σ 6 v0 (j_c1 call 115 [.ref v0, .ref a1, .int v1, .int v2] σ (fun x3 τ2 =>
    if x3 = 0 then (j_gP τ2 6 v0 1 (fun a4 =>
     j_gP τ2 4 a4 0 (fun a5 =>
     j_qa τ2 a5 v1 (fun a6 =>
     j_ia τ2 a6 v2 (
     j_gP τ2 6 v0 1 (fun a7 =>
     j_gP τ2 4 a7 0 (fun a8 =>
     j_qa τ2 a8 v1 (fun a9 =>
     j_is τ2 a9 v2 (let τ10 : Sto := s_uI τ2 a9 v2.toNatClampNeg v3.toInt8.toInt32;
     some (some (.int ((s_I τ2 a6 v2.toNatClampNeg) + (j_k 1000))), τ10))))))))))
    else some (some (.int x3), τ2)))) := rfl

-- LastStirred.fault(I)I
set_option maxRecDepth 1000000 in
set_option maxHeartbeats 8000000 in
theorem t_77_0 (call : Nat → List Value → Sto → Option Rr) (again : Nat → j_L → List Value → Sto → Option Rr) (σ : Sto) (v0 : Nat) (v1 : Int32) :
    j_seg k_77 h_77 call again 2000 0 [some (.ref v0), some (.int v1), none] [] σ =
    j_gP σ 6 v0 1 (fun a1 =>
    j_oc σ 6 v0 (j_c1 call 114 [.ref v0, .ref a1, .int v1] σ (fun x3 τ2 =>
    if x3 = 0 then (j_gP τ2 6 v0 2 (fun a4 =>
     j_gP τ2 6 v0 1 (fun a5 =>
     j_gP τ2 4 a5 0 (fun a6 =>
     j_qa τ2 a6 v1 (fun a7 =>
     j_gP τ2 6 v0 1 (fun a8 =>
     j_gP τ2 4 a8 1 (fun a9 =>
     j_ia τ2 a9 v1 (
     j_oc τ2 2 a4 (j_c1 call 43 [.ref a4, .ref a7, .int (s_I τ2 a9 v1.toNatClampNeg)] τ2 (fun x11 τ10 =>
     some (some (.int x11), τ10)))))))))))
    else some (some (.int x3), τ2)))) := rfl

-- LastStirred.ground(I)I
set_option maxRecDepth 1000000 in
set_option maxHeartbeats 8000000 in
theorem t_78_0 (call : Nat → List Value → Sto → Option Rr) (again : Nat → j_L → List Value → Sto → Option Rr) (σ : Sto) (v0 : Nat) (v1 : Int32) :
    j_seg k_78 h_78 call again 2000 0 [some (.ref v0), some (.int v1), none] [] σ =
    j_gP σ 6 v0 1 (fun a1 =>
    j_oc σ 6 v0 (j_c1 call 114 [.ref v0, .ref a1, .int v1] σ (fun x3 τ2 =>
    if x3 = 0 then (j_gP τ2 6 v0 2 (fun a4 =>
     j_gP τ2 6 v0 1 (fun a5 =>
     j_gP τ2 4 a5 0 (fun a6 =>
     j_qa τ2 a6 v1 (fun a7 =>
     j_gP τ2 6 v0 1 (fun a8 =>
     j_gP τ2 4 a8 1 (fun a9 =>
     j_ia τ2 a9 v1 (
     j_oc τ2 2 a4 (j_c1 call 43 [.ref a4, .ref a7, .int (s_I τ2 a9 v1.toNatClampNeg)] τ2 (fun x11 τ10 =>
     if x11 = (j_k (-9)) then (j_gP τ10 6 v0 3 (fun a12 =>
      j_gP τ10 6 v0 2 (fun a13 =>
      j_gP τ10 2 a13 0 (fun a14 =>
      j_oc τ10 1 a12 (j_c0 call 34 [.ref a12, .ref a14] τ10 (fun τ15 =>
      j_gP τ15 6 v0 4 (fun a16 =>
      j_gP τ15 6 v0 2 (fun a17 =>
      j_gP τ15 2 a17 1 (fun a18 =>
      j_oc τ15 0 a16 (j_c0 call 3 [.ref a16, .ref a18] τ15 (fun τ19 =>
      if v0 < j_b then j_oc τ19 6 v0 (let τ20 : Sto := s_uI τ19 v0 11 (j_k 0);
      j_gP τ20 6 v0 4 (fun a21 =>
      j_oc τ20 0 a21 (some (some (.int (s_I τ20 a21 3)), τ20)))) else none)))))))))))
     else some (some (.int (j_k (-4))), τ10)))))))))))
    else some (some (.int x3), τ2)))) := rfl

-- LastStirred.cell(I)I
set_option maxRecDepth 1000000 in
set_option maxHeartbeats 8000000 in
theorem t_79_0 (call : Nat → List Value → Sto → Option Rr) (again : Nat → j_L → List Value → Sto → Option Rr) (σ : Sto) (v0 : Nat) (v1 : Int32) :
    j_seg k_79 h_79 call again 2000 0 [some (.ref v0), some (.int v1)] [] σ =
    j_gP σ 6 v0 3 (fun a1 =>
    j_oc σ 1 a1 (j_c1 call 35 [.ref a1, .int v1] σ (fun x3 τ2 =>
    if x3 = 0 then (some (some (.int (j_k (-1))), τ2))
    else j_gP τ2 6 v0 4 (fun a4 =>
    j_oc τ2 0 a4 (j_c1 call 8 [.ref a4, .int v1] τ2 (fun x6 τ5 =>
    if v0 < j_b then j_oc τ5 6 v0 (let τ7 : Sto := s_uI τ5 v0 13 x6;
    j_gP τ7 6 v0 3 (fun a8 =>
    j_gP τ7 1 a8 0 (fun a9 =>
    j_ia τ7 a9 v1 (
    some (some (.int (s_I τ7 a9 v1.toNatClampNeg)), τ7))))) else none)))))) := rfl

-- LastStirred.build(II)I
set_option maxRecDepth 1000000 in
set_option maxHeartbeats 8000000 in
theorem t_80_0 (call : Nat → List Value → Sto → Option Rr) (again : Nat → j_L → List Value → Sto → Option Rr) (σ : Sto) (v0 : Nat) (v1 : Int32) (v2 : Int32) :
    j_seg k_80 h_80 call again 2000 0 [some (.ref v0), some (.int v1), some (.int v2), none] [] σ =
    j_gP σ 6 v0 3 (fun a1 =>
    j_oc σ 1 a1 (j_c1 call 35 [.ref a1, .int v1] σ (fun x3 τ2 =>
    if x3 = 0 then (some (some (.int (j_k (-1))), τ2))
    else if v2 < 0 then (some (some (.int (j_k (-1))), τ2))
    else if (j_k 4) < v2 then (some (some (.int (j_k (-1))), τ2))
    else j_gP τ2 6 v0 4 (fun a4 =>
    j_oc τ2 0 a4 (j_c1 call 7 [.ref a4, .int v1] τ2 (fun x6 τ5 =>
    if x6 = 0 then (j_gP τ5 6 v0 3 (fun a7 =>
     j_gP τ5 1 a7 0 (fun a8 =>
     j_ia τ5 a8 v1 (
     j_gP τ5 6 v0 3 (fun a9 =>
     j_gP τ5 1 a9 0 (fun a10 =>
     j_is τ5 a10 v1 (let τ11 : Sto := s_uI τ5 a10 v1.toNatClampNeg v2;
     some (some (.int (s_I τ5 a8 v1.toNatClampNeg)), τ11))))))))
    else if v2 = (j_k 1) then (some (some (.int (j_k (-4))), τ5))
    else if v2 = (j_k 2) then (some (some (.int (j_k (-4))), τ5))
    else j_gP τ5 6 v0 3 (fun a12 =>
    j_gP τ5 1 a12 0 (fun a13 =>
    j_ia τ5 a13 v1 (
    j_gP τ5 6 v0 3 (fun a14 =>
    j_gP τ5 1 a14 0 (fun a15 =>
    j_is τ5 a15 v1 (let τ16 : Sto := s_uI τ5 a15 v1.toNatClampNeg v2;
    some (some (.int (s_I τ5 a13 v1.toNatClampNeg)), τ16))))))))))))) := rfl

-- LastStirred.beast(II)I
set_option maxRecDepth 1000000 in
set_option maxHeartbeats 8000000 in
theorem t_81_0 (call : Nat → List Value → Sto → Option Rr) (again : Nat → j_L → List Value → Sto → Option Rr) (σ : Sto) (v0 : Nat) (v1 : Int32) (v2 : Int32) :
    j_seg k_81 h_81 call again 2000 0 [some (.ref v0), some (.int v1), some (.int v2)] [] σ =
    j_gP σ 6 v0 4 (fun a1 =>
    j_oc σ 0 a1 (j_c1 call 5 [.ref a1, .int v1] σ (fun x3 τ2 =>
    if x3 = 0 then (some (some (.int (j_k (-1))), τ2))
    else if v2 < 0 then (some (some (.int (j_k (-1))), τ2))
    else if (j_k 2) < v2 then (some (some (.int (j_k (-1))), τ2))
    else j_gP τ2 6 v0 4 (fun a4 =>
    j_oc τ2 0 a4 (j_c1 call 12 [.ref a4, .int v1, .int v2] τ2 (fun x6 τ5 =>
    if v0 < j_b then j_oc τ5 6 v0 (let τ7 : Sto := s_uI τ5 v0 13 x6;
    some (some (.int (j_k 1)), τ7)) else none)))))) := rfl

-- LastStirred.mark(II)I
set_option maxRecDepth 1000000 in
set_option maxHeartbeats 8000000 in
theorem t_82_0 (call : Nat → List Value → Sto → Option Rr) (again : Nat → j_L → List Value → Sto → Option Rr) (σ : Sto) (v0 : Nat) (v1 : Int32) (v2 : Int32) :
    j_seg k_82 h_82 call again 2000 0 [some (.ref v0), some (.int v1), some (.int v2)] [] σ =
    j_gP σ 6 v0 4 (fun a1 =>
    j_oc σ 0 a1 (j_c1 call 5 [.ref a1, .int v1] σ (fun x3 τ2 =>
    if x3 = 0 then (some (some (.int (j_k (-1))), τ2))
    else if v2 < (j_k 1) then (some (some (.int (j_k (-1))), τ2))
    else if (j_k 5) < v2 then (some (some (.int (j_k (-1))), τ2))
    else j_gP τ2 6 v0 4 (fun a4 =>
    j_oc τ2 0 a4 (j_c1 call 9 [.ref a4, .int v1, .int v2] τ2 (fun x6 τ5 =>
    if x6 = 0 then (j_oc τ5 6 v0 (j_c1 call 112 [.ref v0, .int (j_k 3)] τ5 (fun x8 τ7 =>
     some (some (.int x8), τ7))))
    else if v2 = (j_k 1) then (j_oc τ5 6 v0 (j_c1 call 121 [.ref v0, .int v1] τ5 (fun x10 τ9 =>
     some (some (.int x10), τ9))))
    else if v2 = (j_k 2) then (j_gP τ5 6 v0 4 (fun a11 =>
     j_oc τ5 0 a11 (some (some (.int ((s_I τ5 a11 8) &&& (j_k 1))), τ5))))
    else if v2 = (j_k 3) then (j_gP τ5 6 v0 4 (fun a12 =>
     j_oc τ5 0 a12 (j_c1 call 21 [.ref a12, .int v1] τ5 (fun x14 τ13 =>
     some (some (.int x14), τ13)))))
    else if v2 = (j_k 4) then (j_gP τ5 6 v0 3 (fun a15 =>
     j_oc τ5 1 a15 (j_c1 call 39 [.ref a15, .int (j_k 4)] τ5 (fun x17 τ16 =>
     some (some (.int x17), τ16)))))
    else j_oc τ5 6 v0 (j_c1 call 122 [.ref v0, .int v1] τ5 (fun x19 τ18 =>
    some (some (.int x19), τ18))))))))) := rfl

-- LastStirred.last()I
set_option maxRecDepth 1000000 in
set_option maxHeartbeats 8000000 in
theorem t_83_0 (call : Nat → List Value → Sto → Option Rr) (again : Nat → j_L → List Value → Sto → Option Rr) (σ : Sto) (v0 : Nat) :
    j_seg k_83 h_83 call again 2000 0 [some (.ref v0)] [] σ =
    j_gP σ 6 v0 4 (fun a1 =>
    j_oc σ 0 a1 (if v0 < j_b then j_oc σ 6 v0 (let τ2 : Sto := s_uI σ v0 13 (s_I σ a1 5);
    j_gP τ2 6 v0 4 (fun a3 =>
    j_oc τ2 0 a3 (some (some (.int (s_I τ2 a3 4)), τ2)))) else none)) := rfl

-- LastStirred.stir(II)I
set_option maxRecDepth 1000000 in
set_option maxHeartbeats 8000000 in
theorem t_84_0 (call : Nat → List Value → Sto → Option Rr) (again : Nat → j_L → List Value → Sto → Option Rr) (σ : Sto) (v0 : Nat) (v1 : Int32) (v2 : Int32) :
    j_seg k_84 h_84 call again 2000 0 [some (.ref v0), some (.int v1), some (.int v2), none] [] σ =
    j_gP σ 6 v0 4 (fun a1 =>
    j_oc σ 0 a1 (j_c1 call 5 [.ref a1, .int v1] σ (fun x3 τ2 =>
    if x3 = 0 then (some (some (.int (j_k (-1))), τ2))
    else j_c1 call 118 [.int v2] τ2 (fun x5 τ4 =>
    if x5 = 0 then (some (some (.int (j_k (-1))), τ4))
    else j_gP τ4 6 v0 4 (fun a6 =>
    j_gP τ4 6 v0 3 (fun a7 =>
    j_oc τ4 0 a6 (j_c1 call 25 [.ref a6, .ref a7, .int v1, .int v2] τ4 (fun x9 τ8 =>
    if x9 = (j_k (-9)) then (some (some (.int (j_k (-4))), τ8))
    else some (some (.int x9), τ8))))))))) := rfl

-- LastStirred.go(I)I
set_option maxRecDepth 1000000 in
set_option maxHeartbeats 8000000 in
theorem t_85_0 (call : Nat → List Value → Sto → Option Rr) (again : Nat → j_L → List Value → Sto → Option Rr) (σ : Sto) (v0 : Nat) (v1 : Int32) :
    j_seg k_85 h_85 call again 2000 0 [some (.ref v0), some (.int v1), none, none] [] σ =
    if v1 < 0 then (some (some (.int (j_k (-1))), σ))
    else if (j_k 40) < v1 then (some (some (.int (j_k (-1))), σ))
    else j_gP σ 6 v0 3 (fun a1 =>
    j_oc σ 1 a1 (if (s_I σ a1 5) = 0 then (some (some (.int (j_k (-4))), σ))
    else j_gP σ 6 v0 4 (fun a2 =>
    j_oc σ 0 a2 (if (j_k 10000) < ((s_I σ a2 8) + v1) then (some (some (.int (j_k (-6))), σ))
    else again 47 [some (.ref v0), some (.int v1), some (.int (j_k 0)), some (.int (j_k 0))] [] σ)))) := rfl

set_option maxRecDepth 1000000 in
set_option maxHeartbeats 8000000 in
theorem t_85_47 (call : Nat → List Value → Sto → Option Rr) (again : Nat → j_L → List Value → Sto → Option Rr) (σ : Sto) (v0 : Nat) (v1 : Int32) (v2 : Int32) (v3 : Int32) :
    j_seg k_85 h_85 call again 2000 47 [some (.ref v0), some (.int v1), some (.int v2), some (.int v3)] [] σ =
    if v3 < v1 then (j_gP σ 6 v0 4 (fun a1 =>
     j_gP σ 6 v0 3 (fun a2 =>
     j_oc σ 0 a1 (j_c1 call 26 [.ref a1, .ref a2] σ (fun x4 τ3 =>
     again 47 [some (.ref v0), some (.int v1), some (.int x4), some (.int (v3 + (j_k 1)))] [] τ3)))))
    else some (some (.int v2), σ) := rfl

-- LastStirred.run()I
set_option maxRecDepth 1000000 in
set_option maxHeartbeats 8000000 in
theorem t_86_0 (call : Nat → List Value → Sto → Option Rr) (again : Nat → j_L → List Value → Sto → Option Rr) (σ : Sto) (v0 : Nat) :
    j_seg k_86 h_86 call again 2000 0 [some (.ref v0), none] [] σ =
    j_gP σ 6 v0 3 (fun a1 =>
    j_oc σ 1 a1 (if (s_I σ a1 5) = 0 then (some (some (.int (j_k (-4))), σ))
    else j_gP σ 6 v0 4 (fun a2 =>
    j_oc σ 0 a2 (if (j_k 9960) < (s_I σ a2 8) then (some (some (.int (j_k (-6))), σ))
    else j_gP σ 6 v0 4 (fun a3 =>
    j_oc σ 0 a3 (j_gP σ 6 v0 4 (fun a4 =>
    j_gP σ 6 v0 3 (fun a5 =>
    j_oc σ 0 a4 (j_c1 call 28 [.ref a4, .ref a5] σ (fun x7 τ6 =>
    if x7 = 0 then (if v0 < j_b then j_oc τ6 6 v0 (let τ8 : Sto := s_uI τ6 v0 13 (j_k 0);
     j_gP τ8 6 v0 4 (fun a9 =>
     j_oc τ8 0 a9 (some (some (.int ((s_I τ8 a9 8) - (s_I σ a3 8))), τ8)))) else none)
    else if v0 < j_b then j_oc τ6 6 v0 (let τ10 : Sto := s_uI τ6 v0 13 (j_k 1);
    j_gP τ10 6 v0 4 (fun a11 =>
    j_oc τ10 0 a11 (some (some (.int ((s_I τ10 a11 8) - (s_I σ a3 8))), τ10)))) else none)))))))))) := rfl

-- LastStirred.ring()I
set_option maxRecDepth 1000000 in
set_option maxHeartbeats 8000000 in
theorem t_87_0 (call : Nat → List Value → Sto → Option Rr) (again : Nat → j_L → List Value → Sto → Option Rr) (σ : Sto) (v0 : Nat) :
    j_seg k_87 h_87 call again 2000 0 [some (.ref v0), none, none] [] σ =
    j_gP σ 6 v0 3 (fun a1 =>
    j_oc σ 1 a1 (if (s_I σ a1 5) = 0 then (some (some (.int (j_k (-4))), σ))
    else j_gP σ 6 v0 6 (fun a2 =>
    j_gP σ 6 v0 4 (fun a3 =>
    j_oc σ 0 a2 (j_c0 call 3 [.ref a2, .ref a3] σ (fun τ4 =>
    again 26 [some (.ref v0), some (.int (j_k 0)), none] [] τ4)))))) := rfl

set_option maxRecDepth 1000000 in
set_option maxHeartbeats 8000000 in
theorem t_87_26 (call : Nat → List Value → Sto → Option Rr) (again : Nat → j_L → List Value → Sto → Option Rr) (σ : Sto) (v0 : Nat) (v1 : Int32) :
    j_seg k_87 h_87 call again 2000 26 [some (.ref v0), some (.int v1), none] [] σ =
    if (j_k 200) < v1 then (some (some (.int (j_k (-9))), σ))
    else j_gP σ 6 v0 7 (fun a1 =>
    j_gP σ 6 v0 6 (fun a2 =>
    j_oc σ 0 a2 (j_c2 call 19 [.ref a2] σ (fun x4 τ3 =>
    if a1 < j_b then j_la τ3 a1 v1 (let τ5 : Sto := s_uJ τ3 a1 v1.toNatClampNeg x4;
    again 48 [some (.ref v0), some (.int v1), some (.int (j_k 0))] [] τ5) else none)))) := rfl

set_option maxRecDepth 1000000 in
set_option maxHeartbeats 8000000 in
theorem t_87_48 (call : Nat → List Value → Sto → Option Rr) (again : Nat → j_L → List Value → Sto → Option Rr) (σ : Sto) (v0 : Nat) (v1 : Int32) (v2 : Int32) :
    j_seg k_87 h_87 call again 2000 48 [some (.ref v0), some (.int v1), some (.int v2)] [] σ =
    if v2 < v1 then (j_gP σ 6 v0 7 (fun a1 =>
     j_la σ a1 v2 (
     j_gP σ 6 v0 7 (fun a2 =>
     j_la σ a2 v1 (
     if (lg_cmp (s_J σ a1 v2.toNatClampNeg) (s_J σ a2 v1.toNatClampNeg)) = 0 then (if v0 < j_b then j_oc σ 6 v0 (let τ3 : Sto := s_uI σ v0 13 (v1 - v2);
      some (some (.int v1), τ3)) else none)
     else again 48 [some (.ref v0), some (.int v1), some (.int (v2 + (j_k 1)))] [] σ)))))
    else j_gP σ 6 v0 6 (fun a4 =>
    j_gP σ 6 v0 3 (fun a5 =>
    j_oc σ 0 a4 (j_c1 call 26 [.ref a4, .ref a5] σ (fun x7 τ6 =>
    again 26 [some (.ref v0), some (.int (v1 + (j_k 1))), none] [] τ6)))) := rfl

-- LastStirred.where(I)I
set_option maxRecDepth 1000000 in
set_option maxHeartbeats 8000000 in
theorem t_88_0 (call : Nat → List Value → Sto → Option Rr) (again : Nat → j_L → List Value → Sto → Option Rr) (σ : Sto) (v0 : Nat) (v1 : Int32) :
    j_seg k_88 h_88 call again 2000 0 [some (.ref v0), some (.int v1), none] [] σ =
    j_gP σ 6 v0 0 (fun a1 =>
    j_oc σ 4 a1 (j_c1 call 60 [.ref a1, .int v1] σ (fun x3 τ2 =>
    if x3 = 0 then (some (some (.int (j_k (-1))), τ2))
    else j_gP τ2 6 v0 0 (fun a4 =>
    j_gP τ2 6 v0 4 (fun a5 =>
    j_oc τ2 0 a5 (j_oc τ2 4 a4 (j_c0 call 61 [.ref a4, .int v1, .int (s_I τ2 a5 3), .int (j_k 0)] τ2 (fun τ6 =>
    again 31 [some (.ref v0), some (.int v1), some (.int (j_k 0))] [] τ6)))))))) := rfl

set_option maxRecDepth 1000000 in
set_option maxHeartbeats 8000000 in
theorem t_88_31 (call : Nat → List Value → Sto → Option Rr) (again : Nat → j_L → List Value → Sto → Option Rr) (σ : Sto) (v0 : Nat) (v1 : Int32) (v2 : Int32) :
    j_seg k_88 h_88 call again 2000 31 [some (.ref v0), some (.int v1), some (.int v2)] [] σ =
    j_gP σ 6 v0 4 (fun a1 =>
    j_oc σ 0 a1 (if v2 < (s_I σ a1 3) then (j_gP σ 6 v0 0 (fun a2 =>
     j_gP σ 4 a2 0 (fun a3 =>
     j_qa σ a3 v1 (fun a4 =>
     j_gP σ 6 v0 4 (fun a5 =>
     j_gP σ 0 a5 1 (fun a6 =>
     j_ia σ a6 v2 (
     j_is σ a4 v2 (let τ7 : Sto := s_uI σ a4 v2.toNatClampNeg (s_I σ a6 v2.toNatClampNeg);
     again 31 [some (.ref v0), some (.int v1), some (.int (v2 + (j_k 1)))] [] τ7))))))))
    else j_gP σ 6 v0 4 (fun a8 =>
    j_oc σ 0 a8 (j_c1 call 14 [.ref a8] σ (fun x10 τ9 =>
    some (some (.int x10), τ9)))))) := rfl

-- LastStirred.apart()I
set_option maxRecDepth 1000000 in
set_option maxHeartbeats 8000000 in
theorem t_89_0 (call : Nat → List Value → Sto → Option Rr) (again : Nat → j_L → List Value → Sto → Option Rr) (σ : Sto) (v0 : Nat) :
    j_seg k_89 h_89 call again 2000 0 [some (.ref v0)] [] σ =
    j_gP σ 6 v0 4 (fun a1 =>
    j_gP σ 6 v0 3 (fun a2 =>
    j_oc σ 0 a1 (j_c1 call 16 [.ref a1, .ref a2] σ (fun x4 τ3 =>
    some (some (.int x4), τ3))))) := rfl

-- LastStirred.keep(I)I
set_option maxRecDepth 1000000 in
set_option maxHeartbeats 8000000 in
theorem t_90_0 (call : Nat → List Value → Sto → Option Rr) (again : Nat → j_L → List Value → Sto → Option Rr) (σ : Sto) (v0 : Nat) (v1 : Int32) :
    j_seg k_90 h_90 call again 2000 0 [some (.ref v0), some (.int v1)] [] σ =
    j_oc σ 6 v0 (j_c1 call 119 [.ref v0, .int v1] σ (fun x2 τ1 =>
    if x2 = 0 then (some (some (.int (j_k (-1))), τ1))
    else j_gP τ1 6 v0 3 (fun a3 =>
    j_oc τ1 1 a3 (if (s_I τ1 a3 5) = 0 then (some (some (.int (j_k (-4))), τ1))
    else j_gP τ1 6 v0 5 (fun a4 =>
    j_qa τ1 a4 v1 (fun a5 =>
    j_gP τ1 6 v0 4 (fun a6 =>
    j_oc τ1 0 a5 (j_c0 call 3 [.ref a5, .ref a6] τ1 (fun τ7 =>
    j_oc τ7 6 v0 (if v0 < j_b then j_oc τ7 6 v0 (let τ8 : Sto := s_uI τ7 v0 11 ((s_I τ7 v0 11) ||| ((j_k 1) <<< (v1 &&& 31)));
    j_gP τ8 6 v0 4 (fun a9 =>
    j_oc τ8 0 a9 (some (some (.int (s_I τ8 a9 8)), τ8)))) else none)))))))))) := rfl

-- LastStirred.on(I)I
set_option maxRecDepth 1000000 in
set_option maxHeartbeats 8000000 in
theorem t_91_0 (call : Nat → List Value → Sto → Option Rr) (again : Nat → j_L → List Value → Sto → Option Rr) (σ : Sto) (v0 : Nat) (v1 : Int32) :
    j_seg k_91 h_91 call again 2000 0 [some (.ref v0), some (.int v1)] [] σ =
    j_oc σ 6 v0 (j_c1 call 119 [.ref v0, .int v1] σ (fun x2 τ1 =>
    if x2 = 0 then (some (some (.int (j_k (-1))), τ1))
    else j_oc τ1 6 v0 (j_c1 call 120 [.ref v0, .int v1] τ1 (fun x4 τ3 =>
    if x4 = 0 then (j_oc τ3 6 v0 (j_c1 call 112 [.ref v0, .int (j_k 1)] τ3 (fun x6 τ5 =>
     some (some (.int x6), τ5))))
    else j_gP τ3 6 v0 4 (fun a7 =>
    j_gP τ3 6 v0 5 (fun a8 =>
    j_qa τ3 a8 v1 (fun a9 =>
    j_oc τ3 0 a7 (j_c0 call 3 [.ref a7, .ref a9] τ3 (fun τ10 =>
    j_gP τ10 6 v0 4 (fun a11 =>
    j_oc τ10 0 a11 (some (some (.int (s_I τ10 a11 8)), τ10)))))))))))) := rfl

-- LastStirred.fewest()I
set_option maxRecDepth 1000000 in
set_option maxHeartbeats 8000000 in
theorem t_92_0 (call : Nat → List Value → Sto → Option Rr) (again : Nat → j_L → List Value → Sto → Option Rr) (σ : Sto) (v0 : Nat) :
    j_seg k_92 h_92 call again 2000 0 [some (.ref v0), none] [] σ =
    j_gP σ 6 v0 3 (fun a1 =>
    j_oc σ 1 a1 (if (s_I σ a1 5) = 0 then (some (some (.int (j_k (-4))), σ))
    else j_gP σ 6 v0 8 (fun a2 =>
    j_oc σ 3 a2 (j_c0 call 52 [.ref a2] σ (fun τ3 =>
    j_gP τ3 6 v0 8 (fun a4 =>
    j_gP τ3 6 v0 3 (fun a5 =>
    j_gP τ3 6 v0 4 (fun a6 =>
    j_oc τ3 3 a4 (j_c1 call 54 [.ref a4, .ref a5, .ref a6, .int (j_k 3)] τ3 (fun x8 τ7 =>
    if x8 = (j_k (-9)) then (some (some (.int x8), τ7))
    else j_gP τ7 6 v0 8 (fun a9 =>
    j_oc τ7 3 a9 (if v0 < j_b then j_oc τ7 6 v0 (let τ10 : Sto := s_uI τ7 v0 13 (s_I τ7 a9 6);
    some (some (.int x8), τ10)) else none)))))))))))) := rfl

-- LastStirred.ways(I)I
set_option maxRecDepth 1000000 in
set_option maxHeartbeats 8000000 in
theorem t_93_0 (call : Nat → List Value → Sto → Option Rr) (again : Nat → j_L → List Value → Sto → Option Rr) (σ : Sto) (v0 : Nat) (v1 : Int32) :
    j_seg k_93 h_93 call again 2000 0 [some (.ref v0), some (.int v1)] [] σ =
    if v1 < (j_k 1) then (some (some (.int (j_k (-1))), σ))
    else if (j_k 2) < v1 then (some (some (.int (j_k (-1))), σ))
    else j_gP σ 6 v0 8 (fun a1 =>
    j_oc σ 3 a1 (j_c0 call 52 [.ref a1] σ (fun τ2 =>
    j_gP τ2 6 v0 8 (fun a3 =>
    j_gP τ2 6 v0 3 (fun a4 =>
    j_gP τ2 6 v0 4 (fun a5 =>
    j_oc τ2 3 a3 (j_c0 call 55 [.ref a3, .ref a4, .ref a5, .int v1] τ2 (fun τ6 =>
    j_gP τ6 6 v0 8 (fun a7 =>
    j_oc τ6 3 a7 (if (s_I τ6 a7 4) = 0 then (j_oc τ6 6 v0 (j_c1 call 112 [.ref v0, .int (j_k 4)] τ6 (fun x9 τ8 =>
     some (some (.int x9), τ8))))
    else j_gP τ6 6 v0 8 (fun a10 =>
    j_oc τ6 3 a10 (j_gP τ6 6 v0 8 (fun a11 =>
    j_oc τ6 3 a11 (j_oc τ6 6 v0 (j_c0 call 124 [.ref v0, .int (s_I τ6 a10 5), .int (s_I τ6 a11 4)] τ6 (fun τ12 =>
    j_gP τ12 6 v0 8 (fun a13 =>
    j_oc τ12 3 a13 (some (some (.int (s_I τ12 a13 5)), τ12))))))))))))))))))) := rfl

-- LastStirred.gather()I
set_option maxRecDepth 1000000 in
set_option maxHeartbeats 8000000 in
theorem t_94_0 (call : Nat → List Value → Sto → Option Rr) (again : Nat → j_L → List Value → Sto → Option Rr) (σ : Sto) (v0 : Nat) :
    j_seg k_94 h_94 call again 2000 0 [some (.ref v0), none, none, none, none, none] [] σ =
    j_gP σ 6 v0 4 (fun a1 =>
    j_oc σ 0 a1 (j_c1 call 14 [.ref a1] σ (fun x3 τ2 =>
    again 16 [some (.ref v0), some (.int (j_k (-9))), some (.int (j_k 0)), some (.int x3), some (.int (j_k 0)), none] [] τ2))) := rfl

set_option maxRecDepth 1000000 in
set_option maxHeartbeats 8000000 in
theorem t_94_16 (call : Nat → List Value → Sto → Option Rr) (again : Nat → j_L → List Value → Sto → Option Rr) (σ : Sto) (v0 : Nat) (v1 : Int32) (v2 : Int32) (v3 : Int32) (v4 : Int32) :
    j_seg k_94 h_94 call again 2000 16 [some (.ref v0), some (.int v1), some (.int v2), some (.int v3), some (.int v4), none] [] σ =
    j_gP σ 6 v0 4 (fun a1 =>
    j_oc σ 0 a1 (j_c1 call 13 [.ref a1] σ (fun x3 τ2 =>
    if v4 < x3 then (j_oc τ2 6 v0 (j_c1 call 123 [.ref v0, .int v4] τ2 (fun x5 τ4 =>
     if x5 = 0 then (again 16 [some (.ref v0), some (.int v1), some (.int v2), some (.int v3), some (.int (v4 + (j_k 1))), none] [] τ4)
     else j_gP τ4 6 v0 6 (fun a6 =>
     j_oc τ4 0 a6 (j_c1 call 14 [.ref a6] τ4 (fun x8 τ7 =>
     if v3 < x8 then (again 16 [some (.ref v0), some (.int v1), some (.int v2), some (.int v3), some (.int (v4 + (j_k 1))), none] [] τ7)
     else j_gP τ7 6 v0 6 (fun a9 =>
     j_gP τ7 6 v0 3 (fun a10 =>
     j_oc τ7 0 a9 (j_c1 call 16 [.ref a9, .ref a10] τ7 (fun x12 τ11 =>
     if v1 = (j_k (-9)) then (again 16 [some (.ref v0), some (.int v4), some (.int x12), some (.int v3), some (.int (v4 + (j_k 1))), none] [] τ11)
     else if x12 < v2 then (again 16 [some (.ref v0), some (.int v4), some (.int x12), some (.int v3), some (.int (v4 + (j_k 1))), none] [] τ11)
     else again 16 [some (.ref v0), some (.int v1), some (.int v2), some (.int v3), some (.int (v4 + (j_k 1))), none] [] τ11))))))))))
    else if v1 = (j_k (-9)) then (some (some (.int v1), τ2))
    else if v0 < j_b then j_oc τ2 6 v0 (let τ13 : Sto := s_uI τ2 v0 13 v2;
    some (some (.int v1), τ13)) else none))) := rfl

-- LastStirred.part(II)I
set_option maxRecDepth 1000000 in
set_option maxHeartbeats 8000000 in
theorem t_95_0 (call : Nat → List Value → Sto → Option Rr) (again : Nat → j_L → List Value → Sto → Option Rr) (σ : Sto) (v0 : Nat) (v1 : Int32) (v2 : Int32) :
    j_seg k_95 h_95 call again 2000 0 [some (.ref v0), some (.int v1), some (.int v2), none, none, none, none] [] σ =
    j_gP σ 6 v0 4 (fun a1 =>
    j_oc σ 0 a1 (j_c1 call 5 [.ref a1, .int v1] σ (fun x3 τ2 =>
    if x3 = 0 then (some (some (.int (j_k (-1))), τ2))
    else j_gP τ2 6 v0 4 (fun a4 =>
    j_oc τ2 0 a4 (j_c1 call 5 [.ref a4, .int v2] τ2 (fun x6 τ5 =>
    if x6 = 0 then (some (some (.int (j_k (-1))), τ5))
    else if v1 = v2 then (some (some (.int (j_k (-1))), τ5))
    else again 38 [some (.ref v0), some (.int v1), some (.int v2), some (.int (j_k (-9))), some (.int (j_k 0)), some (.int (j_k 0)), none] [] τ5)))))) := rfl

set_option maxRecDepth 1000000 in
set_option maxHeartbeats 8000000 in
theorem t_95_38 (call : Nat → List Value → Sto → Option Rr) (again : Nat → j_L → List Value → Sto → Option Rr) (σ : Sto) (v0 : Nat) (v1 : Int32) (v2 : Int32) (v3 : Int32) (v4 : Int32) (v5 : Int32) :
    j_seg k_95 h_95 call again 2000 38 [some (.ref v0), some (.int v1), some (.int v2), some (.int v3), some (.int v4), some (.int v5), none] [] σ =
    j_gP σ 6 v0 4 (fun a1 =>
    j_oc σ 0 a1 (j_c1 call 13 [.ref a1] σ (fun x3 τ2 =>
    if v5 < x3 then (j_oc τ2 6 v0 (j_c1 call 123 [.ref v0, .int v5] τ2 (fun x5 τ4 =>
     if x5 = 0 then (again 38 [some (.ref v0), some (.int v1), some (.int v2), some (.int v3), some (.int v4), some (.int (v5 + (j_k 1))), none] [] τ4)
     else j_gP τ4 6 v0 6 (fun a6 =>
     j_oc τ4 0 a6 (j_c1 call 6 [.ref a6, .int v1] τ4 (fun x8 τ7 =>
     if x8 = 0 then (j_gP τ7 6 v0 6 (fun a9 =>
      j_oc τ7 0 a9 (j_c1 call 6 [.ref a9, .int v2] τ7 (fun x11 τ10 =>
      if x11 = 0 then (j_gP τ10 6 v0 3 (fun a12 =>
       j_gP τ10 6 v0 6 (fun a13 =>
       j_gP τ10 0 a13 1 (fun a14 =>
       j_ia τ10 a14 v1 (
       j_gP τ10 6 v0 6 (fun a15 =>
       j_gP τ10 0 a15 1 (fun a16 =>
       j_ia τ10 a16 v2 (
       j_oc τ10 1 a12 (j_c1 call 37 [.ref a12, .int (s_I τ10 a14 v1.toNatClampNeg), .int (s_I τ10 a16 v2.toNatClampNeg)] τ10 (fun x18 τ17 =>
       if v3 = (j_k (-9)) then (again 38 [some (.ref v0), some (.int v1), some (.int v2), some (.int v5), some (.int x18), some (.int (v5 + (j_k 1))), none] [] τ17)
       else if v4 < x18 then (again 38 [some (.ref v0), some (.int v1), some (.int v2), some (.int v5), some (.int x18), some (.int (v5 + (j_k 1))), none] [] τ17)
       else again 38 [some (.ref v0), some (.int v1), some (.int v2), some (.int v3), some (.int v4), some (.int (v5 + (j_k 1))), none] [] τ17))))))))))
      else again 38 [some (.ref v0), some (.int v1), some (.int v2), some (.int v3), some (.int v4), some (.int (v5 + (j_k 1))), none] [] τ10))))
     else again 38 [some (.ref v0), some (.int v1), some (.int v2), some (.int v3), some (.int v4), some (.int (v5 + (j_k 1))), none] [] τ7))))))
    else if v3 = (j_k (-9)) then (some (some (.int v3), τ2))
    else if v0 < j_b then j_oc τ2 6 v0 (let τ19 : Sto := s_uI τ2 v0 13 v4;
    some (some (.int v3), τ19)) else none))) := rfl

-- LastStirred.worth(II)I
set_option maxRecDepth 1000000 in
set_option maxHeartbeats 8000000 in
theorem t_96_0 (call : Nat → List Value → Sto → Option Rr) (again : Nat → j_L → List Value → Sto → Option Rr) (σ : Sto) (v0 : Nat) (v1 : Int32) (v2 : Int32) :
    j_seg k_96 h_96 call again 2000 0 [some (.ref v0), some (.int v1), some (.int v2), none, none, none] [] σ =
    j_gP σ 6 v0 4 (fun a1 =>
    j_oc σ 0 a1 (j_c1 call 5 [.ref a1, .int v1] σ (fun x3 τ2 =>
    if x3 = 0 then (some (some (.int (j_k (-1))), τ2))
    else j_c1 call 118 [.int v2] τ2 (fun x5 τ4 =>
    if x5 = 0 then (some (some (.int (j_k (-1))), τ4))
    else j_gP τ4 6 v0 6 (fun a6 =>
    j_gP τ4 6 v0 4 (fun a7 =>
    j_oc τ4 0 a6 (j_c0 call 3 [.ref a6, .ref a7] τ4 (fun τ8 =>
    j_gP τ8 6 v0 6 (fun a9 =>
    j_gP τ8 6 v0 3 (fun a10 =>
    j_oc τ8 0 a9 (j_c1 call 25 [.ref a9, .ref a10, .int v1, .int v2] τ8 (fun x12 τ11 =>
    if x12 = (j_k (-9)) then (some (some (.int (j_k (-4))), τ11))
    else j_gP τ11 6 v0 6 (fun a13 =>
    j_oc τ11 0 a13 (j_c0 call 4 [.ref a13] τ11 (fun τ14 =>
    j_gP τ14 6 v0 6 (fun a15 =>
    j_gP τ14 6 v0 3 (fun a16 =>
    j_oc τ14 0 a15 (j_c1 call 28 [.ref a15, .ref a16] τ14 (fun x18 τ17 =>
    again 79 [some (.ref v0), some (.int v1), some (.int v2), some (.int (j_k 0)), some (.int (j_k 0)), some (.int (j_k 0))] [] τ17))))))))))))))))))) := rfl

set_option maxRecDepth 1000000 in
set_option maxHeartbeats 8000000 in
theorem t_96_79 (call : Nat → List Value → Sto → Option Rr) (again : Nat → j_L → List Value → Sto → Option Rr) (σ : Sto) (v0 : Nat) (v1 : Int32) (v2 : Int32) (v3 : Int32) (v4 : Int32) (v5 : Int32) :
    j_seg k_96 h_96 call again 2000 79 [some (.ref v0), some (.int v1), some (.int v2), some (.int v3), some (.int v4), some (.int v5)] [] σ =
    j_gP σ 6 v0 6 (fun a1 =>
    j_oc σ 0 a1 (if v5 < (s_I σ a1 3) then (j_gP σ 6 v0 6 (fun a2 =>
     j_gP σ 0 a2 2 (fun a3 =>
     j_ia σ a3 v5 (
     if 0 < (s_I σ a3 v5.toNatClampNeg) then (j_gP σ 6 v0 6 (fun a4 =>
      j_gP σ 0 a4 2 (fun a5 =>
      j_ia σ a5 v5 (
      again 79 [some (.ref v0), some (.int v1), some (.int v2), some (.int (v3 + (j_k 1))), some (.int (v4 + (s_I σ a5 v5.toNatClampNeg))), some (.int (v5 + (j_k 1)))] [] σ))))
     else j_gP σ 6 v0 6 (fun a6 =>
     j_gP σ 0 a6 2 (fun a7 =>
     j_ia σ a7 v5 (
     again 79 [some (.ref v0), some (.int v1), some (.int v2), some (.int v3), some (.int (v4 + (s_I σ a7 v5.toNatClampNeg))), some (.int (v5 + (j_k 1)))] [] σ)))))))
    else if v0 < j_b then j_oc σ 6 v0 (let τ8 : Sto := s_uI σ v0 13 v4;
    some (some (.int v3), τ8)) else none)) := rfl

-- LastStirred.stone(I)I
set_option maxRecDepth 1000000 in
set_option maxHeartbeats 8000000 in
theorem t_97_0 (call : Nat → List Value → Sto → Option Rr) (again : Nat → j_L → List Value → Sto → Option Rr) (σ : Sto) (v0 : Nat) (v1 : Int32) :
    j_seg k_97 h_97 call again 2000 0 [some (.ref v0), some (.int v1)] [] σ =
    j_gP σ 6 v0 3 (fun a1 =>
    j_oc σ 1 a1 (j_c1 call 35 [.ref a1, .int v1] σ (fun x3 τ2 =>
    if x3 = 0 then (some (some (.int (j_k (-1))), τ2))
    else j_gP τ2 6 v0 3 (fun a4 =>
    j_gP τ2 1 a4 0 (fun a5 =>
    j_ia τ2 a5 v1 (
    if (s_I τ2 a5 v1.toNatClampNeg) = (j_k 1) then (some (some (.int (j_k (-1))), τ2))
    else j_gP τ2 6 v0 4 (fun a6 =>
    j_gP τ2 6 v0 3 (fun a7 =>
    j_oc τ2 0 a6 (j_c1 call 30 [.ref a6, .ref a7, .int v1] τ2 (fun x9 τ8 =>
    some (some (.int x9), τ8))))))))))) := rfl

-- LastStirred.drive(I)I
set_option maxRecDepth 1000000 in
set_option maxHeartbeats 8000000 in
theorem t_98_0 (call : Nat → List Value → Sto → Option Rr) (again : Nat → j_L → List Value → Sto → Option Rr) (σ : Sto) (v0 : Nat) (v1 : Int32) :
    j_seg k_98 h_98 call again 2000 0 [some (.ref v0), some (.int v1), none, none, none] [] σ =
    j_gP σ 6 v0 0 (fun a1 =>
    j_oc σ 4 a1 (j_c1 call 60 [.ref a1, .int v1] σ (fun x3 τ2 =>
    if x3 = 0 then (some (some (.int (j_k (-1))), τ2))
    else j_gP τ2 6 v0 3 (fun a4 =>
    j_oc τ2 1 a4 (if (s_I τ2 a4 5) = 0 then (some (some (.int (j_k (-4))), τ2))
    else j_gP τ2 6 v0 0 (fun a5 =>
    j_gP τ2 4 a5 1 (fun a6 =>
    j_ia τ2 a6 v1 (
    if (s_I τ2 a6 v1.toNatClampNeg) = (j_k (-1)) then (j_oc τ2 6 v0 (j_c1 call 112 [.ref v0, .int (j_k 1)] τ2 (fun x8 τ7 =>
     some (some (.int x8), τ7))))
    else j_gP τ2 6 v0 0 (fun a9 =>
    j_gP τ2 4 a9 1 (fun a10 =>
    j_ia τ2 a10 v1 (
    again 57 [some (.ref v0), some (.int v1), some (.int (s_I τ2 a10 v1.toNatClampNeg)), some (.int (j_k 0)), none] [] τ2))))))))))) := rfl

set_option maxRecDepth 1000000 in
set_option maxHeartbeats 8000000 in
theorem t_98_57 (call : Nat → List Value → Sto → Option Rr) (again : Nat → j_L → List Value → Sto → Option Rr) (σ : Sto) (v0 : Nat) (v1 : Int32) (v2 : Int32) (v3 : Int32) :
    j_seg k_98 h_98 call again 2000 57 [some (.ref v0), some (.int v1), some (.int v2), some (.int v3), none] [] σ =
    if v3 < v2 then (j_gP σ 6 v0 0 (fun a1 =>
     j_gP σ 4 a1 0 (fun a2 =>
     j_qa σ a2 v1 (fun a3 =>
     j_ia σ a3 v3 (
     if (s_I σ a3 v3.toNatClampNeg) < 0 then (j_oc σ 6 v0 (j_c1 call 112 [.ref v0, .int (j_k 3)] σ (fun x5 τ4 =>
      some (some (.int x5), τ4))))
     else j_gP σ 6 v0 4 (fun a6 =>
     j_oc σ 0 a6 (j_c1 call 13 [.ref a6] σ (fun x8 τ7 =>
     if (s_I σ a3 v3.toNatClampNeg) < x8 then (again 57 [some (.ref v0), some (.int v1), some (.int v2), some (.int (v3 + (j_k 1))), none] [] τ7)
     else j_oc τ7 6 v0 (j_c1 call 112 [.ref v0, .int (j_k 3)] τ7 (fun x10 τ9 =>
     some (some (.int x10), τ9)))))))))))
    else j_gP σ 6 v0 4 (fun a11 =>
    j_oc σ 0 a11 (if (j_k 10000) < ((s_I σ a11 8) + ((j_k 40) * v2)) then (some (some (.int (j_k (-6))), σ))
    else again 127 [some (.ref v0), some (.int v1), some (.int v2), some (.int (j_k 0)), none] [] σ)) := rfl

set_option maxRecDepth 1000000 in
set_option maxHeartbeats 8000000 in
theorem t_98_127 (call : Nat → List Value → Sto → Option Rr) (again : Nat → j_L → List Value → Sto → Option Rr) (σ : Sto) (v0 : Nat) (v1 : Int32) (v2 : Int32) (v3 : Int32) :
    j_seg k_98 h_98 call again 2000 127 [some (.ref v0), some (.int v1), some (.int v2), some (.int v3), none] [] σ =
    if v3 < v2 then (j_gP σ 6 v0 4 (fun a1 =>
     j_gP σ 6 v0 3 (fun a2 =>
     j_gP σ 6 v0 0 (fun a3 =>
     j_gP σ 4 a3 0 (fun a4 =>
     j_qa σ a4 v1 (fun a5 =>
     j_ia σ a5 v3 (
     j_oc σ 0 a1 (j_c1 call 29 [.ref a1, .ref a2, .int (s_I σ a5 v3.toNatClampNeg)] σ (fun x7 τ6 =>
     if x7 = 0 then (j_gP τ6 6 v0 4 (fun a8 =>
      j_oc τ6 0 a8 (j_c1 call 14 [.ref a8] τ6 (fun x10 τ9 =>
      if v0 < j_b then j_oc τ9 6 v0 (let τ11 : Sto := s_uI τ9 v0 13 x10;
      some (some (.int v3), τ11)) else none))))
     else again 127 [some (.ref v0), some (.int v1), some (.int v2), some (.int (v3 + (j_k 1))), none] [] τ6)))))))))
    else j_gP σ 6 v0 4 (fun a12 =>
    j_oc σ 0 a12 (j_c1 call 14 [.ref a12] σ (fun x14 τ13 =>
    if v0 < j_b then j_oc τ13 6 v0 (let τ15 : Sto := s_uI τ13 v0 13 x14;
    some (some (.int v3), τ15)) else none))) := rfl

-- LastStirred.reach(II)I
set_option maxRecDepth 1000000 in
set_option maxHeartbeats 8000000 in
theorem t_99_0 (call : Nat → List Value → Sto → Option Rr) (again : Nat → j_L → List Value → Sto → Option Rr) (σ : Sto) (v0 : Nat) (v1 : Int32) (v2 : Int32) :
    j_seg k_99 h_99 call again 2000 0 [some (.ref v0), some (.int v1), some (.int v2)] [] σ =
    j_gP σ 6 v0 3 (fun a1 =>
    j_oc σ 1 a1 (j_c1 call 35 [.ref a1, .int v1] σ (fun x3 τ2 =>
    if x3 = 0 then (some (some (.int (j_k (-1))), τ2))
    else if v2 < 0 then (some (some (.int (j_k (-1))), τ2))
    else if (j_k 1) < v2 then (some (some (.int (j_k (-1))), τ2))
    else j_gP τ2 6 v0 3 (fun a4 =>
    if v2 = (j_k 1) then (j_oc τ2 1 a4 (j_c1 call 40 [.ref a4, .int v1, .int (j_k 1)] τ2 (fun x6 τ5 =>
     some (some (.int x6), τ5))))
    else j_oc τ2 1 a4 (j_c1 call 40 [.ref a4, .int v1, .int (j_k 0)] τ2 (fun x8 τ7 =>
    some (some (.int x8), τ7))))))) := rfl

-- LastStirred.never()I
set_option maxRecDepth 1000000 in
set_option maxHeartbeats 8000000 in
theorem t_100_0 (call : Nat → List Value → Sto → Option Rr) (again : Nat → j_L → List Value → Sto → Option Rr) (σ : Sto) (v0 : Nat) :
    j_seg k_100 h_100 call again 2000 0 [some (.ref v0), none, none, none, none] [] σ =
    if v0 < j_b then j_oc σ 6 v0 (let τ1 : Sto := s_uI σ v0 13 (j_k (-9));
    again 10 [some (.ref v0), some (.int (j_k 0)), some (.int (j_k 0)), none, none] [] τ1) else none := rfl

set_option maxRecDepth 1000000 in
set_option maxHeartbeats 8000000 in
theorem t_100_10 (call : Nat → List Value → Sto → Option Rr) (again : Nat → j_L → List Value → Sto → Option Rr) (σ : Sto) (v0 : Nat) (v1 : Int32) (v2 : Int32) :
    j_seg k_100 h_100 call again 2000 10 [some (.ref v0), some (.int v1), some (.int v2), none, none] [] σ =
    j_gP σ 6 v0 4 (fun a1 =>
    j_oc σ 0 a1 (if v2 < (s_I σ a1 3) then (j_gP σ 6 v0 4 (fun a2 =>
     j_oc σ 0 a2 (j_c1 call 6 [.ref a2, .int v2] σ (fun x4 τ3 =>
     if x4 = 0 then (j_gP τ3 6 v0 3 (fun a5 =>
      j_gP τ3 6 v0 4 (fun a6 =>
      j_gP τ3 0 a6 1 (fun a7 =>
      j_ia τ3 a7 v2 (
      j_oc τ3 1 a5 (j_c1 call 40 [.ref a5, .int (s_I τ3 a7 v2.toNatClampNeg), .int (j_k 1)] τ3 (fun x9 τ8 =>
      again 58 [some (.ref v0), some (.int v1), some (.int v2), some (.int x9), some (.int (v2 + (j_k 1)))] [] τ8)))))))
     else again 10 [some (.ref v0), some (.int v1), some (.int (v2 + (j_k 1))), none, none] [] τ3))))
    else some (some (.int v1), σ))) := rfl

set_option maxRecDepth 1000000 in
set_option maxHeartbeats 8000000 in
theorem t_100_58 (call : Nat → List Value → Sto → Option Rr) (again : Nat → j_L → List Value → Sto → Option Rr) (σ : Sto) (v0 : Nat) (v1 : Int32) (v2 : Int32) (v3 : Int32) (v4 : Int32) :
    j_seg k_100 h_100 call again 2000 58 [some (.ref v0), some (.int v1), some (.int v2), some (.int v3), some (.int v4)] [] σ =
    j_gP σ 6 v0 4 (fun a1 =>
    j_oc σ 0 a1 (if v4 < (s_I σ a1 3) then (j_gP σ 6 v0 4 (fun a2 =>
     j_oc σ 0 a2 (j_c1 call 6 [.ref a2, .int v4] σ (fun x4 τ3 =>
     if x4 = 0 then (j_gP τ3 6 v0 4 (fun a5 =>
      j_gP τ3 0 a5 1 (fun a6 =>
      j_ia τ3 a6 v4 (
      if ((v3 >>> ((s_I τ3 a6 v4.toNatClampNeg) &&& 31)) &&& (j_k 1)) = (j_k 1) then (again 58 [some (.ref v0), some (.int v1), some (.int v2), some (.int v3), some (.int (v4 + (j_k 1)))] [] τ3)
      else if v1 = 0 then (if v0 < j_b then j_oc τ3 6 v0 (let τ7 : Sto := s_uI τ3 v0 13 (((j_k 10) * v2) + v4);
       again 58 [some (.ref v0), some (.int (v1 + (j_k 1))), some (.int v2), some (.int v3), some (.int (v4 + (j_k 1)))] [] τ7) else none)
      else again 58 [some (.ref v0), some (.int (v1 + (j_k 1))), some (.int v2), some (.int v3), some (.int (v4 + (j_k 1)))] [] τ3))))
     else again 58 [some (.ref v0), some (.int v1), some (.int v2), some (.int v3), some (.int (v4 + (j_k 1)))] [] τ3))))
    else again 10 [some (.ref v0), some (.int v1), some (.int (v2 + (j_k 1))), none, none] [] σ)) := rfl

-- LastStirred.wolf(II)I
set_option maxRecDepth 1000000 in
set_option maxHeartbeats 8000000 in
theorem t_101_0 (call : Nat → List Value → Sto → Option Rr) (again : Nat → j_L → List Value → Sto → Option Rr) (σ : Sto) (v0 : Nat) (v1 : Int32) (v2 : Int32) :
    j_seg k_101 h_101 call again 2000 0 [some (.ref v0), some (.int v1), some (.int v2), none] [] σ =
    j_gP σ 6 v0 3 (fun a1 =>
    j_oc σ 1 a1 (j_c1 call 35 [.ref a1, .int v1] σ (fun x3 τ2 =>
    if x3 = 0 then (some (some (.int (j_k (-1))), τ2))
    else j_gP τ2 6 v0 3 (fun a4 =>
    j_oc τ2 1 a4 (j_c1 call 36 [.ref a4, .int v1] τ2 (fun x6 τ5 =>
    if x6 = 0 then (some (some (.int (j_k (-1))), τ5))
    else if v2 < (j_k 1) then (some (some (.int (j_k (-1))), τ5))
    else if (j_k 2) < v2 then (some (some (.int (j_k (-1))), τ5))
    else j_gP τ5 6 v0 4 (fun a7 =>
    j_oc τ5 0 a7 (j_c1 call 7 [.ref a7, .int v1] τ5 (fun x9 τ8 =>
    if x9 = 0 then (j_gP τ8 6 v0 9 (fun a10 =>
     j_gP τ8 6 v0 3 (fun a11 =>
     j_gP τ8 6 v0 4 (fun a12 =>
     j_oc τ8 5 a10 (j_c1 call 65 [.ref a10, .ref a11, .ref a12, .int v1, .int v2] τ8 (fun x14 τ13 =>
     if x14 = 0 then (if v0 < j_b then j_oc τ13 6 v0 (let τ15 : Sto := s_uI τ13 v0 13 (j_k (-9));
      if x14 = 0 then (some (some (.int (j_k 0)), τ15))
      else some (some (.int (j_k 1)), τ15)) else none)
     else j_gP τ13 6 v0 9 (fun a16 =>
     j_oc τ13 5 a16 (if v0 < j_b then j_oc τ13 6 v0 (let τ17 : Sto := s_uI τ13 v0 13 (s_I τ13 a16 3);
     if x14 = 0 then (some (some (.int (j_k 0)), τ17))
     else some (some (.int (j_k 1)), τ17)) else none))))))))
    else some (some (.int (j_k (-4))), τ8)))))))))) := rfl

-- LastStirred.dawn(I)I
set_option maxRecDepth 1000000 in
set_option maxHeartbeats 8000000 in
theorem t_102_0 (call : Nat → List Value → Sto → Option Rr) (again : Nat → j_L → List Value → Sto → Option Rr) (σ : Sto) (v0 : Nat) (v1 : Int32) :
    j_seg k_102 h_102 call again 2000 0 [some (.ref v0), some (.int v1), none, none] [] σ =
    j_oc σ 6 v0 (j_c1 call 116 [.ref v0, .int v1] σ (fun x2 τ1 =>
    if x2 = 0 then (j_gP τ1 6 v0 8 (fun a3 =>
     j_gP τ1 6 v0 0 (fun a4 =>
     j_gP τ1 4 a4 0 (fun a5 =>
     j_qa τ1 a5 v1 (fun a6 =>
     j_oc τ1 3 a3 (j_c0 call 53 [.ref a3, .ref a6] τ1 (fun τ7 =>
     j_gP τ7 6 v0 8 (fun a8 =>
     j_gP τ7 6 v0 3 (fun a9 =>
     j_gP τ7 6 v0 4 (fun a10 =>
     j_oc τ7 3 a8 (j_c1 call 54 [.ref a8, .ref a9, .ref a10, .int (j_k 2)] τ7 (fun x12 τ11 =>
     if x12 = (j_k (-9)) then (some (some (.int x12), τ11))
     else j_gP τ11 6 v0 8 (fun a13 =>
     j_oc τ11 3 a13 (if v0 < j_b then j_oc τ11 6 v0 (let τ14 : Sto := s_uI τ11 v0 13 (s_I τ11 a13 5);
     some (some (.int x12), τ14)) else none))))))))))))))
    else some (some (.int x2), τ1))) := rfl

-- LastStirred.who(I)I
set_option maxRecDepth 1000000 in
set_option maxHeartbeats 8000000 in
theorem t_103_0 (call : Nat → List Value → Sto → Option Rr) (again : Nat → j_L → List Value → Sto → Option Rr) (σ : Sto) (v0 : Nat) (v1 : Int32) :
    j_seg k_103 h_103 call again 2000 0 [some (.ref v0), some (.int v1), none, none] [] σ =
    j_oc σ 6 v0 (j_c1 call 116 [.ref v0, .int v1] σ (fun x2 τ1 =>
    if x2 = 0 then (j_gP τ1 6 v0 8 (fun a3 =>
     j_gP τ1 6 v0 0 (fun a4 =>
     j_gP τ1 4 a4 0 (fun a5 =>
     j_qa τ1 a5 v1 (fun a6 =>
     j_oc τ1 3 a3 (j_c0 call 53 [.ref a3, .ref a6] τ1 (fun τ7 =>
     j_gP τ7 6 v0 8 (fun a8 =>
     j_gP τ7 6 v0 3 (fun a9 =>
     j_gP τ7 6 v0 4 (fun a10 =>
     j_oc τ7 3 a8 (j_c1 call 54 [.ref a8, .ref a9, .ref a10, .int (j_k 2)] τ7 (fun x12 τ11 =>
     if x12 = (j_k (-9)) then (some (some (.int (j_k (-9))), τ11))
     else if x12 = 0 then (some (some (.int (j_k (-9))), τ11))
     else j_gP τ11 6 v0 8 (fun a13 =>
     j_oc τ11 3 a13 (if v0 < j_b then j_oc τ11 6 v0 (let τ14 : Sto := s_uI τ11 v0 13 (s_I τ11 a13 8);
     j_gP τ14 6 v0 8 (fun a15 =>
     j_oc τ14 3 a15 (some (some (.int (s_I τ14 a15 7)), τ14)))) else none))))))))))))))
    else some (some (.int x2), τ1))) := rfl

-- LastStirred.breed(I)I
set_option maxRecDepth 1000000 in
set_option maxHeartbeats 8000000 in
theorem t_104_0 (call : Nat → List Value → Sto → Option Rr) (again : Nat → j_L → List Value → Sto → Option Rr) (σ : Sto) (v0 : Nat) (v1 : Int32) :
    j_seg k_104 h_104 call again 2000 0 [some (.ref v0), some (.int v1)] [] σ =
    if v1 < 0 then (some (some (.int (j_k (-1))), σ))
    else if (j_k 5) < v1 then (some (some (.int (j_k (-1))), σ))
    else j_gP σ 6 v0 3 (fun a1 =>
    j_oc σ 1 a1 (if (s_I σ a1 5) = 0 then (some (some (.int (j_k (-4))), σ))
    else j_gP σ 6 v0 6 (fun a2 =>
    j_gP σ 6 v0 4 (fun a3 =>
    j_oc σ 0 a2 (j_c0 call 3 [.ref a2, .ref a3] σ (fun τ4 =>
    j_gP τ4 6 v0 6 (fun a5 =>
    j_gP τ4 0 a5 0 (fun a6 =>
    j_c0 call 235 [.ref a6, .int v1] τ4 (fun τ7 =>
    j_gP τ7 6 v0 8 (fun a8 =>
    j_oc τ7 3 a8 (j_c0 call 52 [.ref a8] τ7 (fun τ9 =>
    j_gP τ9 6 v0 8 (fun a10 =>
    j_gP τ9 6 v0 3 (fun a11 =>
    j_gP τ9 6 v0 6 (fun a12 =>
    j_oc τ9 3 a10 (j_c1 call 54 [.ref a10, .ref a11, .ref a12, .int (j_k 2)] τ9 (fun x14 τ13 =>
    some (some (.int x14), τ13)))))))))))))))))) := rfl

-- LastStirred.asked()I
set_option maxRecDepth 1000000 in
set_option maxHeartbeats 8000000 in
theorem t_105_0 (call : Nat → List Value → Sto → Option Rr) (again : Nat → j_L → List Value → Sto → Option Rr) (σ : Sto) (v0 : Nat) :
    j_seg k_105 h_105 call again 2000 0 [some (.ref v0)] [] σ =
    j_oc σ 6 v0 (some (some (.int (s_I σ v0 13)), σ)) := rfl

-- LastStirred.upper()J
set_option maxRecDepth 1000000 in
set_option maxHeartbeats 8000000 in
theorem t_106_0 (call : Nat → List Value → Sto → Option Rr) (again : Nat → j_L → List Value → Sto → Option Rr) (σ : Sto) (v0 : Nat) :
    j_seg k_106 h_106 call again 2000 0 [some (.ref v0)] [] σ =
    j_oc σ 6 v0 (some (some (.long (s_J σ v0 14)), σ)) := rfl

-- LastStirred.lower()J
set_option maxRecDepth 1000000 in
set_option maxHeartbeats 8000000 in
theorem t_107_0 (call : Nat → List Value → Sto → Option Rr) (again : Nat → j_L → List Value → Sto → Option Rr) (σ : Sto) (v0 : Nat) :
    j_seg k_107 h_107 call again 2000 0 [some (.ref v0)] [] σ =
    j_oc σ 6 v0 (some (some (.long (s_J σ v0 15)), σ)) := rfl

-- LastStirred.count(I)I
set_option maxRecDepth 1000000 in
set_option maxHeartbeats 8000000 in
theorem t_108_0 (call : Nat → List Value → Sto → Option Rr) (again : Nat → j_L → List Value → Sto → Option Rr) (σ : Sto) (v0 : Nat) (v1 : Int32) :
    j_seg k_108 h_108 call again 2000 0 [some (.ref v0), some (.int v1)] [] σ =
    if v1 = (j_k 0) then (j_gP σ 6 v0 3 (fun a1 =>
     j_oc σ 1 a1 (some (some (.int (s_I σ a1 5)), σ))))
    else if v1 = (j_k 1) then (j_gP σ 6 v0 4 (fun a2 =>
     j_oc σ 0 a2 (some (some (.int (s_I σ a2 3)), σ))))
    else if v1 = (j_k 2) then (j_gP σ 6 v0 4 (fun a3 =>
     j_oc σ 0 a3 (j_c1 call 14 [.ref a3] σ (fun x5 τ4 =>
     some (some (.int x5), τ4)))))
    else if v1 = (j_k 3) then (j_gP σ 6 v0 4 (fun a6 =>
     j_oc σ 0 a6 (some (some (.int (s_I σ a6 8)), σ))))
    else if v1 = (j_k 4) then (j_gP σ 6 v0 4 (fun a7 =>
     j_oc σ 0 a7 (j_c1 call 15 [.ref a7] σ (fun x9 τ8 =>
     some (some (.int x9), τ8)))))
    else if v1 = (j_k 5) then (j_oc σ 6 v0 (j_c1 call 234 [.int (s_I σ v0 11)] σ (fun x11 τ10 =>
     some (some (.int x11), τ10))))
    else if v1 = (j_k 6) then (j_gP σ 6 v0 0 (fun a12 =>
     j_oc σ 4 a12 (j_c1 call 62 [.ref a12] σ (fun x14 τ13 =>
     some (some (.int x14), τ13)))))
    else if v1 = (j_k 7) then (j_gP σ 6 v0 1 (fun a15 =>
     j_oc σ 4 a15 (j_c1 call 62 [.ref a15] σ (fun x17 τ16 =>
     some (some (.int x17), τ16)))))
    else some (some (.int (j_k (-1))), σ) := rfl

-- LastStirred.finding()I
set_option maxRecDepth 1000000 in
set_option maxHeartbeats 8000000 in
theorem t_109_0 (call : Nat → List Value → Sto → Option Rr) (again : Nat → j_L → List Value → Sto → Option Rr) (σ : Sto) (v0 : Nat) :
    j_seg k_109 h_109 call again 2000 0 [some (.ref v0)] [] σ =
    j_oc σ 6 v0 (some (some (.int (s_I σ v0 12)), σ)) := rfl

-- LastStirred.findings(I)I
set_option maxRecDepth 1000000 in
set_option maxHeartbeats 8000000 in
theorem t_110_0 (call : Nat → List Value → Sto → Option Rr) (again : Nat → j_L → List Value → Sto → Option Rr) (σ : Sto) (v0 : Nat) (v1 : Int32) :
    j_seg k_110 h_110 call again 2000 0 [some (.ref v0), some (.int v1)] [] σ =
    if v1 < (j_k 1) then (some (some (.int (j_k (-1))), σ))
    else if (j_k 5) < v1 then (some (some (.int (j_k (-1))), σ))
    else j_gP σ 6 v0 10 (fun a1 =>
    j_ia σ a1 v1 (
    some (some (.int (s_I σ a1 v1.toNatClampNeg)), σ))) := rfl

-- LastStirred.digest()J
set_option maxRecDepth 1000000 in
set_option maxHeartbeats 8000000 in
theorem t_111_0 (call : Nat → List Value → Sto → Option Rr) (again : Nat → j_L → List Value → Sto → Option Rr) (σ : Sto) (v0 : Nat) :
    j_seg k_111 h_111 call again 2000 0 [some (.ref v0), none, none, none, none] [] σ =
    again 6 [some (.ref v0), some (.long (j_cJ 1)), none, some (.int (j_k 0)), none] [] σ := rfl

set_option maxRecDepth 1000000 in
set_option maxHeartbeats 8000000 in
theorem t_111_6 (call : Nat → List Value → Sto → Option Rr) (again : Nat → j_L → List Value → Sto → Option Rr) (σ : Sto) (v0 : Nat) (v1 : Int64) (v3 : Int32) :
    j_seg k_111 h_111 call again 2000 6 [some (.ref v0), some (.long v1), none, some (.int v3), none] [] σ =
    if v3 < (j_k 8) then (j_oc σ 6 v0 (j_c1 call 108 [.ref v0, .int v3] σ (fun x2 τ1 =>
     again 6 [some (.ref v0), some (.long (((j_cJ 2) * v1) + x2.toInt64)), none, some (.int (v3 + (j_k 1))), none] [] τ1)))
    else again 33 [some (.ref v0), some (.long v1), none, some (.int (j_k 0)), none] [] σ := rfl

set_option maxRecDepth 1000000 in
set_option maxHeartbeats 8000000 in
theorem t_111_33 (call : Nat → List Value → Sto → Option Rr) (again : Nat → j_L → List Value → Sto → Option Rr) (σ : Sto) (v0 : Nat) (v1 : Int64) (v3 : Int32) :
    j_seg k_111 h_111 call again 2000 33 [some (.ref v0), some (.long v1), none, some (.int v3), none] [] σ =
    j_gP σ 6 v0 3 (fun a1 =>
    j_oc σ 1 a1 (if v3 < (s_I σ a1 5) then (j_gP σ 6 v0 3 (fun a2 =>
     j_gP σ 1 a2 0 (fun a3 =>
     j_ia σ a3 v3 (
     again 33 [some (.ref v0), some (.long (((j_cJ 2) * v1) + (s_I σ a3 v3.toNatClampNeg).toInt64)), none, some (.int (v3 + (j_k 1))), none] [] σ))))
    else again 69 [some (.ref v0), some (.long v1), none, some (.int (j_k 0)), none] [] σ)) := rfl

set_option maxRecDepth 1000000 in
set_option maxHeartbeats 8000000 in
theorem t_111_69 (call : Nat → List Value → Sto → Option Rr) (again : Nat → j_L → List Value → Sto → Option Rr) (σ : Sto) (v0 : Nat) (v1 : Int64) (v3 : Int32) :
    j_seg k_111 h_111 call again 2000 69 [some (.ref v0), some (.long v1), none, some (.int v3), none] [] σ =
    j_gP σ 6 v0 4 (fun a1 =>
    j_oc σ 0 a1 (if v3 < (s_I σ a1 3) then (again 83 [some (.ref v0), some (.long v1), none, some (.int v3), some (.int (j_k 0))] [] σ)
    else j_gP σ 6 v0 4 (fun a2 =>
    j_oc σ 0 a2 (j_gP σ 6 v0 4 (fun a3 =>
    j_oc σ 0 a3 (j_gP σ 6 v0 4 (fun a4 =>
    j_oc σ 0 a4 (j_gP σ 6 v0 4 (fun a5 =>
    j_oc σ 0 a5 (again 181 [some (.ref v0), some (.long (((j_cJ 2) * (((j_cJ 2) * (((j_cJ 2) * (((j_cJ 2) * v1) + (s_I σ a2 4).toInt64)) + (s_I σ a3 5).toInt64)) + (s_I σ a4 6).toInt64)) + (s_I σ a5 7).toInt64)), none, some (.int (j_k 0)), none] [] σ)))))))))) := rfl

set_option maxRecDepth 1000000 in
set_option maxHeartbeats 8000000 in
theorem t_111_83 (call : Nat → List Value → Sto → Option Rr) (again : Nat → j_L → List Value → Sto → Option Rr) (σ : Sto) (v0 : Nat) (v1 : Int64) (v3 : Int32) (v4 : Int32) :
    j_seg k_111 h_111 call again 2000 83 [some (.ref v0), some (.long v1), none, some (.int v3), some (.int v4)] [] σ =
    if v4 < (j_k 3) then (j_gP σ 6 v0 4 (fun a1 =>
     j_oc σ 0 a1 (j_c1 call 12 [.ref a1, .int v3, .int v4] σ (fun x3 τ2 =>
     again 83 [some (.ref v0), some (.long (((j_cJ 2) * v1) + x3.toInt64)), none, some (.int v3), some (.int (v4 + (j_k 1)))] [] τ2))))
    else again 69 [some (.ref v0), some (.long v1), none, some (.int (v3 + (j_k 1))), none] [] σ := rfl

set_option maxRecDepth 1000000 in
set_option maxHeartbeats 8000000 in
theorem t_111_181 (call : Nat → List Value → Sto → Option Rr) (again : Nat → j_L → List Value → Sto → Option Rr) (σ : Sto) (v0 : Nat) (v1 : Int64) (v3 : Int32) :
    j_seg k_111 h_111 call again 2000 181 [some (.ref v0), some (.long v1), none, some (.int v3), none] [] σ =
    j_gP σ 6 v0 5 (fun a1 =>
    j_len σ a1 (fun n2 =>
    if v3 < n2 then (j_oc σ 6 v0 (j_c1 call 120 [.ref v0, .int v3] σ (fun x4 τ3 =>
     if x4 = 0 then (again 181 [some (.ref v0), some (.long (((j_cJ 2) * v1) + (j_k (-1)).toInt64)), none, some (.int (v3 + (j_k 1))), none] [] τ3)
     else j_gP τ3 6 v0 5 (fun a5 =>
     j_qa τ3 a5 v3 (fun a6 =>
     j_oc τ3 0 a6 (again 181 [some (.ref v0), some (.long (((j_cJ 2) * v1) + (s_I τ3 a6 8).toInt64)), none, some (.int (v3 + (j_k 1))), none] [] τ3))))))
    else j_gP σ 6 v0 1 (fun a7 =>
    j_gP σ 6 v0 0 (fun a8 =>
    j_oc σ 4 a8 (j_c2 call 63 [.ref a8, .long v1] σ (fun x10 τ9 =>
    j_oc τ9 4 a7 (j_c2 call 63 [.ref a7, .long x10] τ9 (fun x12 τ11 =>
    some (some (.long x12), τ11))))))))) := rfl

-- LastStirred.finds(I)I
set_option maxRecDepth 1000000 in
set_option maxHeartbeats 8000000 in
theorem t_112_0 (call : Nat → List Value → Sto → Option Rr) (again : Nat → j_L → List Value → Sto → Option Rr) (σ : Sto) (v0 : Nat) (v1 : Int32) :
    j_seg k_112 h_112 call again 2000 0 [some (.ref v0), some (.int v1)] [] σ =
    if v0 < j_b then j_oc σ 6 v0 (let τ1 : Sto := s_uI σ v0 12 v1;
    j_gP τ1 6 v0 10 (fun a2 =>
    j_ia τ1 a2 v1 (
    j_is τ1 a2 v1 (let τ3 : Sto := s_uI τ1 a2 v1.toNatClampNeg ((s_I τ1 a2 v1.toNatClampNeg) + (j_k 1));
    some (some (.int (j_k (-3))), τ3))))) else none := rfl

-- LastStirred.makeIn(LLastStirred$Shelf;III)I
set_option maxRecDepth 1000000 in
set_option maxHeartbeats 8000000 in
theorem t_113_0 (call : Nat → List Value → Sto → Option Rr) (again : Nat → j_L → List Value → Sto → Option Rr) (σ : Sto) (v0 : Nat) (v1 : Nat) (v2 : Int32) (v3 : Int32) (v4 : Int32) :
    j_seg k_113 h_113 call again 2000 0 [some (.ref v0), some (.ref v1), some (.int v2), some (.int v3), some (.int v4)] [] σ =
    j_oc σ 4 v1 (j_c1 call 60 [.ref v1, .int v2] σ (fun x2 τ1 =>
    if x2 = 0 then (some (some (.int (j_k (-1))), τ1))
    else j_gP τ1 4 v1 0 (fun a3 =>
    j_qa τ1 a3 v2 (fun a4 =>
    j_len τ1 a4 (fun n5 =>
    if n5 < v3 then (some (some (.int (j_k (-1))), τ1))
    else if v3 < 0 then (j_oc τ1 6 v0 (j_c1 call 112 [.ref v0, .int (j_k 5)] τ1 (fun x7 τ6 =>
     some (some (.int x7), τ6))))
    else j_oc τ1 4 v1 (j_c0 call 61 [.ref v1, .int v2, .int v3, .int v4] τ1 (fun τ8 =>
    some (some (.int v3), τ8)))))))) := rfl

-- LastStirred.refusedMissing(LLastStirred$Shelf;I)I
set_option maxRecDepth 1000000 in
set_option maxHeartbeats 8000000 in
theorem t_114_0 (call : Nat → List Value → Sto → Option Rr) (again : Nat → j_L → List Value → Sto → Option Rr) (σ : Sto) (v0 : Nat) (v1 : Nat) (v2 : Int32) :
    j_seg k_114 h_114 call again 2000 0 [some (.ref v0), some (.ref v1), some (.int v2)] [] σ =
    j_oc σ 4 v1 (j_c1 call 60 [.ref v1, .int v2] σ (fun x2 τ1 =>
    if x2 = 0 then (some (some (.int (j_k (-1))), τ1))
    else j_gP τ1 4 v1 1 (fun a3 =>
    j_ia τ1 a3 v2 (
    if (s_I τ1 a3 v2.toNatClampNeg) = (j_k (-1)) then (j_oc τ1 6 v0 (j_c1 call 112 [.ref v0, .int (j_k 1)] τ1 (fun x5 τ4 =>
     some (some (.int x5), τ4))))
    else some (some (.int (j_k 0)), τ1))))) := rfl

-- LastStirred.refusedPlace(LLastStirred$Shelf;II)I
set_option maxRecDepth 1000000 in
set_option maxHeartbeats 8000000 in
theorem t_115_0 (call : Nat → List Value → Sto → Option Rr) (again : Nat → j_L → List Value → Sto → Option Rr) (σ : Sto) (v0 : Nat) (v1 : Nat) (v2 : Int32) (v3 : Int32) :
    j_seg k_115 h_115 call again 2000 0 [some (.ref v0), some (.ref v1), some (.int v2), some (.int v3), none] [] σ =
    j_oc σ 6 v0 (j_c1 call 114 [.ref v0, .ref v1, .int v2] σ (fun x2 τ1 =>
    if x2 = 0 then (if v3 < 0 then (j_oc τ1 6 v0 (j_c1 call 112 [.ref v0, .int (j_k 2)] τ1 (fun x4 τ3 =>
      some (some (.int x4), τ3))))
     else j_gP τ1 4 v1 1 (fun a5 =>
     j_ia τ1 a5 v2 (
     if v3 < (s_I τ1 a5 v2.toNatClampNeg) then (some (some (.int (j_k 0)), τ1))
     else j_oc τ1 6 v0 (j_c1 call 112 [.ref v0, .int (j_k 2)] τ1 (fun x7 τ6 =>
     some (some (.int x7), τ6))))))
    else some (some (.int x2), τ1))) := rfl

-- LastStirred.refusedDawn(I)I
set_option maxRecDepth 1000000 in
set_option maxHeartbeats 8000000 in
theorem t_116_0 (call : Nat → List Value → Sto → Option Rr) (again : Nat → j_L → List Value → Sto → Option Rr) (σ : Sto) (v0 : Nat) (v1 : Int32) :
    j_seg k_116 h_116 call again 2000 0 [some (.ref v0), some (.int v1), none, none, none] [] σ =
    j_gP σ 6 v0 0 (fun a1 =>
    j_oc σ 6 v0 (j_c1 call 114 [.ref v0, .ref a1, .int v1] σ (fun x3 τ2 =>
    if x3 = 0 then (j_gP τ2 6 v0 0 (fun a4 =>
     j_gP τ2 4 a4 1 (fun a5 =>
     j_ia τ2 a5 v1 (
     j_gP τ2 6 v0 4 (fun a6 =>
     j_oc τ2 0 a6 (if (s_I τ2 a5 v1.toNatClampNeg) = (s_I τ2 a6 3) then (again 43 [some (.ref v0), some (.int v1), some (.int x3), some (.int (j_k 0)), none] [] τ2)
     else j_oc τ2 6 v0 (j_c1 call 112 [.ref v0, .int (j_k 5)] τ2 (fun x8 τ7 =>
     some (some (.int x8), τ7)))))))))
    else some (some (.int x3), τ2)))) := rfl

set_option maxRecDepth 1000000 in
set_option maxHeartbeats 8000000 in
theorem t_116_43 (call : Nat → List Value → Sto → Option Rr) (again : Nat → j_L → List Value → Sto → Option Rr) (σ : Sto) (v0 : Nat) (v1 : Int32) (v2 : Int32) (v3 : Int32) :
    j_seg k_116 h_116 call again 2000 43 [some (.ref v0), some (.int v1), some (.int v2), some (.int v3), none] [] σ =
    j_gP σ 6 v0 4 (fun a1 =>
    j_oc σ 0 a1 (if v3 < (s_I σ a1 3) then (j_gP σ 6 v0 0 (fun a2 =>
     j_gP σ 4 a2 0 (fun a3 =>
     j_qa σ a3 v1 (fun a4 =>
     j_ia σ a4 v3 (
     if (s_I σ a4 v3.toNatClampNeg) = (j_k (-9)) then (again 43 [some (.ref v0), some (.int v1), some (.int v2), some (.int (v3 + (j_k 1))), none] [] σ)
     else j_gP σ 6 v0 3 (fun a5 =>
     j_oc σ 1 a5 (j_c1 call 35 [.ref a5, .int (s_I σ a4 v3.toNatClampNeg)] σ (fun x7 τ6 =>
     if x7 = 0 then (j_oc τ6 6 v0 (j_c1 call 112 [.ref v0, .int (j_k 3)] τ6 (fun x9 τ8 =>
      some (some (.int x9), τ8))))
     else again 43 [some (.ref v0), some (.int v1), some (.int v2), some (.int (v3 + (j_k 1))), none] [] τ6))))))))
    else some (some (.int (j_k 0)), σ))) := rfl

-- LastStirred.fits(III)Z
set_option maxRecDepth 1000000 in
set_option maxHeartbeats 8000000 in
theorem t_117_0 (call : Nat → List Value → Sto → Option Rr) (again : Nat → j_L → List Value → Sto → Option Rr) (σ : Sto) (v0 : Int32) (v1 : Int32) (v2 : Int32) :
    j_seg k_117 h_117 call again 2000 0 [some (.int v0), some (.int v1), some (.int v2)] [] σ =
    if v0 < 0 then (if (j_k 0) = 0 ∨ (j_k 0) = 1 then some (some (.int (j_k 0)), σ) else none)
    else if v2 < v0 then (if (j_k 0) = 0 ∨ (j_k 0) = 1 then some (some (.int (j_k 0)), σ) else none)
    else if (v2 - v0) < v1 then (if (j_k 0) = 0 ∨ (j_k 0) = 1 then some (some (.int (j_k 0)), σ) else none)
    else if (j_k 1) = 0 ∨ (j_k 1) = 1 then some (some (.int (j_k 1)), σ) else none := rfl

-- LastStirred.isWay(I)Z
set_option maxRecDepth 1000000 in
set_option maxHeartbeats 8000000 in
theorem t_118_0 (call : Nat → List Value → Sto → Option Rr) (again : Nat → j_L → List Value → Sto → Option Rr) (σ : Sto) (v0 : Int32) :
    j_seg k_118 h_118 call again 2000 0 [some (.int v0)] [] σ =
    if v0 < 0 then (if (j_k 0) = 0 ∨ (j_k 0) = 1 then some (some (.int (j_k 0)), σ) else none)
    else if v0 < (j_k 4) then (if (j_k 1) = 0 ∨ (j_k 1) = 1 then some (some (.int (j_k 1)), σ) else none)
    else if (j_k 0) = 0 ∨ (j_k 0) = 1 then some (some (.int (j_k 0)), σ) else none := rfl

-- LastStirred.isPlace(I)Z
set_option maxRecDepth 1000000 in
set_option maxHeartbeats 8000000 in
theorem t_119_0 (call : Nat → List Value → Sto → Option Rr) (again : Nat → j_L → List Value → Sto → Option Rr) (σ : Sto) (v0 : Nat) (v1 : Int32) :
    j_seg k_119 h_119 call again 2000 0 [some (.ref v0), some (.int v1)] [] σ =
    if v1 < 0 then (if (j_k 0) = 0 ∨ (j_k 0) = 1 then some (some (.int (j_k 0)), σ) else none)
    else j_gP σ 6 v0 5 (fun a1 =>
    j_len σ a1 (fun n2 =>
    if v1 < n2 then (if (j_k 1) = 0 ∨ (j_k 1) = 1 then some (some (.int (j_k 1)), σ) else none)
    else if (j_k 0) = 0 ∨ (j_k 0) = 1 then some (some (.int (j_k 0)), σ) else none)) := rfl

-- LastStirred.isKept(I)Z
set_option maxRecDepth 1000000 in
set_option maxHeartbeats 8000000 in
theorem t_120_0 (call : Nat → List Value → Sto → Option Rr) (again : Nat → j_L → List Value → Sto → Option Rr) (σ : Sto) (v0 : Nat) (v1 : Int32) :
    j_seg k_120 h_120 call again 2000 0 [some (.ref v0), some (.int v1)] [] σ =
    j_oc σ 6 v0 (if (((s_I σ v0 11) >>> (v1 &&& 31)) &&& (j_k 1)) = (j_k 1) then (if (j_k 1) = 0 ∨ (j_k 1) = 1 then some (some (.int (j_k 1)), σ) else none)
    else if (j_k 0) = 0 ∨ (j_k 0) = 1 then some (some (.int (j_k 0)), σ) else none) := rfl

-- LastStirred.offLast(I)I
set_option maxRecDepth 1000000 in
set_option maxHeartbeats 8000000 in
theorem t_121_0 (call : Nat → List Value → Sto → Option Rr) (again : Nat → j_L → List Value → Sto → Option Rr) (σ : Sto) (v0 : Nat) (v1 : Int32) :
    j_seg k_121 h_121 call again 2000 0 [some (.ref v0), some (.int v1)] [] σ =
    j_gP σ 6 v0 4 (fun a1 =>
    j_oc σ 0 a1 (if (s_I σ a1 4) = (j_k (-9)) then (some (some (.int (j_k (-9))), σ))
    else j_gP σ 6 v0 4 (fun a2 =>
    j_oc σ 0 a2 (j_c1 call 6 [.ref a2, .int v1] σ (fun x4 τ3 =>
    if x4 = 0 then (j_gP τ3 6 v0 3 (fun a5 =>
     j_gP τ3 6 v0 4 (fun a6 =>
     j_gP τ3 0 a6 1 (fun a7 =>
     j_ia τ3 a7 v1 (
     j_gP τ3 6 v0 4 (fun a8 =>
     j_oc τ3 0 a8 (j_oc τ3 1 a5 (j_c1 call 37 [.ref a5, .int (s_I τ3 a7 v1.toNatClampNeg), .int (s_I τ3 a8 5)] τ3 (fun x10 τ9 =>
     some (some (.int x10), τ9))))))))))
    else some (some (.int (j_k (-9))), τ3)))))) := rfl

-- LastStirred.othersNear(I)I
set_option maxRecDepth 1000000 in
set_option maxHeartbeats 8000000 in
theorem t_122_0 (call : Nat → List Value → Sto → Option Rr) (again : Nat → j_L → List Value → Sto → Option Rr) (σ : Sto) (v0 : Nat) (v1 : Int32) :
    j_seg k_122 h_122 call again 2000 0 [some (.ref v0), some (.int v1), none, none] [] σ =
    j_gP σ 6 v0 4 (fun a1 =>
    j_oc σ 0 a1 (j_c1 call 6 [.ref a1, .int v1] σ (fun x3 τ2 =>
    if x3 = 0 then (again 18 [some (.ref v0), some (.int v1), some (.int (j_k 0)), some (.int (j_k 0))] [] τ2)
    else some (some (.int (j_k (-9))), τ2)))) := rfl

set_option maxRecDepth 1000000 in
set_option maxHeartbeats 8000000 in
theorem t_122_18 (call : Nat → List Value → Sto → Option Rr) (again : Nat → j_L → List Value → Sto → Option Rr) (σ : Sto) (v0 : Nat) (v1 : Int32) (v2 : Int32) (v3 : Int32) :
    j_seg k_122 h_122 call again 2000 18 [some (.ref v0), some (.int v1), some (.int v2), some (.int v3)] [] σ =
    j_gP σ 6 v0 4 (fun a1 =>
    j_oc σ 0 a1 (if v3 < (s_I σ a1 3) then (if v3 = v1 then (again 18 [some (.ref v0), some (.int v1), some (.int v2), some (.int (v3 + (j_k 1)))] [] σ)
     else j_gP σ 6 v0 4 (fun a2 =>
     j_oc σ 0 a2 (j_c1 call 6 [.ref a2, .int v3] σ (fun x4 τ3 =>
     if x4 = 0 then (j_gP τ3 6 v0 3 (fun a5 =>
      j_gP τ3 6 v0 4 (fun a6 =>
      j_gP τ3 0 a6 1 (fun a7 =>
      j_ia τ3 a7 v1 (
      j_gP τ3 6 v0 4 (fun a8 =>
      j_gP τ3 0 a8 1 (fun a9 =>
      j_ia τ3 a9 v3 (
      j_oc τ3 1 a5 (j_c1 call 37 [.ref a5, .int (s_I τ3 a7 v1.toNatClampNeg), .int (s_I τ3 a9 v3.toNatClampNeg)] τ3 (fun x11 τ10 =>
      if x11 < (j_k 3) then (again 18 [some (.ref v0), some (.int v1), some (.int (v2 + (j_k 1))), some (.int (v3 + (j_k 1)))] [] τ10)
      else again 18 [some (.ref v0), some (.int v1), some (.int v2), some (.int (v3 + (j_k 1)))] [] τ10))))))))))
     else again 18 [some (.ref v0), some (.int v1), some (.int v2), some (.int (v3 + (j_k 1)))] [] τ3))))
    else some (some (.int v2), σ))) := rfl

-- LastStirred.tryDrive(I)Z
set_option maxRecDepth 1000000 in
set_option maxHeartbeats 8000000 in
theorem t_123_0 (call : Nat → List Value → Sto → Option Rr) (again : Nat → j_L → List Value → Sto → Option Rr) (σ : Sto) (v0 : Nat) (v1 : Int32) :
    j_seg k_123 h_123 call again 2000 0 [some (.ref v0), some (.int v1)] [] σ =
    j_gP σ 6 v0 6 (fun a1 =>
    j_gP σ 6 v0 4 (fun a2 =>
    j_oc σ 0 a1 (j_c0 call 3 [.ref a1, .ref a2] σ (fun τ3 =>
    j_gP τ3 6 v0 6 (fun a4 =>
    j_gP τ3 6 v0 3 (fun a5 =>
    j_oc τ3 0 a4 (j_c1 call 29 [.ref a4, .ref a5, .int v1] τ3 (fun x7 τ6 =>
    if x7 = 0 ∨ x7 = 1 then some (some (.int x7), τ6) else none)))))))) := rfl

-- LastStirred.tellFraction(II)V
set_option maxRecDepth 1000000 in
set_option maxHeartbeats 8000000 in
theorem t_124_0 (call : Nat → List Value → Sto → Option Rr) (again : Nat → j_L → List Value → Sto → Option Rr) (σ : Sto) (v0 : Nat) (v1 : Int32) (v2 : Int32) :
    j_seg k_124 h_124 call again 2000 0 [some (.ref v0), some (.int v1), some (.int v2), none] [] σ =
    if v0 < j_b then j_oc σ 6 v0 (let τ1 : Sto := s_uJ σ v0 14 v1.toInt64;
    if v0 < j_b then j_oc τ1 6 v0 (let τ2 : Sto := s_uJ τ1 v0 15 v2.toInt64;
    again 14 [some (.ref v0), some (.int v1), some (.int v2), some (.int v2)] [] τ2) else none) else none := rfl

set_option maxRecDepth 1000000 in
set_option maxHeartbeats 8000000 in
theorem t_124_14 (call : Nat → List Value → Sto → Option Rr) (again : Nat → j_L → List Value → Sto → Option Rr) (σ : Sto) (v0 : Nat) (v1 : Int32) (v2 : Int32) (v3 : Int32) :
    j_seg k_124 h_124 call again 2000 14 [some (.ref v0), some (.int v1), some (.int v2), some (.int v3)] [] σ =
    if (j_k 1) < v3 then (j_oc σ 6 v0 (if v3.toInt64 = 0 then none else
     if (lg_cmp ((s_J σ v0 14) - (s_J σ v0 14) / v3.toInt64 * v3.toInt64) (Int64.ofNat 0)) = 0 then (j_oc σ 6 v0 (if v3.toInt64 = 0 then none else
      if (lg_cmp ((s_J σ v0 15) - (s_J σ v0 15) / v3.toInt64 * v3.toInt64) (Int64.ofNat 0)) = 0 then (j_oc σ 6 v0 (if v3.toInt64 = 0 then none else
       if v0 < j_b then j_oc σ 6 v0 (let τ1 : Sto := s_uJ σ v0 14 ((s_J σ v0 14) / v3.toInt64);
       j_oc τ1 6 v0 (if v3.toInt64 = 0 then none else
       if v0 < j_b then j_oc τ1 6 v0 (let τ2 : Sto := s_uJ τ1 v0 15 ((s_J τ1 v0 15) / v3.toInt64);
       again 14 [some (.ref v0), some (.int v1), some (.int v2), some (.int (v3 + (j_k (-1))))] [] τ2) else none)) else none))
      else again 14 [some (.ref v0), some (.int v1), some (.int v2), some (.int (v3 + (j_k (-1))))] [] σ))
     else again 14 [some (.ref v0), some (.int v1), some (.int v2), some (.int (v3 + (j_k (-1))))] [] σ))
    else some (none, σ) := rfl

-- LastStirred.placeOf([II)I
set_option maxRecDepth 1000000 in
set_option maxHeartbeats 8000000 in
theorem t_125_0 (call : Nat → List Value → Sto → Option Rr) (again : Nat → j_L → List Value → Sto → Option Rr) (σ : Sto) (v0 : Nat) (v1 : Int32) :
    j_seg k_125 h_125 call again 2000 0 [some (.ref v0), some (.int v1), none] [] σ =
    again 2 [some (.ref v0), some (.int v1), some (.int (j_k 0))] [] σ := rfl

set_option maxRecDepth 1000000 in
set_option maxHeartbeats 8000000 in
theorem t_125_2 (call : Nat → List Value → Sto → Option Rr) (again : Nat → j_L → List Value → Sto → Option Rr) (σ : Sto) (v0 : Nat) (v1 : Int32) (v2 : Int32) :
    j_seg k_125 h_125 call again 2000 2 [some (.ref v0), some (.int v1), some (.int v2)] [] σ =
    j_len σ v0 (fun n1 =>
    if v2 < n1 then (j_ia σ v0 v2 (
     if (s_I σ v0 v2.toNatClampNeg) = v1 then (some (some (.int v2), σ))
     else again 2 [some (.ref v0), some (.int v1), some (.int (v2 + (j_k 1)))] [] σ))
    else some (some (.int (j_k (-9))), σ)) := rfl
end
section
/-! ===== what each stretch of each method does (by program wip/gen) ===== -/
-- LastStirredModel.in(III)Z
set_option maxRecDepth 1000000 in
set_option maxHeartbeats 8000000 in
theorem t_127_0 (call : Nat → List Value → Sto → Option Rr) (again : Nat → j_L → List Value → Sto → Option Rr) (σ : Sto) (v0 : Int32) (v1 : Int32) (v2 : Int32) :
    j_seg k_127 h_127 call again 2000 0 [some (.int v0), some (.int v1), some (.int v2)] [] σ =
    if v0 < v1 then (if (j_k 0) = 0 ∨ (j_k 0) = 1 then some (some (.int (j_k 0)), σ) else none)
    else if v2 < v0 then (if (j_k 0) = 0 ∨ (j_k 0) = 1 then some (some (.int (j_k 0)), σ) else none)
    else if (j_k 1) = 0 ∨ (j_k 1) = 1 then some (some (.int (j_k 1)), σ) else none := rfl

-- LastStirredModel.has(II)Z
set_option maxRecDepth 1000000 in
set_option maxHeartbeats 8000000 in
theorem t_128_0 (call : Nat → List Value → Sto → Option Rr) (again : Nat → j_L → List Value → Sto → Option Rr) (σ : Sto) (v0 : Int32) (v1 : Int32) :
    j_seg k_128 h_128 call again 2000 0 [some (.int v0), some (.int v1)] [] σ =
    if ((v0 >>> (v1 &&& 31)) &&& (j_k 1)) = (j_k 1) then (if (j_k 1) = 0 ∨ (j_k 1) = 1 then some (some (.int (j_k 1)), σ) else none)
    else if (j_k 0) = 0 ∨ (j_k 0) = 1 then some (some (.int (j_k 0)), σ) else none := rfl

-- LastStirredModel.bits(I)I
set_option maxRecDepth 1000000 in
set_option maxHeartbeats 8000000 in
theorem t_129_0 (call : Nat → List Value → Sto → Option Rr) (again : Nat → j_L → List Value → Sto → Option Rr) (σ : Sto) (v0 : Int32) :
    j_seg k_129 h_129 call again 2000 0 [some (.int v0), none, none] [] σ =
    again 4 [some (.int v0), some (.int (j_k 0)), some (.int v0)] [] σ := rfl

set_option maxRecDepth 1000000 in
set_option maxHeartbeats 8000000 in
theorem t_129_4 (call : Nat → List Value → Sto → Option Rr) (again : Nat → j_L → List Value → Sto → Option Rr) (σ : Sto) (v0 : Int32) (v1 : Int32) (v2 : Int32) :
    j_seg k_129 h_129 call again 2000 4 [some (.int v0), some (.int v1), some (.int v2)] [] σ =
    if v2 = 0 then (some (some (.int v1), σ))
    else again 4 [some (.int v0), some (.int (v1 + (j_k 1))), some (.int (v2 &&& (v2 - (j_k 1))))] [] σ := rfl

-- LastStirredModel.size(I)I
set_option maxRecDepth 1000000 in
set_option maxHeartbeats 8000000 in
theorem t_130_0 (call : Nat → List Value → Sto → Option Rr) (again : Nat → j_L → List Value → Sto → Option Rr) (σ : Sto) (v0 : Int32) :
    j_seg k_130 h_130 call again 2000 0 [some (.int v0)] [] σ =
    if v0 < 0 then (some (some (.int (-v0)), σ))
    else some (some (.int v0), σ) := rfl

-- LastStirredModel.meets(I)I
set_option maxRecDepth 1000000 in
set_option maxHeartbeats 8000000 in
theorem t_131_0 (call : Nat → List Value → Sto → Option Rr) (again : Nat → j_L → List Value → Sto → Option Rr) (σ : Sto) (v0 : Nat) (v1 : Int32) :
    j_seg k_131 h_131 call again 2000 0 [some (.ref v0), some (.int v1)] [] σ =
    if v0 < j_b then j_oc σ 7 v0 (let τ1 : Sto := s_uI σ v0 0 v1;
    j_gP τ1 7 v0 1 (fun a2 =>
    j_ia τ1 a2 v1 (
    j_is τ1 a2 v1 (let τ3 : Sto := s_uI τ1 a2 v1.toNatClampNeg ((s_I τ1 a2 v1.toNatClampNeg) + (j_k 1));
    some (some (.int (j_k (-3))), τ3))))) else none := rfl

-- LastStirredModel.finding()I
set_option maxRecDepth 1000000 in
set_option maxHeartbeats 8000000 in
theorem t_132_0 (call : Nat → List Value → Sto → Option Rr) (again : Nat → j_L → List Value → Sto → Option Rr) (σ : Sto) (v0 : Nat) :
    j_seg k_132 h_132 call again 2000 0 [some (.ref v0)] [] σ =
    j_oc σ 7 v0 (some (some (.int (s_I σ v0 0)), σ)) := rfl

-- LastStirredModel.findings(I)I
set_option maxRecDepth 1000000 in
set_option maxHeartbeats 8000000 in
theorem t_133_0 (call : Nat → List Value → Sto → Option Rr) (again : Nat → j_L → List Value → Sto → Option Rr) (σ : Sto) (v0 : Nat) (v1 : Int32) :
    j_seg k_133 h_133 call again 2000 0 [some (.ref v0), some (.int v1)] [] σ =
    j_c1 call 127 [.int v1, .int (j_k 1), .int (j_k 5)] σ (fun x2 τ1 =>
    if x2 = 0 then (some (some (.int (j_k (-1))), τ1))
    else j_gP τ1 7 v0 1 (fun a3 =>
    j_ia τ1 a3 v1 (
    some (some (.int (s_I τ1 a3 v1.toNatClampNeg)), τ1)))) := rfl

-- LastStirredModel.tells(II)I
set_option maxRecDepth 1000000 in
set_option maxHeartbeats 8000000 in
theorem t_134_0 (call : Nat → List Value → Sto → Option Rr) (again : Nat → j_L → List Value → Sto → Option Rr) (σ : Sto) (v0 : Nat) (v1 : Int32) (v2 : Int32) :
    j_seg k_134 h_134 call again 2000 0 [some (.ref v0), some (.int v1), some (.int v2)] [] σ =
    if v0 < j_b then j_oc σ 7 v0 (let τ1 : Sto := s_uI σ v0 2 v1;
    some (some (.int v2), τ1)) else none := rfl

-- LastStirredModel.asked()I
set_option maxRecDepth 1000000 in
set_option maxHeartbeats 8000000 in
theorem t_135_0 (call : Nat → List Value → Sto → Option Rr) (again : Nat → j_L → List Value → Sto → Option Rr) (σ : Sto) (v0 : Nat) :
    j_seg k_135 h_135 call again 2000 0 [some (.ref v0)] [] σ =
    j_oc σ 7 v0 (some (some (.int (s_I σ v0 2)), σ)) := rfl

-- LastStirredModel.fraction(JJI)I
set_option maxRecDepth 1000000 in
set_option maxHeartbeats 8000000 in
theorem t_136_0 (call : Nat → List Value → Sto → Option Rr) (again : Nat → j_L → List Value → Sto → Option Rr) (σ : Sto) (v0 : Nat) (v1 : Int64) (v3 : Int64) (v5 : Int32) :
    j_seg k_136 h_136 call again 2000 0 [some (.ref v0), some (.long v1), none, some (.long v3), none, some (.int v5), none, none, none, none, none, none] [] σ =
    again 6 [some (.ref v0), some (.long v1), none, some (.long v3), none, some (.int v5), some (.long v1), none, some (.long v3), none, none, none] [] σ := rfl

set_option maxRecDepth 1000000 in
set_option maxHeartbeats 8000000 in
theorem t_136_6 (call : Nat → List Value → Sto → Option Rr) (again : Nat → j_L → List Value → Sto → Option Rr) (σ : Sto) (v0 : Nat) (v1 : Int64) (v3 : Int64) (v5 : Int32) (v6 : Int64) (v8 : Int64) :
    j_seg k_136 h_136 call again 2000 6 [some (.ref v0), some (.long v1), none, some (.long v3), none, some (.int v5), some (.long v6), none, some (.long v8), none, none, none] [] σ =
    if (lg_cmp v8 (Int64.ofNat 0)) = 0 then (if v6 = 0 then none else
     if v0 < j_b then j_oc σ 7 v0 (let τ1 : Sto := s_uJ σ v0 3 (v1 / v6);
     if v6 = 0 then none else
     if v0 < j_b then j_oc τ1 7 v0 (let τ2 : Sto := s_uJ τ1 v0 4 (v3 / v6);
     some (some (.int v5), τ2)) else none) else none)
    else if v8 = 0 then none else
    again 6 [some (.ref v0), some (.long v1), none, some (.long v3), none, some (.int v5), some (.long v8), none, some (.long (v6 - v6 / v8 * v8)), none, none, none] [] σ := rfl

-- LastStirredModel.upper()J
set_option maxRecDepth 1000000 in
set_option maxHeartbeats 8000000 in
theorem t_137_0 (call : Nat → List Value → Sto → Option Rr) (again : Nat → j_L → List Value → Sto → Option Rr) (σ : Sto) (v0 : Nat) :
    j_seg k_137 h_137 call again 2000 0 [some (.ref v0)] [] σ =
    j_oc σ 7 v0 (some (some (.long (s_J σ v0 3)), σ)) := rfl

-- LastStirredModel.lower()J
set_option maxRecDepth 1000000 in
set_option maxHeartbeats 8000000 in
theorem t_138_0 (call : Nat → List Value → Sto → Option Rr) (again : Nat → j_L → List Value → Sto → Option Rr) (σ : Sto) (v0 : Nat) :
    j_seg k_138 h_138 call again 2000 0 [some (.ref v0)] [] σ =
    j_oc σ 7 v0 (some (some (.long (s_J σ v0 4)), σ)) := rfl

-- LastStirredModel.isRow(I)Z
set_option maxRecDepth 1000000 in
set_option maxHeartbeats 8000000 in
theorem t_139_0 (call : Nat → List Value → Sto → Option Rr) (again : Nat → j_L → List Value → Sto → Option Rr) (σ : Sto) (v0 : Int32) :
    j_seg k_139 h_139 call again 2000 0 [some (.int v0)] [] σ =
    j_c1 call 127 [.int v0, .int (j_k 0), .int (j_k 5)] σ (fun x2 τ1 =>
    if x2 = 0 ∨ x2 = 1 then some (some (.int x2), τ1) else none) := rfl

-- LastStirredModel.rowAt(II)I
set_option maxRecDepth 1000000 in
set_option maxHeartbeats 8000000 in
theorem t_140_0 (call : Nat → List Value → Sto → Option Rr) (again : Nat → j_L → List Value → Sto → Option Rr) (σ : Sto) (v0 : Nat) (v1 : Int32) (v2 : Int32) :
    j_seg k_140 h_140 call again 2000 0 [some (.ref v0), some (.int v1), some (.int v2)] [] σ =
    j_gP σ 7 v0 6 (fun a1 =>
    j_ia σ a1 (((j_k 60) * v1) + v2) (
    some (some (.int (s_I σ a1 (((j_k 60) * v1) + v2).toNatClampNeg)), σ))) := rfl

-- LastStirredModel.row(II)I
set_option maxRecDepth 1000000 in
set_option maxHeartbeats 8000000 in
theorem t_141_0 (call : Nat → List Value → Sto → Option Rr) (again : Nat → j_L → List Value → Sto → Option Rr) (σ : Sto) (v0 : Nat) (v1 : Int32) (v2 : Int32) :
    j_seg k_141 h_141 call again 2000 0 [some (.ref v0), some (.int v1), some (.int v2), none] [] σ =
    j_c1 call 139 [.int v1] σ (fun x2 τ1 =>
    if x2 = 0 then (some (some (.int (j_k (-1))), τ1))
    else if (j_k 60) < v2 then (some (some (.int (j_k (-1))), τ1))
    else if v2 < 0 then (j_oc τ1 7 v0 (j_c1 call 131 [.ref v0, .int (j_k 5)] τ1 (fun x4 τ3 =>
     some (some (.int x4), τ3))))
    else j_gP τ1 7 v0 5 (fun a5 =>
    j_is τ1 a5 v1 (let τ6 : Sto := s_uI τ1 a5 v1.toNatClampNeg v2;
    again 34 [some (.ref v0), some (.int v1), some (.int v2), some (.int (j_k 0))] [] τ6))) := rfl

set_option maxRecDepth 1000000 in
set_option maxHeartbeats 8000000 in
theorem t_141_34 (call : Nat → List Value → Sto → Option Rr) (again : Nat → j_L → List Value → Sto → Option Rr) (σ : Sto) (v0 : Nat) (v1 : Int32) (v2 : Int32) (v3 : Int32) :
    j_seg k_141 h_141 call again 2000 34 [some (.ref v0), some (.int v1), some (.int v2), some (.int v3)] [] σ =
    if v3 < (j_k 60) then (j_gP σ 7 v0 6 (fun a1 =>
     j_is σ a1 (((j_k 60) * v1) + v3) (let τ2 : Sto := s_uI σ a1 (((j_k 60) * v1) + v3).toNatClampNeg (j_k 0);
     again 34 [some (.ref v0), some (.int v1), some (.int v2), some (.int (v3 + (j_k 1)))] [] τ2)))
    else some (some (.int v2), σ) := rfl

-- LastStirredModel.lay(III)I
set_option maxRecDepth 1000000 in
set_option maxHeartbeats 8000000 in
theorem t_142_0 (call : Nat → List Value → Sto → Option Rr) (again : Nat → j_L → List Value → Sto → Option Rr) (σ : Sto) (v0 : Nat) (v1 : Int32) (v2 : Int32) (v3 : Int32) :
    j_seg k_142 h_142 call again 2000 0 [some (.ref v0), some (.int v1), some (.int v2), some (.int v3), none] [] σ =
    j_c1 call 139 [.int v1] σ (fun x2 τ1 =>
    if x2 = 0 then (some (some (.int (j_k (-1))), τ1))
    else j_gP τ1 7 v0 5 (fun a3 =>
    j_ia τ1 a3 v1 (
    if (s_I τ1 a3 v1.toNatClampNeg) < 0 then (j_oc τ1 7 v0 (j_c1 call 131 [.ref v0, .int (j_k 1)] τ1 (fun x5 τ4 =>
     some (some (.int x5), τ4))))
    else j_gP τ1 7 v0 5 (fun a6 =>
    j_ia τ1 a6 v1 (
    j_c1 call 127 [.int v2, .int (j_k 0), .int ((s_I τ1 a6 v1.toNatClampNeg) - (j_k 1))] τ1 (fun x8 τ7 =>
    if x8 = 0 then (j_oc τ7 7 v0 (j_c1 call 131 [.ref v0, .int (j_k 2)] τ7 (fun x10 τ9 =>
     some (some (.int x10), τ9))))
    else j_oc τ7 7 v0 (j_c1 call 140 [.ref v0, .int v1, .int v2] τ7 (fun x12 τ11 =>
    j_gP τ11 7 v0 6 (fun a13 =>
    j_is τ11 a13 (((j_k 60) * v1) + v2) (let τ14 : Sto := s_uI τ11 a13 (((j_k 60) * v1) + v2).toNatClampNeg v3;
    j_oc τ14 7 v0 (j_c1 call 134 [.ref v0, .int x12, .int (j_k 1)] τ14 (fun x16 τ15 =>
    some (some (.int x16), τ15))))))))))))) := rfl

-- LastStirredModel.at(II)I
set_option maxRecDepth 1000000 in
set_option maxHeartbeats 8000000 in
theorem t_143_0 (call : Nat → List Value → Sto → Option Rr) (again : Nat → j_L → List Value → Sto → Option Rr) (σ : Sto) (v0 : Nat) (v1 : Int32) (v2 : Int32) :
    j_seg k_143 h_143 call again 2000 0 [some (.ref v0), some (.int v1), some (.int v2)] [] σ =
    j_c1 call 139 [.int v1] σ (fun x2 τ1 =>
    if x2 = 0 then (some (some (.int (j_k (-1))), τ1))
    else j_gP τ1 7 v0 5 (fun a3 =>
    j_ia τ1 a3 v1 (
    if (s_I τ1 a3 v1.toNatClampNeg) < 0 then (j_oc τ1 7 v0 (j_c1 call 131 [.ref v0, .int (j_k 1)] τ1 (fun x5 τ4 =>
     some (some (.int x5), τ4))))
    else j_gP τ1 7 v0 5 (fun a6 =>
    j_ia τ1 a6 v1 (
    j_c1 call 127 [.int v2, .int (j_k 0), .int ((s_I τ1 a6 v1.toNatClampNeg) - (j_k 1))] τ1 (fun x8 τ7 =>
    if x8 = 0 then (j_oc τ7 7 v0 (j_c1 call 131 [.ref v0, .int (j_k 2)] τ7 (fun x10 τ9 =>
     some (some (.int x10), τ9))))
    else j_oc τ7 7 v0 (j_c1 call 140 [.ref v0, .int v1, .int v2] τ7 (fun x12 τ11 =>
    j_oc τ11 7 v0 (j_c1 call 134 [.ref v0, .int x12, .int (j_k 1)] τ11 (fun x14 τ13 =>
    some (some (.int x14), τ13))))))))))) := rfl

-- LastStirredModel.tear(I)I
set_option maxRecDepth 1000000 in
set_option maxHeartbeats 8000000 in
theorem t_144_0 (call : Nat → List Value → Sto → Option Rr) (again : Nat → j_L → List Value → Sto → Option Rr) (σ : Sto) (v0 : Nat) (v1 : Int32) :
    j_seg k_144 h_144 call again 2000 0 [some (.ref v0), some (.int v1)] [] σ =
    j_c1 call 139 [.int v1] σ (fun x2 τ1 =>
    if x2 = 0 then (some (some (.int (j_k (-1))), τ1))
    else j_gP τ1 7 v0 5 (fun a3 =>
    j_ia τ1 a3 v1 (
    if (s_I τ1 a3 v1.toNatClampNeg) < 0 then (j_oc τ1 7 v0 (j_c1 call 131 [.ref v0, .int (j_k 1)] τ1 (fun x5 τ4 =>
     some (some (.int x5), τ4))))
    else j_gP τ1 7 v0 5 (fun a6 =>
    j_is τ1 a6 v1 (let τ7 : Sto := s_uI τ1 a6 v1.toNatClampNeg (j_k (-1));
    some (some (.int (j_k 1)), τ7)))))) := rfl

-- LastStirredModel.copy(IIIII)I
set_option maxRecDepth 1000000 in
set_option maxHeartbeats 8000000 in
theorem t_145_0 (call : Nat → List Value → Sto → Option Rr) (again : Nat → j_L → List Value → Sto → Option Rr) (σ : Sto) (v0 : Nat) (v1 : Int32) (v2 : Int32) (v3 : Int32) (v4 : Int32) (v5 : Int32) :
    j_seg k_145 h_145 call again 2000 0 [some (.ref v0), some (.int v1), some (.int v2), some (.int v3), some (.int v4), some (.int v5), none] [] σ =
    j_c1 call 139 [.int v1] σ (fun x2 τ1 =>
    if x2 = 0 then (some (some (.int (j_k (-1))), τ1))
    else j_c1 call 139 [.int v3] τ1 (fun x4 τ3 =>
    if x4 = 0 then (some (some (.int (j_k (-1))), τ3))
    else if v5 < 0 then (j_oc τ3 7 v0 (j_c1 call 131 [.ref v0, .int (j_k 5)] τ3 (fun x6 τ5 =>
     some (some (.int x6), τ5))))
    else j_gP τ3 7 v0 5 (fun a7 =>
    j_ia τ3 a7 v1 (
    if (s_I τ3 a7 v1.toNatClampNeg) < 0 then (j_oc τ3 7 v0 (j_c1 call 131 [.ref v0, .int (j_k 1)] τ3 (fun x9 τ8 =>
     some (some (.int x9), τ8))))
    else j_gP τ3 7 v0 5 (fun a10 =>
    j_ia τ3 a10 v3 (
    if (s_I τ3 a10 v3.toNatClampNeg) < 0 then (j_oc τ3 7 v0 (j_c1 call 131 [.ref v0, .int (j_k 1)] τ3 (fun x12 τ11 =>
     some (some (.int x12), τ11))))
    else if v2 < 0 then (j_oc τ3 7 v0 (j_c1 call 131 [.ref v0, .int (j_k 2)] τ3 (fun x14 τ13 =>
     some (some (.int x14), τ13))))
    else if v4 < 0 then (j_oc τ3 7 v0 (j_c1 call 131 [.ref v0, .int (j_k 2)] τ3 (fun x16 τ15 =>
     some (some (.int x16), τ15))))
    else j_gP τ3 7 v0 5 (fun a17 =>
    j_ia τ3 a17 v1 (
    if 0 < (lg_cmp (v2.toInt64 + v5.toInt64) ((s_I τ3 a17 v1.toNatClampNeg).toInt64)) then (j_oc τ3 7 v0 (j_c1 call 131 [.ref v0, .int (j_k 2)] τ3 (fun x19 τ18 =>
     some (some (.int x19), τ18))))
    else j_gP τ3 7 v0 5 (fun a20 =>
    j_ia τ3 a20 v3 (
    if 0 < (lg_cmp (v4.toInt64 + v5.toInt64) ((s_I τ3 a20 v3.toNatClampNeg).toInt64)) then (j_oc τ3 7 v0 (j_c1 call 131 [.ref v0, .int (j_k 2)] τ3 (fun x22 τ21 =>
     some (some (.int x22), τ21))))
    else again 104 [some (.ref v0), some (.int v1), some (.int v2), some (.int v3), some (.int v4), some (.int v5), some (.int (j_k 0))] [] τ3)))))))))) := rfl

set_option maxRecDepth 1000000 in
set_option maxHeartbeats 8000000 in
theorem t_145_104 (call : Nat → List Value → Sto → Option Rr) (again : Nat → j_L → List Value → Sto → Option Rr) (σ : Sto) (v0 : Nat) (v1 : Int32) (v2 : Int32) (v3 : Int32) (v4 : Int32) (v5 : Int32) (v6 : Int32) :
    j_seg k_145 h_145 call again 2000 104 [some (.ref v0), some (.int v1), some (.int v2), some (.int v3), some (.int v4), some (.int v5), some (.int v6)] [] σ =
    if v6 < v5 then (j_gP σ 7 v0 7 (fun a1 =>
     j_oc σ 7 v0 (j_c1 call 140 [.ref v0, .int v1, .int (v2 + v6)] σ (fun x3 τ2 =>
     j_is τ2 a1 v6 (let τ4 : Sto := s_uI τ2 a1 v6.toNatClampNeg x3;
     again 104 [some (.ref v0), some (.int v1), some (.int v2), some (.int v3), some (.int v4), some (.int v5), some (.int (v6 + (j_k 1)))] [] τ4)))))
    else again 136 [some (.ref v0), some (.int v1), some (.int v2), some (.int v3), some (.int v4), some (.int v5), some (.int (j_k 0))] [] σ := rfl

set_option maxRecDepth 1000000 in
set_option maxHeartbeats 8000000 in
theorem t_145_136 (call : Nat → List Value → Sto → Option Rr) (again : Nat → j_L → List Value → Sto → Option Rr) (σ : Sto) (v0 : Nat) (v1 : Int32) (v2 : Int32) (v3 : Int32) (v4 : Int32) (v5 : Int32) (v6 : Int32) :
    j_seg k_145 h_145 call again 2000 136 [some (.ref v0), some (.int v1), some (.int v2), some (.int v3), some (.int v4), some (.int v5), some (.int v6)] [] σ =
    if v6 < v5 then (j_gP σ 7 v0 6 (fun a1 =>
     j_gP σ 7 v0 7 (fun a2 =>
     j_ia σ a2 v6 (
     j_is σ a1 ((((j_k 60) * v3) + v4) + v6) (let τ3 : Sto := s_uI σ a1 ((((j_k 60) * v3) + v4) + v6).toNatClampNeg (s_I σ a2 v6.toNatClampNeg);
     again 136 [some (.ref v0), some (.int v1), some (.int v2), some (.int v3), some (.int v4), some (.int v5), some (.int (v6 + (j_k 1)))] [] τ3)))))
    else some (some (.int (j_k 1)), σ) := rfl

-- LastStirredModel.mean(I)I
set_option maxRecDepth 1000000 in
set_option maxHeartbeats 8000000 in
theorem t_146_0 (call : Nat → List Value → Sto → Option Rr) (again : Nat → j_L → List Value → Sto → Option Rr) (σ : Sto) (v0 : Nat) (v1 : Int32) :
    j_seg k_146 h_146 call again 2000 0 [some (.ref v0), some (.int v1), none, none, none] [] σ =
    j_c1 call 139 [.int v1] σ (fun x2 τ1 =>
    if x2 = 0 then (some (some (.int (j_k (-1))), τ1))
    else j_gP τ1 7 v0 5 (fun a3 =>
    j_ia τ1 a3 v1 (
    if (s_I τ1 a3 v1.toNatClampNeg) < 0 then (j_oc τ1 7 v0 (j_c1 call 131 [.ref v0, .int (j_k 1)] τ1 (fun x5 τ4 =>
     some (some (.int x5), τ4))))
    else j_gP τ1 7 v0 5 (fun a6 =>
    j_ia τ1 a6 v1 (
    if (s_I τ1 a6 v1.toNatClampNeg) = 0 then (j_oc τ1 7 v0 (j_c1 call 131 [.ref v0, .int (j_k 4)] τ1 (fun x8 τ7 =>
     some (some (.int x8), τ7))))
    else again 44 [some (.ref v0), some (.int v1), some (.long (Int64.ofNat 0)), none, some (.int (j_k 0))] [] τ1))))) := rfl

set_option maxRecDepth 1000000 in
set_option maxHeartbeats 8000000 in
theorem t_146_44 (call : Nat → List Value → Sto → Option Rr) (again : Nat → j_L → List Value → Sto → Option Rr) (σ : Sto) (v0 : Nat) (v1 : Int32) (v2 : Int64) (v4 : Int32) :
    j_seg k_146 h_146 call again 2000 44 [some (.ref v0), some (.int v1), some (.long v2), none, some (.int v4)] [] σ =
    j_gP σ 7 v0 5 (fun a1 =>
    j_ia σ a1 v1 (
    if v4 < (s_I σ a1 v1.toNatClampNeg) then (j_oc σ 7 v0 (j_c1 call 140 [.ref v0, .int v1, .int v4] σ (fun x3 τ2 =>
     again 44 [some (.ref v0), some (.int v1), some (.long (v2 + x3.toInt64)), none, some (.int (v4 + (j_k 1)))] [] τ2)))
    else j_gP σ 7 v0 5 (fun a4 =>
    j_ia σ a4 v1 (
    if (s_I σ a4 v1.toNatClampNeg).toInt64 = 0 then none else
    j_oc σ 7 v0 (j_c1 call 134 [.ref v0, .int ((v2 / (s_I σ a4 v1.toNatClampNeg).toInt64).toInt32), .int (j_k 1)] σ (fun x6 τ5 =>
    some (some (.int x6), τ5))))))) := rfl

-- LastStirredModel.isText(I)Z
set_option maxRecDepth 1000000 in
set_option maxHeartbeats 8000000 in
theorem t_147_0 (call : Nat → List Value → Sto → Option Rr) (again : Nat → j_L → List Value → Sto → Option Rr) (σ : Sto) (v0 : Int32) :
    j_seg k_147 h_147 call again 2000 0 [some (.int v0)] [] σ =
    j_c1 call 127 [.int v0, .int (j_k 0), .int (j_k 3)] σ (fun x2 τ1 =>
    if x2 = 0 ∨ x2 = 1 then some (some (.int x2), τ1) else none) := rfl

-- LastStirredModel.text(II)I
set_option maxRecDepth 1000000 in
set_option maxHeartbeats 8000000 in
theorem t_148_0 (call : Nat → List Value → Sto → Option Rr) (again : Nat → j_L → List Value → Sto → Option Rr) (σ : Sto) (v0 : Nat) (v1 : Int32) (v2 : Int32) :
    j_seg k_148 h_148 call again 2000 0 [some (.ref v0), some (.int v1), some (.int v2), none] [] σ =
    j_c1 call 147 [.int v1] σ (fun x2 τ1 =>
    if x2 = 0 then (some (some (.int (j_k (-1))), τ1))
    else if (j_k 80) < v2 then (some (some (.int (j_k (-1))), τ1))
    else if v2 < 0 then (j_oc τ1 7 v0 (j_c1 call 131 [.ref v0, .int (j_k 5)] τ1 (fun x4 τ3 =>
     some (some (.int x4), τ3))))
    else j_gP τ1 7 v0 8 (fun a5 =>
    j_is τ1 a5 v1 (let τ6 : Sto := s_uI τ1 a5 v1.toNatClampNeg v2;
    again 34 [some (.ref v0), some (.int v1), some (.int v2), some (.int (j_k 0))] [] τ6))) := rfl

set_option maxRecDepth 1000000 in
set_option maxHeartbeats 8000000 in
theorem t_148_34 (call : Nat → List Value → Sto → Option Rr) (again : Nat → j_L → List Value → Sto → Option Rr) (σ : Sto) (v0 : Nat) (v1 : Int32) (v2 : Int32) (v3 : Int32) :
    j_seg k_148 h_148 call again 2000 34 [some (.ref v0), some (.int v1), some (.int v2), some (.int v3)] [] σ =
    if v3 < (j_k 80) then (j_gP σ 7 v0 9 (fun a1 =>
     j_bs σ a1 (((j_k 80) * v1) + v3) (j_k 32) (fun τ2 =>
     again 34 [some (.ref v0), some (.int v1), some (.int v2), some (.int (v3 + (j_k 1)))] [] τ2)))
    else some (some (.int v2), σ) := rfl

-- LastStirredModel.put(III)I
set_option maxRecDepth 1000000 in
set_option maxHeartbeats 8000000 in
theorem t_149_0 (call : Nat → List Value → Sto → Option Rr) (again : Nat → j_L → List Value → Sto → Option Rr) (σ : Sto) (v0 : Nat) (v1 : Int32) (v2 : Int32) (v3 : Int32) :
    j_seg k_149 h_149 call again 2000 0 [some (.ref v0), some (.int v1), some (.int v2), some (.int v3), none] [] σ =
    j_c1 call 147 [.int v1] σ (fun x2 τ1 =>
    if x2 = 0 then (some (some (.int (j_k (-1))), τ1))
    else j_gP τ1 7 v0 8 (fun a3 =>
    j_ia τ1 a3 v1 (
    if (s_I τ1 a3 v1.toNatClampNeg) < 0 then (j_oc τ1 7 v0 (j_c1 call 131 [.ref v0, .int (j_k 1)] τ1 (fun x5 τ4 =>
     some (some (.int x5), τ4))))
    else j_gP τ1 7 v0 8 (fun a6 =>
    j_ia τ1 a6 v1 (
    j_c1 call 127 [.int v2, .int (j_k 0), .int ((s_I τ1 a6 v1.toNatClampNeg) - (j_k 1))] τ1 (fun x8 τ7 =>
    if x8 = 0 then (j_oc τ7 7 v0 (j_c1 call 131 [.ref v0, .int (j_k 2)] τ7 (fun x10 τ9 =>
     some (some (.int x10), τ9))))
    else j_gP τ7 7 v0 9 (fun a11 =>
    j_ba τ7 a11 (((j_k 80) * v1) + v2) (
    j_gP τ7 7 v0 9 (fun a12 =>
    j_bs τ7 a12 (((j_k 80) * v1) + v2) v3.toInt8.toInt32 (fun τ13 =>
    some (some (.int ((j_k 1000) + (s_I τ7 a11 (((j_k 80) * v1) + v2).toNatClampNeg))), τ13))))))))))) := rfl

-- LastStirredModel.byteAt(II)I
set_option maxRecDepth 1000000 in
set_option maxHeartbeats 8000000 in
theorem t_150_0 (call : Nat → List Value → Sto → Option Rr) (again : Nat → j_L → List Value → Sto → Option Rr) (σ : Sto) (v0 : Nat) (v1 : Int32) (v2 : Int32) :
    j_seg k_150 h_150 call again 2000 0 [some (.ref v0), some (.int v1), some (.int v2)] [] σ =
    j_gP σ 7 v0 8 (fun a1 =>
    j_ia σ a1 v1 (
    if v2 < (s_I σ a1 v1.toNatClampNeg) then (j_gP σ 7 v0 9 (fun a2 =>
     j_ba σ a2 (((j_k 80) * v1) + v2) (
     some (some (.int (s_I σ a2 (((j_k 80) * v1) + v2).toNatClampNeg)), σ))))
    else some (some (.int (j_k 0)), σ))) := rfl

-- LastStirredModel.signOf(I)I
set_option maxRecDepth 1000000 in
set_option maxHeartbeats 8000000 in
theorem t_151_0 (call : Nat → List Value → Sto → Option Rr) (again : Nat → j_L → List Value → Sto → Option Rr) (σ : Sto) (v0 : Int32) :
    j_seg k_151 h_151 call again 2000 0 [some (.int v0)] [] σ =
    if v0 = (j_k 46) then (some (some (.int (j_k 0)), σ))
    else if v0 = (j_k 35) then (some (some (.int (j_k 1)), σ))
    else if v0 = (j_k 126) then (some (some (.int (j_k 2)), σ))
    else if v0 = (j_k 111) then (some (some (.int (j_k 3)), σ))
    else if v0 = (j_k 61) then (some (some (.int (j_k 4)), σ))
    else some (some (.int (j_k (-9))), σ) := rfl

-- LastStirredModel.kindOf(I)I
set_option maxRecDepth 1000000 in
set_option maxHeartbeats 8000000 in
theorem t_152_0 (call : Nat → List Value → Sto → Option Rr) (again : Nat → j_L → List Value → Sto → Option Rr) (σ : Sto) (v0 : Int32) :
    j_seg k_152 h_152 call again 2000 0 [some (.int v0)] [] σ =
    if v0 = (j_k 98) then (some (some (.int (j_k 0)), σ))
    else if v0 = (j_k 99) then (some (some (.int (j_k 3)), σ))
    else if v0 = (j_k 100) then (some (some (.int (j_k (-9))), σ))
    else if v0 = (j_k 101) then (some (some (.int (j_k (-9))), σ))
    else if v0 = (j_k 102) then (some (some (.int (j_k (-9))), σ))
    else if v0 = (j_k 103) then (some (some (.int (j_k (-9))), σ))
    else if v0 = (j_k 104) then (some (some (.int (j_k (-9))), σ))
    else if v0 = (j_k 105) then (some (some (.int (j_k (-9))), σ))
    else if v0 = (j_k 106) then (some (some (.int (j_k (-9))), σ))
    else if v0 = (j_k 107) then (some (some (.int (j_k (-9))), σ))
    else if v0 = (j_k 108) then (some (some (.int (j_k 2)), σ))
    else if v0 = (j_k 109) then (some (some (.int (j_k 4)), σ))
    else if v0 = (j_k 110) then (some (some (.int (j_k (-9))), σ))
    else if v0 = (j_k 111) then (some (some (.int (j_k (-9))), σ))
    else if v0 = (j_k 112) then (some (some (.int (j_k (-9))), σ))
    else if v0 = (j_k 113) then (some (some (.int (j_k (-9))), σ))
    else if v0 = (j_k 114) then (some (some (.int (j_k (-9))), σ))
    else if v0 = (j_k 115) then (some (some (.int (j_k 1)), σ))
    else if v0 = (j_k 116) then (some (some (.int (j_k 5)), σ))
    else some (some (.int (j_k (-9))), σ) := rfl

-- LastStirredModel.figure(III)Z
set_option maxRecDepth 1000000 in
set_option maxHeartbeats 8000000 in
theorem t_153_0 (call : Nat → List Value → Sto → Option Rr) (again : Nat → j_L → List Value → Sto → Option Rr) (σ : Sto) (v0 : Nat) (v1 : Int32) (v2 : Int32) (v3 : Int32) :
    j_seg k_153 h_153 call again 2000 0 [some (.ref v0), some (.int v1), some (.int v2), some (.int v3), none] [] σ =
    j_oc σ 7 v0 (j_oc σ 7 v0 (j_c1 call 150 [.ref v0, .int v1, .int (s_I σ v0 15)] σ (fun x2 τ1 =>
    if v0 < j_b then j_oc τ1 7 v0 (let τ3 : Sto := s_uI τ1 v0 16 (x2 - (j_k 48));
    j_oc τ3 7 v0 (j_c1 call 127 [.int (s_I τ3 v0 16), .int v2, .int v3] τ3 (fun x5 τ4 =>
    j_oc τ4 7 v0 (if x5 = 0 then (if v0 < j_b then j_oc τ4 7 v0 (let τ6 : Sto := s_uI τ4 v0 15 ((s_I τ4 v0 15) + (j_k 0));
     if x5 = 0 ∨ x5 = 1 then some (some (.int x5), τ6) else none) else none)
    else if v0 < j_b then j_oc τ4 7 v0 (let τ7 : Sto := s_uI τ4 v0 15 ((s_I τ4 v0 15) + (j_k 1));
    if x5 = 0 ∨ x5 = 1 then some (some (.int x5), τ7) else none) else none)))) else none))) := rfl

-- LastStirredModel.readsGrid(I)Z
set_option maxRecDepth 1000000 in
set_option maxHeartbeats 8000000 in
theorem t_154_0 (call : Nat → List Value → Sto → Option Rr) (again : Nat → j_L → List Value → Sto → Option Rr) (σ : Sto) (v0 : Nat) (v1 : Int32) :
    j_seg k_154 h_154 call again 2000 0 [some (.ref v0), some (.int v1), none] [] σ =
    j_oc σ 7 v0 (j_oc σ 7 v0 (j_c1 call 150 [.ref v0, .int v1, .int (s_I σ v0 15)] σ (fun x2 τ1 =>
    if x2 = (j_k 103) then (j_oc τ1 7 v0 (if v0 < j_b then j_oc τ1 7 v0 (let τ3 : Sto := s_uI τ1 v0 15 ((s_I τ1 v0 15) + (j_k 1));
     j_oc τ3 7 v0 (j_c1 call 153 [.ref v0, .int v1, .int (j_k 2), .int (j_k 6)] τ3 (fun x5 τ4 =>
     if x5 = 0 then (if (j_k 0) = 0 ∨ (j_k 0) = 1 then some (some (.int (j_k 0)), τ4) else none)
     else j_oc τ4 7 v0 (j_oc τ4 7 v0 (j_c1 call 153 [.ref v0, .int v1, .int (j_k 1), .int (j_k 5)] τ4 (fun x7 τ6 =>
     if x7 = 0 then (if (j_k 0) = 0 ∨ (j_k 0) = 1 then some (some (.int (j_k 0)), τ6) else none)
     else if v0 < j_b then j_oc τ6 7 v0 (let τ8 : Sto := s_uI τ6 v0 17 (s_I τ4 v0 16);
     j_oc τ8 7 v0 (if v0 < j_b then j_oc τ8 7 v0 (let τ9 : Sto := s_uI τ8 v0 18 (s_I τ8 v0 16);
     if (j_k 1) = 0 ∨ (j_k 1) = 1 then some (some (.int (j_k 1)), τ9) else none) else none)) else none)))))) else none))
    else if (j_k 0) = 0 ∨ (j_k 0) = 1 then some (some (.int (j_k 0)), τ1) else none))) := rfl

-- LastStirredModel.readsSign(I)Z
set_option maxRecDepth 1000000 in
set_option maxHeartbeats 8000000 in
theorem t_155_0 (call : Nat → List Value → Sto → Option Rr) (again : Nat → j_L → List Value → Sto → Option Rr) (σ : Sto) (v0 : Nat) (v1 : Int32) :
    j_seg k_155 h_155 call again 2000 0 [some (.ref v0), some (.int v1), none] [] σ =
    j_oc σ 7 v0 (j_oc σ 7 v0 (j_c1 call 150 [.ref v0, .int v1, .int (s_I σ v0 15)] σ (fun x2 τ1 =>
    j_c1 call 151 [.int x2] τ1 (fun x4 τ3 =>
    if x4 = (j_k (-9)) then (if (j_k 0) = 0 ∨ (j_k 0) = 1 then some (some (.int (j_k 0)), τ3) else none)
    else j_gP τ3 7 v0 21 (fun a5 =>
    j_oc τ3 7 v0 (j_is τ3 a5 (s_I τ3 v0 19) (let τ6 : Sto := s_uI τ3 a5 (s_I τ3 v0 19).toNatClampNeg x4;
    j_oc τ6 7 v0 (if v0 < j_b then j_oc τ6 7 v0 (let τ7 : Sto := s_uI τ6 v0 19 ((s_I τ6 v0 19) + (j_k 1));
    j_oc τ7 7 v0 (if v0 < j_b then j_oc τ7 7 v0 (let τ8 : Sto := s_uI τ7 v0 15 ((s_I τ7 v0 15) + (j_k 1));
    if (j_k 1) = 0 ∨ (j_k 1) = 1 then some (some (.int (j_k 1)), τ8) else none) else none)) else none)))))))) := rfl

-- LastStirredModel.readsBeast(I)Z
set_option maxRecDepth 1000000 in
set_option maxHeartbeats 8000000 in
theorem t_156_0 (call : Nat → List Value → Sto → Option Rr) (again : Nat → j_L → List Value → Sto → Option Rr) (σ : Sto) (v0 : Nat) (v1 : Int32) :
    j_seg k_156 h_156 call again 2000 0 [some (.ref v0), some (.int v1), none, none, none, none, none] [] σ =
    j_oc σ 7 v0 (j_oc σ 7 v0 (j_c1 call 150 [.ref v0, .int v1, .int (s_I σ v0 15)] σ (fun x2 τ1 =>
    j_c1 call 152 [.int x2] τ1 (fun x4 τ3 =>
    if x4 = (j_k (-9)) then (if (j_k 0) = 0 ∨ (j_k 0) = 1 then some (some (.int (j_k 0)), τ3) else none)
    else j_oc τ3 7 v0 (if (s_I τ3 v0 20) = (j_k 4) then (if (j_k 0) = 0 ∨ (j_k 0) = 1 then some (some (.int (j_k 0)), τ3) else none)
    else j_oc τ3 7 v0 (if v0 < j_b then j_oc τ3 7 v0 (let τ5 : Sto := s_uI τ3 v0 15 ((s_I τ3 v0 15) + (j_k 1));
    j_oc τ5 7 v0 (j_oc τ5 7 v0 (j_c1 call 153 [.ref v0, .int v1, .int (j_k 0), .int ((s_I τ5 v0 17) - (j_k 1))] τ5 (fun x7 τ6 =>
    if x7 = 0 then (if (j_k 0) = 0 ∨ (j_k 0) = 1 then some (some (.int (j_k 0)), τ6) else none)
    else j_oc τ6 7 v0 (j_oc τ6 7 v0 (j_oc τ6 7 v0 (j_c1 call 150 [.ref v0, .int v1, .int (s_I τ6 v0 15)] τ6 (fun x9 τ8 =>
    j_oc τ8 7 v0 (j_c1 call 127 [.int (x9 - (j_k 48)), .int (j_k 0), .int ((s_I τ8 v0 18) - (j_k 1))] τ8 (fun x11 τ10 =>
    if x11 = 0 then (again 136 [some (.ref v0), some (.int v1), some (.int x4), some (.int (s_I τ6 v0 16)), some (.int (x9 - (j_k 48))), some (.int (j_k 0)), some (.int (j_k 0))] [] τ10)
    else j_gP τ10 7 v0 21 (fun a12 =>
    j_oc τ10 7 v0 (j_ia τ10 a12 (((s_I τ10 v0 17) * (x9 - (j_k 48))) + (s_I τ6 v0 16)) (
    if (s_I τ10 a12 (((s_I τ10 v0 17) * (x9 - (j_k 48))) + (s_I τ6 v0 16)).toNatClampNeg) = (j_k 1) then (again 136 [some (.ref v0), some (.int v1), some (.int x4), some (.int (s_I τ6 v0 16)), some (.int (x9 - (j_k 48))), some (.int (j_k 0)), some (.int (j_k 0))] [] τ10)
    else j_gP τ10 7 v0 21 (fun a13 =>
    j_oc τ10 7 v0 (j_ia τ10 a13 (((s_I τ10 v0 17) * (x9 - (j_k 48))) + (s_I τ6 v0 16)) (
    if (s_I τ10 a13 (((s_I τ10 v0 17) * (x9 - (j_k 48))) + (s_I τ6 v0 16)).toNatClampNeg) = (j_k 2) then (again 136 [some (.ref v0), some (.int v1), some (.int x4), some (.int (s_I τ6 v0 16)), some (.int (x9 - (j_k 48))), some (.int (j_k 0)), some (.int (j_k 0))] [] τ10)
    else again 136 [some (.ref v0), some (.int v1), some (.int x4), some (.int (s_I τ6 v0 16)), some (.int (x9 - (j_k 48))), some (.int (j_k 1)), some (.int (j_k 0))] [] τ10)))))))))))))))) else none)))))) := rfl

set_option maxRecDepth 1000000 in
set_option maxHeartbeats 8000000 in
theorem t_156_136 (call : Nat → List Value → Sto → Option Rr) (again : Nat → j_L → List Value → Sto → Option Rr) (σ : Sto) (v0 : Nat) (v1 : Int32) (v2 : Int32) (v3 : Int32) (v4 : Int32) (v5 : Int32) (v6 : Int32) :
    j_seg k_156 h_156 call again 2000 136 [some (.ref v0), some (.int v1), some (.int v2), some (.int v3), some (.int v4), some (.int v5), some (.int v6)] [] σ =
    j_oc σ 7 v0 (if v6 < (s_I σ v0 20) then (if v5 = 0 then (if v5 = 0 then (if (j_k 0) = 0 ∨ (j_k 0) = 1 then some (some (.int (j_k 0)), σ) else none)
      else j_oc σ 7 v0 (if v0 < j_b then j_oc σ 7 v0 (let τ1 : Sto := s_uI σ v0 15 ((s_I σ v0 15) + (j_k 1));
      j_gP τ1 7 v0 22 (fun a2 =>
      j_oc τ1 7 v0 (j_is τ1 a2 (s_I τ1 v0 20) (let τ3 : Sto := s_uI τ1 a2 (s_I τ1 v0 20).toNatClampNeg v2;
      j_gP τ3 7 v0 23 (fun a4 =>
      j_oc τ3 7 v0 (j_oc τ3 7 v0 (j_is τ3 a4 (s_I τ3 v0 20) (let τ5 : Sto := s_uI τ3 a4 (s_I τ3 v0 20).toNatClampNeg (((s_I τ3 v0 17) * v4) + v3);
      j_oc τ5 7 v0 (if v0 < j_b then j_oc τ5 7 v0 (let τ6 : Sto := s_uI τ5 v0 20 ((s_I τ5 v0 20) + (j_k 1));
      if (j_k 1) = 0 ∨ (j_k 1) = 1 then some (some (.int (j_k 1)), τ6) else none) else none))))))))) else none))
     else j_gP σ 7 v0 23 (fun a7 =>
     j_ia σ a7 v6 (
     j_oc σ 7 v0 (if (s_I σ a7 v6.toNatClampNeg) = (((s_I σ v0 17) * v4) + v3) then (again 136 [some (.ref v0), some (.int v1), some (.int v2), some (.int v3), some (.int v4), some (.int (j_k 0)), some (.int (v6 + (j_k 1)))] [] σ)
     else again 136 [some (.ref v0), some (.int v1), some (.int v2), some (.int v3), some (.int v4), some (.int (j_k 1)), some (.int (v6 + (j_k 1)))] [] σ))))
    else if v5 = 0 then (if (j_k 0) = 0 ∨ (j_k 0) = 1 then some (some (.int (j_k 0)), σ) else none)
    else j_oc σ 7 v0 (if v0 < j_b then j_oc σ 7 v0 (let τ8 : Sto := s_uI σ v0 15 ((s_I σ v0 15) + (j_k 1));
    j_gP τ8 7 v0 22 (fun a9 =>
    j_oc τ8 7 v0 (j_is τ8 a9 (s_I τ8 v0 20) (let τ10 : Sto := s_uI τ8 a9 (s_I τ8 v0 20).toNatClampNeg v2;
    j_gP τ10 7 v0 23 (fun a11 =>
    j_oc τ10 7 v0 (j_oc τ10 7 v0 (j_is τ10 a11 (s_I τ10 v0 20) (let τ12 : Sto := s_uI τ10 a11 (s_I τ10 v0 20).toNatClampNeg (((s_I τ10 v0 17) * v4) + v3);
    j_oc τ12 7 v0 (if v0 < j_b then j_oc τ12 7 v0 (let τ13 : Sto := s_uI τ12 v0 20 ((s_I τ12 v0 20) + (j_k 1));
    if (j_k 1) = 0 ∨ (j_k 1) = 1 then some (some (.int (j_k 1)), τ13) else none) else none))))))))) else none)) := rfl

-- LastStirredModel.faultOf(I)I
set_option maxRecDepth 1000000 in
set_option maxHeartbeats 8000000 in
theorem t_157_0 (call : Nat → List Value → Sto → Option Rr) (again : Nat → j_L → List Value → Sto → Option Rr) (σ : Sto) (v0 : Nat) (v1 : Int32) :
    j_seg k_157 h_157 call again 2000 0 [some (.ref v0), some (.int v1)] [] σ =
    if v0 < j_b then j_oc σ 7 v0 (let τ1 : Sto := s_uI σ v0 15 (j_k 0);
    if v0 < j_b then j_oc τ1 7 v0 (let τ2 : Sto := s_uI τ1 v0 17 (j_k 0);
    if v0 < j_b then j_oc τ2 7 v0 (let τ3 : Sto := s_uI τ2 v0 18 (j_k 0);
    if v0 < j_b then j_oc τ3 7 v0 (let τ4 : Sto := s_uI τ3 v0 19 (j_k 0);
    if v0 < j_b then j_oc τ4 7 v0 (let τ5 : Sto := s_uI τ4 v0 20 (j_k 0);
    again 25 [some (.ref v0), some (.int v1)] [] τ5) else none) else none) else none) else none) else none := rfl

set_option maxRecDepth 1000000 in
set_option maxHeartbeats 8000000 in
theorem t_157_25 (call : Nat → List Value → Sto → Option Rr) (again : Nat → j_L → List Value → Sto → Option Rr) (σ : Sto) (v0 : Nat) (v1 : Int32) :
    j_seg k_157 h_157 call again 2000 25 [some (.ref v0), some (.int v1)] [] σ =
    j_oc σ 7 v0 (j_gP σ 7 v0 8 (fun a1 =>
    j_ia σ a1 v1 (
    if (s_I σ v0 15) < (s_I σ a1 v1.toNatClampNeg) then (j_oc σ 7 v0 (j_oc σ 7 v0 (j_c1 call 150 [.ref v0, .int v1, .int (s_I σ v0 15)] σ (fun x3 τ2 =>
     if x3 = (j_k 32) then (j_oc τ2 7 v0 (if v0 < j_b then j_oc τ2 7 v0 (let τ4 : Sto := s_uI τ2 v0 15 ((s_I τ2 v0 15) + (j_k 1));
      again 25 [some (.ref v0), some (.int v1)] [] τ4) else none))
     else j_oc τ2 7 v0 (if (s_I τ2 v0 17) = 0 then (j_oc τ2 7 v0 (j_c1 call 154 [.ref v0, .int v1] τ2 (fun x6 τ5 =>
      if x6 = 0 then (j_oc τ5 7 v0 (some (some (.int (s_I τ5 v0 15)), τ5)))
      else again 25 [some (.ref v0), some (.int v1)] [] τ5)))
     else j_oc τ2 7 v0 (j_oc τ2 7 v0 (j_oc τ2 7 v0 (if (s_I τ2 v0 19) < ((s_I τ2 v0 17) * (s_I τ2 v0 18)) then (j_oc τ2 7 v0 (j_c1 call 155 [.ref v0, .int v1] τ2 (fun x8 τ7 =>
      if x8 = 0 then (j_oc τ7 7 v0 (some (some (.int (s_I τ7 v0 15)), τ7)))
      else again 25 [some (.ref v0), some (.int v1)] [] τ7)))
     else j_oc τ2 7 v0 (j_c1 call 156 [.ref v0, .int v1] τ2 (fun x10 τ9 =>
     if x10 = 0 then (j_oc τ9 7 v0 (some (some (.int (s_I τ9 v0 15)), τ9)))
     else again 25 [some (.ref v0), some (.int v1)] [] τ9))))))))))
    else j_oc σ 7 v0 (if (s_I σ v0 17) = 0 then (j_gP σ 7 v0 8 (fun a11 =>
     j_ia σ a11 v1 (
     some (some (.int (s_I σ a11 v1.toNatClampNeg)), σ))))
    else j_oc σ 7 v0 (j_oc σ 7 v0 (j_oc σ 7 v0 (if (s_I σ v0 19) < ((s_I σ v0 17) * (s_I σ v0 18)) then (j_gP σ 7 v0 8 (fun a12 =>
     j_ia σ a12 v1 (
     some (some (.int (s_I σ a12 v1.toNatClampNeg)), σ))))
    else some (some (.int (j_k (-9))), σ)))))))) := rfl

-- LastStirredModel.fault(I)I
set_option maxRecDepth 1000000 in
set_option maxHeartbeats 8000000 in
theorem t_158_0 (call : Nat → List Value → Sto → Option Rr) (again : Nat → j_L → List Value → Sto → Option Rr) (σ : Sto) (v0 : Nat) (v1 : Int32) :
    j_seg k_158 h_158 call again 2000 0 [some (.ref v0), some (.int v1)] [] σ =
    j_c1 call 147 [.int v1] σ (fun x2 τ1 =>
    if x2 = 0 then (some (some (.int (j_k (-1))), τ1))
    else j_gP τ1 7 v0 8 (fun a3 =>
    j_ia τ1 a3 v1 (
    if (s_I τ1 a3 v1.toNatClampNeg) < 0 then (j_oc τ1 7 v0 (j_c1 call 131 [.ref v0, .int (j_k 1)] τ1 (fun x5 τ4 =>
     some (some (.int x5), τ4))))
    else j_oc τ1 7 v0 (j_c1 call 157 [.ref v0, .int v1] τ1 (fun x7 τ6 =>
    some (some (.int x7), τ6)))))) := rfl

-- LastStirredModel.ground(I)I
set_option maxRecDepth 1000000 in
set_option maxHeartbeats 8000000 in
theorem t_159_0 (call : Nat → List Value → Sto → Option Rr) (again : Nat → j_L → List Value → Sto → Option Rr) (σ : Sto) (v0 : Nat) (v1 : Int32) :
    j_seg k_159 h_159 call again 2000 0 [some (.ref v0), some (.int v1), none] [] σ =
    j_c1 call 147 [.int v1] σ (fun x2 τ1 =>
    if x2 = 0 then (some (some (.int (j_k (-1))), τ1))
    else j_gP τ1 7 v0 8 (fun a3 =>
    j_ia τ1 a3 v1 (
    if (s_I τ1 a3 v1.toNatClampNeg) < 0 then (j_oc τ1 7 v0 (j_c1 call 131 [.ref v0, .int (j_k 1)] τ1 (fun x5 τ4 =>
     some (some (.int x5), τ4))))
    else j_oc τ1 7 v0 (j_c1 call 157 [.ref v0, .int v1] τ1 (fun x7 τ6 =>
    if x7 = (j_k (-9)) then (j_oc τ6 7 v0 (if v0 < j_b then j_oc τ6 7 v0 (let τ8 : Sto := s_uI τ6 v0 10 (s_I τ6 v0 17);
     j_oc τ8 7 v0 (if v0 < j_b then j_oc τ8 7 v0 (let τ9 : Sto := s_uI τ8 v0 11 (s_I τ8 v0 19);
     j_oc τ9 7 v0 (if v0 < j_b then j_oc τ9 7 v0 (let τ10 : Sto := s_uI τ9 v0 13 (s_I τ9 v0 20);
     again 63 [some (.ref v0), some (.int v1), some (.int (j_k 0))] [] τ10) else none)) else none)) else none))
    else some (some (.int (j_k (-4))), τ6)))))) := rfl

set_option maxRecDepth 1000000 in
set_option maxHeartbeats 8000000 in
theorem t_159_63 (call : Nat → List Value → Sto → Option Rr) (again : Nat → j_L → List Value → Sto → Option Rr) (σ : Sto) (v0 : Nat) (v1 : Int32) (v2 : Int32) :
    j_seg k_159 h_159 call again 2000 63 [some (.ref v0), some (.int v1), some (.int v2)] [] σ =
    j_oc σ 7 v0 (if v2 < (s_I σ v0 11) then (j_gP σ 7 v0 12 (fun a1 =>
     j_gP σ 7 v0 21 (fun a2 =>
     j_ia σ a2 v2 (
     j_is σ a1 v2 (let τ3 : Sto := s_uI σ a1 v2.toNatClampNeg (s_I σ a2 v2.toNatClampNeg);
     again 63 [some (.ref v0), some (.int v1), some (.int (v2 + (j_k 1)))] [] τ3)))))
    else j_oc σ 7 v0 (j_c0 call 163 [.ref v0, .int (j_k 0), .int (j_k 0), .int (j_k 0)] σ (fun τ4 =>
    j_oc τ4 7 v0 (j_c0 call 163 [.ref v0, .int (j_k 0), .int (j_k 1), .int (j_k (-9))] τ4 (fun τ5 =>
    j_oc τ5 7 v0 (j_c0 call 163 [.ref v0, .int (j_k 0), .int (j_k 2), .int (j_k (-9))] τ5 (fun τ6 =>
    j_oc τ6 7 v0 (j_c0 call 163 [.ref v0, .int (j_k 0), .int (j_k 3), .int (j_k (-9))] τ6 (fun τ7 =>
    j_oc τ7 7 v0 (j_c0 call 163 [.ref v0, .int (j_k 0), .int (j_k 4), .int (j_k (-9))] τ7 (fun τ8 =>
    again 130 [some (.ref v0), some (.int v1), some (.int (j_k 0))] [] τ8))))))))))) := rfl

set_option maxRecDepth 1000000 in
set_option maxHeartbeats 8000000 in
theorem t_159_130 (call : Nat → List Value → Sto → Option Rr) (again : Nat → j_L → List Value → Sto → Option Rr) (σ : Sto) (v0 : Nat) (v1 : Int32) (v2 : Int32) :
    j_seg k_159 h_159 call again 2000 130 [some (.ref v0), some (.int v1), some (.int v2)] [] σ =
    if v2 < (j_k 4) then (j_gP σ 7 v0 14 (fun a1 =>
     j_gP σ 7 v0 22 (fun a2 =>
     j_ia σ a2 v2 (
     j_is σ a1 v2 (let τ3 : Sto := s_uI σ a1 v2.toNatClampNeg (s_I σ a2 v2.toNatClampNeg);
     j_oc τ3 7 v0 (if v2 < (s_I τ3 v0 13) then (j_gP τ3 7 v0 23 (fun a4 =>
      j_ia τ3 a4 v2 (
      j_oc τ3 7 v0 (j_c0 call 163 [.ref v0, .int (j_k 0), .int ((j_k 5) + v2), .int (s_I τ3 a4 v2.toNatClampNeg)] τ3 (fun τ5 =>
      j_oc τ5 7 v0 (j_c0 call 163 [.ref v0, .int (j_k 0), .int ((j_k 9) + v2), .int (j_k 0)] τ5 (fun τ6 =>
      again 130 [some (.ref v0), some (.int v1), some (.int (v2 + (j_k 1)))] [] τ6)))))))
     else j_oc τ3 7 v0 (j_c0 call 163 [.ref v0, .int (j_k 0), .int ((j_k 5) + v2), .int (j_k (-9))] τ3 (fun τ7 =>
     j_oc τ7 7 v0 (j_c0 call 163 [.ref v0, .int (j_k 0), .int ((j_k 9) + v2), .int (j_k 0)] τ7 (fun τ8 =>
     again 130 [some (.ref v0), some (.int v1), some (.int (v2 + (j_k 1)))] [] τ8))))))))))
    else again 192 [some (.ref v0), some (.int v1), some (.int (j_k 0))] [] σ := rfl

set_option maxRecDepth 1000000 in
set_option maxHeartbeats 8000000 in
theorem t_159_192 (call : Nat → List Value → Sto → Option Rr) (again : Nat → j_L → List Value → Sto → Option Rr) (σ : Sto) (v0 : Nat) (v1 : Int32) (v2 : Int32) :
    j_seg k_159 h_159 call again 2000 192 [some (.ref v0), some (.int v1), some (.int v2)] [] σ =
    if v2 < (j_k 3) then (j_gP σ 7 v0 25 (fun a1 =>
     j_bs σ a1 v2 (j_k 0) (fun τ2 =>
     again 192 [some (.ref v0), some (.int v1), some (.int (v2 + (j_k 1)))] [] τ2)))
    else j_oc σ 7 v0 (some (some (.int (s_I σ v0 13)), σ)) := rfl

-- LastStirredModel.isCell(I)Z
set_option maxRecDepth 1000000 in
set_option maxHeartbeats 8000000 in
theorem t_160_0 (call : Nat → List Value → Sto → Option Rr) (again : Nat → j_L → List Value → Sto → Option Rr) (σ : Sto) (v0 : Nat) (v1 : Int32) :
    j_seg k_160 h_160 call again 2000 0 [some (.ref v0), some (.int v1)] [] σ =
    j_oc σ 7 v0 (j_c1 call 127 [.int v1, .int (j_k 0), .int ((s_I σ v0 11) - (j_k 1))] σ (fun x2 τ1 =>
    if x2 = 0 ∨ x2 = 1 then some (some (.int x2), τ1) else none)) := rfl

-- LastStirredModel.isBeast(I)Z
set_option maxRecDepth 1000000 in
set_option maxHeartbeats 8000000 in
theorem t_161_0 (call : Nat → List Value → Sto → Option Rr) (again : Nat → j_L → List Value → Sto → Option Rr) (σ : Sto) (v0 : Nat) (v1 : Int32) :
    j_seg k_161 h_161 call again 2000 0 [some (.ref v0), some (.int v1)] [] σ =
    j_oc σ 7 v0 (j_c1 call 127 [.int v1, .int (j_k 0), .int ((s_I σ v0 13) - (j_k 1))] σ (fun x2 τ1 =>
    if x2 = 0 ∨ x2 = 1 then some (some (.int x2), τ1) else none)) := rfl

-- LastStirredModel.v(II)I
set_option maxRecDepth 1000000 in
set_option maxHeartbeats 8000000 in
theorem t_162_0 (call : Nat → List Value → Sto → Option Rr) (again : Nat → j_L → List Value → Sto → Option Rr) (σ : Sto) (v0 : Nat) (v1 : Int32) (v2 : Int32) :
    j_seg k_162 h_162 call again 2000 0 [some (.ref v0), some (.int v1), some (.int v2)] [] σ =
    j_gP σ 7 v0 24 (fun a1 =>
    j_ia σ a1 (((j_k 13) * v1) + v2) (
    some (some (.int (s_I σ a1 (((j_k 13) * v1) + v2).toNatClampNeg)), σ))) := rfl

-- LastStirredModel.place(III)V
set_option maxRecDepth 1000000 in
set_option maxHeartbeats 8000000 in
theorem t_163_0 (call : Nat → List Value → Sto → Option Rr) (again : Nat → j_L → List Value → Sto → Option Rr) (σ : Sto) (v0 : Nat) (v1 : Int32) (v2 : Int32) (v3 : Int32) :
    j_seg k_163 h_163 call again 2000 0 [some (.ref v0), some (.int v1), some (.int v2), some (.int v3)] [] σ =
    j_gP σ 7 v0 24 (fun a1 =>
    j_is σ a1 (((j_k 13) * v1) + v2) (let τ2 : Sto := s_uI σ a1 (((j_k 13) * v1) + v2).toNatClampNeg v3;
    some (none, τ2))) := rfl

-- LastStirredModel.copyFlock(II)V
set_option maxRecDepth 1000000 in
set_option maxHeartbeats 8000000 in
theorem t_164_0 (call : Nat → List Value → Sto → Option Rr) (again : Nat → j_L → List Value → Sto → Option Rr) (σ : Sto) (v0 : Nat) (v1 : Int32) (v2 : Int32) :
    j_seg k_164 h_164 call again 2000 0 [some (.ref v0), some (.int v1), some (.int v2), none] [] σ =
    again 2 [some (.ref v0), some (.int v1), some (.int v2), some (.int (j_k 0))] [] σ := rfl

set_option maxRecDepth 1000000 in
set_option maxHeartbeats 8000000 in
theorem t_164_2 (call : Nat → List Value → Sto → Option Rr) (again : Nat → j_L → List Value → Sto → Option Rr) (σ : Sto) (v0 : Nat) (v1 : Int32) (v2 : Int32) (v3 : Int32) :
    j_seg k_164 h_164 call again 2000 2 [some (.ref v0), some (.int v1), some (.int v2), some (.int v3)] [] σ =
    if v3 < (j_k 13) then (j_oc σ 7 v0 (j_c1 call 162 [.ref v0, .int v1, .int v3] σ (fun x2 τ1 =>
     j_oc τ1 7 v0 (j_c0 call 163 [.ref v0, .int v2, .int v3, .int x2] τ1 (fun τ3 =>
     again 2 [some (.ref v0), some (.int v1), some (.int v2), some (.int (v3 + (j_k 1)))] [] τ3)))))
    else some (none, σ) := rfl

-- LastStirredModel.isLost(II)Z
set_option maxRecDepth 1000000 in
set_option maxHeartbeats 8000000 in
theorem t_165_0 (call : Nat → List Value → Sto → Option Rr) (again : Nat → j_L → List Value → Sto → Option Rr) (σ : Sto) (v0 : Nat) (v1 : Int32) (v2 : Int32) :
    j_seg k_165 h_165 call again 2000 0 [some (.ref v0), some (.int v1), some (.int v2)] [] σ =
    j_oc σ 7 v0 (j_c1 call 162 [.ref v0, .int v1, .int ((j_k 5) + v2)] σ (fun x2 τ1 =>
    if x2 = (j_k (-9)) then (if (j_k 1) = 0 ∨ (j_k 1) = 1 then some (some (.int (j_k 1)), τ1) else none)
    else if (j_k 0) = 0 ∨ (j_k 0) = 1 then some (some (.int (j_k 0)), τ1) else none)) := rfl

-- LastStirredModel.lostMany(I)I
set_option maxRecDepth 1000000 in
set_option maxHeartbeats 8000000 in
theorem t_166_0 (call : Nat → List Value → Sto → Option Rr) (again : Nat → j_L → List Value → Sto → Option Rr) (σ : Sto) (v0 : Nat) (v1 : Int32) :
    j_seg k_166 h_166 call again 2000 0 [some (.ref v0), some (.int v1), none, none] [] σ =
    again 4 [some (.ref v0), some (.int v1), some (.int (j_k 0)), some (.int (j_k 0))] [] σ := rfl

set_option maxRecDepth 1000000 in
set_option maxHeartbeats 8000000 in
theorem t_166_4 (call : Nat → List Value → Sto → Option Rr) (again : Nat → j_L → List Value → Sto → Option Rr) (σ : Sto) (v0 : Nat) (v1 : Int32) (v2 : Int32) (v3 : Int32) :
    j_seg k_166 h_166 call again 2000 4 [some (.ref v0), some (.int v1), some (.int v2), some (.int v3)] [] σ =
    j_oc σ 7 v0 (if v3 < (s_I σ v0 13) then (j_oc σ 7 v0 (j_c1 call 165 [.ref v0, .int v1, .int v3] σ (fun x2 τ1 =>
     if x2 = 0 then (again 4 [some (.ref v0), some (.int v1), some (.int (v2 + (j_k 0))), some (.int (v3 + (j_k 1)))] [] τ1)
     else again 4 [some (.ref v0), some (.int v1), some (.int (v2 + (j_k 1))), some (.int (v3 + (j_k 1)))] [] τ1)))
    else some (some (.int v2), σ)) := rfl

-- LastStirredModel.whoIn(III)I
set_option maxRecDepth 1000000 in
set_option maxHeartbeats 8000000 in
theorem t_167_0 (call : Nat → List Value → Sto → Option Rr) (again : Nat → j_L → List Value → Sto → Option Rr) (σ : Sto) (v0 : Nat) (v1 : Int32) (v2 : Int32) (v3 : Int32) :
    j_seg k_167 h_167 call again 2000 0 [some (.ref v0), some (.int v1), some (.int v2), some (.int v3), none] [] σ =
    again 3 [some (.ref v0), some (.int v1), some (.int v2), some (.int v3), some (.int (j_k 0))] [] σ := rfl

set_option maxRecDepth 1000000 in
set_option maxHeartbeats 8000000 in
theorem t_167_3 (call : Nat → List Value → Sto → Option Rr) (again : Nat → j_L → List Value → Sto → Option Rr) (σ : Sto) (v0 : Nat) (v1 : Int32) (v2 : Int32) (v3 : Int32) (v4 : Int32) :
    j_seg k_167 h_167 call again 2000 3 [some (.ref v0), some (.int v1), some (.int v2), some (.int v3), some (.int v4)] [] σ =
    j_oc σ 7 v0 (if v4 < (s_I σ v0 13) then (if v4 = v3 then (again 3 [some (.ref v0), some (.int v1), some (.int v2), some (.int v3), some (.int (v4 + (j_k 1)))] [] σ)
     else j_oc σ 7 v0 (j_c1 call 162 [.ref v0, .int v1, .int ((j_k 5) + v4)] σ (fun x2 τ1 =>
     if x2 = v2 then (some (some (.int v4), τ1))
     else again 3 [some (.ref v0), some (.int v1), some (.int v2), some (.int v3), some (.int (v4 + (j_k 1)))] [] τ1)))
    else some (some (.int (j_k (-9))), σ)) := rfl

-- LastStirredModel.off(II)I
set_option maxRecDepth 1000000 in
set_option maxHeartbeats 8000000 in
theorem t_168_0 (call : Nat → List Value → Sto → Option Rr) (again : Nat → j_L → List Value → Sto → Option Rr) (σ : Sto) (v0 : Nat) (v1 : Int32) (v2 : Int32) :
    j_seg k_168 h_168 call again 2000 0 [some (.ref v0), some (.int v1), some (.int v2)] [] σ =
    j_oc σ 7 v0 (if (s_I σ v0 10) = 0 then none else
    j_oc σ 7 v0 (if (s_I σ v0 10) = 0 then none else
    j_c1 call 130 [.int ((v1 - v1 / (s_I σ v0 10) * (s_I σ v0 10)) - (v2 - v2 / (s_I σ v0 10) * (s_I σ v0 10)))] σ (fun x2 τ1 =>
    j_oc τ1 7 v0 (if (s_I τ1 v0 10) = 0 then none else
    j_oc τ1 7 v0 (if (s_I τ1 v0 10) = 0 then none else
    j_c1 call 130 [.int ((v1 / (s_I τ1 v0 10)) - (v2 / (s_I τ1 v0 10)))] τ1 (fun x4 τ3 =>
    some (some (.int (x2 + x4)), τ3))))))) := rfl

-- LastStirredModel.cell(I)I
set_option maxRecDepth 1000000 in
set_option maxHeartbeats 8000000 in
theorem t_169_0 (call : Nat → List Value → Sto → Option Rr) (again : Nat → j_L → List Value → Sto → Option Rr) (σ : Sto) (v0 : Nat) (v1 : Int32) :
    j_seg k_169 h_169 call again 2000 0 [some (.ref v0), some (.int v1)] [] σ =
    j_oc σ 7 v0 (j_c1 call 160 [.ref v0, .int v1] σ (fun x2 τ1 =>
    if x2 = 0 then (some (some (.int (j_k (-1))), τ1))
    else j_oc τ1 7 v0 (j_c1 call 167 [.ref v0, .int (j_k 0), .int v1, .int (j_k (-9))] τ1 (fun x4 τ3 =>
    j_gP τ3 7 v0 12 (fun a5 =>
    j_ia τ3 a5 v1 (
    j_oc τ3 7 v0 (j_c1 call 134 [.ref v0, .int x4, .int (s_I τ3 a5 v1.toNatClampNeg)] τ3 (fun x7 τ6 =>
    some (some (.int x7), τ6))))))))) := rfl

-- LastStirredModel.build(II)I
set_option maxRecDepth 1000000 in
set_option maxHeartbeats 8000000 in
theorem t_170_0 (call : Nat → List Value → Sto → Option Rr) (again : Nat → j_L → List Value → Sto → Option Rr) (σ : Sto) (v0 : Nat) (v1 : Int32) (v2 : Int32) :
    j_seg k_170 h_170 call again 2000 0 [some (.ref v0), some (.int v1), some (.int v2), none] [] σ =
    j_oc σ 7 v0 (j_c1 call 160 [.ref v0, .int v1] σ (fun x2 τ1 =>
    if x2 = 0 then (some (some (.int (j_k (-1))), τ1))
    else j_c1 call 127 [.int v2, .int (j_k 0), .int (j_k 4)] τ1 (fun x4 τ3 =>
    if x4 = 0 then (some (some (.int (j_k (-1))), τ3))
    else if v2 = (j_k 1) then (j_oc τ3 7 v0 (j_c1 call 167 [.ref v0, .int (j_k 0), .int v1, .int (j_k (-9))] τ3 (fun x6 τ5 =>
     if x6 = (j_k (-9)) then (j_gP τ5 7 v0 12 (fun a7 =>
      j_ia τ5 a7 v1 (
      j_gP τ5 7 v0 12 (fun a8 =>
      j_is τ5 a8 v1 (let τ9 : Sto := s_uI τ5 a8 v1.toNatClampNeg v2;
      some (some (.int (s_I τ5 a7 v1.toNatClampNeg)), τ9))))))
     else some (some (.int (j_k (-4))), τ5))))
    else if v2 = (j_k 2) then (j_oc τ3 7 v0 (j_c1 call 167 [.ref v0, .int (j_k 0), .int v1, .int (j_k (-9))] τ3 (fun x11 τ10 =>
     if x11 = (j_k (-9)) then (j_gP τ10 7 v0 12 (fun a12 =>
      j_ia τ10 a12 v1 (
      j_gP τ10 7 v0 12 (fun a13 =>
      j_is τ10 a13 v1 (let τ14 : Sto := s_uI τ10 a13 v1.toNatClampNeg v2;
      some (some (.int (s_I τ10 a12 v1.toNatClampNeg)), τ14))))))
     else some (some (.int (j_k (-4))), τ10))))
    else j_gP τ3 7 v0 12 (fun a15 =>
    j_ia τ3 a15 v1 (
    j_gP τ3 7 v0 12 (fun a16 =>
    j_is τ3 a16 v1 (let τ17 : Sto := s_uI τ3 a16 v1.toNatClampNeg v2;
    some (some (.int (s_I τ3 a15 v1.toNatClampNeg)), τ17)))))))) := rfl

-- LastStirredModel.beastTells(II)I
set_option maxRecDepth 1000000 in
set_option maxHeartbeats 8000000 in
theorem t_171_0 (call : Nat → List Value → Sto → Option Rr) (again : Nat → j_L → List Value → Sto → Option Rr) (σ : Sto) (v0 : Nat) (v1 : Int32) (v2 : Int32) :
    j_seg k_171 h_171 call again 2000 0 [some (.ref v0), some (.int v1), some (.int v2)] [] σ =
    if v2 = 0 then (j_gP σ 7 v0 14 (fun a1 =>
     j_ia σ a1 v1 (
     some (some (.int (s_I σ a1 v1.toNatClampNeg)), σ))))
    else if v2 = (j_k 1) then (j_oc σ 7 v0 (j_c1 call 162 [.ref v0, .int (j_k 0), .int ((j_k 5) + v1)] σ (fun x3 τ2 =>
     some (some (.int x3), τ2))))
    else j_oc σ 7 v0 (j_c1 call 162 [.ref v0, .int (j_k 0), .int ((j_k 9) + v1)] σ (fun x5 τ4 =>
    some (some (.int x5), τ4))) := rfl

-- LastStirredModel.beast(II)I
set_option maxRecDepth 1000000 in
set_option maxHeartbeats 8000000 in
theorem t_172_0 (call : Nat → List Value → Sto → Option Rr) (again : Nat → j_L → List Value → Sto → Option Rr) (σ : Sto) (v0 : Nat) (v1 : Int32) (v2 : Int32) :
    j_seg k_172 h_172 call again 2000 0 [some (.ref v0), some (.int v1), some (.int v2)] [] σ =
    j_oc σ 7 v0 (j_c1 call 161 [.ref v0, .int v1] σ (fun x2 τ1 =>
    if x2 = 0 then (some (some (.int (j_k (-1))), τ1))
    else j_c1 call 127 [.int v2, .int (j_k 0), .int (j_k 2)] τ1 (fun x4 τ3 =>
    if x4 = 0 then (some (some (.int (j_k (-1))), τ3))
    else j_oc τ3 7 v0 (j_c1 call 171 [.ref v0, .int v1, .int v2] τ3 (fun x6 τ5 =>
    j_oc τ5 7 v0 (j_c1 call 134 [.ref v0, .int x6, .int (j_k 1)] τ5 (fun x8 τ7 =>
    some (some (.int x8), τ7)))))))) := rfl

-- LastStirredModel.isShy(I)Z
set_option maxRecDepth 1000000 in
set_option maxHeartbeats 8000000 in
theorem t_173_0 (call : Nat → List Value → Sto → Option Rr) (again : Nat → j_L → List Value → Sto → Option Rr) (σ : Sto) (v0 : Nat) (v1 : Int32) :
    j_seg k_173 h_173 call again 2000 0 [some (.ref v0), some (.int v1)] [] σ =
    j_gP σ 7 v0 14 (fun a1 =>
    j_ia σ a1 v1 (
    if (s_I σ a1 v1.toNatClampNeg) = (j_k 1) then (if (j_k 1) = 0 ∨ (j_k 1) = 1 then some (some (.int (j_k 1)), σ) else none)
    else j_gP σ 7 v0 14 (fun a2 =>
    j_ia σ a2 v1 (
    if (s_I σ a2 v1.toNatClampNeg) = (j_k 5) then (if (j_k 1) = 0 ∨ (j_k 1) = 1 then some (some (.int (j_k 1)), σ) else none)
    else if (j_k 0) = 0 ∨ (j_k 0) = 1 then some (some (.int (j_k 0)), σ) else none)))) := rfl

-- LastStirredModel.isSlow(I)Z
set_option maxRecDepth 1000000 in
set_option maxHeartbeats 8000000 in
theorem t_174_0 (call : Nat → List Value → Sto → Option Rr) (again : Nat → j_L → List Value → Sto → Option Rr) (σ : Sto) (v0 : Nat) (v1 : Int32) :
    j_seg k_174 h_174 call again 2000 0 [some (.ref v0), some (.int v1)] [] σ =
    j_gP σ 7 v0 14 (fun a1 =>
    j_ia σ a1 v1 (
    if (s_I σ a1 v1.toNatClampNeg) = (j_k 2) then (if (j_k 1) = 0 ∨ (j_k 1) = 1 then some (some (.int (j_k 1)), σ) else none)
    else j_gP σ 7 v0 14 (fun a2 =>
    j_ia σ a2 v1 (
    if (s_I σ a2 v1.toNatClampNeg) = (j_k 4) then (if (j_k 1) = 0 ∨ (j_k 1) = 1 then some (some (.int (j_k 1)), σ) else none)
    else if (j_k 0) = 0 ∨ (j_k 0) = 1 then some (some (.int (j_k 0)), σ) else none)))) := rfl

-- LastStirredModel.aimOf(II)I
set_option maxRecDepth 1000000 in
set_option maxHeartbeats 8000000 in
theorem t_175_0 (call : Nat → List Value → Sto → Option Rr) (again : Nat → j_L → List Value → Sto → Option Rr) (σ : Sto) (v0 : Nat) (v1 : Int32) (v2 : Int32) :
    j_seg k_175 h_175 call again 2000 0 [some (.ref v0), some (.int v1), some (.int v2)] [] σ =
    j_gP σ 7 v0 14 (fun a1 =>
    j_ia σ a1 v2 (
    if (s_I σ a1 v2.toNatClampNeg) = (j_k 3) then (j_oc σ 7 v0 (j_c1 call 162 [.ref v0, .int v1, .int (j_k 4)] σ (fun x3 τ2 =>
     if x3 = (j_k (-9)) then (j_oc τ2 7 v0 (j_c1 call 162 [.ref v0, .int v1, .int (j_k 2)] τ2 (fun x5 τ4 =>
      some (some (.int x5), τ4))))
     else j_oc τ2 7 v0 (j_c1 call 162 [.ref v0, .int v1, .int (j_k 4)] τ2 (fun x7 τ6 =>
     some (some (.int x7), τ6))))))
    else j_oc σ 7 v0 (j_c1 call 162 [.ref v0, .int v1, .int (j_k 2)] σ (fun x9 τ8 =>
    some (some (.int x9), τ8))))) := rfl

-- LastStirredModel.near(I)I
set_option maxRecDepth 1000000 in
set_option maxHeartbeats 8000000 in
theorem t_176_0 (call : Nat → List Value → Sto → Option Rr) (again : Nat → j_L → List Value → Sto → Option Rr) (σ : Sto) (v0 : Nat) (v1 : Int32) :
    j_seg k_176 h_176 call again 2000 0 [some (.ref v0), some (.int v1), none, none] [] σ =
    again 4 [some (.ref v0), some (.int v1), some (.int (j_k 0)), some (.int (j_k 0))] [] σ := rfl

set_option maxRecDepth 1000000 in
set_option maxHeartbeats 8000000 in
theorem t_176_4 (call : Nat → List Value → Sto → Option Rr) (again : Nat → j_L → List Value → Sto → Option Rr) (σ : Sto) (v0 : Nat) (v1 : Int32) (v2 : Int32) (v3 : Int32) :
    j_seg k_176 h_176 call again 2000 4 [some (.ref v0), some (.int v1), some (.int v2), some (.int v3)] [] σ =
    j_oc σ 7 v0 (if v3 < (s_I σ v0 13) then (if v3 = v1 then (again 4 [some (.ref v0), some (.int v1), some (.int (v2 + (j_k 0))), some (.int (v3 + (j_k 1)))] [] σ)
     else j_oc σ 7 v0 (j_c1 call 165 [.ref v0, .int (j_k 0), .int v3] σ (fun x2 τ1 =>
     if x2 = 0 then (j_oc τ1 7 v0 (j_c1 call 162 [.ref v0, .int (j_k 0), .int ((j_k 5) + v3)] τ1 (fun x4 τ3 =>
      j_oc τ3 7 v0 (j_c1 call 162 [.ref v0, .int (j_k 0), .int ((j_k 5) + v1)] τ3 (fun x6 τ5 =>
      j_oc τ5 7 v0 (j_c1 call 168 [.ref v0, .int x4, .int x6] τ5 (fun x8 τ7 =>
      if x8 < (j_k 3) then (again 4 [some (.ref v0), some (.int v1), some (.int (v2 + (j_k 1))), some (.int (v3 + (j_k 1)))] [] τ7)
      else again 4 [some (.ref v0), some (.int v1), some (.int (v2 + (j_k 0))), some (.int (v3 + (j_k 1)))] [] τ7)))))))
     else again 4 [some (.ref v0), some (.int v1), some (.int (v2 + (j_k 0))), some (.int (v3 + (j_k 1)))] [] τ1)))
    else some (some (.int v2), σ)) := rfl

-- LastStirredModel.gates()I
set_option maxRecDepth 1000000 in
set_option maxHeartbeats 8000000 in
theorem t_177_0 (call : Nat → List Value → Sto → Option Rr) (again : Nat → j_L → List Value → Sto → Option Rr) (σ : Sto) (v0 : Nat) :
    j_seg k_177 h_177 call again 2000 0 [some (.ref v0), none, none] [] σ =
    again 4 [some (.ref v0), some (.int (j_k 0)), some (.int (j_k 0))] [] σ := rfl

set_option maxRecDepth 1000000 in
set_option maxHeartbeats 8000000 in
theorem t_177_4 (call : Nat → List Value → Sto → Option Rr) (again : Nat → j_L → List Value → Sto → Option Rr) (σ : Sto) (v0 : Nat) (v1 : Int32) (v2 : Int32) :
    j_seg k_177 h_177 call again 2000 4 [some (.ref v0), some (.int v1), some (.int v2)] [] σ =
    j_oc σ 7 v0 (if v2 < (s_I σ v0 11) then (j_gP σ 7 v0 12 (fun a1 =>
     j_ia σ a1 v2 (
     if (s_I σ a1 v2.toNatClampNeg) = (j_k 4) then (again 4 [some (.ref v0), some (.int (v1 + (j_k 1))), some (.int (v2 + (j_k 1)))] [] σ)
     else again 4 [some (.ref v0), some (.int (v1 + (j_k 0))), some (.int (v2 + (j_k 1)))] [] σ)))
    else some (some (.int v1), σ)) := rfl

-- LastStirredModel.mark(II)I
set_option maxRecDepth 1000000 in
set_option maxHeartbeats 8000000 in
theorem t_178_0 (call : Nat → List Value → Sto → Option Rr) (again : Nat → j_L → List Value → Sto → Option Rr) (σ : Sto) (v0 : Nat) (v1 : Int32) (v2 : Int32) :
    j_seg k_178 h_178 call again 2000 0 [some (.ref v0), some (.int v1), some (.int v2)] [] σ =
    j_oc σ 7 v0 (j_c1 call 161 [.ref v0, .int v1] σ (fun x2 τ1 =>
    if x2 = 0 then (some (some (.int (j_k (-1))), τ1))
    else j_c1 call 127 [.int v2, .int (j_k 1), .int (j_k 5)] τ1 (fun x4 τ3 =>
    if x4 = 0 then (some (some (.int (j_k (-1))), τ3))
    else j_gP τ3 7 v0 14 (fun a5 =>
    j_ia τ3 a5 v1 (
    if (s_I τ3 a5 v1.toNatClampNeg) = v2 then (if v2 = (j_k 1) then (j_oc τ3 7 v0 (j_c1 call 165 [.ref v0, .int (j_k 0), .int v1] τ3 (fun x7 τ6 =>
      if x7 = 0 then (j_oc τ6 7 v0 (j_c1 call 162 [.ref v0, .int (j_k 0), .int (j_k 1)] τ6 (fun x9 τ8 =>
       if x9 = (j_k (-9)) then (some (some (.int (j_k (-9))), τ8))
       else j_oc τ8 7 v0 (j_c1 call 162 [.ref v0, .int (j_k 0), .int ((j_k 5) + v1)] τ8 (fun x11 τ10 =>
       j_oc τ10 7 v0 (j_c1 call 162 [.ref v0, .int (j_k 0), .int (j_k 2)] τ10 (fun x13 τ12 =>
       j_oc τ12 7 v0 (j_c1 call 168 [.ref v0, .int x11, .int x13] τ12 (fun x15 τ14 =>
       some (some (.int x15), τ14))))))))))
      else some (some (.int (j_k (-9))), τ6))))
     else if v2 = (j_k 2) then (j_oc τ3 7 v0 (j_c1 call 162 [.ref v0, .int (j_k 0), .int (j_k 0)] τ3 (fun x17 τ16 =>
      if (j_k 2) = 0 then none else
      some (some (.int (x17 - x17 / (j_k 2) * (j_k 2))), τ16))))
     else if v2 = (j_k 3) then (j_oc τ3 7 v0 (j_c1 call 175 [.ref v0, .int (j_k 0), .int v1] τ3 (fun x19 τ18 =>
      some (some (.int x19), τ18))))
     else if v2 = (j_k 4) then (j_oc τ3 7 v0 (j_c1 call 177 [.ref v0] τ3 (fun x21 τ20 =>
      some (some (.int x21), τ20))))
     else j_oc τ3 7 v0 (j_c1 call 165 [.ref v0, .int (j_k 0), .int v1] τ3 (fun x23 τ22 =>
     if x23 = 0 then (j_oc τ22 7 v0 (j_c1 call 176 [.ref v0, .int v1] τ22 (fun x25 τ24 =>
      some (some (.int x25), τ24))))
     else some (some (.int (j_k (-9))), τ22))))
    else if v2 = (j_k 1) then (j_oc τ3 7 v0 (j_c1 call 173 [.ref v0, .int v1] τ3 (fun x27 τ26 =>
     if x27 = 0 then (if v2 = (j_k 2) then (j_oc τ26 7 v0 (j_c1 call 174 [.ref v0, .int v1] τ26 (fun x29 τ28 =>
       if x29 = 0 then (j_oc τ28 7 v0 (j_c1 call 131 [.ref v0, .int (j_k 3)] τ28 (fun x31 τ30 =>
        some (some (.int x31), τ30))))
       else if v2 = (j_k 1) then (j_oc τ28 7 v0 (j_c1 call 165 [.ref v0, .int (j_k 0), .int v1] τ28 (fun x33 τ32 =>
        if x33 = 0 then (j_oc τ32 7 v0 (j_c1 call 162 [.ref v0, .int (j_k 0), .int (j_k 1)] τ32 (fun x35 τ34 =>
         if x35 = (j_k (-9)) then (some (some (.int (j_k (-9))), τ34))
         else j_oc τ34 7 v0 (j_c1 call 162 [.ref v0, .int (j_k 0), .int ((j_k 5) + v1)] τ34 (fun x37 τ36 =>
         j_oc τ36 7 v0 (j_c1 call 162 [.ref v0, .int (j_k 0), .int (j_k 2)] τ36 (fun x39 τ38 =>
         j_oc τ38 7 v0 (j_c1 call 168 [.ref v0, .int x37, .int x39] τ38 (fun x41 τ40 =>
         some (some (.int x41), τ40))))))))))
        else some (some (.int (j_k (-9))), τ32))))
       else if v2 = (j_k 2) then (j_oc τ28 7 v0 (j_c1 call 162 [.ref v0, .int (j_k 0), .int (j_k 0)] τ28 (fun x43 τ42 =>
        if (j_k 2) = 0 then none else
        some (some (.int (x43 - x43 / (j_k 2) * (j_k 2))), τ42))))
       else if v2 = (j_k 3) then (j_oc τ28 7 v0 (j_c1 call 175 [.ref v0, .int (j_k 0), .int v1] τ28 (fun x45 τ44 =>
        some (some (.int x45), τ44))))
       else if v2 = (j_k 4) then (j_oc τ28 7 v0 (j_c1 call 177 [.ref v0] τ28 (fun x47 τ46 =>
        some (some (.int x47), τ46))))
       else j_oc τ28 7 v0 (j_c1 call 165 [.ref v0, .int (j_k 0), .int v1] τ28 (fun x49 τ48 =>
       if x49 = 0 then (j_oc τ48 7 v0 (j_c1 call 176 [.ref v0, .int v1] τ48 (fun x51 τ50 =>
        some (some (.int x51), τ50))))
       else some (some (.int (j_k (-9))), τ48))))))
      else j_oc τ26 7 v0 (j_c1 call 131 [.ref v0, .int (j_k 3)] τ26 (fun x53 τ52 =>
      some (some (.int x53), τ52))))
     else if v2 = (j_k 1) then (j_oc τ26 7 v0 (j_c1 call 165 [.ref v0, .int (j_k 0), .int v1] τ26 (fun x55 τ54 =>
      if x55 = 0 then (j_oc τ54 7 v0 (j_c1 call 162 [.ref v0, .int (j_k 0), .int (j_k 1)] τ54 (fun x57 τ56 =>
       if x57 = (j_k (-9)) then (some (some (.int (j_k (-9))), τ56))
       else j_oc τ56 7 v0 (j_c1 call 162 [.ref v0, .int (j_k 0), .int ((j_k 5) + v1)] τ56 (fun x59 τ58 =>
       j_oc τ58 7 v0 (j_c1 call 162 [.ref v0, .int (j_k 0), .int (j_k 2)] τ58 (fun x61 τ60 =>
       j_oc τ60 7 v0 (j_c1 call 168 [.ref v0, .int x59, .int x61] τ60 (fun x63 τ62 =>
       some (some (.int x63), τ62))))))))))
      else some (some (.int (j_k (-9))), τ54))))
     else if v2 = (j_k 2) then (j_oc τ26 7 v0 (j_c1 call 162 [.ref v0, .int (j_k 0), .int (j_k 0)] τ26 (fun x65 τ64 =>
      if (j_k 2) = 0 then none else
      some (some (.int (x65 - x65 / (j_k 2) * (j_k 2))), τ64))))
     else if v2 = (j_k 3) then (j_oc τ26 7 v0 (j_c1 call 175 [.ref v0, .int (j_k 0), .int v1] τ26 (fun x67 τ66 =>
      some (some (.int x67), τ66))))
     else if v2 = (j_k 4) then (j_oc τ26 7 v0 (j_c1 call 177 [.ref v0] τ26 (fun x69 τ68 =>
      some (some (.int x69), τ68))))
     else j_oc τ26 7 v0 (j_c1 call 165 [.ref v0, .int (j_k 0), .int v1] τ26 (fun x71 τ70 =>
     if x71 = 0 then (j_oc τ70 7 v0 (j_c1 call 176 [.ref v0, .int v1] τ70 (fun x73 τ72 =>
      some (some (.int x73), τ72))))
     else some (some (.int (j_k (-9))), τ70))))))
    else if v2 = (j_k 2) then (j_oc τ3 7 v0 (j_c1 call 174 [.ref v0, .int v1] τ3 (fun x75 τ74 =>
     if x75 = 0 then (j_oc τ74 7 v0 (j_c1 call 131 [.ref v0, .int (j_k 3)] τ74 (fun x77 τ76 =>
      some (some (.int x77), τ76))))
     else if v2 = (j_k 1) then (j_oc τ74 7 v0 (j_c1 call 165 [.ref v0, .int (j_k 0), .int v1] τ74 (fun x79 τ78 =>
      if x79 = 0 then (j_oc τ78 7 v0 (j_c1 call 162 [.ref v0, .int (j_k 0), .int (j_k 1)] τ78 (fun x81 τ80 =>
       if x81 = (j_k (-9)) then (some (some (.int (j_k (-9))), τ80))
       else j_oc τ80 7 v0 (j_c1 call 162 [.ref v0, .int (j_k 0), .int ((j_k 5) + v1)] τ80 (fun x83 τ82 =>
       j_oc τ82 7 v0 (j_c1 call 162 [.ref v0, .int (j_k 0), .int (j_k 2)] τ82 (fun x85 τ84 =>
       j_oc τ84 7 v0 (j_c1 call 168 [.ref v0, .int x83, .int x85] τ84 (fun x87 τ86 =>
       some (some (.int x87), τ86))))))))))
      else some (some (.int (j_k (-9))), τ78))))
     else if v2 = (j_k 2) then (j_oc τ74 7 v0 (j_c1 call 162 [.ref v0, .int (j_k 0), .int (j_k 0)] τ74 (fun x89 τ88 =>
      if (j_k 2) = 0 then none else
      some (some (.int (x89 - x89 / (j_k 2) * (j_k 2))), τ88))))
     else if v2 = (j_k 3) then (j_oc τ74 7 v0 (j_c1 call 175 [.ref v0, .int (j_k 0), .int v1] τ74 (fun x91 τ90 =>
      some (some (.int x91), τ90))))
     else if v2 = (j_k 4) then (j_oc τ74 7 v0 (j_c1 call 177 [.ref v0] τ74 (fun x93 τ92 =>
      some (some (.int x93), τ92))))
     else j_oc τ74 7 v0 (j_c1 call 165 [.ref v0, .int (j_k 0), .int v1] τ74 (fun x95 τ94 =>
     if x95 = 0 then (j_oc τ94 7 v0 (j_c1 call 176 [.ref v0, .int v1] τ94 (fun x97 τ96 =>
      some (some (.int x97), τ96))))
     else some (some (.int (j_k (-9))), τ94))))))
    else j_oc τ3 7 v0 (j_c1 call 131 [.ref v0, .int (j_k 3)] τ3 (fun x99 τ98 =>
    some (some (.int x99), τ98)))))))) := rfl

-- LastStirredModel.last()I
set_option maxRecDepth 1000000 in
set_option maxHeartbeats 8000000 in
theorem t_179_0 (call : Nat → List Value → Sto → Option Rr) (again : Nat → j_L → List Value → Sto → Option Rr) (σ : Sto) (v0 : Nat) :
    j_seg k_179 h_179 call again 2000 0 [some (.ref v0)] [] σ =
    j_oc σ 7 v0 (j_c1 call 162 [.ref v0, .int (j_k 0), .int (j_k 2)] σ (fun x2 τ1 =>
    j_oc τ1 7 v0 (j_c1 call 162 [.ref v0, .int (j_k 0), .int (j_k 1)] τ1 (fun x4 τ3 =>
    j_oc τ3 7 v0 (j_c1 call 134 [.ref v0, .int x2, .int x4] τ3 (fun x6 τ5 =>
    some (some (.int x6), τ5))))))) := rfl

-- LastStirredModel.can(III)Z
set_option maxRecDepth 1000000 in
set_option maxHeartbeats 8000000 in
theorem t_180_0 (call : Nat → List Value → Sto → Option Rr) (again : Nat → j_L → List Value → Sto → Option Rr) (σ : Sto) (v0 : Nat) (v1 : Int32) (v2 : Int32) (v3 : Int32) :
    j_seg k_180 h_180 call again 2000 0 [some (.ref v0), some (.int v1), some (.int v2), some (.int v3)] [] σ =
    j_gP σ 7 v0 12 (fun a1 =>
    j_ia σ a1 v3 (
    if (s_I σ a1 v3.toNatClampNeg) = (j_k 1) then (if (j_k 0) = 0 ∨ (j_k 0) = 1 then some (some (.int (j_k 0)), σ) else none)
    else j_oc σ 7 v0 (j_c1 call 167 [.ref v0, .int v1, .int v3, .int v2] σ (fun x3 τ2 =>
    if x3 = (j_k (-9)) then (j_gP τ2 7 v0 12 (fun a4 =>
     j_ia τ2 a4 v3 (
     if (s_I τ2 a4 v3.toNatClampNeg) = (j_k 4) then (j_gP τ2 7 v0 14 (fun a5 =>
      j_ia τ2 a5 v2 (
      if (s_I τ2 a5 v2.toNatClampNeg) = (j_k 4) then (if (j_k 0) = 0 ∨ (j_k 0) = 1 then some (some (.int (j_k 0)), τ2) else none)
      else j_oc τ2 7 v0 (if (s_I τ2 v0 26) = 0 then (if (j_k 1) = 0 ∨ (j_k 1) = 1 then some (some (.int (j_k 1)), τ2) else none)
      else if (j_k 0) = 0 ∨ (j_k 0) = 1 then some (some (.int (j_k 0)), τ2) else none))))
     else if (j_k 1) = 0 ∨ (j_k 1) = 1 then some (some (.int (j_k 1)), τ2) else none)))
    else if (j_k 0) = 0 ∨ (j_k 0) = 1 then some (some (.int (j_k 0)), τ2) else none)))) := rfl

-- LastStirredModel.by(III)I
set_option maxRecDepth 1000000 in
set_option maxHeartbeats 8000000 in
theorem t_181_0 (call : Nat → List Value → Sto → Option Rr) (again : Nat → j_L → List Value → Sto → Option Rr) (σ : Sto) (v0 : Nat) (v1 : Int32) (v2 : Int32) (v3 : Int32) :
    j_seg k_181 h_181 call again 2000 0 [some (.ref v0), some (.int v1), some (.int v2), some (.int v3), none, none] [] σ =
    j_oc σ 7 v0 (if (s_I σ v0 10) = 0 then none else
    j_oc σ 7 v0 (if (s_I σ v0 10) = 0 then none else
    j_oc σ 7 v0 (j_c1 call 127 [.int ((v1 - v1 / (s_I σ v0 10) * (s_I σ v0 10)) + v2), .int (j_k 0), .int ((s_I σ v0 10) - (j_k 1))] σ (fun x2 τ1 =>
    if x2 = 0 then (some (some (.int (j_k (-9))), τ1))
    else j_oc τ1 7 v0 (j_oc τ1 7 v0 (if (s_I τ1 v0 10) = 0 then none else
    j_c1 call 127 [.int ((v1 / (s_I σ v0 10)) + v3), .int (j_k 0), .int (((s_I τ1 v0 11) / (s_I τ1 v0 10)) - (j_k 1))] τ1 (fun x4 τ3 =>
    if x4 = 0 then (some (some (.int (j_k (-9))), τ3))
    else j_oc τ3 7 v0 (some (some (.int (((s_I τ3 v0 10) * ((v1 / (s_I σ v0 10)) + v3)) + ((v1 - v1 / (s_I σ v0 10) * (s_I σ v0 10)) + v2))), τ3))))))))) := rfl
end
section
/-! ===== what each stretch of each method does (by program wip/gen) ===== -/
-- LastStirredModel.goesTo(III)Z
set_option maxRecDepth 1000000 in
set_option maxHeartbeats 8000000 in
theorem t_182_0 (call : Nat → List Value → Sto → Option Rr) (again : Nat → j_L → List Value → Sto → Option Rr) (σ : Sto) (v0 : Nat) (v1 : Int32) (v2 : Int32) (v3 : Int32) :
    j_seg k_182 h_182 call again 2000 0 [some (.ref v0), some (.int v1), some (.int v2), some (.int v3)] [] σ =
    if v3 = (j_k (-9)) then (if (j_k 0) = 0 ∨ (j_k 0) = 1 then some (some (.int (j_k 0)), σ) else none)
    else j_oc σ 7 v0 (j_c1 call 180 [.ref v0, .int v1, .int v2, .int v3] σ (fun x2 τ1 =>
    if x2 = 0 then (if (j_k 0) = 0 ∨ (j_k 0) = 1 then some (some (.int (j_k 0)), τ1) else none)
    else j_oc τ1 7 v0 (if (s_I τ1 v0 26) = 0 then (j_gP τ1 7 v0 12 (fun a3 =>
     j_ia τ1 a3 v3 (
     if (s_I τ1 a3 v3.toNatClampNeg) = (j_k 4) then (if (j_k 1) = 0 ∨ (j_k 1) = 1 then (if v0 < j_b then j_oc τ1 7 v0 (let τ4 : Sto := s_uI τ1 v0 26 (j_k 1);
      j_gP τ4 7 v0 12 (fun a5 =>
      j_ia τ4 a5 v3 (
      if (s_I τ4 a5 v3.toNatClampNeg) = (j_k 2) then (j_oc τ4 7 v0 (j_c0 call 163 [.ref v0, .int v1, .int ((j_k 5) + v2), .int (j_k (-9))] τ4 (fun τ6 =>
       j_oc τ6 7 v0 (j_c1 call 162 [.ref v0, .int v1, .int ((j_k 9) + v2)] τ6 (fun x8 τ7 =>
       j_oc τ7 7 v0 (j_c0 call 163 [.ref v0, .int v1, .int ((j_k 9) + v2), .int (x8 + (j_k 1))] τ7 (fun τ9 =>
       if v0 < j_b then j_oc τ9 7 v0 (let τ10 : Sto := s_uI τ9 v0 27 v3;
       if (j_k 1) = 0 ∨ (j_k 1) = 1 then some (some (.int (j_k 1)), τ10) else none) else none)))))))
      else j_oc τ4 7 v0 (j_c0 call 163 [.ref v0, .int v1, .int ((j_k 5) + v2), .int v3] τ4 (fun τ11 =>
      j_oc τ11 7 v0 (j_c1 call 162 [.ref v0, .int v1, .int ((j_k 9) + v2)] τ11 (fun x13 τ12 =>
      j_oc τ12 7 v0 (j_c0 call 163 [.ref v0, .int v1, .int ((j_k 9) + v2), .int (x13 + (j_k 1))] τ12 (fun τ14 =>
      if v0 < j_b then j_oc τ14 7 v0 (let τ15 : Sto := s_uI τ14 v0 27 v3;
      if (j_k 1) = 0 ∨ (j_k 1) = 1 then some (some (.int (j_k 1)), τ15) else none) else none))))))))) else none) else none)
     else if (j_k 0) = 0 ∨ (j_k 0) = 1 then (if v0 < j_b then j_oc τ1 7 v0 (let τ16 : Sto := s_uI τ1 v0 26 (j_k 0);
     j_gP τ16 7 v0 12 (fun a17 =>
     j_ia τ16 a17 v3 (
     if (s_I τ16 a17 v3.toNatClampNeg) = (j_k 2) then (j_oc τ16 7 v0 (j_c0 call 163 [.ref v0, .int v1, .int ((j_k 5) + v2), .int (j_k (-9))] τ16 (fun τ18 =>
      j_oc τ18 7 v0 (j_c1 call 162 [.ref v0, .int v1, .int ((j_k 9) + v2)] τ18 (fun x20 τ19 =>
      j_oc τ19 7 v0 (j_c0 call 163 [.ref v0, .int v1, .int ((j_k 9) + v2), .int (x20 + (j_k 1))] τ19 (fun τ21 =>
      if v0 < j_b then j_oc τ21 7 v0 (let τ22 : Sto := s_uI τ21 v0 27 v3;
      if (j_k 1) = 0 ∨ (j_k 1) = 1 then some (some (.int (j_k 1)), τ22) else none) else none)))))))
     else j_oc τ16 7 v0 (j_c0 call 163 [.ref v0, .int v1, .int ((j_k 5) + v2), .int v3] τ16 (fun τ23 =>
     j_oc τ23 7 v0 (j_c1 call 162 [.ref v0, .int v1, .int ((j_k 9) + v2)] τ23 (fun x25 τ24 =>
     j_oc τ24 7 v0 (j_c0 call 163 [.ref v0, .int v1, .int ((j_k 9) + v2), .int (x25 + (j_k 1))] τ24 (fun τ26 =>
     if v0 < j_b then j_oc τ26 7 v0 (let τ27 : Sto := s_uI τ26 v0 27 v3;
     if (j_k 1) = 0 ∨ (j_k 1) = 1 then some (some (.int (j_k 1)), τ27) else none) else none))))))))) else none) else none)))
    else if (j_k 1) = 0 ∨ (j_k 1) = 1 then (if v0 < j_b then j_oc τ1 7 v0 (let τ28 : Sto := s_uI τ1 v0 26 (j_k 1);
    j_gP τ28 7 v0 12 (fun a29 =>
    j_ia τ28 a29 v3 (
    if (s_I τ28 a29 v3.toNatClampNeg) = (j_k 2) then (j_oc τ28 7 v0 (j_c0 call 163 [.ref v0, .int v1, .int ((j_k 5) + v2), .int (j_k (-9))] τ28 (fun τ30 =>
     j_oc τ30 7 v0 (j_c1 call 162 [.ref v0, .int v1, .int ((j_k 9) + v2)] τ30 (fun x32 τ31 =>
     j_oc τ31 7 v0 (j_c0 call 163 [.ref v0, .int v1, .int ((j_k 9) + v2), .int (x32 + (j_k 1))] τ31 (fun τ33 =>
     if v0 < j_b then j_oc τ33 7 v0 (let τ34 : Sto := s_uI τ33 v0 27 v3;
     if (j_k 1) = 0 ∨ (j_k 1) = 1 then some (some (.int (j_k 1)), τ34) else none) else none)))))))
    else j_oc τ28 7 v0 (j_c0 call 163 [.ref v0, .int v1, .int ((j_k 5) + v2), .int v3] τ28 (fun τ35 =>
    j_oc τ35 7 v0 (j_c1 call 162 [.ref v0, .int v1, .int ((j_k 9) + v2)] τ35 (fun x37 τ36 =>
    j_oc τ36 7 v0 (j_c0 call 163 [.ref v0, .int v1, .int ((j_k 9) + v2), .int (x37 + (j_k 1))] τ36 (fun τ38 =>
    if v0 < j_b then j_oc τ38 7 v0 (let τ39 : Sto := s_uI τ38 v0 27 v3;
    if (j_k 1) = 0 ∨ (j_k 1) = 1 then some (some (.int (j_k 1)), τ39) else none) else none))))))))) else none) else none))) := rfl

-- LastStirredModel.becomesLast(III)V
set_option maxRecDepth 1000000 in
set_option maxHeartbeats 8000000 in
theorem t_183_0 (call : Nat → List Value → Sto → Option Rr) (again : Nat → j_L → List Value → Sto → Option Rr) (σ : Sto) (v0 : Nat) (v1 : Int32) (v2 : Int32) (v3 : Int32) :
    j_seg k_183 h_183 call again 2000 0 [some (.ref v0), some (.int v1), some (.int v2), some (.int v3)] [] σ =
    j_oc σ 7 v0 (j_c1 call 162 [.ref v0, .int v1, .int (j_k 1)] σ (fun x2 τ1 =>
    j_oc τ1 7 v0 (j_c0 call 163 [.ref v0, .int v1, .int (j_k 3), .int x2] τ1 (fun τ3 =>
    j_oc τ3 7 v0 (j_c1 call 162 [.ref v0, .int v1, .int (j_k 2)] τ3 (fun x5 τ4 =>
    j_oc τ4 7 v0 (j_c0 call 163 [.ref v0, .int v1, .int (j_k 4), .int x5] τ4 (fun τ6 =>
    j_oc τ6 7 v0 (j_c0 call 163 [.ref v0, .int v1, .int (j_k 1), .int v2] τ6 (fun τ7 =>
    j_oc τ7 7 v0 (j_c0 call 163 [.ref v0, .int v1, .int (j_k 2), .int v3] τ7 (fun τ8 =>
    some (none, τ8))))))))))))) := rfl

-- LastStirredModel.sign(I)I
set_option maxRecDepth 1000000 in
set_option maxHeartbeats 8000000 in
theorem t_184_0 (call : Nat → List Value → Sto → Option Rr) (again : Nat → j_L → List Value → Sto → Option Rr) (σ : Sto) (v0 : Int32) :
    j_seg k_184 h_184 call again 2000 0 [some (.int v0)] [] σ =
    if v0 < 0 then (some (some (.int (j_k (-1))), σ))
    else if 0 < v0 then (some (some (.int (j_k 1)), σ))
    else some (some (.int (j_k 0)), σ) := rfl

-- LastStirredModel.goes(III)Z
set_option maxRecDepth 1000000 in
set_option maxHeartbeats 8000000 in
theorem t_185_0 (call : Nat → List Value → Sto → Option Rr) (again : Nat → j_L → List Value → Sto → Option Rr) (σ : Sto) (v0 : Nat) (v1 : Int32) (v2 : Int32) (v3 : Int32) :
    j_seg k_185 h_185 call again 2000 0 [some (.ref v0), some (.int v1), some (.int v2), some (.int v3), none, none, none, none, none, none, none, none, none] [] σ =
    j_oc σ 7 v0 (j_c1 call 162 [.ref v0, .int v1, .int ((j_k 5) + v2)] σ (fun x2 τ1 =>
    j_oc τ1 7 v0 (if (s_I τ1 v0 10) = 0 then none else
    j_oc τ1 7 v0 (if (s_I τ1 v0 10) = 0 then none else
    j_oc τ1 7 v0 (if (s_I τ1 v0 10) = 0 then none else
    j_oc τ1 7 v0 (if (s_I τ1 v0 10) = 0 then none else
    j_c1 call 130 [.int ((v3 - v3 / (s_I τ1 v0 10) * (s_I τ1 v0 10)) - (x2 - x2 / (s_I τ1 v0 10) * (s_I τ1 v0 10)))] τ1 (fun x4 τ3 =>
    j_c1 call 130 [.int ((v3 / (s_I τ1 v0 10)) - (x2 / (s_I τ1 v0 10)))] τ3 (fun x6 τ5 =>
    j_oc τ5 7 v0 (j_c1 call 174 [.ref v0, .int v2] τ5 (fun x8 τ7 =>
    if x8 = 0 then (again 77 [some (.ref v0), some (.int v1), some (.int v2), some (.int v3), some (.int x2), some (.int ((v3 - v3 / (s_I τ1 v0 10) * (s_I τ1 v0 10)) - (x2 - x2 / (s_I τ1 v0 10) * (s_I τ1 v0 10)))), some (.int ((v3 / (s_I τ1 v0 10)) - (x2 / (s_I τ1 v0 10)))), some (.int (x4 + x6)), none, none, none, none, none] [] τ7)
    else j_oc τ7 7 v0 (j_c1 call 162 [.ref v0, .int v1, .int (j_k 0)] τ7 (fun x10 τ9 =>
    if (j_k 2) = 0 then none else
    if (x10 - x10 / (j_k 2) * (j_k 2)) = (j_k 1) then (if (j_k 0) = 0 ∨ (j_k 0) = 1 then some (some (.int (j_k 0)), τ9) else none)
    else again 77 [some (.ref v0), some (.int v1), some (.int v2), some (.int v3), some (.int x2), some (.int ((v3 - v3 / (s_I τ1 v0 10) * (s_I τ1 v0 10)) - (x2 - x2 / (s_I τ1 v0 10) * (s_I τ1 v0 10)))), some (.int ((v3 / (s_I τ1 v0 10)) - (x2 / (s_I τ1 v0 10)))), some (.int (x4 + x6)), none, none, none, none, none] [] τ9)))))))))))) := rfl

set_option maxRecDepth 1000000 in
set_option maxHeartbeats 8000000 in
theorem t_185_77 (call : Nat → List Value → Sto → Option Rr) (again : Nat → j_L → List Value → Sto → Option Rr) (σ : Sto) (v0 : Nat) (v1 : Int32) (v2 : Int32) (v3 : Int32) (v4 : Int32) (v5 : Int32) (v6 : Int32) (v7 : Int32) :
    j_seg k_185 h_185 call again 2000 77 [some (.ref v0), some (.int v1), some (.int v2), some (.int v3), some (.int v4), some (.int v5), some (.int v6), some (.int v7), none, none, none, none, none] [] σ =
    j_oc σ 7 v0 (j_c1 call 173 [.ref v0, .int v2] σ (fun x2 τ1 =>
    if x2 = 0 then (if v7 < (j_k 2) then (if (j_k 0) = 0 ∨ (j_k 0) = 1 then some (some (.int (j_k 0)), τ1) else none)
     else again 112 [some (.ref v0), some (.int v1), some (.int v2), some (.int v3), some (.int v4), some (.int v5), some (.int v6), some (.int v7), none, none, none, none, none] [] τ1)
    else j_gP τ1 7 v0 14 (fun a3 =>
    j_ia τ1 a3 v2 (
    if (s_I τ1 a3 v2.toNatClampNeg) = (j_k 5) then (if (j_k 2) < v7 then (if (j_k 0) = 0 ∨ (j_k 0) = 1 then some (some (.int (j_k 0)), τ1) else none)
     else again 112 [some (.ref v0), some (.int v1), some (.int v2), some (.int v3), some (.int v4), some (.int v5), some (.int v6), some (.int v7), none, none, none, none, none] [] τ1)
    else again 112 [some (.ref v0), some (.int v1), some (.int v2), some (.int v3), some (.int v4), some (.int v5), some (.int v6), some (.int v7), none, none, none, none, none] [] τ1)))) := rfl

set_option maxRecDepth 1000000 in
set_option maxHeartbeats 8000000 in
theorem t_185_112 (call : Nat → List Value → Sto → Option Rr) (again : Nat → j_L → List Value → Sto → Option Rr) (σ : Sto) (v0 : Nat) (v1 : Int32) (v2 : Int32) (v3 : Int32) (v4 : Int32) (v5 : Int32) (v6 : Int32) (v7 : Int32) :
    j_seg k_185 h_185 call again 2000 112 [some (.ref v0), some (.int v1), some (.int v2), some (.int v3), some (.int v4), some (.int v5), some (.int v6), some (.int v7), none, none, none, none, none] [] σ =
    j_oc σ 7 v0 (j_c1 call 173 [.ref v0, .int v2] σ (fun x2 τ1 =>
    if x2 = 0 then (again 127 [some (.ref v0), some (.int v1), some (.int v2), some (.int v3), some (.int v4), some (.int v5), some (.int v6), some (.int v7), some (.int (j_k 1)), none, none, none, none] [] τ1)
    else again 127 [some (.ref v0), some (.int v1), some (.int v2), some (.int v3), some (.int v4), some (.int v5), some (.int v6), some (.int v7), some (.int (j_k (-1))), none, none, none, none] [] τ1)) := rfl

set_option maxRecDepth 1000000 in
set_option maxHeartbeats 8000000 in
theorem t_185_127 (call : Nat → List Value → Sto → Option Rr) (again : Nat → j_L → List Value → Sto → Option Rr) (σ : Sto) (v0 : Nat) (v1 : Int32) (v2 : Int32) (v3 : Int32) (v4 : Int32) (v5 : Int32) (v6 : Int32) (v7 : Int32) (v8 : Int32) :
    j_seg k_185 h_185 call again 2000 127 [some (.ref v0), some (.int v1), some (.int v2), some (.int v3), some (.int v4), some (.int v5), some (.int v6), some (.int v7), some (.int v8), none, none, none, none] [] σ =
    j_c1 call 130 [.int v5] σ (fun x2 τ1 =>
    j_c1 call 130 [.int v6] τ1 (fun x4 τ3 =>
    if x2 < x4 then (again 147 [some (.ref v0), some (.int v1), some (.int v2), some (.int v3), some (.int v4), some (.int v5), some (.int v6), some (.int v7), some (.int v8), some (.int (j_k 0)), none, none, none] [] τ3)
    else again 147 [some (.ref v0), some (.int v1), some (.int v2), some (.int v3), some (.int v4), some (.int v5), some (.int v6), some (.int v7), some (.int v8), some (.int (j_k 1)), none, none, none] [] τ3)) := rfl

set_option maxRecDepth 1000000 in
set_option maxHeartbeats 8000000 in
theorem t_185_147 (call : Nat → List Value → Sto → Option Rr) (again : Nat → j_L → List Value → Sto → Option Rr) (σ : Sto) (v0 : Nat) (v1 : Int32) (v2 : Int32) (v3 : Int32) (v4 : Int32) (v5 : Int32) (v6 : Int32) (v7 : Int32) (v8 : Int32) (v9 : Int32) :
    j_seg k_185 h_185 call again 2000 147 [some (.ref v0), some (.int v1), some (.int v2), some (.int v3), some (.int v4), some (.int v5), some (.int v6), some (.int v7), some (.int v8), some (.int v9), none, none, none] [] σ =
    j_c1 call 184 [.int v5] σ (fun x2 τ1 =>
    j_c1 call 184 [.int v6] τ1 (fun x4 τ3 =>
    if v9 = 0 then (j_oc τ3 7 v0 (j_c1 call 181 [.ref v0, .int v4, .int (j_k 0), .int (v8 * x4)] τ3 (fun x6 τ5 =>
     j_oc τ5 7 v0 (j_c1 call 182 [.ref v0, .int v1, .int v2, .int x6] τ5 (fun x8 τ7 =>
     again 220 [some (.ref v0), some (.int v1), some (.int v2), some (.int v3), some (.int v4), some (.int v5), some (.int v6), some (.int v7), some (.int v8), some (.int v9), some (.int (v8 * x2)), some (.int (v8 * x4)), some (.int x8)] [] τ7)))))
    else if (v8 * x2) = 0 then (again 220 [some (.ref v0), some (.int v1), some (.int v2), some (.int v3), some (.int v4), some (.int v5), some (.int v6), some (.int v7), some (.int v8), some (.int v9), some (.int (v8 * x2)), some (.int (v8 * x4)), some (.int (j_k 0))] [] τ3)
    else j_oc τ3 7 v0 (j_c1 call 181 [.ref v0, .int v4, .int (v8 * x2), .int (j_k 0)] τ3 (fun x10 τ9 =>
    j_oc τ9 7 v0 (j_c1 call 182 [.ref v0, .int v1, .int v2, .int x10] τ9 (fun x12 τ11 =>
    if x12 = 0 then (again 220 [some (.ref v0), some (.int v1), some (.int v2), some (.int v3), some (.int v4), some (.int v5), some (.int v6), some (.int v7), some (.int v8), some (.int v9), some (.int (v8 * x2)), some (.int (v8 * x4)), some (.int (j_k 0))] [] τ11)
    else again 220 [some (.ref v0), some (.int v1), some (.int v2), some (.int v3), some (.int v4), some (.int v5), some (.int v6), some (.int v7), some (.int v8), some (.int v9), some (.int (v8 * x2)), some (.int (v8 * x4)), some (.int (j_k 1))] [] τ11)))))) := rfl

set_option maxRecDepth 1000000 in
set_option maxHeartbeats 8000000 in
theorem t_185_220 (call : Nat → List Value → Sto → Option Rr) (again : Nat → j_L → List Value → Sto → Option Rr) (σ : Sto) (v0 : Nat) (v1 : Int32) (v2 : Int32) (v3 : Int32) (v4 : Int32) (v5 : Int32) (v6 : Int32) (v7 : Int32) (v8 : Int32) (v9 : Int32) (v10 : Int32) (v11 : Int32) (v12 : Int32) :
    j_seg k_185 h_185 call again 2000 220 [some (.ref v0), some (.int v1), some (.int v2), some (.int v3), some (.int v4), some (.int v5), some (.int v6), some (.int v7), some (.int v8), some (.int v9), some (.int v10), some (.int v11), some (.int v12)] [] σ =
    if v12 = 0 then (if v9 = 0 then (if v10 = 0 then (if (j_k 0) = 0 ∨ (j_k 0) = 1 then some (some (.int (j_k 0)), σ) else none)
      else j_oc σ 7 v0 (j_c1 call 181 [.ref v0, .int v4, .int v10, .int (j_k 0)] σ (fun x2 τ1 =>
      j_oc τ1 7 v0 (j_c1 call 182 [.ref v0, .int v1, .int v2, .int x2] τ1 (fun x4 τ3 =>
      if x4 = 0 then (if (j_k 0) = 0 ∨ (j_k 0) = 1 then some (some (.int (j_k 0)), τ3) else none)
      else if (j_k 1) = 0 ∨ (j_k 1) = 1 then some (some (.int (j_k 1)), τ3) else none)))))
     else if v11 = 0 then (if (j_k 0) = 0 ∨ (j_k 0) = 1 then some (some (.int (j_k 0)), σ) else none)
     else j_oc σ 7 v0 (j_c1 call 181 [.ref v0, .int v4, .int (j_k 0), .int v11] σ (fun x6 τ5 =>
     j_oc τ5 7 v0 (j_c1 call 182 [.ref v0, .int v1, .int v2, .int x6] τ5 (fun x8 τ7 =>
     if x8 = 0 then (if (j_k 0) = 0 ∨ (j_k 0) = 1 then some (some (.int (j_k 0)), τ7) else none)
     else if (j_k 1) = 0 ∨ (j_k 1) = 1 then some (some (.int (j_k 1)), τ7) else none)))))
    else if (j_k 1) = 0 ∨ (j_k 1) = 1 then some (some (.int (j_k 1)), σ) else none := rfl

-- LastStirredModel.stepOf(I)I
set_option maxRecDepth 1000000 in
set_option maxHeartbeats 8000000 in
theorem t_186_0 (call : Nat → List Value → Sto → Option Rr) (again : Nat → j_L → List Value → Sto → Option Rr) (σ : Sto) (v0 : Nat) (v1 : Int32) :
    j_seg k_186 h_186 call again 2000 0 [some (.ref v0), some (.int v1), none, none, none, none] [] σ =
    j_oc σ 7 v0 (j_c1 call 162 [.ref v0, .int v1, .int (j_k 1)] σ (fun x2 τ1 =>
    if x2 = (j_k (-9)) then (j_oc τ1 7 v0 (j_c1 call 162 [.ref v0, .int v1, .int (j_k 0)] τ1 (fun x4 τ3 =>
     j_oc τ3 7 v0 (j_c0 call 163 [.ref v0, .int v1, .int (j_k 0), .int (x4 + (j_k 1))] τ3 (fun τ5 =>
     some (some (.int (j_k 0)), τ5))))))
    else again 23 [some (.ref v0), some (.int v1), some (.int (j_k 0)), some (.int (j_k (-9))), some (.int (j_k (-9))), some (.int (j_k 0))] [] τ1)) := rfl

set_option maxRecDepth 1000000 in
set_option maxHeartbeats 8000000 in
theorem t_186_23 (call : Nat → List Value → Sto → Option Rr) (again : Nat → j_L → List Value → Sto → Option Rr) (σ : Sto) (v0 : Nat) (v1 : Int32) (v2 : Int32) (v3 : Int32) (v4 : Int32) (v5 : Int32) :
    j_seg k_186 h_186 call again 2000 23 [some (.ref v0), some (.int v1), some (.int v2), some (.int v3), some (.int v4), some (.int v5)] [] σ =
    j_oc σ 7 v0 (if v5 < (s_I σ v0 13) then (j_gP σ 7 v0 28 (fun a1 =>
     j_oc σ 7 v0 (j_c1 call 175 [.ref v0, .int v1, .int v5] σ (fun x3 τ2 =>
     j_is τ2 a1 v5 (let τ4 : Sto := s_uI τ2 a1 v5.toNatClampNeg x3;
     again 23 [some (.ref v0), some (.int v1), some (.int v2), some (.int v3), some (.int v4), some (.int (v5 + (j_k 1)))] [] τ4)))))
    else if (j_k 0) = 0 ∨ (j_k 0) = 1 then (if v0 < j_b then j_oc σ 7 v0 (let τ5 : Sto := s_uI σ v0 26 (j_k 0);
    again 60 [some (.ref v0), some (.int v1), some (.int v2), some (.int v3), some (.int v4), some (.int (j_k 0))] [] τ5) else none) else none) := rfl

set_option maxRecDepth 1000000 in
set_option maxHeartbeats 8000000 in
theorem t_186_60 (call : Nat → List Value → Sto → Option Rr) (again : Nat → j_L → List Value → Sto → Option Rr) (σ : Sto) (v0 : Nat) (v1 : Int32) (v2 : Int32) (v3 : Int32) (v4 : Int32) (v5 : Int32) :
    j_seg k_186 h_186 call again 2000 60 [some (.ref v0), some (.int v1), some (.int v2), some (.int v3), some (.int v4), some (.int v5)] [] σ =
    j_oc σ 7 v0 (if v5 < (s_I σ v0 13) then (j_oc σ 7 v0 (j_c1 call 165 [.ref v0, .int v1, .int v5] σ (fun x2 τ1 =>
     if x2 = 0 then (j_oc τ1 7 v0 (j_c1 call 162 [.ref v0, .int v1, .int (j_k 1)] τ1 (fun x4 τ3 =>
      if v5 = x4 then (again 60 [some (.ref v0), some (.int v1), some (.int v2), some (.int v3), some (.int v4), some (.int (v5 + (j_k 1)))] [] τ3)
      else j_gP τ3 7 v0 28 (fun a5 =>
      j_ia τ3 a5 v5 (
      j_oc τ3 7 v0 (j_c1 call 185 [.ref v0, .int v1, .int v5, .int (s_I τ3 a5 v5.toNatClampNeg)] τ3 (fun x7 τ6 =>
      if x7 = 0 then (again 60 [some (.ref v0), some (.int v1), some (.int v2), some (.int v3), some (.int v4), some (.int (v5 + (j_k 1)))] [] τ6)
      else j_oc τ6 7 v0 (again 60 [some (.ref v0), some (.int v1), some (.int (v2 ||| ((j_k 1) <<< (v5 &&& 31)))), some (.int (s_I τ6 v0 27)), some (.int v5), some (.int (v5 + (j_k 1)))] [] τ6))))))))
     else again 60 [some (.ref v0), some (.int v1), some (.int v2), some (.int v3), some (.int v4), some (.int (v5 + (j_k 1)))] [] τ1)))
    else if v4 = (j_k (-9)) then (j_oc σ 7 v0 (j_c1 call 162 [.ref v0, .int v1, .int (j_k 0)] σ (fun x9 τ8 =>
     j_oc τ8 7 v0 (j_c0 call 163 [.ref v0, .int v1, .int (j_k 0), .int (x9 + (j_k 1))] τ8 (fun τ10 =>
     some (some (.int v2), τ10))))))
    else j_oc σ 7 v0 (j_c0 call 183 [.ref v0, .int v1, .int v4, .int v3] σ (fun τ11 =>
    j_oc τ11 7 v0 (j_c1 call 162 [.ref v0, .int v1, .int (j_k 0)] τ11 (fun x13 τ12 =>
    j_oc τ12 7 v0 (j_c0 call 163 [.ref v0, .int v1, .int (j_k 0), .int (x13 + (j_k 1))] τ12 (fun τ14 =>
    some (some (.int v2), τ14)))))))) := rfl

-- LastStirredModel.runs(I)I
set_option maxRecDepth 1000000 in
set_option maxHeartbeats 8000000 in
theorem t_187_0 (call : Nat → List Value → Sto → Option Rr) (again : Nat → j_L → List Value → Sto → Option Rr) (σ : Sto) (v0 : Nat) (v1 : Int32) :
    j_seg k_187 h_187 call again 2000 0 [some (.ref v0), some (.int v1), none, none, none] [] σ =
    if v0 < j_b then j_oc σ 7 v0 (let τ1 : Sto := s_uI σ v0 30 (j_k 0);
    again 9 [some (.ref v0), some (.int v1), some (.int (j_k 0)), some (.int (j_k 0)), none] [] τ1) else none := rfl

set_option maxRecDepth 1000000 in
set_option maxHeartbeats 8000000 in
theorem t_187_9 (call : Nat → List Value → Sto → Option Rr) (again : Nat → j_L → List Value → Sto → Option Rr) (σ : Sto) (v0 : Nat) (v1 : Int32) (v2 : Int32) (v3 : Int32) :
    j_seg k_187 h_187 call again 2000 9 [some (.ref v0), some (.int v1), some (.int v2), some (.int v3), none] [] σ =
    if v2 < (j_k 2) then (if v3 < (j_k 40) then (j_oc σ 7 v0 (j_c1 call 186 [.ref v0, .int v1] σ (fun x2 τ1 =>
      j_oc τ1 7 v0 (if v0 < j_b then j_oc τ1 7 v0 (let τ3 : Sto := s_uI τ1 v0 30 ((s_I τ1 v0 30) ||| x2);
      if x2 = 0 then (again 9 [some (.ref v0), some (.int v1), some (.int (v2 + (j_k 1))), some (.int (v3 + (j_k 1))), none] [] τ3)
      else again 9 [some (.ref v0), some (.int v1), some (.int (j_k 0)), some (.int (v3 + (j_k 1))), none] [] τ3) else none))))
     else if v2 = (j_k 2) then (if (j_k 1) = 0 ∨ (j_k 1) = 1 then (if v0 < j_b then j_oc σ 7 v0 (let τ4 : Sto := s_uI σ v0 29 (j_k 1);
      some (some (.int v3), τ4)) else none) else none)
     else if (j_k 0) = 0 ∨ (j_k 0) = 1 then (if v0 < j_b then j_oc σ 7 v0 (let τ5 : Sto := s_uI σ v0 29 (j_k 0);
     some (some (.int v3), τ5)) else none) else none)
    else if v2 = (j_k 2) then (if (j_k 1) = 0 ∨ (j_k 1) = 1 then (if v0 < j_b then j_oc σ 7 v0 (let τ6 : Sto := s_uI σ v0 29 (j_k 1);
     some (some (.int v3), τ6)) else none) else none)
    else if (j_k 0) = 0 ∨ (j_k 0) = 1 then (if v0 < j_b then j_oc σ 7 v0 (let τ7 : Sto := s_uI σ v0 29 (j_k 0);
    some (some (.int v3), τ7)) else none) else none := rfl

-- LastStirredModel.stirs(III)Z
set_option maxRecDepth 1000000 in
set_option maxHeartbeats 8000000 in
theorem t_188_0 (call : Nat → List Value → Sto → Option Rr) (again : Nat → j_L → List Value → Sto → Option Rr) (σ : Sto) (v0 : Nat) (v1 : Int32) (v2 : Int32) (v3 : Int32) :
    j_seg k_188 h_188 call again 2000 0 [some (.ref v0), some (.int v1), some (.int v2), some (.int v3), none] [] σ =
    j_oc σ 7 v0 (j_c1 call 165 [.ref v0, .int v1, .int v2] σ (fun x2 τ1 =>
    if x2 = 0 then (if (j_k 0) = 0 ∨ (j_k 0) = 1 then (if v0 < j_b then j_oc τ1 7 v0 (let τ3 : Sto := s_uI τ1 v0 26 (j_k 0);
     j_oc τ3 7 v0 (j_c1 call 162 [.ref v0, .int v1, .int ((j_k 5) + v2)] τ3 (fun x5 τ4 =>
     if v3 = (j_k 1) then (if v3 = 0 then (j_oc τ4 7 v0 (j_c1 call 181 [.ref v0, .int x5, .int (j_k 1), .int (j_k (-1))] τ4 (fun x7 τ6 =>
       j_oc τ6 7 v0 (j_c1 call 182 [.ref v0, .int v1, .int v2, .int x7] τ6 (fun x9 τ8 =>
       if x9 = 0 then (if (j_k 0) = 0 ∨ (j_k 0) = 1 then some (some (.int (j_k 0)), τ8) else none)
       else j_oc τ8 7 v0 (j_c0 call 183 [.ref v0, .int v1, .int v2, .int x7] τ8 (fun τ10 =>
       if (j_k 1) = 0 ∨ (j_k 1) = 1 then some (some (.int (j_k 1)), τ10) else none)))))))
      else if v3 = (j_k 2) then (j_oc τ4 7 v0 (j_c1 call 181 [.ref v0, .int x5, .int (j_k 1), .int (j_k 1)] τ4 (fun x12 τ11 =>
       j_oc τ11 7 v0 (j_c1 call 182 [.ref v0, .int v1, .int v2, .int x12] τ11 (fun x14 τ13 =>
       if x14 = 0 then (if (j_k 0) = 0 ∨ (j_k 0) = 1 then some (some (.int (j_k 0)), τ13) else none)
       else j_oc τ13 7 v0 (j_c0 call 183 [.ref v0, .int v1, .int v2, .int x12] τ13 (fun τ15 =>
       if (j_k 1) = 0 ∨ (j_k 1) = 1 then some (some (.int (j_k 1)), τ15) else none)))))))
      else j_oc τ4 7 v0 (j_c1 call 181 [.ref v0, .int x5, .int (j_k 1), .int (j_k 0)] τ4 (fun x17 τ16 =>
      j_oc τ16 7 v0 (j_c1 call 182 [.ref v0, .int v1, .int v2, .int x17] τ16 (fun x19 τ18 =>
      if x19 = 0 then (if (j_k 0) = 0 ∨ (j_k 0) = 1 then some (some (.int (j_k 0)), τ18) else none)
      else j_oc τ18 7 v0 (j_c0 call 183 [.ref v0, .int v1, .int v2, .int x17] τ18 (fun τ20 =>
      if (j_k 1) = 0 ∨ (j_k 1) = 1 then some (some (.int (j_k 1)), τ20) else none)))))))
     else if v3 = (j_k 3) then (if v3 = 0 then (j_oc τ4 7 v0 (j_c1 call 181 [.ref v0, .int x5, .int (j_k (-1)), .int (j_k (-1))] τ4 (fun x22 τ21 =>
       j_oc τ21 7 v0 (j_c1 call 182 [.ref v0, .int v1, .int v2, .int x22] τ21 (fun x24 τ23 =>
       if x24 = 0 then (if (j_k 0) = 0 ∨ (j_k 0) = 1 then some (some (.int (j_k 0)), τ23) else none)
       else j_oc τ23 7 v0 (j_c0 call 183 [.ref v0, .int v1, .int v2, .int x22] τ23 (fun τ25 =>
       if (j_k 1) = 0 ∨ (j_k 1) = 1 then some (some (.int (j_k 1)), τ25) else none)))))))
      else if v3 = (j_k 2) then (j_oc τ4 7 v0 (j_c1 call 181 [.ref v0, .int x5, .int (j_k (-1)), .int (j_k 1)] τ4 (fun x27 τ26 =>
       j_oc τ26 7 v0 (j_c1 call 182 [.ref v0, .int v1, .int v2, .int x27] τ26 (fun x29 τ28 =>
       if x29 = 0 then (if (j_k 0) = 0 ∨ (j_k 0) = 1 then some (some (.int (j_k 0)), τ28) else none)
       else j_oc τ28 7 v0 (j_c0 call 183 [.ref v0, .int v1, .int v2, .int x27] τ28 (fun τ30 =>
       if (j_k 1) = 0 ∨ (j_k 1) = 1 then some (some (.int (j_k 1)), τ30) else none)))))))
      else j_oc τ4 7 v0 (j_c1 call 181 [.ref v0, .int x5, .int (j_k (-1)), .int (j_k 0)] τ4 (fun x32 τ31 =>
      j_oc τ31 7 v0 (j_c1 call 182 [.ref v0, .int v1, .int v2, .int x32] τ31 (fun x34 τ33 =>
      if x34 = 0 then (if (j_k 0) = 0 ∨ (j_k 0) = 1 then some (some (.int (j_k 0)), τ33) else none)
      else j_oc τ33 7 v0 (j_c0 call 183 [.ref v0, .int v1, .int v2, .int x32] τ33 (fun τ35 =>
      if (j_k 1) = 0 ∨ (j_k 1) = 1 then some (some (.int (j_k 1)), τ35) else none)))))))
     else if v3 = 0 then (j_oc τ4 7 v0 (j_c1 call 181 [.ref v0, .int x5, .int (j_k 0), .int (j_k (-1))] τ4 (fun x37 τ36 =>
      j_oc τ36 7 v0 (j_c1 call 182 [.ref v0, .int v1, .int v2, .int x37] τ36 (fun x39 τ38 =>
      if x39 = 0 then (if (j_k 0) = 0 ∨ (j_k 0) = 1 then some (some (.int (j_k 0)), τ38) else none)
      else j_oc τ38 7 v0 (j_c0 call 183 [.ref v0, .int v1, .int v2, .int x37] τ38 (fun τ40 =>
      if (j_k 1) = 0 ∨ (j_k 1) = 1 then some (some (.int (j_k 1)), τ40) else none)))))))
     else if v3 = (j_k 2) then (j_oc τ4 7 v0 (j_c1 call 181 [.ref v0, .int x5, .int (j_k 0), .int (j_k 1)] τ4 (fun x42 τ41 =>
      j_oc τ41 7 v0 (j_c1 call 182 [.ref v0, .int v1, .int v2, .int x42] τ41 (fun x44 τ43 =>
      if x44 = 0 then (if (j_k 0) = 0 ∨ (j_k 0) = 1 then some (some (.int (j_k 0)), τ43) else none)
      else j_oc τ43 7 v0 (j_c0 call 183 [.ref v0, .int v1, .int v2, .int x42] τ43 (fun τ45 =>
      if (j_k 1) = 0 ∨ (j_k 1) = 1 then some (some (.int (j_k 1)), τ45) else none)))))))
     else j_oc τ4 7 v0 (j_c1 call 181 [.ref v0, .int x5, .int (j_k 0), .int (j_k 0)] τ4 (fun x47 τ46 =>
     j_oc τ46 7 v0 (j_c1 call 182 [.ref v0, .int v1, .int v2, .int x47] τ46 (fun x49 τ48 =>
     if x49 = 0 then (if (j_k 0) = 0 ∨ (j_k 0) = 1 then some (some (.int (j_k 0)), τ48) else none)
     else j_oc τ48 7 v0 (j_c0 call 183 [.ref v0, .int v1, .int v2, .int x47] τ48 (fun τ50 =>
     if (j_k 1) = 0 ∨ (j_k 1) = 1 then some (some (.int (j_k 1)), τ50) else none))))))))) else none) else none)
    else if (j_k 0) = 0 ∨ (j_k 0) = 1 then some (some (.int (j_k 0)), τ1) else none)) := rfl

-- LastStirredModel.drives(II)Z
set_option maxRecDepth 1000000 in
set_option maxHeartbeats 8000000 in
theorem t_189_0 (call : Nat → List Value → Sto → Option Rr) (again : Nat → j_L → List Value → Sto → Option Rr) (σ : Sto) (v0 : Nat) (v1 : Int32) (v2 : Int32) :
    j_seg k_189 h_189 call again 2000 0 [some (.ref v0), some (.int v1), some (.int v2)] [] σ =
    if (j_k 4) = 0 then none else
    if (j_k 4) = 0 then none else
    j_oc σ 7 v0 (j_c1 call 188 [.ref v0, .int v1, .int (v2 / (j_k 4)), .int (v2 - v2 / (j_k 4) * (j_k 4))] σ (fun x2 τ1 =>
    if x2 = 0 then (if (j_k 0) = 0 ∨ (j_k 0) = 1 then some (some (.int (j_k 0)), τ1) else none)
    else j_oc τ1 7 v0 (j_c1 call 187 [.ref v0, .int v1] τ1 (fun x4 τ3 =>
    if (j_k 1) = 0 ∨ (j_k 1) = 1 then some (some (.int (j_k 1)), τ3) else none)))) := rfl

-- LastStirredModel.stir(II)I
set_option maxRecDepth 1000000 in
set_option maxHeartbeats 8000000 in
theorem t_190_0 (call : Nat → List Value → Sto → Option Rr) (again : Nat → j_L → List Value → Sto → Option Rr) (σ : Sto) (v0 : Nat) (v1 : Int32) (v2 : Int32) :
    j_seg k_190 h_190 call again 2000 0 [some (.ref v0), some (.int v1), some (.int v2)] [] σ =
    j_oc σ 7 v0 (j_c1 call 161 [.ref v0, .int v1] σ (fun x2 τ1 =>
    if x2 = 0 then (some (some (.int (j_k (-1))), τ1))
    else j_c1 call 127 [.int v2, .int (j_k 0), .int (j_k 3)] τ1 (fun x4 τ3 =>
    if x4 = 0 then (some (some (.int (j_k (-1))), τ3))
    else j_oc τ3 7 v0 (j_c1 call 188 [.ref v0, .int (j_k 0), .int v1, .int v2] τ3 (fun x6 τ5 =>
    if x6 = 0 then (some (some (.int (j_k (-4))), τ5))
    else j_oc τ5 7 v0 (some (some (.int (s_I τ5 v0 27)), τ5))))))) := rfl

-- LastStirredModel.go(I)I
set_option maxRecDepth 1000000 in
set_option maxHeartbeats 8000000 in
theorem t_191_0 (call : Nat → List Value → Sto → Option Rr) (again : Nat → j_L → List Value → Sto → Option Rr) (σ : Sto) (v0 : Nat) (v1 : Int32) :
    j_seg k_191 h_191 call again 2000 0 [some (.ref v0), some (.int v1), none, none] [] σ =
    j_c1 call 127 [.int v1, .int (j_k 0), .int (j_k 40)] σ (fun x2 τ1 =>
    if x2 = 0 then (some (some (.int (j_k (-1))), τ1))
    else j_oc τ1 7 v0 (if (s_I τ1 v0 11) = 0 then (some (some (.int (j_k (-4))), τ1))
    else j_oc τ1 7 v0 (j_c1 call 162 [.ref v0, .int (j_k 0), .int (j_k 0)] τ1 (fun x4 τ3 =>
    if (j_k 10000) < (x4 + v1) then (some (some (.int (j_k (-6))), τ3))
    else again 43 [some (.ref v0), some (.int v1), some (.int (j_k 0)), some (.int (j_k 0))] [] τ3)))) := rfl

set_option maxRecDepth 1000000 in
set_option maxHeartbeats 8000000 in
theorem t_191_43 (call : Nat → List Value → Sto → Option Rr) (again : Nat → j_L → List Value → Sto → Option Rr) (σ : Sto) (v0 : Nat) (v1 : Int32) (v2 : Int32) (v3 : Int32) :
    j_seg k_191 h_191 call again 2000 43 [some (.ref v0), some (.int v1), some (.int v2), some (.int v3)] [] σ =
    if v3 < v1 then (j_oc σ 7 v0 (j_c1 call 186 [.ref v0, .int (j_k 0)] σ (fun x2 τ1 =>
     again 43 [some (.ref v0), some (.int v1), some (.int x2), some (.int (v3 + (j_k 1)))] [] τ1)))
    else some (some (.int v2), σ) := rfl

-- LastStirredModel.run()I
set_option maxRecDepth 1000000 in
set_option maxHeartbeats 8000000 in
theorem t_192_0 (call : Nat → List Value → Sto → Option Rr) (again : Nat → j_L → List Value → Sto → Option Rr) (σ : Sto) (v0 : Nat) :
    j_seg k_192 h_192 call again 2000 0 [some (.ref v0), none] [] σ =
    j_oc σ 7 v0 (if (s_I σ v0 11) = 0 then (some (some (.int (j_k (-4))), σ))
    else j_oc σ 7 v0 (j_c1 call 162 [.ref v0, .int (j_k 0), .int (j_k 0)] σ (fun x2 τ1 =>
    if (j_k 9960) < x2 then (some (some (.int (j_k (-6))), τ1))
    else j_oc τ1 7 v0 (j_c1 call 187 [.ref v0, .int (j_k 0)] τ1 (fun x4 τ3 =>
    j_oc τ3 7 v0 (if (s_I τ3 v0 29) = 0 then (j_oc τ3 7 v0 (j_c1 call 134 [.ref v0, .int (j_k 0), .int x4] τ3 (fun x6 τ5 =>
     some (some (.int x6), τ5))))
    else j_oc τ3 7 v0 (j_c1 call 134 [.ref v0, .int (j_k 1), .int x4] τ3 (fun x8 τ7 =>
    some (some (.int x8), τ7))))))))) := rfl

-- LastStirredModel.stateOf(I)J
set_option maxRecDepth 1000000 in
set_option maxHeartbeats 8000000 in
theorem t_193_0 (call : Nat → List Value → Sto → Option Rr) (again : Nat → j_L → List Value → Sto → Option Rr) (σ : Sto) (v0 : Nat) (v1 : Int32) :
    j_seg k_193 h_193 call again 2000 0 [some (.ref v0), some (.int v1), none, none, none] [] σ =
    j_oc σ 7 v0 (j_c1 call 162 [.ref v0, .int v1, .int (j_k 0)] σ (fun x2 τ1 =>
    if (j_k 2) = 0 then none else
    again 13 [some (.ref v0), some (.int v1), some (.long ((x2 - x2 / (j_k 2) * (j_k 2)).toInt64)), none, some (.int (j_k 1))] [] τ1)) := rfl

set_option maxRecDepth 1000000 in
set_option maxHeartbeats 8000000 in
theorem t_193_13 (call : Nat → List Value → Sto → Option Rr) (again : Nat → j_L → List Value → Sto → Option Rr) (σ : Sto) (v0 : Nat) (v1 : Int32) (v2 : Int64) (v4 : Int32) :
    j_seg k_193 h_193 call again 2000 13 [some (.ref v0), some (.int v1), some (.long v2), none, some (.int v4)] [] σ =
    if v4 < (j_k 9) then (j_oc σ 7 v0 (j_c1 call 162 [.ref v0, .int v1, .int v4] σ (fun x2 τ1 =>
     again 13 [some (.ref v0), some (.int v1), some (.long ((((j_cJ 4) * v2) + x2.toInt64) + (j_cJ 5))), none, some (.int (v4 + (j_k 1)))] [] τ1)))
    else some (some (.long v2), σ) := rfl

-- LastStirredModel.ring()I
set_option maxRecDepth 1000000 in
set_option maxHeartbeats 8000000 in
theorem t_194_0 (call : Nat → List Value → Sto → Option Rr) (again : Nat → j_L → List Value → Sto → Option Rr) (σ : Sto) (v0 : Nat) :
    j_seg k_194 h_194 call again 2000 0 [some (.ref v0), none, none] [] σ =
    j_oc σ 7 v0 (if (s_I σ v0 11) = 0 then (some (some (.int (j_k (-4))), σ))
    else j_oc σ 7 v0 (j_c0 call 164 [.ref v0, .int (j_k 0), .int (j_k 4)] σ (fun τ1 =>
    again 18 [some (.ref v0), some (.int (j_k 0)), none] [] τ1))) := rfl

set_option maxRecDepth 1000000 in
set_option maxHeartbeats 8000000 in
theorem t_194_18 (call : Nat → List Value → Sto → Option Rr) (again : Nat → j_L → List Value → Sto → Option Rr) (σ : Sto) (v0 : Nat) (v1 : Int32) :
    j_seg k_194 h_194 call again 2000 18 [some (.ref v0), some (.int v1), none] [] σ =
    if (j_k 200) < v1 then (some (some (.int (j_k (-9))), σ))
    else j_gP σ 7 v0 31 (fun a1 =>
    j_oc σ 7 v0 (j_c2 call 193 [.ref v0, .int (j_k 4)] σ (fun x3 τ2 =>
    if a1 < j_b then j_la τ2 a1 v1 (let τ4 : Sto := s_uJ τ2 a1 v1.toNatClampNeg x3;
    again 38 [some (.ref v0), some (.int v1), some (.int (j_k 0))] [] τ4) else none))) := rfl

set_option maxRecDepth 1000000 in
set_option maxHeartbeats 8000000 in
theorem t_194_38 (call : Nat → List Value → Sto → Option Rr) (again : Nat → j_L → List Value → Sto → Option Rr) (σ : Sto) (v0 : Nat) (v1 : Int32) (v2 : Int32) :
    j_seg k_194 h_194 call again 2000 38 [some (.ref v0), some (.int v1), some (.int v2)] [] σ =
    if v2 < v1 then (j_gP σ 7 v0 31 (fun a1 =>
     j_la σ a1 v2 (
     j_gP σ 7 v0 31 (fun a2 =>
     j_la σ a2 v1 (
     if (lg_cmp (s_J σ a1 v2.toNatClampNeg) (s_J σ a2 v1.toNatClampNeg)) = 0 then (j_oc σ 7 v0 (j_c1 call 134 [.ref v0, .int (v1 - v2), .int v1] σ (fun x4 τ3 =>
      some (some (.int x4), τ3))))
     else again 38 [some (.ref v0), some (.int v1), some (.int (v2 + (j_k 1)))] [] σ)))))
    else j_oc σ 7 v0 (j_c1 call 186 [.ref v0, .int (j_k 4)] σ (fun x6 τ5 =>
    again 18 [some (.ref v0), some (.int (v1 + (j_k 1))), none] [] τ5)) := rfl

-- LastStirredModel.where(I)I
set_option maxRecDepth 1000000 in
set_option maxHeartbeats 8000000 in
theorem t_195_0 (call : Nat → List Value → Sto → Option Rr) (again : Nat → j_L → List Value → Sto → Option Rr) (σ : Sto) (v0 : Nat) (v1 : Int32) :
    j_seg k_195 h_195 call again 2000 0 [some (.ref v0), some (.int v1), none] [] σ =
    j_c1 call 139 [.int v1] σ (fun x2 τ1 =>
    if x2 = 0 then (some (some (.int (j_k (-1))), τ1))
    else j_gP τ1 7 v0 5 (fun a3 =>
    j_oc τ1 7 v0 (j_is τ1 a3 v1 (let τ4 : Sto := s_uI τ1 a3 v1.toNatClampNeg (s_I τ1 v0 13);
    again 21 [some (.ref v0), some (.int v1), some (.int (j_k 0))] [] τ4)))) := rfl

set_option maxRecDepth 1000000 in
set_option maxHeartbeats 8000000 in
theorem t_195_21 (call : Nat → List Value → Sto → Option Rr) (again : Nat → j_L → List Value → Sto → Option Rr) (σ : Sto) (v0 : Nat) (v1 : Int32) (v2 : Int32) :
    j_seg k_195 h_195 call again 2000 21 [some (.ref v0), some (.int v1), some (.int v2)] [] σ =
    if v2 < (j_k 60) then (j_gP σ 7 v0 6 (fun a1 =>
     j_oc σ 7 v0 (if v2 < (s_I σ v0 13) then (j_oc σ 7 v0 (j_c1 call 162 [.ref v0, .int (j_k 0), .int ((j_k 5) + v2)] σ (fun x3 τ2 =>
      j_is τ2 a1 (((j_k 60) * v1) + v2) (let τ4 : Sto := s_uI τ2 a1 (((j_k 60) * v1) + v2).toNatClampNeg x3;
      again 21 [some (.ref v0), some (.int v1), some (.int (v2 + (j_k 1)))] [] τ4))))
     else j_is σ a1 (((j_k 60) * v1) + v2) (let τ5 : Sto := s_uI σ a1 (((j_k 60) * v1) + v2).toNatClampNeg (j_k 0);
     again 21 [some (.ref v0), some (.int v1), some (.int (v2 + (j_k 1)))] [] τ5))))
    else j_oc σ 7 v0 (j_c1 call 166 [.ref v0, .int (j_k 0)] σ (fun x7 τ6 =>
    some (some (.int x7), τ6))) := rfl

-- LastStirredModel.apartOf(I)I
set_option maxRecDepth 1000000 in
set_option maxHeartbeats 8000000 in
theorem t_196_0 (call : Nat → List Value → Sto → Option Rr) (again : Nat → j_L → List Value → Sto → Option Rr) (σ : Sto) (v0 : Nat) (v1 : Int32) :
    j_seg k_196 h_196 call again 2000 0 [some (.ref v0), some (.int v1), none, none, none] [] σ =
    again 4 [some (.ref v0), some (.int v1), some (.int (j_k 0)), some (.int (j_k 0)), none] [] σ := rfl

set_option maxRecDepth 1000000 in
set_option maxHeartbeats 8000000 in
theorem t_196_4 (call : Nat → List Value → Sto → Option Rr) (again : Nat → j_L → List Value → Sto → Option Rr) (σ : Sto) (v0 : Nat) (v1 : Int32) (v2 : Int32) (v3 : Int32) :
    j_seg k_196 h_196 call again 2000 4 [some (.ref v0), some (.int v1), some (.int v2), some (.int v3), none] [] σ =
    j_oc σ 7 v0 (if v3 < (s_I σ v0 13) then (again 17 [some (.ref v0), some (.int v1), some (.int v2), some (.int v3), some (.int (v3 + (j_k 1)))] [] σ)
    else some (some (.int v2), σ)) := rfl

set_option maxRecDepth 1000000 in
set_option maxHeartbeats 8000000 in
theorem t_196_17 (call : Nat → List Value → Sto → Option Rr) (again : Nat → j_L → List Value → Sto → Option Rr) (σ : Sto) (v0 : Nat) (v1 : Int32) (v2 : Int32) (v3 : Int32) (v4 : Int32) :
    j_seg k_196 h_196 call again 2000 17 [some (.ref v0), some (.int v1), some (.int v2), some (.int v3), some (.int v4)] [] σ =
    j_oc σ 7 v0 (if v4 < (s_I σ v0 13) then (j_oc σ 7 v0 (j_c1 call 165 [.ref v0, .int v1, .int v3] σ (fun x2 τ1 =>
     if x2 = 0 then (j_oc τ1 7 v0 (j_c1 call 165 [.ref v0, .int v1, .int v4] τ1 (fun x4 τ3 =>
      if x4 = 0 then (j_oc τ3 7 v0 (j_c1 call 162 [.ref v0, .int v1, .int ((j_k 5) + v3)] τ3 (fun x6 τ5 =>
       j_oc τ5 7 v0 (j_c1 call 162 [.ref v0, .int v1, .int ((j_k 5) + v4)] τ5 (fun x8 τ7 =>
       j_oc τ7 7 v0 (j_c1 call 168 [.ref v0, .int x6, .int x8] τ7 (fun x10 τ9 =>
       again 17 [some (.ref v0), some (.int v1), some (.int (v2 + x10)), some (.int v3), some (.int (v4 + (j_k 1)))] [] τ9)))))))
      else again 17 [some (.ref v0), some (.int v1), some (.int (v2 + (j_k 0))), some (.int v3), some (.int (v4 + (j_k 1)))] [] τ3)))
     else again 17 [some (.ref v0), some (.int v1), some (.int (v2 + (j_k 0))), some (.int v3), some (.int (v4 + (j_k 1)))] [] τ1)))
    else again 4 [some (.ref v0), some (.int v1), some (.int v2), some (.int (v3 + (j_k 1))), none] [] σ) := rfl

-- LastStirredModel.apart()I
set_option maxRecDepth 1000000 in
set_option maxHeartbeats 8000000 in
theorem t_197_0 (call : Nat → List Value → Sto → Option Rr) (again : Nat → j_L → List Value → Sto → Option Rr) (σ : Sto) (v0 : Nat) :
    j_seg k_197 h_197 call again 2000 0 [some (.ref v0)] [] σ =
    j_oc σ 7 v0 (j_c1 call 196 [.ref v0, .int (j_k 0)] σ (fun x2 τ1 =>
    some (some (.int x2), τ1))) := rfl

-- LastStirredModel.keep(I)I
set_option maxRecDepth 1000000 in
set_option maxHeartbeats 8000000 in
theorem t_198_0 (call : Nat → List Value → Sto → Option Rr) (again : Nat → j_L → List Value → Sto → Option Rr) (σ : Sto) (v0 : Nat) (v1 : Int32) :
    j_seg k_198 h_198 call again 2000 0 [some (.ref v0), some (.int v1)] [] σ =
    j_c1 call 127 [.int v1, .int (j_k 0), .int (j_k 2)] σ (fun x2 τ1 =>
    if x2 = 0 then (some (some (.int (j_k (-1))), τ1))
    else j_oc τ1 7 v0 (if (s_I τ1 v0 11) = 0 then (some (some (.int (j_k (-4))), τ1))
    else j_oc τ1 7 v0 (j_c0 call 164 [.ref v0, .int (j_k 0), .int ((j_k 1) + v1)] τ1 (fun τ3 =>
    j_gP τ3 7 v0 25 (fun a4 =>
    j_bs τ3 a4 v1 (j_k 1) (fun τ5 =>
    j_oc τ5 7 v0 (j_c1 call 162 [.ref v0, .int (j_k 0), .int (j_k 0)] τ5 (fun x7 τ6 =>
    some (some (.int x7), τ6))))))))) := rfl

-- LastStirredModel.on(I)I
set_option maxRecDepth 1000000 in
set_option maxHeartbeats 8000000 in
theorem t_199_0 (call : Nat → List Value → Sto → Option Rr) (again : Nat → j_L → List Value → Sto → Option Rr) (σ : Sto) (v0 : Nat) (v1 : Int32) :
    j_seg k_199 h_199 call again 2000 0 [some (.ref v0), some (.int v1)] [] σ =
    j_c1 call 127 [.int v1, .int (j_k 0), .int (j_k 2)] σ (fun x2 τ1 =>
    if x2 = 0 then (some (some (.int (j_k (-1))), τ1))
    else j_gP τ1 7 v0 25 (fun a3 =>
    j_ba τ1 a3 v1 (
    if (s_I τ1 a3 v1.toNatClampNeg) = 0 then (j_oc τ1 7 v0 (j_c1 call 131 [.ref v0, .int (j_k 1)] τ1 (fun x5 τ4 =>
     some (some (.int x5), τ4))))
    else j_oc τ1 7 v0 (j_c0 call 164 [.ref v0, .int ((j_k 1) + v1), .int (j_k 0)] τ1 (fun τ6 =>
    j_oc τ6 7 v0 (j_c1 call 162 [.ref v0, .int (j_k 0), .int (j_k 0)] τ6 (fun x8 τ7 =>
    some (some (.int x8), τ7)))))))) := rfl

-- LastStirredModel.isSafe(I)Z
set_option maxRecDepth 1000000 in
set_option maxHeartbeats 8000000 in
theorem t_200_0 (call : Nat → List Value → Sto → Option Rr) (again : Nat → j_L → List Value → Sto → Option Rr) (σ : Sto) (v0 : Nat) (v1 : Int32) :
    j_seg k_200 h_200 call again 2000 0 [some (.ref v0), some (.int v1), none, none] [] σ =
    j_oc σ 7 v0 (if 0 < (s_I σ v0 13) then (again 15 [some (.ref v0), some (.int v1), some (.int (j_k 1)), some (.int (j_k 0))] [] σ)
    else again 15 [some (.ref v0), some (.int v1), some (.int (j_k 0)), some (.int (j_k 0))] [] σ) := rfl

set_option maxRecDepth 1000000 in
set_option maxHeartbeats 8000000 in
theorem t_200_15 (call : Nat → List Value → Sto → Option Rr) (again : Nat → j_L → List Value → Sto → Option Rr) (σ : Sto) (v0 : Nat) (v1 : Int32) (v2 : Int32) (v3 : Int32) :
    j_seg k_200 h_200 call again 2000 15 [some (.ref v0), some (.int v1), some (.int v2), some (.int v3)] [] σ =
    j_oc σ 7 v0 (if v3 < (s_I σ v0 13) then (if v2 = 0 then (again 15 [some (.ref v0), some (.int v1), some (.int (j_k 0)), some (.int (v3 + (j_k 1)))] [] σ)
     else j_oc σ 7 v0 (j_c1 call 165 [.ref v0, .int v1, .int v3] σ (fun x2 τ1 =>
     if x2 = 0 then (j_gP τ1 7 v0 12 (fun a3 =>
      j_oc τ1 7 v0 (j_c1 call 162 [.ref v0, .int v1, .int ((j_k 5) + v3)] τ1 (fun x5 τ4 =>
      j_ia τ4 a3 x5 (
      if (s_I τ4 a3 x5.toNatClampNeg) = (j_k 3) then (again 15 [some (.ref v0), some (.int v1), some (.int (j_k 1)), some (.int (v3 + (j_k 1)))] [] τ4)
      else again 15 [some (.ref v0), some (.int v1), some (.int (j_k 0)), some (.int (v3 + (j_k 1)))] [] τ4)))))
     else again 15 [some (.ref v0), some (.int v1), some (.int (j_k 0)), some (.int (v3 + (j_k 1)))] [] τ1)))
    else if v2 = 0 ∨ v2 = 1 then some (some (.int v2), σ) else none) := rfl

-- LastStirredModel.codes()I
set_option maxRecDepth 1000000 in
set_option maxHeartbeats 8000000 in
theorem t_201_0 (call : Nat → List Value → Sto → Option Rr) (again : Nat → j_L → List Value → Sto → Option Rr) (σ : Sto) (v0 : Nat) :
    j_seg k_201 h_201 call again 2000 0 [some (.ref v0)] [] σ =
    j_oc σ 7 v0 (some (some (.int ((j_k 4) * (s_I σ v0 13))), σ)) := rfl

-- LastStirredModel.driven(II)Z
set_option maxRecDepth 1000000 in
set_option maxHeartbeats 8000000 in
theorem t_202_0 (call : Nat → List Value → Sto → Option Rr) (again : Nat → j_L → List Value → Sto → Option Rr) (σ : Sto) (v0 : Nat) (v1 : Int32) (v2 : Int32) :
    j_seg k_202 h_202 call again 2000 0 [some (.ref v0), some (.int v1), some (.int v2)] [] σ =
    j_oc σ 7 v0 (j_c0 call 164 [.ref v0, .int v1, .int (v1 + (j_k 1))] σ (fun τ1 =>
    j_oc τ1 7 v0 (j_c1 call 189 [.ref v0, .int (v1 + (j_k 1)), .int v2] τ1 (fun x3 τ2 =>
    if x3 = 0 ∨ x3 = 1 then some (some (.int x3), τ2) else none)))) := rfl

-- LastStirredModel.isWanted(II)Z
set_option maxRecDepth 1000000 in
set_option maxHeartbeats 8000000 in
theorem t_203_0 (call : Nat → List Value → Sto → Option Rr) (again : Nat → j_L → List Value → Sto → Option Rr) (σ : Sto) (v0 : Nat) (v1 : Int32) (v2 : Int32) :
    j_seg k_203 h_203 call again 2000 0 [some (.ref v0), some (.int v1), some (.int v2), none, none] [] σ =
    if v2 < 0 then (j_oc σ 7 v0 (j_c1 call 200 [.ref v0, .int v1] σ (fun x2 τ1 =>
     if x2 = 0 ∨ x2 = 1 then some (some (.int x2), τ1) else none)))
    else again 15 [some (.ref v0), some (.int v1), some (.int v2), some (.int (j_k 1)), some (.int (j_k 0))] [] σ := rfl

set_option maxRecDepth 1000000 in
set_option maxHeartbeats 8000000 in
theorem t_203_15 (call : Nat → List Value → Sto → Option Rr) (again : Nat → j_L → List Value → Sto → Option Rr) (σ : Sto) (v0 : Nat) (v1 : Int32) (v2 : Int32) (v3 : Int32) (v4 : Int32) :
    j_seg k_203 h_203 call again 2000 15 [some (.ref v0), some (.int v1), some (.int v2), some (.int v3), some (.int v4)] [] σ =
    j_oc σ 7 v0 (if v4 < (s_I σ v0 13) then (if v3 = 0 then (again 15 [some (.ref v0), some (.int v1), some (.int v2), some (.int (j_k 0)), some (.int (v4 + (j_k 1)))] [] σ)
     else j_oc σ 7 v0 (j_c1 call 162 [.ref v0, .int v1, .int ((j_k 5) + v4)] σ (fun x2 τ1 =>
     j_oc τ1 7 v0 (j_c1 call 140 [.ref v0, .int v2, .int v4] τ1 (fun x4 τ3 =>
     if x2 = x4 then (again 15 [some (.ref v0), some (.int v1), some (.int v2), some (.int (j_k 1)), some (.int (v4 + (j_k 1)))] [] τ3)
     else again 15 [some (.ref v0), some (.int v1), some (.int v2), some (.int (j_k 0)), some (.int (v4 + (j_k 1)))] [] τ3)))))
    else if v3 = 0 ∨ v3 = 1 then some (some (.int v3), σ) else none) := rfl

-- LastStirredModel.layRows(II)V
set_option maxRecDepth 1000000 in
set_option maxHeartbeats 8000000 in
theorem t_204_0 (call : Nat → List Value → Sto → Option Rr) (again : Nat → j_L → List Value → Sto → Option Rr) (σ : Sto) (v0 : Nat) (v1 : Int32) (v2 : Int32) :
    j_seg k_204 h_204 call again 2000 0 [some (.ref v0), some (.int v1), some (.int v2), none] [] σ =
    if v0 < j_b then j_oc σ 7 v0 (let τ1 : Sto := s_uI σ v0 32 (j_k 0);
    if v0 < j_b then j_oc τ1 7 v0 (let τ2 : Sto := s_uI τ1 v0 33 (j_k 0);
    if v0 < j_b then j_oc τ2 7 v0 (let τ3 : Sto := s_uI τ2 v0 34 (j_k (-9));
    if v0 < j_b then j_oc τ3 7 v0 (let τ4 : Sto := s_uI τ3 v0 35 (j_k 0);
    if v0 < j_b then j_oc τ4 7 v0 (let τ5 : Sto := s_uI τ4 v0 36 (j_k 0);
    j_oc τ5 7 v0 (j_c0 call 164 [.ref v0, .int (j_k 0), .int (j_k 4)] τ5 (fun τ6 =>
    if v1 = 0 then (j_oc τ6 7 v0 (j_c0 call 206 [.ref v0, .int (j_k 4), .int (j_k 0), .int v2, .int (j_k (-9))] τ6 (fun τ7 =>
     again 47 [some (.ref v0), some (.int v1), some (.int v2), some (.int (j_k 0))] [] τ7)))
    else again 47 [some (.ref v0), some (.int v1), some (.int v2), some (.int (j_k 0))] [] τ6))) else none) else none) else none) else none) else none := rfl

set_option maxRecDepth 1000000 in
set_option maxHeartbeats 8000000 in
theorem t_204_47 (call : Nat → List Value → Sto → Option Rr) (again : Nat → j_L → List Value → Sto → Option Rr) (σ : Sto) (v0 : Nat) (v1 : Int32) (v2 : Int32) (v3 : Int32) :
    j_seg k_204 h_204 call again 2000 47 [some (.ref v0), some (.int v1), some (.int v2), some (.int v3)] [] σ =
    j_oc σ 7 v0 (j_c1 call 201 [.ref v0] σ (fun x2 τ1 =>
    if v3 < x2 then (if 0 < v1 then (j_oc τ1 7 v0 (j_c1 call 202 [.ref v0, .int (j_k 4), .int v3] τ1 (fun x4 τ3 =>
      if x4 = 0 then (again 47 [some (.ref v0), some (.int v1), some (.int v2), some (.int (v3 + (j_k 1)))] [] τ3)
      else if v1 = (j_k 1) then (j_oc τ3 7 v0 (j_c0 call 206 [.ref v0, .int (j_k 5), .int v3, .int v2, .int v3] τ3 (fun τ5 =>
       again 47 [some (.ref v0), some (.int v1), some (.int v2), some (.int (v3 + (j_k 1)))] [] τ5)))
      else j_oc τ3 7 v0 (j_c0 call 205 [.ref v0, .int v3, .int v1, .int v2] τ3 (fun τ6 =>
      again 47 [some (.ref v0), some (.int v1), some (.int v2), some (.int (v3 + (j_k 1)))] [] τ6)))))
     else some (none, τ1))
    else some (none, τ1))) := rfl

-- LastStirredModel.layDeeper(III)V
set_option maxRecDepth 1000000 in
set_option maxHeartbeats 8000000 in
theorem t_205_0 (call : Nat → List Value → Sto → Option Rr) (again : Nat → j_L → List Value → Sto → Option Rr) (σ : Sto) (v0 : Nat) (v1 : Int32) (v2 : Int32) (v3 : Int32) :
    j_seg k_205 h_205 call again 2000 0 [some (.ref v0), some (.int v1), some (.int v2), some (.int v3), none, none] [] σ =
    again 3 [some (.ref v0), some (.int v1), some (.int v2), some (.int v3), some (.int (j_k 0)), none] [] σ := rfl

set_option maxRecDepth 1000000 in
set_option maxHeartbeats 8000000 in
theorem t_205_3 (call : Nat → List Value → Sto → Option Rr) (again : Nat → j_L → List Value → Sto → Option Rr) (σ : Sto) (v0 : Nat) (v1 : Int32) (v2 : Int32) (v3 : Int32) (v4 : Int32) :
    j_seg k_205 h_205 call again 2000 3 [some (.ref v0), some (.int v1), some (.int v2), some (.int v3), some (.int v4), none] [] σ =
    j_oc σ 7 v0 (j_c1 call 201 [.ref v0] σ (fun x2 τ1 =>
    if v4 < x2 then (j_oc τ1 7 v0 (j_c1 call 202 [.ref v0, .int (j_k 5), .int v4] τ1 (fun x4 τ3 =>
     if x4 = 0 then (again 3 [some (.ref v0), some (.int v1), some (.int v2), some (.int v3), some (.int (v4 + (j_k 1))), none] [] τ3)
     else if v2 = (j_k 2) then (j_oc τ3 7 v0 (j_c0 call 206 [.ref v0, .int (j_k 6), .int (((j_k 16) * v1) + v4), .int v3, .int v1] τ3 (fun τ5 =>
      again 45 [some (.ref v0), some (.int v1), some (.int v2), some (.int v3), some (.int v4), some (.int (j_k 0))] [] τ5)))
     else again 45 [some (.ref v0), some (.int v1), some (.int v2), some (.int v3), some (.int v4), some (.int (j_k 0))] [] τ3)))
    else some (none, τ1))) := rfl

set_option maxRecDepth 1000000 in
set_option maxHeartbeats 8000000 in
theorem t_205_45 (call : Nat → List Value → Sto → Option Rr) (again : Nat → j_L → List Value → Sto → Option Rr) (σ : Sto) (v0 : Nat) (v1 : Int32) (v2 : Int32) (v3 : Int32) (v4 : Int32) (v5 : Int32) :
    j_seg k_205 h_205 call again 2000 45 [some (.ref v0), some (.int v1), some (.int v2), some (.int v3), some (.int v4), some (.int v5)] [] σ =
    j_oc σ 7 v0 (j_c1 call 201 [.ref v0] σ (fun x2 τ1 =>
    if v5 < x2 then (if v2 = (j_k 3) then (j_oc τ1 7 v0 (j_c1 call 202 [.ref v0, .int (j_k 6), .int v5] τ1 (fun x4 τ3 =>
      if x4 = 0 then (again 45 [some (.ref v0), some (.int v1), some (.int v2), some (.int v3), some (.int v4), some (.int (v5 + (j_k 1)))] [] τ3)
      else j_oc τ3 7 v0 (j_c0 call 206 [.ref v0, .int (j_k 7), .int (((j_k 16) * (((j_k 16) * v1) + v4)) + v5), .int v3, .int v1] τ3 (fun τ5 =>
      again 45 [some (.ref v0), some (.int v1), some (.int v2), some (.int v3), some (.int v4), some (.int (v5 + (j_k 1)))] [] τ5)))))
     else again 3 [some (.ref v0), some (.int v1), some (.int v2), some (.int v3), some (.int (v4 + (j_k 1))), none] [] τ1)
    else again 3 [some (.ref v0), some (.int v1), some (.int v2), some (.int v3), some (.int (v4 + (j_k 1))), none] [] τ1)) := rfl

-- LastStirredModel.layRow(IIII)V
set_option maxRecDepth 1000000 in
set_option maxHeartbeats 8000000 in
theorem t_206_0 (call : Nat → List Value → Sto → Option Rr) (again : Nat → j_L → List Value → Sto → Option Rr) (σ : Sto) (v0 : Nat) (v1 : Int32) (v2 : Int32) (v3 : Int32) (v4 : Int32) :
    j_seg k_206 h_206 call again 2000 0 [some (.ref v0), some (.int v1), some (.int v2), some (.int v3), some (.int v4)] [] σ =
    j_oc σ 7 v0 (if v0 < j_b then j_oc σ 7 v0 (let τ1 : Sto := s_uI σ v0 32 ((s_I σ v0 32) + (j_k 1));
    j_oc τ1 7 v0 (j_c1 call 203 [.ref v0, .int v1, .int v3] τ1 (fun x3 τ2 =>
    if x3 = 0 then (some (none, τ2))
    else j_oc τ2 7 v0 (if (s_I τ2 v0 33) = 0 then (if v0 < j_b then j_oc τ2 7 v0 (let τ4 : Sto := s_uI τ2 v0 34 v2;
     j_oc τ4 7 v0 (if v0 < j_b then j_oc τ4 7 v0 (let τ5 : Sto := s_uI τ4 v0 33 ((s_I τ4 v0 33) + (j_k 1));
     j_oc τ5 7 v0 (if v4 = (j_k (-9)) then (if v0 < j_b then j_oc τ5 7 v0 (let τ6 : Sto := s_uI τ5 v0 35 ((s_I τ5 v0 35) ||| (j_k 0));
      j_oc τ6 7 v0 (if v4 = (j_k (-9)) then (if v0 < j_b then j_oc τ6 7 v0 (let τ7 : Sto := s_uI τ6 v0 36 ((s_I τ6 v0 36) ||| (j_k 0));
       some (none, τ7)) else none)
      else if (j_k 4) = 0 then none else
      if v0 < j_b then j_oc τ6 7 v0 (let τ8 : Sto := s_uI τ6 v0 36 ((s_I τ6 v0 36) ||| ((j_k 1) <<< ((v4 - v4 / (j_k 4) * (j_k 4)) &&& 31)));
      some (none, τ8)) else none)) else none)
     else if (j_k 4) = 0 then none else
     if v0 < j_b then j_oc τ5 7 v0 (let τ9 : Sto := s_uI τ5 v0 35 ((s_I τ5 v0 35) ||| ((j_k 1) <<< ((v4 / (j_k 4)) &&& 31)));
     j_oc τ9 7 v0 (if v4 = (j_k (-9)) then (if v0 < j_b then j_oc τ9 7 v0 (let τ10 : Sto := s_uI τ9 v0 36 ((s_I τ9 v0 36) ||| (j_k 0));
      some (none, τ10)) else none)
     else if (j_k 4) = 0 then none else
     if v0 < j_b then j_oc τ9 7 v0 (let τ11 : Sto := s_uI τ9 v0 36 ((s_I τ9 v0 36) ||| ((j_k 1) <<< ((v4 - v4 / (j_k 4) * (j_k 4)) &&& 31)));
     some (none, τ11)) else none)) else none)) else none)) else none)
    else j_oc τ2 7 v0 (if v0 < j_b then j_oc τ2 7 v0 (let τ12 : Sto := s_uI τ2 v0 34 (s_I τ2 v0 34);
    j_oc τ12 7 v0 (if v0 < j_b then j_oc τ12 7 v0 (let τ13 : Sto := s_uI τ12 v0 33 ((s_I τ12 v0 33) + (j_k 1));
    j_oc τ13 7 v0 (if v4 = (j_k (-9)) then (if v0 < j_b then j_oc τ13 7 v0 (let τ14 : Sto := s_uI τ13 v0 35 ((s_I τ13 v0 35) ||| (j_k 0));
     j_oc τ14 7 v0 (if v4 = (j_k (-9)) then (if v0 < j_b then j_oc τ14 7 v0 (let τ15 : Sto := s_uI τ14 v0 36 ((s_I τ14 v0 36) ||| (j_k 0));
      some (none, τ15)) else none)
     else if (j_k 4) = 0 then none else
     if v0 < j_b then j_oc τ14 7 v0 (let τ16 : Sto := s_uI τ14 v0 36 ((s_I τ14 v0 36) ||| ((j_k 1) <<< ((v4 - v4 / (j_k 4) * (j_k 4)) &&& 31)));
     some (none, τ16)) else none)) else none)
    else if (j_k 4) = 0 then none else
    if v0 < j_b then j_oc τ13 7 v0 (let τ17 : Sto := s_uI τ13 v0 35 ((s_I τ13 v0 35) ||| ((j_k 1) <<< ((v4 / (j_k 4)) &&& 31)));
    j_oc τ17 7 v0 (if v4 = (j_k (-9)) then (if v0 < j_b then j_oc τ17 7 v0 (let τ18 : Sto := s_uI τ17 v0 36 ((s_I τ17 v0 36) ||| (j_k 0));
     some (none, τ18)) else none)
    else if (j_k 4) = 0 then none else
    if v0 < j_b then j_oc τ17 7 v0 (let τ19 : Sto := s_uI τ17 v0 36 ((s_I τ17 v0 36) ||| ((j_k 1) <<< ((v4 - v4 / (j_k 4) * (j_k 4)) &&& 31)));
    some (none, τ19)) else none)) else none)) else none)) else none))))) else none) := rfl

-- LastStirredModel.fewestOf(II)I
set_option maxRecDepth 1000000 in
set_option maxHeartbeats 8000000 in
theorem t_207_0 (call : Nat → List Value → Sto → Option Rr) (again : Nat → j_L → List Value → Sto → Option Rr) (σ : Sto) (v0 : Nat) (v1 : Int32) (v2 : Int32) :
    j_seg k_207 h_207 call again 2000 0 [some (.ref v0), some (.int v1), some (.int v2), none] [] σ =
    again 2 [some (.ref v0), some (.int v1), some (.int v2), some (.int (j_k 0))] [] σ := rfl

set_option maxRecDepth 1000000 in
set_option maxHeartbeats 8000000 in
theorem t_207_2 (call : Nat → List Value → Sto → Option Rr) (again : Nat → j_L → List Value → Sto → Option Rr) (σ : Sto) (v0 : Nat) (v1 : Int32) (v2 : Int32) (v3 : Int32) :
    j_seg k_207 h_207 call again 2000 2 [some (.ref v0), some (.int v1), some (.int v2), some (.int v3)] [] σ =
    if v1 < v3 then (some (some (.int (j_k (-9))), σ))
    else j_oc σ 7 v0 (j_c0 call 204 [.ref v0, .int v3, .int v2] σ (fun τ1 =>
    j_oc τ1 7 v0 (if 0 < (s_I τ1 v0 33) then (some (some (.int v3), τ1))
    else again 2 [some (.ref v0), some (.int v1), some (.int v2), some (.int (v3 + (j_k 1)))] [] τ1))) := rfl

-- LastStirredModel.fewest()I
set_option maxRecDepth 1000000 in
set_option maxHeartbeats 8000000 in
theorem t_208_0 (call : Nat → List Value → Sto → Option Rr) (again : Nat → j_L → List Value → Sto → Option Rr) (σ : Sto) (v0 : Nat) :
    j_seg k_208 h_208 call again 2000 0 [some (.ref v0), none] [] σ =
    j_oc σ 7 v0 (if (s_I σ v0 11) = 0 then (some (some (.int (j_k (-4))), σ))
    else j_oc σ 7 v0 (j_c1 call 207 [.ref v0, .int (j_k 3), .int (j_k (-1))] σ (fun x2 τ1 =>
    if x2 = (j_k (-9)) then (some (some (.int (j_k (-9))), τ1))
    else j_oc τ1 7 v0 (j_oc τ1 7 v0 (j_c1 call 134 [.ref v0, .int (s_I τ1 v0 34), .int x2] τ1 (fun x4 τ3 =>
    some (some (.int x4), τ3))))))) := rfl

-- LastStirredModel.ways(I)I
set_option maxRecDepth 1000000 in
set_option maxHeartbeats 8000000 in
theorem t_209_0 (call : Nat → List Value → Sto → Option Rr) (again : Nat → j_L → List Value → Sto → Option Rr) (σ : Sto) (v0 : Nat) (v1 : Int32) :
    j_seg k_209 h_209 call again 2000 0 [some (.ref v0), some (.int v1)] [] σ =
    j_c1 call 127 [.int v1, .int (j_k 1), .int (j_k 2)] σ (fun x2 τ1 =>
    if x2 = 0 then (some (some (.int (j_k (-1))), τ1))
    else j_oc τ1 7 v0 (j_c0 call 204 [.ref v0, .int v1, .int (j_k (-1))] τ1 (fun τ3 =>
    j_oc τ3 7 v0 (if (s_I τ3 v0 32) = 0 then (j_oc τ3 7 v0 (j_c1 call 131 [.ref v0, .int (j_k 4)] τ3 (fun x5 τ4 =>
     some (some (.int x5), τ4))))
    else j_oc τ3 7 v0 (j_oc τ3 7 v0 (j_oc τ3 7 v0 (j_oc τ3 7 v0 (j_c1 call 136 [.ref v0, .long ((s_I τ3 v0 33).toInt64), .long ((s_I τ3 v0 32).toInt64), .int (s_I τ3 v0 33)] τ3 (fun x7 τ6 =>
    some (some (.int x7), τ6)))))))))) := rfl

-- LastStirredModel.gather()I
set_option maxRecDepth 1000000 in
set_option maxHeartbeats 8000000 in
theorem t_210_0 (call : Nat → List Value → Sto → Option Rr) (again : Nat → j_L → List Value → Sto → Option Rr) (σ : Sto) (v0 : Nat) :
    j_seg k_210 h_210 call again 2000 0 [some (.ref v0), none, none, none, none] [] σ =
    j_oc σ 7 v0 (j_c0 call 164 [.ref v0, .int (j_k 0), .int (j_k 4)] σ (fun τ1 =>
    again 13 [some (.ref v0), some (.int (j_k (-9))), some (.int (j_k 0)), some (.int (j_k 0)), none] [] τ1)) := rfl

set_option maxRecDepth 1000000 in
set_option maxHeartbeats 8000000 in
theorem t_210_13 (call : Nat → List Value → Sto → Option Rr) (again : Nat → j_L → List Value → Sto → Option Rr) (σ : Sto) (v0 : Nat) (v1 : Int32) (v2 : Int32) (v3 : Int32) :
    j_seg k_210 h_210 call again 2000 13 [some (.ref v0), some (.int v1), some (.int v2), some (.int v3), none] [] σ =
    j_oc σ 7 v0 (j_c1 call 201 [.ref v0] σ (fun x2 τ1 =>
    if v3 < x2 then (j_oc τ1 7 v0 (j_c1 call 202 [.ref v0, .int (j_k 4), .int v3] τ1 (fun x4 τ3 =>
     if x4 = 0 then (again 13 [some (.ref v0), some (.int v1), some (.int v2), some (.int (v3 + (j_k 1))), none] [] τ3)
     else j_oc τ3 7 v0 (j_c1 call 166 [.ref v0, .int (j_k 5)] τ3 (fun x6 τ5 =>
     j_oc τ5 7 v0 (j_c1 call 166 [.ref v0, .int (j_k 0)] τ5 (fun x8 τ7 =>
     if x8 < x6 then (again 13 [some (.ref v0), some (.int v1), some (.int v2), some (.int (v3 + (j_k 1))), none] [] τ7)
     else j_oc τ7 7 v0 (j_c1 call 196 [.ref v0, .int (j_k 5)] τ7 (fun x10 τ9 =>
     if v1 = (j_k (-9)) then (again 13 [some (.ref v0), some (.int v3), some (.int x10), some (.int (v3 + (j_k 1))), none] [] τ9)
     else if x10 < v2 then (again 13 [some (.ref v0), some (.int v3), some (.int x10), some (.int (v3 + (j_k 1))), none] [] τ9)
     else again 13 [some (.ref v0), some (.int v1), some (.int v2), some (.int (v3 + (j_k 1))), none] [] τ9)))))))))
    else if v1 = (j_k (-9)) then (some (some (.int (j_k (-9))), τ1))
    else j_oc τ1 7 v0 (j_c1 call 134 [.ref v0, .int v2, .int v1] τ1 (fun x12 τ11 =>
    some (some (.int x12), τ11))))) := rfl

-- LastStirredModel.part(II)I
set_option maxRecDepth 1000000 in
set_option maxHeartbeats 8000000 in
theorem t_211_0 (call : Nat → List Value → Sto → Option Rr) (again : Nat → j_L → List Value → Sto → Option Rr) (σ : Sto) (v0 : Nat) (v1 : Int32) (v2 : Int32) :
    j_seg k_211 h_211 call again 2000 0 [some (.ref v0), some (.int v1), some (.int v2), none, none, none, none, none] [] σ =
    j_oc σ 7 v0 (j_c1 call 161 [.ref v0, .int v1] σ (fun x2 τ1 =>
    if x2 = 0 then (some (some (.int (j_k (-1))), τ1))
    else j_oc τ1 7 v0 (j_c1 call 161 [.ref v0, .int v2] τ1 (fun x4 τ3 =>
    if x4 = 0 then (some (some (.int (j_k (-1))), τ3))
    else if v1 = v2 then (some (some (.int (j_k (-1))), τ3))
    else j_oc τ3 7 v0 (j_c0 call 164 [.ref v0, .int (j_k 0), .int (j_k 4)] τ3 (fun τ5 =>
    again 41 [some (.ref v0), some (.int v1), some (.int v2), some (.int (j_k (-9))), some (.int (j_k 0)), some (.int (j_k 5)), some (.int (j_k 0)), none] [] τ5)))))) := rfl

set_option maxRecDepth 1000000 in
set_option maxHeartbeats 8000000 in
theorem t_211_41 (call : Nat → List Value → Sto → Option Rr) (again : Nat → j_L → List Value → Sto → Option Rr) (σ : Sto) (v0 : Nat) (v1 : Int32) (v2 : Int32) (v3 : Int32) (v4 : Int32) (v5 : Int32) (v6 : Int32) :
    j_seg k_211 h_211 call again 2000 41 [some (.ref v0), some (.int v1), some (.int v2), some (.int v3), some (.int v4), some (.int v5), some (.int v6), none] [] σ =
    j_oc σ 7 v0 (j_c1 call 201 [.ref v0] σ (fun x2 τ1 =>
    if v6 < x2 then (j_oc τ1 7 v0 (j_c1 call 202 [.ref v0, .int (j_k 4), .int v6] τ1 (fun x4 τ3 =>
     if x4 = 0 then (again 41 [some (.ref v0), some (.int v1), some (.int v2), some (.int v3), some (.int v4), some (.int v5), some (.int (v6 + (j_k 1))), none] [] τ3)
     else j_oc τ3 7 v0 (j_c1 call 165 [.ref v0, .int v5, .int v1] τ3 (fun x6 τ5 =>
     if x6 = 0 then (j_oc τ5 7 v0 (j_c1 call 165 [.ref v0, .int v5, .int v2] τ5 (fun x8 τ7 =>
      if x8 = 0 then (j_oc τ7 7 v0 (j_c1 call 162 [.ref v0, .int v5, .int ((j_k 5) + v1)] τ7 (fun x10 τ9 =>
       j_oc τ9 7 v0 (j_c1 call 162 [.ref v0, .int v5, .int ((j_k 5) + v2)] τ9 (fun x12 τ11 =>
       j_oc τ11 7 v0 (j_c1 call 168 [.ref v0, .int x10, .int x12] τ11 (fun x14 τ13 =>
       if v3 = (j_k (-9)) then (again 41 [some (.ref v0), some (.int v1), some (.int v2), some (.int v6), some (.int x14), some (.int v5), some (.int (v6 + (j_k 1))), none] [] τ13)
       else if v4 < x14 then (again 41 [some (.ref v0), some (.int v1), some (.int v2), some (.int v6), some (.int x14), some (.int v5), some (.int (v6 + (j_k 1))), none] [] τ13)
       else again 41 [some (.ref v0), some (.int v1), some (.int v2), some (.int v3), some (.int v4), some (.int v5), some (.int (v6 + (j_k 1))), none] [] τ13)))))))
      else again 41 [some (.ref v0), some (.int v1), some (.int v2), some (.int v3), some (.int v4), some (.int v5), some (.int (v6 + (j_k 1))), none] [] τ7)))
     else again 41 [some (.ref v0), some (.int v1), some (.int v2), some (.int v3), some (.int v4), some (.int v5), some (.int (v6 + (j_k 1))), none] [] τ5)))))
    else if v3 = (j_k (-9)) then (some (some (.int (j_k (-9))), τ1))
    else j_oc τ1 7 v0 (j_c1 call 134 [.ref v0, .int v4, .int v3] τ1 (fun x16 τ15 =>
    some (some (.int x16), τ15))))) := rfl

-- LastStirredModel.wentIn(I)I
set_option maxRecDepth 1000000 in
set_option maxHeartbeats 8000000 in
theorem t_212_0 (call : Nat → List Value → Sto → Option Rr) (again : Nat → j_L → List Value → Sto → Option Rr) (σ : Sto) (v0 : Nat) (v1 : Int32) :
    j_seg k_212 h_212 call again 2000 0 [some (.ref v0), some (.int v1), none, none] [] σ =
    again 4 [some (.ref v0), some (.int v1), some (.int (j_k 0)), some (.int (j_k 0))] [] σ := rfl

set_option maxRecDepth 1000000 in
set_option maxHeartbeats 8000000 in
theorem t_212_4 (call : Nat → List Value → Sto → Option Rr) (again : Nat → j_L → List Value → Sto → Option Rr) (σ : Sto) (v0 : Nat) (v1 : Int32) (v2 : Int32) (v3 : Int32) :
    j_seg k_212 h_212 call again 2000 4 [some (.ref v0), some (.int v1), some (.int v2), some (.int v3)] [] σ =
    j_oc σ 7 v0 (if v3 < (s_I σ v0 13) then (j_oc σ 7 v0 (j_c1 call 162 [.ref v0, .int v1, .int ((j_k 9) + v3)] σ (fun x2 τ1 =>
     again 4 [some (.ref v0), some (.int v1), some (.int (v2 + x2)), some (.int (v3 + (j_k 1)))] [] τ1)))
    else some (some (.int v2), σ)) := rfl

-- LastStirredModel.worth(II)I
set_option maxRecDepth 1000000 in
set_option maxHeartbeats 8000000 in
theorem t_213_0 (call : Nat → List Value → Sto → Option Rr) (again : Nat → j_L → List Value → Sto → Option Rr) (σ : Sto) (v0 : Nat) (v1 : Int32) (v2 : Int32) :
    j_seg k_213 h_213 call again 2000 0 [some (.ref v0), some (.int v1), some (.int v2), none] [] σ =
    j_oc σ 7 v0 (j_c1 call 161 [.ref v0, .int v1] σ (fun x2 τ1 =>
    if x2 = 0 then (some (some (.int (j_k (-1))), τ1))
    else j_c1 call 127 [.int v2, .int (j_k 0), .int (j_k 3)] τ1 (fun x4 τ3 =>
    if x4 = 0 then (some (some (.int (j_k (-1))), τ3))
    else j_oc τ3 7 v0 (j_c0 call 164 [.ref v0, .int (j_k 0), .int (j_k 4)] τ3 (fun τ5 =>
    j_oc τ5 7 v0 (j_c1 call 188 [.ref v0, .int (j_k 4), .int v1, .int v2] τ5 (fun x7 τ6 =>
    if x7 = 0 then (some (some (.int (j_k (-4))), τ6))
    else j_oc τ6 7 v0 (j_c1 call 212 [.ref v0, .int (j_k 4)] τ6 (fun x9 τ8 =>
    j_oc τ8 7 v0 (j_c1 call 187 [.ref v0, .int (j_k 4)] τ8 (fun x11 τ10 =>
    j_oc τ10 7 v0 (j_c1 call 212 [.ref v0, .int (j_k 4)] τ10 (fun x13 τ12 =>
    j_oc τ12 7 v0 (j_c1 call 129 [.int (s_I τ12 v0 30)] τ12 (fun x15 τ14 =>
    j_oc τ14 7 v0 (j_c1 call 134 [.ref v0, .int (x13 - x9), .int x15] τ14 (fun x17 τ16 =>
    some (some (.int x17), τ16)))))))))))))))))) := rfl

-- LastStirredModel.stone(I)I
set_option maxRecDepth 1000000 in
set_option maxHeartbeats 8000000 in
theorem t_214_0 (call : Nat → List Value → Sto → Option Rr) (again : Nat → j_L → List Value → Sto → Option Rr) (σ : Sto) (v0 : Nat) (v1 : Int32) :
    j_seg k_214 h_214 call again 2000 0 [some (.ref v0), some (.int v1), none, none, none, none, none] [] σ =
    j_oc σ 7 v0 (j_c1 call 160 [.ref v0, .int v1] σ (fun x2 τ1 =>
    if x2 = 0 then (some (some (.int (j_k (-1))), τ1))
    else j_gP τ1 7 v0 12 (fun a3 =>
    j_ia τ1 a3 v1 (
    if (s_I τ1 a3 v1.toNatClampNeg) = (j_k 1) then (some (some (.int (j_k (-1))), τ1))
    else again 32 [some (.ref v0), some (.int v1), some (.int (j_k 0)), some (.int (j_k (-9))), some (.int (j_k (-9))), some (.int (j_k 0)), none] [] τ1)))) := rfl

set_option maxRecDepth 1000000 in
set_option maxHeartbeats 8000000 in
theorem t_214_32 (call : Nat → List Value → Sto → Option Rr) (again : Nat → j_L → List Value → Sto → Option Rr) (σ : Sto) (v0 : Nat) (v1 : Int32) (v2 : Int32) (v3 : Int32) (v4 : Int32) (v5 : Int32) :
    j_seg k_214 h_214 call again 2000 32 [some (.ref v0), some (.int v1), some (.int v2), some (.int v3), some (.int v4), some (.int v5), none] [] σ =
    j_oc σ 7 v0 (if v5 < (s_I σ v0 13) then (j_oc σ 7 v0 (j_c1 call 162 [.ref v0, .int (j_k 0), .int ((j_k 5) + v5)] σ (fun x2 τ1 =>
     if x2 = (j_k (-9)) then (again 32 [some (.ref v0), some (.int v1), some (.int v2), some (.int v3), some (.int v4), some (.int (v5 + (j_k 1))), none] [] τ1)
     else j_oc τ1 7 v0 (j_c1 call 168 [.ref v0, .int x2, .int v1] τ1 (fun x4 τ3 =>
     if x4 = (j_k 1) then (if (j_k 0) = 0 ∨ (j_k 0) = 1 then (if v0 < j_b then j_oc τ3 7 v0 (let τ5 : Sto := s_uI τ3 v0 26 (j_k 0);
      j_oc τ5 7 v0 (if (s_I τ5 v0 10) = 0 then none else
      j_oc τ5 7 v0 (if (s_I τ5 v0 10) = 0 then none else
      j_oc τ5 7 v0 (if (s_I τ5 v0 10) = 0 then none else
      j_oc τ5 7 v0 (if (s_I τ5 v0 10) = 0 then none else
      j_oc τ5 7 v0 (j_c1 call 181 [.ref v0, .int x2, .int ((x2 - x2 / (s_I τ5 v0 10) * (s_I τ5 v0 10)) - (v1 - v1 / (s_I τ5 v0 10) * (s_I τ5 v0 10))), .int ((x2 / (s_I τ5 v0 10)) - (v1 / (s_I τ5 v0 10)))] τ5 (fun x7 τ6 =>
      j_oc τ6 7 v0 (j_c1 call 182 [.ref v0, .int (j_k 0), .int v5, .int x7] τ6 (fun x9 τ8 =>
      if x9 = 0 then (again 32 [some (.ref v0), some (.int v1), some (.int v2), some (.int v3), some (.int v4), some (.int (v5 + (j_k 1))), none] [] τ8)
      else j_oc τ8 7 v0 (again 32 [some (.ref v0), some (.int v1), some (.int (v2 + (j_k 1))), some (.int v5), some (.int (s_I τ8 v0 27)), some (.int (v5 + (j_k 1))), none] [] τ8)))))))))) else none) else none)
     else again 32 [some (.ref v0), some (.int v1), some (.int v2), some (.int v3), some (.int v4), some (.int (v5 + (j_k 1))), none] [] τ3)))))
    else if 0 < v2 then (j_oc σ 7 v0 (j_c0 call 183 [.ref v0, .int (j_k 0), .int v3, .int v4] σ (fun τ10 =>
     some (some (.int v2), τ10))))
    else some (some (.int v2), σ)) := rfl

-- LastStirredModel.drive(I)I
set_option maxRecDepth 1000000 in
set_option maxHeartbeats 8000000 in
theorem t_215_0 (call : Nat → List Value → Sto → Option Rr) (again : Nat → j_L → List Value → Sto → Option Rr) (σ : Sto) (v0 : Nat) (v1 : Int32) :
    j_seg k_215 h_215 call again 2000 0 [some (.ref v0), some (.int v1), none, none] [] σ =
    j_c1 call 139 [.int v1] σ (fun x2 τ1 =>
    if x2 = 0 then (some (some (.int (j_k (-1))), τ1))
    else j_oc τ1 7 v0 (if (s_I τ1 v0 11) = 0 then (some (some (.int (j_k (-4))), τ1))
    else j_gP τ1 7 v0 5 (fun a3 =>
    j_ia τ1 a3 v1 (
    if (s_I τ1 a3 v1.toNatClampNeg) < 0 then (j_oc τ1 7 v0 (j_c1 call 131 [.ref v0, .int (j_k 1)] τ1 (fun x5 τ4 =>
     some (some (.int x5), τ4))))
    else again 38 [some (.ref v0), some (.int v1), some (.int (j_k 1)), some (.int (j_k 0))] [] τ1)))) := rfl

set_option maxRecDepth 1000000 in
set_option maxHeartbeats 8000000 in
theorem t_215_38 (call : Nat → List Value → Sto → Option Rr) (again : Nat → j_L → List Value → Sto → Option Rr) (σ : Sto) (v0 : Nat) (v1 : Int32) (v2 : Int32) (v3 : Int32) :
    j_seg k_215 h_215 call again 2000 38 [some (.ref v0), some (.int v1), some (.int v2), some (.int v3)] [] σ =
    j_gP σ 7 v0 5 (fun a1 =>
    j_ia σ a1 v1 (
    if v3 < (s_I σ a1 v1.toNatClampNeg) then (if v2 = 0 then (again 38 [some (.ref v0), some (.int v1), some (.int (j_k 0)), some (.int (v3 + (j_k 1)))] [] σ)
     else j_oc σ 7 v0 (j_c1 call 140 [.ref v0, .int v1, .int v3] σ (fun x3 τ2 =>
     j_oc τ2 7 v0 (j_c1 call 201 [.ref v0] τ2 (fun x5 τ4 =>
     j_c1 call 127 [.int x3, .int (j_k 0), .int (x5 - (j_k 1))] τ4 (fun x7 τ6 =>
     if x7 = 0 then (again 38 [some (.ref v0), some (.int v1), some (.int (j_k 0)), some (.int (v3 + (j_k 1)))] [] τ6)
     else again 38 [some (.ref v0), some (.int v1), some (.int (j_k 1)), some (.int (v3 + (j_k 1)))] [] τ6))))))
    else if v2 = 0 then (j_oc σ 7 v0 (j_c1 call 131 [.ref v0, .int (j_k 3)] σ (fun x9 τ8 =>
     some (some (.int x9), τ8))))
    else j_oc σ 7 v0 (j_c1 call 162 [.ref v0, .int (j_k 0), .int (j_k 0)] σ (fun x11 τ10 =>
    j_gP τ10 7 v0 5 (fun a12 =>
    j_ia τ10 a12 v1 (
    if (j_k 10000) < (x11 + ((j_k 40) * (s_I τ10 a12 v1.toNatClampNeg))) then (some (some (.int (j_k (-6))), τ10))
    else again 120 [some (.ref v0), some (.int v1), some (.int v2), some (.int (j_k 0))] [] τ10)))))) := rfl

set_option maxRecDepth 1000000 in
set_option maxHeartbeats 8000000 in
theorem t_215_120 (call : Nat → List Value → Sto → Option Rr) (again : Nat → j_L → List Value → Sto → Option Rr) (σ : Sto) (v0 : Nat) (v1 : Int32) (v2 : Int32) (v3 : Int32) :
    j_seg k_215 h_215 call again 2000 120 [some (.ref v0), some (.int v1), some (.int v2), some (.int v3)] [] σ =
    j_gP σ 7 v0 5 (fun a1 =>
    j_ia σ a1 v1 (
    if v3 < (s_I σ a1 v1.toNatClampNeg) then (j_oc σ 7 v0 (j_c1 call 140 [.ref v0, .int v1, .int v3] σ (fun x3 τ2 =>
     j_oc τ2 7 v0 (j_c1 call 189 [.ref v0, .int (j_k 0), .int x3] τ2 (fun x5 τ4 =>
     if x5 = 0 then (j_oc τ4 7 v0 (j_c1 call 166 [.ref v0, .int (j_k 0)] τ4 (fun x7 τ6 =>
      j_oc τ6 7 v0 (j_c1 call 134 [.ref v0, .int x7, .int v3] τ6 (fun x9 τ8 =>
      some (some (.int x9), τ8))))))
     else again 120 [some (.ref v0), some (.int v1), some (.int v2), some (.int (v3 + (j_k 1)))] [] τ4)))))
    else j_oc σ 7 v0 (j_c1 call 166 [.ref v0, .int (j_k 0)] σ (fun x11 τ10 =>
    j_oc τ10 7 v0 (j_c1 call 134 [.ref v0, .int x11, .int v3] τ10 (fun x13 τ12 =>
    some (some (.int x13), τ12))))))) := rfl

-- LastStirredModel.isOpen(IZ)Z
set_option maxRecDepth 1000000 in
set_option maxHeartbeats 8000000 in
theorem t_216_0 (call : Nat → List Value → Sto → Option Rr) (again : Nat → j_L → List Value → Sto → Option Rr) (σ : Sto) (v0 : Nat) (v1 : Int32) (v2 : Int32) :
    j_seg k_216 h_216 call again 2000 0 [some (.ref v0), some (.int v1), some (.int v2)] [] σ =
    j_gP σ 7 v0 12 (fun a1 =>
    j_ia σ a1 v1 (
    if (s_I σ a1 v1.toNatClampNeg) = (j_k 1) then (if (j_k 0) = 0 ∨ (j_k 0) = 1 then some (some (.int (j_k 0)), σ) else none)
    else j_gP σ 7 v0 12 (fun a2 =>
    j_ia σ a2 v1 (
    if (s_I σ a2 v1.toNatClampNeg) = (j_k 2) then (if (j_k 0) = 0 ∨ (j_k 0) = 1 then some (some (.int (j_k 0)), σ) else none)
    else if v2 = 0 then (j_gP σ 7 v0 12 (fun a3 =>
     j_ia σ a3 v1 (
     if (s_I σ a3 v1.toNatClampNeg) = (j_k 4) then (if (j_k 0) = 0 ∨ (j_k 0) = 1 then some (some (.int (j_k 0)), σ) else none)
     else if (j_k 1) = 0 ∨ (j_k 1) = 1 then some (some (.int (j_k 1)), σ) else none)))
    else if (j_k 1) = 0 ∨ (j_k 1) = 1 then some (some (.int (j_k 1)), σ) else none)))) := rfl

-- LastStirredModel.reached(IZ)I
set_option maxRecDepth 1000000 in
set_option maxHeartbeats 8000000 in
theorem t_217_0 (call : Nat → List Value → Sto → Option Rr) (again : Nat → j_L → List Value → Sto → Option Rr) (σ : Sto) (v0 : Nat) (v1 : Int32) (v2 : Int32) :
    j_seg k_217 h_217 call again 2000 0 [some (.ref v0), some (.int v1), some (.int v2), none, none, none, none, none, none, none] [] σ =
    j_gP σ 7 v0 12 (fun a1 =>
    j_ia σ a1 v1 (
    if (s_I σ a1 v1.toNatClampNeg) = (j_k 1) then (some (some (.int (j_k 0)), σ))
    else j_gP σ 7 v0 12 (fun a2 =>
    j_ia σ a2 v1 (
    if (s_I σ a2 v1.toNatClampNeg) = (j_k 2) then (some (some (.int (j_k 0)), σ))
    else again 29 [some (.ref v0), some (.int v1), some (.int v2), some (.int ((j_k 1) <<< (v1 &&& 31))), some (.int (j_k 1)), none, none, none, none, none] [] σ)))) := rfl

set_option maxRecDepth 1000000 in
set_option maxHeartbeats 8000000 in
theorem t_217_29 (call : Nat → List Value → Sto → Option Rr) (again : Nat → j_L → List Value → Sto → Option Rr) (σ : Sto) (v0 : Nat) (v1 : Int32) (v2 : Int32) (v3 : Int32) (v4 : Int32) :
    j_seg k_217 h_217 call again 2000 29 [some (.ref v0), some (.int v1), some (.int v2), some (.int v3), some (.int v4), none, none, none, none, none] [] σ =
    if v4 = 0 then (some (some (.int v3), σ))
    else again 40 [some (.ref v0), some (.int v1), some (.int v2), some (.int v3), some (.int v4), some (.int v3), some (.int (j_k 0)), none, none, none] [] σ := rfl

set_option maxRecDepth 1000000 in
set_option maxHeartbeats 8000000 in
theorem t_217_40 (call : Nat → List Value → Sto → Option Rr) (again : Nat → j_L → List Value → Sto → Option Rr) (σ : Sto) (v0 : Nat) (v1 : Int32) (v2 : Int32) (v3 : Int32) (v4 : Int32) (v5 : Int32) (v6 : Int32) :
    j_seg k_217 h_217 call again 2000 40 [some (.ref v0), some (.int v1), some (.int v2), some (.int v3), some (.int v4), some (.int v5), some (.int v6), none, none, none] [] σ =
    j_oc σ 7 v0 (if v6 < (s_I σ v0 11) then (again 55 [some (.ref v0), some (.int v1), some (.int v2), some (.int v3), some (.int v4), some (.int v5), some (.int v6), some (.int (j_k 0)), some (.int (j_k 0)), none] [] σ)
    else if v3 = v5 then (again 29 [some (.ref v0), some (.int v1), some (.int v2), some (.int v3), some (.int (j_k 0)), none, none, none, none, none] [] σ)
    else again 29 [some (.ref v0), some (.int v1), some (.int v2), some (.int v3), some (.int (j_k 1)), none, none, none, none, none] [] σ) := rfl

set_option maxRecDepth 1000000 in
set_option maxHeartbeats 8000000 in
theorem t_217_55 (call : Nat → List Value → Sto → Option Rr) (again : Nat → j_L → List Value → Sto → Option Rr) (σ : Sto) (v0 : Nat) (v1 : Int32) (v2 : Int32) (v3 : Int32) (v4 : Int32) (v5 : Int32) (v6 : Int32) (v7 : Int32) (v8 : Int32) :
    j_seg k_217 h_217 call again 2000 55 [some (.ref v0), some (.int v1), some (.int v2), some (.int v3), some (.int v4), some (.int v5), some (.int v6), some (.int v7), some (.int v8), none] [] σ =
    if v8 < (j_k 4) then (if v8 = (j_k 1) then (if v8 = 0 then (j_oc σ 7 v0 (j_c1 call 181 [.ref v0, .int v6, .int (j_k 1), .int (j_k (-1))] σ (fun x2 τ1 =>
       if v7 = 0 then (if x2 = (j_k (-9)) then (again 55 [some (.ref v0), some (.int v1), some (.int v2), some (.int v3), some (.int v4), some (.int v5), some (.int v6), some (.int (j_k 0)), some (.int (v8 + (j_k 1))), none] [] τ1)
        else j_c1 call 128 [.int v3, .int x2] τ1 (fun x4 τ3 =>
        if x4 = 0 then (again 55 [some (.ref v0), some (.int v1), some (.int v2), some (.int v3), some (.int v4), some (.int v5), some (.int v6), some (.int (j_k 0)), some (.int (v8 + (j_k 1))), none] [] τ3)
        else again 55 [some (.ref v0), some (.int v1), some (.int v2), some (.int v3), some (.int v4), some (.int v5), some (.int v6), some (.int (j_k 1)), some (.int (v8 + (j_k 1))), none] [] τ3))
       else again 55 [some (.ref v0), some (.int v1), some (.int v2), some (.int v3), some (.int v4), some (.int v5), some (.int v6), some (.int (j_k 1)), some (.int (v8 + (j_k 1))), none] [] τ1)))
      else if v8 = (j_k 2) then (j_oc σ 7 v0 (j_c1 call 181 [.ref v0, .int v6, .int (j_k 1), .int (j_k 1)] σ (fun x6 τ5 =>
       if v7 = 0 then (if x6 = (j_k (-9)) then (again 55 [some (.ref v0), some (.int v1), some (.int v2), some (.int v3), some (.int v4), some (.int v5), some (.int v6), some (.int (j_k 0)), some (.int (v8 + (j_k 1))), none] [] τ5)
        else j_c1 call 128 [.int v3, .int x6] τ5 (fun x8 τ7 =>
        if x8 = 0 then (again 55 [some (.ref v0), some (.int v1), some (.int v2), some (.int v3), some (.int v4), some (.int v5), some (.int v6), some (.int (j_k 0)), some (.int (v8 + (j_k 1))), none] [] τ7)
        else again 55 [some (.ref v0), some (.int v1), some (.int v2), some (.int v3), some (.int v4), some (.int v5), some (.int v6), some (.int (j_k 1)), some (.int (v8 + (j_k 1))), none] [] τ7))
       else again 55 [some (.ref v0), some (.int v1), some (.int v2), some (.int v3), some (.int v4), some (.int v5), some (.int v6), some (.int (j_k 1)), some (.int (v8 + (j_k 1))), none] [] τ5)))
      else j_oc σ 7 v0 (j_c1 call 181 [.ref v0, .int v6, .int (j_k 1), .int (j_k 0)] σ (fun x10 τ9 =>
      if v7 = 0 then (if x10 = (j_k (-9)) then (again 55 [some (.ref v0), some (.int v1), some (.int v2), some (.int v3), some (.int v4), some (.int v5), some (.int v6), some (.int (j_k 0)), some (.int (v8 + (j_k 1))), none] [] τ9)
       else j_c1 call 128 [.int v3, .int x10] τ9 (fun x12 τ11 =>
       if x12 = 0 then (again 55 [some (.ref v0), some (.int v1), some (.int v2), some (.int v3), some (.int v4), some (.int v5), some (.int v6), some (.int (j_k 0)), some (.int (v8 + (j_k 1))), none] [] τ11)
       else again 55 [some (.ref v0), some (.int v1), some (.int v2), some (.int v3), some (.int v4), some (.int v5), some (.int v6), some (.int (j_k 1)), some (.int (v8 + (j_k 1))), none] [] τ11))
      else again 55 [some (.ref v0), some (.int v1), some (.int v2), some (.int v3), some (.int v4), some (.int v5), some (.int v6), some (.int (j_k 1)), some (.int (v8 + (j_k 1))), none] [] τ9)))
     else if v8 = (j_k 3) then (if v8 = 0 then (j_oc σ 7 v0 (j_c1 call 181 [.ref v0, .int v6, .int (j_k (-1)), .int (j_k (-1))] σ (fun x14 τ13 =>
       if v7 = 0 then (if x14 = (j_k (-9)) then (again 55 [some (.ref v0), some (.int v1), some (.int v2), some (.int v3), some (.int v4), some (.int v5), some (.int v6), some (.int (j_k 0)), some (.int (v8 + (j_k 1))), none] [] τ13)
        else j_c1 call 128 [.int v3, .int x14] τ13 (fun x16 τ15 =>
        if x16 = 0 then (again 55 [some (.ref v0), some (.int v1), some (.int v2), some (.int v3), some (.int v4), some (.int v5), some (.int v6), some (.int (j_k 0)), some (.int (v8 + (j_k 1))), none] [] τ15)
        else again 55 [some (.ref v0), some (.int v1), some (.int v2), some (.int v3), some (.int v4), some (.int v5), some (.int v6), some (.int (j_k 1)), some (.int (v8 + (j_k 1))), none] [] τ15))
       else again 55 [some (.ref v0), some (.int v1), some (.int v2), some (.int v3), some (.int v4), some (.int v5), some (.int v6), some (.int (j_k 1)), some (.int (v8 + (j_k 1))), none] [] τ13)))
      else if v8 = (j_k 2) then (j_oc σ 7 v0 (j_c1 call 181 [.ref v0, .int v6, .int (j_k (-1)), .int (j_k 1)] σ (fun x18 τ17 =>
       if v7 = 0 then (if x18 = (j_k (-9)) then (again 55 [some (.ref v0), some (.int v1), some (.int v2), some (.int v3), some (.int v4), some (.int v5), some (.int v6), some (.int (j_k 0)), some (.int (v8 + (j_k 1))), none] [] τ17)
        else j_c1 call 128 [.int v3, .int x18] τ17 (fun x20 τ19 =>
        if x20 = 0 then (again 55 [some (.ref v0), some (.int v1), some (.int v2), some (.int v3), some (.int v4), some (.int v5), some (.int v6), some (.int (j_k 0)), some (.int (v8 + (j_k 1))), none] [] τ19)
        else again 55 [some (.ref v0), some (.int v1), some (.int v2), some (.int v3), some (.int v4), some (.int v5), some (.int v6), some (.int (j_k 1)), some (.int (v8 + (j_k 1))), none] [] τ19))
       else again 55 [some (.ref v0), some (.int v1), some (.int v2), some (.int v3), some (.int v4), some (.int v5), some (.int v6), some (.int (j_k 1)), some (.int (v8 + (j_k 1))), none] [] τ17)))
      else j_oc σ 7 v0 (j_c1 call 181 [.ref v0, .int v6, .int (j_k (-1)), .int (j_k 0)] σ (fun x22 τ21 =>
      if v7 = 0 then (if x22 = (j_k (-9)) then (again 55 [some (.ref v0), some (.int v1), some (.int v2), some (.int v3), some (.int v4), some (.int v5), some (.int v6), some (.int (j_k 0)), some (.int (v8 + (j_k 1))), none] [] τ21)
       else j_c1 call 128 [.int v3, .int x22] τ21 (fun x24 τ23 =>
       if x24 = 0 then (again 55 [some (.ref v0), some (.int v1), some (.int v2), some (.int v3), some (.int v4), some (.int v5), some (.int v6), some (.int (j_k 0)), some (.int (v8 + (j_k 1))), none] [] τ23)
       else again 55 [some (.ref v0), some (.int v1), some (.int v2), some (.int v3), some (.int v4), some (.int v5), some (.int v6), some (.int (j_k 1)), some (.int (v8 + (j_k 1))), none] [] τ23))
      else again 55 [some (.ref v0), some (.int v1), some (.int v2), some (.int v3), some (.int v4), some (.int v5), some (.int v6), some (.int (j_k 1)), some (.int (v8 + (j_k 1))), none] [] τ21)))
     else if v8 = 0 then (j_oc σ 7 v0 (j_c1 call 181 [.ref v0, .int v6, .int (j_k 0), .int (j_k (-1))] σ (fun x26 τ25 =>
      if v7 = 0 then (if x26 = (j_k (-9)) then (again 55 [some (.ref v0), some (.int v1), some (.int v2), some (.int v3), some (.int v4), some (.int v5), some (.int v6), some (.int (j_k 0)), some (.int (v8 + (j_k 1))), none] [] τ25)
       else j_c1 call 128 [.int v3, .int x26] τ25 (fun x28 τ27 =>
       if x28 = 0 then (again 55 [some (.ref v0), some (.int v1), some (.int v2), some (.int v3), some (.int v4), some (.int v5), some (.int v6), some (.int (j_k 0)), some (.int (v8 + (j_k 1))), none] [] τ27)
       else again 55 [some (.ref v0), some (.int v1), some (.int v2), some (.int v3), some (.int v4), some (.int v5), some (.int v6), some (.int (j_k 1)), some (.int (v8 + (j_k 1))), none] [] τ27))
      else again 55 [some (.ref v0), some (.int v1), some (.int v2), some (.int v3), some (.int v4), some (.int v5), some (.int v6), some (.int (j_k 1)), some (.int (v8 + (j_k 1))), none] [] τ25)))
     else if v8 = (j_k 2) then (j_oc σ 7 v0 (j_c1 call 181 [.ref v0, .int v6, .int (j_k 0), .int (j_k 1)] σ (fun x30 τ29 =>
      if v7 = 0 then (if x30 = (j_k (-9)) then (again 55 [some (.ref v0), some (.int v1), some (.int v2), some (.int v3), some (.int v4), some (.int v5), some (.int v6), some (.int (j_k 0)), some (.int (v8 + (j_k 1))), none] [] τ29)
       else j_c1 call 128 [.int v3, .int x30] τ29 (fun x32 τ31 =>
       if x32 = 0 then (again 55 [some (.ref v0), some (.int v1), some (.int v2), some (.int v3), some (.int v4), some (.int v5), some (.int v6), some (.int (j_k 0)), some (.int (v8 + (j_k 1))), none] [] τ31)
       else again 55 [some (.ref v0), some (.int v1), some (.int v2), some (.int v3), some (.int v4), some (.int v5), some (.int v6), some (.int (j_k 1)), some (.int (v8 + (j_k 1))), none] [] τ31))
      else again 55 [some (.ref v0), some (.int v1), some (.int v2), some (.int v3), some (.int v4), some (.int v5), some (.int v6), some (.int (j_k 1)), some (.int (v8 + (j_k 1))), none] [] τ29)))
     else j_oc σ 7 v0 (j_c1 call 181 [.ref v0, .int v6, .int (j_k 0), .int (j_k 0)] σ (fun x34 τ33 =>
     if v7 = 0 then (if x34 = (j_k (-9)) then (again 55 [some (.ref v0), some (.int v1), some (.int v2), some (.int v3), some (.int v4), some (.int v5), some (.int v6), some (.int (j_k 0)), some (.int (v8 + (j_k 1))), none] [] τ33)
      else j_c1 call 128 [.int v3, .int x34] τ33 (fun x36 τ35 =>
      if x36 = 0 then (again 55 [some (.ref v0), some (.int v1), some (.int v2), some (.int v3), some (.int v4), some (.int v5), some (.int v6), some (.int (j_k 0)), some (.int (v8 + (j_k 1))), none] [] τ35)
      else again 55 [some (.ref v0), some (.int v1), some (.int v2), some (.int v3), some (.int v4), some (.int v5), some (.int v6), some (.int (j_k 1)), some (.int (v8 + (j_k 1))), none] [] τ35))
     else again 55 [some (.ref v0), some (.int v1), some (.int v2), some (.int v3), some (.int v4), some (.int v5), some (.int v6), some (.int (j_k 1)), some (.int (v8 + (j_k 1))), none] [] τ33)))
    else if v7 = 0 then (again 40 [some (.ref v0), some (.int v1), some (.int v2), some (.int (v3 ||| (j_k 0))), some (.int v4), some (.int v5), some (.int (v6 + (j_k 1))), none, none, none] [] σ)
    else j_oc σ 7 v0 (j_c1 call 216 [.ref v0, .int v6, .int v2] σ (fun x38 τ37 =>
    if x38 = 0 then (again 40 [some (.ref v0), some (.int v1), some (.int v2), some (.int (v3 ||| (j_k 0))), some (.int v4), some (.int v5), some (.int (v6 + (j_k 1))), none, none, none] [] τ37)
    else again 40 [some (.ref v0), some (.int v1), some (.int v2), some (.int (v3 ||| ((j_k 1) <<< (v6 &&& 31)))), some (.int v4), some (.int v5), some (.int (v6 + (j_k 1))), none, none, none] [] τ37)) := rfl

-- LastStirredModel.reach(II)I
set_option maxRecDepth 1000000 in
set_option maxHeartbeats 8000000 in
theorem t_218_0 (call : Nat → List Value → Sto → Option Rr) (again : Nat → j_L → List Value → Sto → Option Rr) (σ : Sto) (v0 : Nat) (v1 : Int32) (v2 : Int32) :
    j_seg k_218 h_218 call again 2000 0 [some (.ref v0), some (.int v1), some (.int v2)] [] σ =
    j_oc σ 7 v0 (j_c1 call 160 [.ref v0, .int v1] σ (fun x2 τ1 =>
    if x2 = 0 then (some (some (.int (j_k (-1))), τ1))
    else j_c1 call 127 [.int v2, .int (j_k 0), .int (j_k 1)] τ1 (fun x4 τ3 =>
    if x4 = 0 then (some (some (.int (j_k (-1))), τ3))
    else if v2 = (j_k 1) then (j_oc τ3 7 v0 (j_c1 call 217 [.ref v0, .int v1, .int (j_k 1)] τ3 (fun x6 τ5 =>
     some (some (.int x6), τ5))))
    else j_oc τ3 7 v0 (j_c1 call 217 [.ref v0, .int v1, .int (j_k 0)] τ3 (fun x8 τ7 =>
    some (some (.int x8), τ7)))))) := rfl

-- LastStirredModel.never()I
set_option maxRecDepth 1000000 in
set_option maxHeartbeats 8000000 in
theorem t_219_0 (call : Nat → List Value → Sto → Option Rr) (again : Nat → j_L → List Value → Sto → Option Rr) (σ : Sto) (v0 : Nat) :
    j_seg k_219 h_219 call again 2000 0 [some (.ref v0), none, none, none, none] [] σ =
    again 7 [some (.ref v0), some (.int (j_k 0)), some (.int (j_k (-9))), some (.int (j_k 0)), none] [] σ := rfl

set_option maxRecDepth 1000000 in
set_option maxHeartbeats 8000000 in
theorem t_219_7 (call : Nat → List Value → Sto → Option Rr) (again : Nat → j_L → List Value → Sto → Option Rr) (σ : Sto) (v0 : Nat) (v1 : Int32) (v2 : Int32) (v3 : Int32) :
    j_seg k_219 h_219 call again 2000 7 [some (.ref v0), some (.int v1), some (.int v2), some (.int v3), none] [] σ =
    j_oc σ 7 v0 (if v3 < (s_I σ v0 13) then (again 20 [some (.ref v0), some (.int v1), some (.int v2), some (.int v3), some (.int (v3 + (j_k 1)))] [] σ)
    else j_oc σ 7 v0 (j_c1 call 134 [.ref v0, .int v2, .int v1] σ (fun x2 τ1 =>
    some (some (.int x2), τ1)))) := rfl

set_option maxRecDepth 1000000 in
set_option maxHeartbeats 8000000 in
theorem t_219_20 (call : Nat → List Value → Sto → Option Rr) (again : Nat → j_L → List Value → Sto → Option Rr) (σ : Sto) (v0 : Nat) (v1 : Int32) (v2 : Int32) (v3 : Int32) (v4 : Int32) :
    j_seg k_219 h_219 call again 2000 20 [some (.ref v0), some (.int v1), some (.int v2), some (.int v3), some (.int v4)] [] σ =
    j_oc σ 7 v0 (if v4 < (s_I σ v0 13) then (j_oc σ 7 v0 (j_c1 call 165 [.ref v0, .int (j_k 0), .int v3] σ (fun x2 τ1 =>
     if x2 = 0 then (j_oc τ1 7 v0 (j_c1 call 165 [.ref v0, .int (j_k 0), .int v4] τ1 (fun x4 τ3 =>
      if x4 = 0 then (j_oc τ3 7 v0 (j_c1 call 162 [.ref v0, .int (j_k 0), .int ((j_k 5) + v3)] τ3 (fun x6 τ5 =>
       j_oc τ5 7 v0 (j_c1 call 217 [.ref v0, .int x6, .int (j_k 1)] τ5 (fun x8 τ7 =>
       j_oc τ7 7 v0 (j_c1 call 162 [.ref v0, .int (j_k 0), .int ((j_k 5) + v4)] τ7 (fun x10 τ9 =>
       j_c1 call 128 [.int x8, .int x10] τ9 (fun x12 τ11 =>
       if x12 = 0 then (if v1 = 0 then (again 20 [some (.ref v0), some (.int (v1 + (j_k 1))), some (.int (((j_k 10) * v3) + v4)), some (.int v3), some (.int (v4 + (j_k 1)))] [] τ11)
        else again 20 [some (.ref v0), some (.int (v1 + (j_k 1))), some (.int v2), some (.int v3), some (.int (v4 + (j_k 1)))] [] τ11)
       else again 20 [some (.ref v0), some (.int v1), some (.int v2), some (.int v3), some (.int (v4 + (j_k 1)))] [] τ11))))))))
      else again 20 [some (.ref v0), some (.int v1), some (.int v2), some (.int v3), some (.int (v4 + (j_k 1)))] [] τ3)))
     else again 20 [some (.ref v0), some (.int v1), some (.int v2), some (.int v3), some (.int (v4 + (j_k 1)))] [] τ1)))
    else again 7 [some (.ref v0), some (.int v1), some (.int v2), some (.int (v3 + (j_k 1))), none] [] σ) := rfl

-- LastStirredModel.wolfTo(II)I
set_option maxRecDepth 1000000 in
set_option maxHeartbeats 8000000 in
theorem t_220_0 (call : Nat → List Value → Sto → Option Rr) (again : Nat → j_L → List Value → Sto → Option Rr) (σ : Sto) (v0 : Nat) (v1 : Int32) (v2 : Int32) :
    j_seg k_220 h_220 call again 2000 0 [some (.ref v0), some (.int v1), some (.int v2), none] [] σ =
    if v2 = (j_k 4) then (again 52 [some (.ref v0), some (.int v1), some (.int v2), some (.int v1)] [] σ)
    else if v2 = (j_k 1) then (if v2 = 0 then (j_oc σ 7 v0 (j_c1 call 181 [.ref v0, .int v1, .int (j_k 1), .int (j_k (-1))] σ (fun x2 τ1 =>
      again 52 [some (.ref v0), some (.int v1), some (.int v2), some (.int x2)] [] τ1)))
     else if v2 = (j_k 2) then (j_oc σ 7 v0 (j_c1 call 181 [.ref v0, .int v1, .int (j_k 1), .int (j_k 1)] σ (fun x4 τ3 =>
      again 52 [some (.ref v0), some (.int v1), some (.int v2), some (.int x4)] [] τ3)))
     else j_oc σ 7 v0 (j_c1 call 181 [.ref v0, .int v1, .int (j_k 1), .int (j_k 0)] σ (fun x6 τ5 =>
     again 52 [some (.ref v0), some (.int v1), some (.int v2), some (.int x6)] [] τ5)))
    else if v2 = (j_k 3) then (if v2 = 0 then (j_oc σ 7 v0 (j_c1 call 181 [.ref v0, .int v1, .int (j_k (-1)), .int (j_k (-1))] σ (fun x8 τ7 =>
      again 52 [some (.ref v0), some (.int v1), some (.int v2), some (.int x8)] [] τ7)))
     else if v2 = (j_k 2) then (j_oc σ 7 v0 (j_c1 call 181 [.ref v0, .int v1, .int (j_k (-1)), .int (j_k 1)] σ (fun x10 τ9 =>
      again 52 [some (.ref v0), some (.int v1), some (.int v2), some (.int x10)] [] τ9)))
     else j_oc σ 7 v0 (j_c1 call 181 [.ref v0, .int v1, .int (j_k (-1)), .int (j_k 0)] σ (fun x12 τ11 =>
     again 52 [some (.ref v0), some (.int v1), some (.int v2), some (.int x12)] [] τ11)))
    else if v2 = 0 then (j_oc σ 7 v0 (j_c1 call 181 [.ref v0, .int v1, .int (j_k 0), .int (j_k (-1))] σ (fun x14 τ13 =>
     again 52 [some (.ref v0), some (.int v1), some (.int v2), some (.int x14)] [] τ13)))
    else if v2 = (j_k 2) then (j_oc σ 7 v0 (j_c1 call 181 [.ref v0, .int v1, .int (j_k 0), .int (j_k 1)] σ (fun x16 τ15 =>
     again 52 [some (.ref v0), some (.int v1), some (.int v2), some (.int x16)] [] τ15)))
    else j_oc σ 7 v0 (j_c1 call 181 [.ref v0, .int v1, .int (j_k 0), .int (j_k 0)] σ (fun x18 τ17 =>
    again 52 [some (.ref v0), some (.int v1), some (.int v2), some (.int x18)] [] τ17)) := rfl

set_option maxRecDepth 1000000 in
set_option maxHeartbeats 8000000 in
theorem t_220_52 (call : Nat → List Value → Sto → Option Rr) (again : Nat → j_L → List Value → Sto → Option Rr) (σ : Sto) (v0 : Nat) (v1 : Int32) (v2 : Int32) (v3 : Int32) :
    j_seg k_220 h_220 call again 2000 52 [some (.ref v0), some (.int v1), some (.int v2), some (.int v3)] [] σ =
    if v3 = (j_k (-9)) then (some (some (.int (j_k (-9))), σ))
    else if v2 = (j_k 4) then (some (some (.int v3), σ))
    else j_gP σ 7 v0 12 (fun a1 =>
    j_ia σ a1 v3 (
    if (s_I σ a1 v3.toNatClampNeg) = (j_k 1) then (some (some (.int (j_k (-9))), σ))
    else j_gP σ 7 v0 12 (fun a2 =>
    j_ia σ a2 v3 (
    if (s_I σ a2 v3.toNatClampNeg) = (j_k 2) then (some (some (.int (j_k (-9))), σ))
    else some (some (.int v3), σ))))) := rfl

-- LastStirredModel.keeps(IIII)Z
set_option maxRecDepth 1000000 in
set_option maxHeartbeats 8000000 in
theorem t_221_0 (call : Nat → List Value → Sto → Option Rr) (again : Nat → j_L → List Value → Sto → Option Rr) (σ : Sto) (v0 : Nat) (v1 : Int32) (v2 : Int32) (v3 : Int32) (v4 : Int32) :
    j_seg k_221 h_221 call again 2000 0 [some (.ref v0), some (.int v1), some (.int v2), some (.int v3), some (.int v4), none, none, none] [] σ =
    j_oc σ 7 v0 (j_c0 call 164 [.ref v0, .int v1, .int (v1 + (j_k 1))] σ (fun τ1 =>
    if v2 = (j_k (-9)) then (j_oc τ1 7 v0 (j_c1 call 166 [.ref v0, .int (v1 + (j_k 1))] τ1 (fun x3 τ2 =>
     j_oc τ2 7 v0 (j_c1 call 166 [.ref v0, .int v1] τ2 (fun x5 τ4 =>
     if x5 < x3 then (if (j_k 0) = 0 ∨ (j_k 0) = 1 then some (some (.int (j_k 0)), τ4) else none)
     else again 48 [some (.ref v0), some (.int v1), some (.int v2), some (.int v3), some (.int v4), some (.int (j_k 1)), some (.int (j_k 0)), none] [] τ4)))))
    else j_oc τ1 7 v0 (j_c1 call 189 [.ref v0, .int (v1 + (j_k 1)), .int v2] τ1 (fun x7 τ6 =>
    if x7 = 0 then (if (j_k 0) = 0 ∨ (j_k 0) = 1 then some (some (.int (j_k 0)), τ6) else none)
    else j_oc τ6 7 v0 (j_c1 call 166 [.ref v0, .int (v1 + (j_k 1))] τ6 (fun x9 τ8 =>
    j_oc τ8 7 v0 (j_c1 call 166 [.ref v0, .int v1] τ8 (fun x11 τ10 =>
    if x11 < x9 then (if (j_k 0) = 0 ∨ (j_k 0) = 1 then some (some (.int (j_k 0)), τ10) else none)
    else again 48 [some (.ref v0), some (.int v1), some (.int v2), some (.int v3), some (.int v4), some (.int (j_k 1)), some (.int (j_k 0)), none] [] τ10)))))))) := rfl

set_option maxRecDepth 1000000 in
set_option maxHeartbeats 8000000 in
theorem t_221_48 (call : Nat → List Value → Sto → Option Rr) (again : Nat → j_L → List Value → Sto → Option Rr) (σ : Sto) (v0 : Nat) (v1 : Int32) (v2 : Int32) (v3 : Int32) (v4 : Int32) (v5 : Int32) (v6 : Int32) :
    j_seg k_221 h_221 call again 2000 48 [some (.ref v0), some (.int v1), some (.int v2), some (.int v3), some (.int v4), some (.int v5), some (.int v6), none] [] σ =
    if v6 < (j_k 5) then (if v5 = 0 then (if v5 = 0 ∨ v5 = 1 then some (some (.int v5), σ) else none)
     else j_oc σ 7 v0 (j_c1 call 220 [.ref v0, .int v3, .int v6] σ (fun x2 τ1 =>
     if x2 = (j_k (-9)) then (again 48 [some (.ref v0), some (.int v1), some (.int v2), some (.int v3), some (.int v4), some (.int v5), some (.int (v6 + (j_k 1))), none] [] τ1)
     else j_oc τ1 7 v0 (j_c1 call 167 [.ref v0, .int (v1 + (j_k 1)), .int x2, .int (j_k (-9))] τ1 (fun x4 τ3 =>
     if x4 = (j_k (-9)) then (if v4 = (j_k 1) then (again 48 [some (.ref v0), some (.int v1), some (.int v2), some (.int v3), some (.int v4), some (.int (j_k 1)), some (.int (v6 + (j_k 1))), none] [] τ3)
      else j_oc τ3 7 v0 (j_c1 call 222 [.ref v0, .int (v1 + (j_k 1)), .int x2] τ3 (fun x6 τ5 =>
      if x6 = 0 then (again 48 [some (.ref v0), some (.int v1), some (.int v2), some (.int v3), some (.int v4), some (.int (j_k 0)), some (.int (v6 + (j_k 1))), none] [] τ5)
      else again 48 [some (.ref v0), some (.int v1), some (.int v2), some (.int v3), some (.int v4), some (.int (j_k 1)), some (.int (v6 + (j_k 1))), none] [] τ5)))
     else again 48 [some (.ref v0), some (.int v1), some (.int v2), some (.int v3), some (.int v4), some (.int (j_k 0)), some (.int (v6 + (j_k 1))), none] [] τ3)))))
    else if v5 = 0 ∨ v5 = 1 then some (some (.int v5), σ) else none := rfl

-- LastStirredModel.canKeep(II)Z
set_option maxRecDepth 1000000 in
set_option maxHeartbeats 8000000 in
theorem t_222_0 (call : Nat → List Value → Sto → Option Rr) (again : Nat → j_L → List Value → Sto → Option Rr) (σ : Sto) (v0 : Nat) (v1 : Int32) (v2 : Int32) :
    j_seg k_222 h_222 call again 2000 0 [some (.ref v0), some (.int v1), some (.int v2), none, none] [] σ =
    again 5 [some (.ref v0), some (.int v1), some (.int v2), some (.int (j_k 0)), some (.int (j_k (-1)))] [] σ := rfl

set_option maxRecDepth 1000000 in
set_option maxHeartbeats 8000000 in
theorem t_222_5 (call : Nat → List Value → Sto → Option Rr) (again : Nat → j_L → List Value → Sto → Option Rr) (σ : Sto) (v0 : Nat) (v1 : Int32) (v2 : Int32) (v3 : Int32) (v4 : Int32) :
    j_seg k_222 h_222 call again 2000 5 [some (.ref v0), some (.int v1), some (.int v2), some (.int v3), some (.int v4)] [] σ =
    j_oc σ 7 v0 (j_c1 call 201 [.ref v0] σ (fun x2 τ1 =>
    if v4 < x2 then (if v3 = 0 then (if v4 < 0 then (j_oc τ1 7 v0 (j_c1 call 223 [.ref v0, .int v1, .int (j_k (-9)), .int v2] τ1 (fun x4 τ3 =>
       again 5 [some (.ref v0), some (.int v1), some (.int v2), some (.int x4), some (.int (v4 + (j_k 1)))] [] τ3)))
      else j_oc τ1 7 v0 (j_c1 call 223 [.ref v0, .int v1, .int v4, .int v2] τ1 (fun x6 τ5 =>
      again 5 [some (.ref v0), some (.int v1), some (.int v2), some (.int x6), some (.int (v4 + (j_k 1)))] [] τ5)))
     else if v3 = 0 ∨ v3 = 1 then some (some (.int v3), τ1) else none)
    else if v3 = 0 ∨ v3 = 1 then some (some (.int v3), τ1) else none)) := rfl

-- LastStirredModel.keepsLast(III)Z
set_option maxRecDepth 1000000 in
set_option maxHeartbeats 8000000 in
theorem t_223_0 (call : Nat → List Value → Sto → Option Rr) (again : Nat → j_L → List Value → Sto → Option Rr) (σ : Sto) (v0 : Nat) (v1 : Int32) (v2 : Int32) (v3 : Int32) :
    j_seg k_223 h_223 call again 2000 0 [some (.ref v0), some (.int v1), some (.int v2), some (.int v3), none, none, none] [] σ =
    j_oc σ 7 v0 (j_c0 call 164 [.ref v0, .int v1, .int (v1 + (j_k 1))] σ (fun τ1 =>
    if v2 = (j_k (-9)) then (j_oc τ1 7 v0 (j_c1 call 166 [.ref v0, .int (v1 + (j_k 1))] τ1 (fun x3 τ2 =>
     j_oc τ2 7 v0 (j_c1 call 166 [.ref v0, .int v1] τ2 (fun x5 τ4 =>
     if x5 < x3 then (if (j_k 0) = 0 ∨ (j_k 0) = 1 then some (some (.int (j_k 0)), τ4) else none)
     else again 48 [some (.ref v0), some (.int v1), some (.int v2), some (.int v3), some (.int (j_k 1)), some (.int (j_k 0)), none] [] τ4)))))
    else j_oc τ1 7 v0 (j_c1 call 189 [.ref v0, .int (v1 + (j_k 1)), .int v2] τ1 (fun x7 τ6 =>
    if x7 = 0 then (if (j_k 0) = 0 ∨ (j_k 0) = 1 then some (some (.int (j_k 0)), τ6) else none)
    else j_oc τ6 7 v0 (j_c1 call 166 [.ref v0, .int (v1 + (j_k 1))] τ6 (fun x9 τ8 =>
    j_oc τ8 7 v0 (j_c1 call 166 [.ref v0, .int v1] τ8 (fun x11 τ10 =>
    if x11 < x9 then (if (j_k 0) = 0 ∨ (j_k 0) = 1 then some (some (.int (j_k 0)), τ10) else none)
    else again 48 [some (.ref v0), some (.int v1), some (.int v2), some (.int v3), some (.int (j_k 1)), some (.int (j_k 0)), none] [] τ10)))))))) := rfl

set_option maxRecDepth 1000000 in
set_option maxHeartbeats 8000000 in
theorem t_223_48 (call : Nat → List Value → Sto → Option Rr) (again : Nat → j_L → List Value → Sto → Option Rr) (σ : Sto) (v0 : Nat) (v1 : Int32) (v2 : Int32) (v3 : Int32) (v4 : Int32) (v5 : Int32) :
    j_seg k_223 h_223 call again 2000 48 [some (.ref v0), some (.int v1), some (.int v2), some (.int v3), some (.int v4), some (.int v5), none] [] σ =
    if v5 < (j_k 5) then (j_oc σ 7 v0 (j_c1 call 220 [.ref v0, .int v3, .int v5] σ (fun x2 τ1 =>
     if v4 = 0 then (again 48 [some (.ref v0), some (.int v1), some (.int v2), some (.int v3), some (.int (j_k 0)), some (.int (v5 + (j_k 1))), none] [] τ1)
     else if x2 = (j_k (-9)) then (again 48 [some (.ref v0), some (.int v1), some (.int v2), some (.int v3), some (.int (j_k 1)), some (.int (v5 + (j_k 1))), none] [] τ1)
     else j_oc τ1 7 v0 (j_c1 call 167 [.ref v0, .int (v1 + (j_k 1)), .int x2, .int (j_k (-9))] τ1 (fun x4 τ3 =>
     if x4 = (j_k (-9)) then (again 48 [some (.ref v0), some (.int v1), some (.int v2), some (.int v3), some (.int (j_k 1)), some (.int (v5 + (j_k 1))), none] [] τ3)
     else again 48 [some (.ref v0), some (.int v1), some (.int v2), some (.int v3), some (.int (j_k 0)), some (.int (v5 + (j_k 1))), none] [] τ3)))))
    else if v4 = 0 ∨ v4 = 1 then some (some (.int v4), σ) else none := rfl

-- LastStirredModel.wolf(II)I
set_option maxRecDepth 1000000 in
set_option maxHeartbeats 8000000 in
theorem t_224_0 (call : Nat → List Value → Sto → Option Rr) (again : Nat → j_L → List Value → Sto → Option Rr) (σ : Sto) (v0 : Nat) (v1 : Int32) (v2 : Int32) :
    j_seg k_224 h_224 call again 2000 0 [some (.ref v0), some (.int v1), some (.int v2), none] [] σ =
    j_oc σ 7 v0 (j_c1 call 160 [.ref v0, .int v1] σ (fun x2 τ1 =>
    if x2 = 0 then (some (some (.int (j_k (-1))), τ1))
    else j_c1 call 127 [.int v2, .int (j_k 1), .int (j_k 2)] τ1 (fun x4 τ3 =>
    if x4 = 0 then (some (some (.int (j_k (-1))), τ3))
    else j_gP τ3 7 v0 12 (fun a5 =>
    j_ia τ3 a5 v1 (
    if (s_I τ3 a5 v1.toNatClampNeg) = (j_k 1) then (some (some (.int (j_k (-1))), τ3))
    else j_gP τ3 7 v0 12 (fun a6 =>
    j_ia τ3 a6 v1 (
    if (s_I τ3 a6 v1.toNatClampNeg) = (j_k 2) then (some (some (.int (j_k (-1))), τ3))
    else j_oc τ3 7 v0 (j_c1 call 167 [.ref v0, .int (j_k 0), .int v1, .int (j_k (-9))] τ3 (fun x8 τ7 =>
    if x8 = (j_k (-9)) then (j_oc τ7 7 v0 (j_c0 call 164 [.ref v0, .int (j_k 0), .int (j_k 4)] τ7 (fun τ9 =>
     again 63 [some (.ref v0), some (.int v1), some (.int v2), some (.int (j_k (-1)))] [] τ9)))
    else some (some (.int (j_k (-4))), τ7)))))))))) := rfl

set_option maxRecDepth 1000000 in
set_option maxHeartbeats 8000000 in
theorem t_224_63 (call : Nat → List Value → Sto → Option Rr) (again : Nat → j_L → List Value → Sto → Option Rr) (σ : Sto) (v0 : Nat) (v1 : Int32) (v2 : Int32) (v3 : Int32) :
    j_seg k_224 h_224 call again 2000 63 [some (.ref v0), some (.int v1), some (.int v2), some (.int v3)] [] σ =
    j_oc σ 7 v0 (j_c1 call 201 [.ref v0] σ (fun x2 τ1 =>
    if v3 < x2 then (if v3 < 0 then (j_oc τ1 7 v0 (j_c1 call 221 [.ref v0, .int (j_k 4), .int (j_k (-9)), .int v1, .int v2] τ1 (fun x4 τ3 =>
      if x4 = 0 then (again 63 [some (.ref v0), some (.int v1), some (.int v2), some (.int (v3 + (j_k 1)))] [] τ3)
      else if v3 < 0 then (j_oc τ3 7 v0 (j_c1 call 134 [.ref v0, .int (j_k (-9)), .int (j_k 1)] τ3 (fun x6 τ5 =>
       some (some (.int x6), τ5))))
      else j_oc τ3 7 v0 (j_c1 call 134 [.ref v0, .int v3, .int (j_k 1)] τ3 (fun x8 τ7 =>
      some (some (.int x8), τ7))))))
     else j_oc τ1 7 v0 (j_c1 call 221 [.ref v0, .int (j_k 4), .int v3, .int v1, .int v2] τ1 (fun x10 τ9 =>
     if x10 = 0 then (again 63 [some (.ref v0), some (.int v1), some (.int v2), some (.int (v3 + (j_k 1)))] [] τ9)
     else if v3 < 0 then (j_oc τ9 7 v0 (j_c1 call 134 [.ref v0, .int (j_k (-9)), .int (j_k 1)] τ9 (fun x12 τ11 =>
      some (some (.int x12), τ11))))
     else j_oc τ9 7 v0 (j_c1 call 134 [.ref v0, .int v3, .int (j_k 1)] τ9 (fun x14 τ13 =>
     some (some (.int x14), τ13))))))
    else j_oc τ1 7 v0 (j_c1 call 134 [.ref v0, .int (j_k (-9)), .int (j_k 0)] τ1 (fun x16 τ15 =>
    some (some (.int x16), τ15))))) := rfl

-- LastStirredModel.needDawn(I)I
set_option maxRecDepth 1000000 in
set_option maxHeartbeats 8000000 in
theorem t_225_0 (call : Nat → List Value → Sto → Option Rr) (again : Nat → j_L → List Value → Sto → Option Rr) (σ : Sto) (v0 : Nat) (v1 : Int32) :
    j_seg k_225 h_225 call again 2000 0 [some (.ref v0), some (.int v1), none, none] [] σ =
    j_gP σ 7 v0 5 (fun a1 =>
    j_ia σ a1 v1 (
    if (s_I σ a1 v1.toNatClampNeg) < 0 then (j_oc σ 7 v0 (j_c1 call 131 [.ref v0, .int (j_k 1)] σ (fun x3 τ2 =>
     some (some (.int x3), τ2))))
    else j_gP σ 7 v0 5 (fun a4 =>
    j_ia σ a4 v1 (
    j_oc σ 7 v0 (if (s_I σ a4 v1.toNatClampNeg) = (s_I σ v0 13) then (again 38 [some (.ref v0), some (.int v1), some (.int (j_k 1)), some (.int (j_k 0))] [] σ)
    else j_oc σ 7 v0 (j_c1 call 131 [.ref v0, .int (j_k 5)] σ (fun x6 τ5 =>
    some (some (.int x6), τ5)))))))) := rfl

set_option maxRecDepth 1000000 in
set_option maxHeartbeats 8000000 in
theorem t_225_38 (call : Nat → List Value → Sto → Option Rr) (again : Nat → j_L → List Value → Sto → Option Rr) (σ : Sto) (v0 : Nat) (v1 : Int32) (v2 : Int32) (v3 : Int32) :
    j_seg k_225 h_225 call again 2000 38 [some (.ref v0), some (.int v1), some (.int v2), some (.int v3)] [] σ =
    j_oc σ 7 v0 (if v3 < (s_I σ v0 13) then (if v2 = 0 then (again 38 [some (.ref v0), some (.int v1), some (.int (j_k 0)), some (.int (v3 + (j_k 1)))] [] σ)
     else j_oc σ 7 v0 (j_c1 call 140 [.ref v0, .int v1, .int v3] σ (fun x2 τ1 =>
     j_oc τ1 7 v0 (j_c1 call 160 [.ref v0, .int x2] τ1 (fun x4 τ3 =>
     if x4 = 0 then (j_oc τ3 7 v0 (j_c1 call 140 [.ref v0, .int v1, .int v3] τ3 (fun x6 τ5 =>
      if x6 = (j_k (-9)) then (again 38 [some (.ref v0), some (.int v1), some (.int (j_k 1)), some (.int (v3 + (j_k 1)))] [] τ5)
      else again 38 [some (.ref v0), some (.int v1), some (.int (j_k 0)), some (.int (v3 + (j_k 1)))] [] τ5)))
     else again 38 [some (.ref v0), some (.int v1), some (.int (j_k 1)), some (.int (v3 + (j_k 1)))] [] τ3)))))
    else if v2 = 0 then (j_oc σ 7 v0 (j_c1 call 131 [.ref v0, .int (j_k 3)] σ (fun x8 τ7 =>
     some (some (.int x8), τ7))))
    else some (some (.int (j_k 0)), σ)) := rfl

-- LastStirredModel.dawn(I)I
set_option maxRecDepth 1000000 in
set_option maxHeartbeats 8000000 in
theorem t_226_0 (call : Nat → List Value → Sto → Option Rr) (again : Nat → j_L → List Value → Sto → Option Rr) (σ : Sto) (v0 : Nat) (v1 : Int32) :
    j_seg k_226 h_226 call again 2000 0 [some (.ref v0), some (.int v1), none, none] [] σ =
    j_c1 call 139 [.int v1] σ (fun x2 τ1 =>
    if x2 = 0 then (some (some (.int (j_k (-1))), τ1))
    else j_oc τ1 7 v0 (j_c1 call 225 [.ref v0, .int v1] τ1 (fun x4 τ3 =>
    if x4 < 0 then (some (some (.int x4), τ3))
    else j_oc τ3 7 v0 (j_c1 call 207 [.ref v0, .int (j_k 2), .int v1] τ3 (fun x6 τ5 =>
    if x6 = (j_k (-9)) then (some (some (.int (j_k (-9))), τ5))
    else j_oc τ5 7 v0 (j_oc τ5 7 v0 (j_c1 call 134 [.ref v0, .int (s_I τ5 v0 33), .int x6] τ5 (fun x8 τ7 =>
    some (some (.int x8), τ7))))))))) := rfl

-- LastStirredModel.who(I)I
set_option maxRecDepth 1000000 in
set_option maxHeartbeats 8000000 in
theorem t_227_0 (call : Nat → List Value → Sto → Option Rr) (again : Nat → j_L → List Value → Sto → Option Rr) (σ : Sto) (v0 : Nat) (v1 : Int32) :
    j_seg k_227 h_227 call again 2000 0 [some (.ref v0), some (.int v1), none, none] [] σ =
    j_c1 call 139 [.int v1] σ (fun x2 τ1 =>
    if x2 = 0 then (some (some (.int (j_k (-1))), τ1))
    else j_oc τ1 7 v0 (j_c1 call 225 [.ref v0, .int v1] τ1 (fun x4 τ3 =>
    if x4 < 0 then (some (some (.int x4), τ3))
    else j_oc τ3 7 v0 (j_c1 call 207 [.ref v0, .int (j_k 2), .int v1] τ3 (fun x6 τ5 =>
    if x6 = (j_k (-9)) then (some (some (.int (j_k (-9))), τ5))
    else if x6 = 0 then (some (some (.int (j_k (-9))), τ5))
    else j_oc τ5 7 v0 (j_oc τ5 7 v0 (j_oc τ5 7 v0 (j_c1 call 134 [.ref v0, .int (s_I τ5 v0 36), .int (s_I τ5 v0 35)] τ5 (fun x8 τ7 =>
    some (some (.int x8), τ7)))))))))) := rfl

-- LastStirredModel.breed(I)I
set_option maxRecDepth 1000000 in
set_option maxHeartbeats 8000000 in
theorem t_228_0 (call : Nat → List Value → Sto → Option Rr) (again : Nat → j_L → List Value → Sto → Option Rr) (σ : Sto) (v0 : Nat) (v1 : Int32) :
    j_seg k_228 h_228 call again 2000 0 [some (.ref v0), some (.int v1), none, none] [] σ =
    j_c1 call 127 [.int v1, .int (j_k 0), .int (j_k 5)] σ (fun x2 τ1 =>
    if x2 = 0 then (some (some (.int (j_k (-1))), τ1))
    else j_oc τ1 7 v0 (if (s_I τ1 v0 11) = 0 then (some (some (.int (j_k (-4))), τ1))
    else again 23 [some (.ref v0), some (.int v1), some (.int (j_k 0)), none] [] τ1)) := rfl

set_option maxRecDepth 1000000 in
set_option maxHeartbeats 8000000 in
theorem t_228_23 (call : Nat → List Value → Sto → Option Rr) (again : Nat → j_L → List Value → Sto → Option Rr) (σ : Sto) (v0 : Nat) (v1 : Int32) (v2 : Int32) :
    j_seg k_228 h_228 call again 2000 23 [some (.ref v0), some (.int v1), some (.int v2), none] [] σ =
    j_oc σ 7 v0 (if v2 < (s_I σ v0 13) then (j_gP σ 7 v0 37 (fun a1 =>
     j_gP σ 7 v0 14 (fun a2 =>
     j_ia σ a2 v2 (
     j_is σ a1 v2 (let τ3 : Sto := s_uI σ a1 v2.toNatClampNeg (s_I σ a2 v2.toNatClampNeg);
     j_gP τ3 7 v0 14 (fun a4 =>
     j_is τ3 a4 v2 (let τ5 : Sto := s_uI τ3 a4 v2.toNatClampNeg v1;
     again 23 [some (.ref v0), some (.int v1), some (.int (v2 + (j_k 1))), none] [] τ5)))))))
    else j_oc σ 7 v0 (j_c1 call 207 [.ref v0, .int (j_k 2), .int (j_k (-1))] σ (fun x7 τ6 =>
    again 65 [some (.ref v0), some (.int v1), some (.int x7), some (.int (j_k 0))] [] τ6))) := rfl

set_option maxRecDepth 1000000 in
set_option maxHeartbeats 8000000 in
theorem t_228_65 (call : Nat → List Value → Sto → Option Rr) (again : Nat → j_L → List Value → Sto → Option Rr) (σ : Sto) (v0 : Nat) (v1 : Int32) (v2 : Int32) (v3 : Int32) :
    j_seg k_228 h_228 call again 2000 65 [some (.ref v0), some (.int v1), some (.int v2), some (.int v3)] [] σ =
    j_oc σ 7 v0 (if v3 < (s_I σ v0 13) then (j_gP σ 7 v0 14 (fun a1 =>
     j_gP σ 7 v0 37 (fun a2 =>
     j_ia σ a2 v3 (
     j_is σ a1 v3 (let τ3 : Sto := s_uI σ a1 v3.toNatClampNeg (s_I σ a2 v3.toNatClampNeg);
     again 65 [some (.ref v0), some (.int v1), some (.int v2), some (.int (v3 + (j_k 1)))] [] τ3)))))
    else some (some (.int v2), σ)) := rfl

-- LastStirredModel.counted(I)I
set_option maxRecDepth 1000000 in
set_option maxHeartbeats 8000000 in
theorem t_229_0 (call : Nat → List Value → Sto → Option Rr) (again : Nat → j_L → List Value → Sto → Option Rr) (σ : Sto) (v0 : Nat) (v1 : Int32) :
    j_seg k_229 h_229 call again 2000 0 [some (.ref v0), some (.int v1), none, none] [] σ =
    again 4 [some (.ref v0), some (.int v1), some (.int (j_k 0)), some (.int (j_k 0))] [] σ := rfl

set_option maxRecDepth 1000000 in
set_option maxHeartbeats 8000000 in
theorem t_229_4 (call : Nat → List Value → Sto → Option Rr) (again : Nat → j_L → List Value → Sto → Option Rr) (σ : Sto) (v0 : Nat) (v1 : Int32) (v2 : Int32) (v3 : Int32) :
    j_seg k_229 h_229 call again 2000 4 [some (.ref v0), some (.int v1), some (.int v2), some (.int v3)] [] σ =
    j_oc σ 7 v0 (if v3 < (s_I σ v0 13) then (if v1 = (j_k 4) then (j_oc σ 7 v0 (j_c1 call 173 [.ref v0, .int v3] σ (fun x2 τ1 =>
      if x2 = 0 then (again 4 [some (.ref v0), some (.int v1), some (.int (v2 + (j_k 0))), some (.int (v3 + (j_k 1)))] [] τ1)
      else again 4 [some (.ref v0), some (.int v1), some (.int (v2 + (j_k 1))), some (.int (v3 + (j_k 1)))] [] τ1)))
     else again 4 [some (.ref v0), some (.int v1), some (.int (v2 + (j_k 0))), some (.int (v3 + (j_k 1)))] [] σ)
    else again 41 [some (.ref v0), some (.int v1), some (.int v2), some (.int (j_k 0))] [] σ) := rfl

set_option maxRecDepth 1000000 in
set_option maxHeartbeats 8000000 in
theorem t_229_41 (call : Nat → List Value → Sto → Option Rr) (again : Nat → j_L → List Value → Sto → Option Rr) (σ : Sto) (v0 : Nat) (v1 : Int32) (v2 : Int32) (v3 : Int32) :
    j_seg k_229 h_229 call again 2000 41 [some (.ref v0), some (.int v1), some (.int v2), some (.int v3)] [] σ =
    if v3 < (j_k 3) then (if v1 = (j_k 5) then (j_gP σ 7 v0 25 (fun a1 =>
      j_ba σ a1 v3 (
      if (s_I σ a1 v3.toNatClampNeg) = 0 then (again 41 [some (.ref v0), some (.int v1), some (.int (v2 + (j_k 0))), some (.int (v3 + (j_k 1)))] [] σ)
      else again 41 [some (.ref v0), some (.int v1), some (.int (v2 + (j_k 1))), some (.int (v3 + (j_k 1)))] [] σ)))
     else again 41 [some (.ref v0), some (.int v1), some (.int (v2 + (j_k 0))), some (.int (v3 + (j_k 1)))] [] σ)
    else again 76 [some (.ref v0), some (.int v1), some (.int v2), some (.int (j_k 0))] [] σ := rfl

set_option maxRecDepth 1000000 in
set_option maxHeartbeats 8000000 in
theorem t_229_76 (call : Nat → List Value → Sto → Option Rr) (again : Nat → j_L → List Value → Sto → Option Rr) (σ : Sto) (v0 : Nat) (v1 : Int32) (v2 : Int32) (v3 : Int32) :
    j_seg k_229 h_229 call again 2000 76 [some (.ref v0), some (.int v1), some (.int v2), some (.int v3)] [] σ =
    if v3 < (j_k 6) then (if v1 = (j_k 6) then (j_gP σ 7 v0 5 (fun a1 =>
      j_ia σ a1 v3 (
      if (s_I σ a1 v3.toNatClampNeg) < 0 then (again 76 [some (.ref v0), some (.int v1), some (.int (v2 + (j_k 0))), some (.int (v3 + (j_k 1)))] [] σ)
      else again 76 [some (.ref v0), some (.int v1), some (.int (v2 + (j_k 1))), some (.int (v3 + (j_k 1)))] [] σ)))
     else again 76 [some (.ref v0), some (.int v1), some (.int (v2 + (j_k 0))), some (.int (v3 + (j_k 1)))] [] σ)
    else again 113 [some (.ref v0), some (.int v1), some (.int v2), some (.int (j_k 0))] [] σ := rfl

set_option maxRecDepth 1000000 in
set_option maxHeartbeats 8000000 in
theorem t_229_113 (call : Nat → List Value → Sto → Option Rr) (again : Nat → j_L → List Value → Sto → Option Rr) (σ : Sto) (v0 : Nat) (v1 : Int32) (v2 : Int32) (v3 : Int32) :
    j_seg k_229 h_229 call again 2000 113 [some (.ref v0), some (.int v1), some (.int v2), some (.int v3)] [] σ =
    if v3 < (j_k 4) then (if v1 = (j_k 7) then (j_gP σ 7 v0 8 (fun a1 =>
      j_ia σ a1 v3 (
      if (s_I σ a1 v3.toNatClampNeg) < 0 then (again 113 [some (.ref v0), some (.int v1), some (.int (v2 + (j_k 0))), some (.int (v3 + (j_k 1)))] [] σ)
      else again 113 [some (.ref v0), some (.int v1), some (.int (v2 + (j_k 1))), some (.int (v3 + (j_k 1)))] [] σ)))
     else again 113 [some (.ref v0), some (.int v1), some (.int (v2 + (j_k 0))), some (.int (v3 + (j_k 1)))] [] σ)
    else if v1 = (j_k 0) then (j_oc σ 7 v0 (some (some (.int (s_I σ v0 11)), σ)))
    else if v1 = (j_k 1) then (j_oc σ 7 v0 (some (some (.int (s_I σ v0 13)), σ)))
    else if v1 = (j_k 2) then (j_oc σ 7 v0 (j_c1 call 166 [.ref v0, .int (j_k 0)] σ (fun x3 τ2 =>
     some (some (.int x3), τ2))))
    else if v1 = (j_k 3) then (j_oc σ 7 v0 (j_c1 call 162 [.ref v0, .int (j_k 0), .int (j_k 0)] σ (fun x5 τ4 =>
     some (some (.int x5), τ4))))
    else some (some (.int v2), σ) := rfl

-- LastStirredModel.count(I)I
set_option maxRecDepth 1000000 in
set_option maxHeartbeats 8000000 in
theorem t_230_0 (call : Nat → List Value → Sto → Option Rr) (again : Nat → j_L → List Value → Sto → Option Rr) (σ : Sto) (v0 : Nat) (v1 : Int32) :
    j_seg k_230 h_230 call again 2000 0 [some (.ref v0), some (.int v1)] [] σ =
    j_c1 call 127 [.int v1, .int (j_k 0), .int (j_k 7)] σ (fun x2 τ1 =>
    if x2 = 0 then (some (some (.int (j_k (-1))), τ1))
    else j_oc τ1 7 v0 (j_c1 call 229 [.ref v0, .int v1] τ1 (fun x4 τ3 =>
    some (some (.int x4), τ3)))) := rfl

-- LastStirredModel.mix(J)V
set_option maxRecDepth 1000000 in
set_option maxHeartbeats 8000000 in
theorem t_231_0 (call : Nat → List Value → Sto → Option Rr) (again : Nat → j_L → List Value → Sto → Option Rr) (σ : Sto) (v0 : Nat) (v1 : Int64) :
    j_seg k_231 h_231 call again 2000 0 [some (.ref v0), some (.long v1), none] [] σ =
    j_oc σ 7 v0 (if v0 < j_b then j_oc σ 7 v0 (let τ1 : Sto := s_uJ σ v0 38 (((j_cJ 7) * (s_J σ v0 38)) + v1);
    some (none, τ1)) else none) := rfl

-- LastStirredModel.mixFlock()V
set_option maxRecDepth 1000000 in
set_option maxHeartbeats 8000000 in
theorem t_232_0 (call : Nat → List Value → Sto → Option Rr) (again : Nat → j_L → List Value → Sto → Option Rr) (σ : Sto) (v0 : Nat) :
    j_seg k_232 h_232 call again 2000 0 [some (.ref v0), none, none] [] σ =
    again 2 [some (.ref v0), some (.int (j_k 0)), none] [] σ := rfl

set_option maxRecDepth 1000000 in
set_option maxHeartbeats 8000000 in
theorem t_232_2 (call : Nat → List Value → Sto → Option Rr) (again : Nat → j_L → List Value → Sto → Option Rr) (σ : Sto) (v0 : Nat) (v1 : Int32) :
    j_seg k_232 h_232 call again 2000 2 [some (.ref v0), some (.int v1), none] [] σ =
    j_oc σ 7 v0 (if v1 < (s_I σ v0 11) then (j_gP σ 7 v0 12 (fun a1 =>
     j_ia σ a1 v1 (
     j_oc σ 7 v0 (j_c0 call 231 [.ref v0, .long ((s_I σ a1 v1.toNatClampNeg).toInt64)] σ (fun τ2 =>
     again 2 [some (.ref v0), some (.int (v1 + (j_k 1))), none] [] τ2)))))
    else again 29 [some (.ref v0), some (.int (j_k 0)), none] [] σ) := rfl

set_option maxRecDepth 1000000 in
set_option maxHeartbeats 8000000 in
theorem t_232_29 (call : Nat → List Value → Sto → Option Rr) (again : Nat → j_L → List Value → Sto → Option Rr) (σ : Sto) (v0 : Nat) (v1 : Int32) :
    j_seg k_232 h_232 call again 2000 29 [some (.ref v0), some (.int v1), none] [] σ =
    j_oc σ 7 v0 (if v1 < (s_I σ v0 13) then (again 39 [some (.ref v0), some (.int v1), some (.int (j_k 0))] [] σ)
    else again 69 [some (.ref v0), some (.int (j_k 1)), none] [] σ) := rfl

set_option maxRecDepth 1000000 in
set_option maxHeartbeats 8000000 in
theorem t_232_39 (call : Nat → List Value → Sto → Option Rr) (again : Nat → j_L → List Value → Sto → Option Rr) (σ : Sto) (v0 : Nat) (v1 : Int32) (v2 : Int32) :
    j_seg k_232 h_232 call again 2000 39 [some (.ref v0), some (.int v1), some (.int v2)] [] σ =
    if v2 < (j_k 3) then (j_oc σ 7 v0 (j_c1 call 171 [.ref v0, .int v1, .int v2] σ (fun x2 τ1 =>
     j_oc τ1 7 v0 (j_c0 call 231 [.ref v0, .long x2.toInt64] τ1 (fun τ3 =>
     again 39 [some (.ref v0), some (.int v1), some (.int (v2 + (j_k 1)))] [] τ3)))))
    else again 29 [some (.ref v0), some (.int (v1 + (j_k 1))), none] [] σ := rfl

set_option maxRecDepth 1000000 in
set_option maxHeartbeats 8000000 in
theorem t_232_69 (call : Nat → List Value → Sto → Option Rr) (again : Nat → j_L → List Value → Sto → Option Rr) (σ : Sto) (v0 : Nat) (v1 : Int32) :
    j_seg k_232 h_232 call again 2000 69 [some (.ref v0), some (.int v1), none] [] σ =
    if (j_k 4) < v1 then (again 93 [some (.ref v0), some (.int (j_k 0)), none] [] σ)
    else j_oc σ 7 v0 (j_c1 call 162 [.ref v0, .int (j_k 0), .int v1] σ (fun x2 τ1 =>
    j_oc τ1 7 v0 (j_c0 call 231 [.ref v0, .long x2.toInt64] τ1 (fun τ3 =>
    again 69 [some (.ref v0), some (.int (v1 + (j_k 1))), none] [] τ3)))) := rfl

set_option maxRecDepth 1000000 in
set_option maxHeartbeats 8000000 in
theorem t_232_93 (call : Nat → List Value → Sto → Option Rr) (again : Nat → j_L → List Value → Sto → Option Rr) (σ : Sto) (v0 : Nat) (v1 : Int32) :
    j_seg k_232 h_232 call again 2000 93 [some (.ref v0), some (.int v1), none] [] σ =
    if v1 < (j_k 3) then (j_gP σ 7 v0 25 (fun a1 =>
     j_ba σ a1 v1 (
     if (s_I σ a1 v1.toNatClampNeg) = 0 then (j_oc σ 7 v0 (j_c0 call 231 [.ref v0, .long (j_cJ 8)] σ (fun τ2 =>
      again 93 [some (.ref v0), some (.int (v1 + (j_k 1))), none] [] τ2)))
     else j_oc σ 7 v0 (j_c1 call 162 [.ref v0, .int ((j_k 1) + v1), .int (j_k 0)] σ (fun x4 τ3 =>
     j_oc τ3 7 v0 (j_c0 call 231 [.ref v0, .long x4.toInt64] τ3 (fun τ5 =>
     again 93 [some (.ref v0), some (.int (v1 + (j_k 1))), none] [] τ5)))))))
    else some (none, σ) := rfl

-- LastStirredModel.digest()J
set_option maxRecDepth 1000000 in
set_option maxHeartbeats 8000000 in
theorem t_233_0 (call : Nat → List Value → Sto → Option Rr) (again : Nat → j_L → List Value → Sto → Option Rr) (σ : Sto) (v0 : Nat) :
    j_seg k_233 h_233 call again 2000 0 [some (.ref v0), none, none] [] σ =
    if v0 < j_b then j_oc σ 7 v0 (let τ1 : Sto := s_uJ σ v0 38 (j_cJ 6);
    again 9 [some (.ref v0), some (.int (j_k 0)), none] [] τ1) else none := rfl

set_option maxRecDepth 1000000 in
set_option maxHeartbeats 8000000 in
theorem t_233_9 (call : Nat → List Value → Sto → Option Rr) (again : Nat → j_L → List Value → Sto → Option Rr) (σ : Sto) (v0 : Nat) (v1 : Int32) :
    j_seg k_233 h_233 call again 2000 9 [some (.ref v0), some (.int v1), none] [] σ =
    if v1 < (j_k 8) then (j_oc σ 7 v0 (j_c1 call 229 [.ref v0, .int v1] σ (fun x2 τ1 =>
     j_oc τ1 7 v0 (j_c0 call 231 [.ref v0, .long x2.toInt64] τ1 (fun τ3 =>
     again 9 [some (.ref v0), some (.int (v1 + (j_k 1))), none] [] τ3)))))
    else j_oc σ 7 v0 (j_c0 call 232 [.ref v0] σ (fun τ4 =>
    again 37 [some (.ref v0), some (.int (j_k 0)), none] [] τ4)) := rfl

set_option maxRecDepth 1000000 in
set_option maxHeartbeats 8000000 in
theorem t_233_37 (call : Nat → List Value → Sto → Option Rr) (again : Nat → j_L → List Value → Sto → Option Rr) (σ : Sto) (v0 : Nat) (v1 : Int32) :
    j_seg k_233 h_233 call again 2000 37 [some (.ref v0), some (.int v1), none] [] σ =
    if v1 < (j_k 6) then (j_gP σ 7 v0 5 (fun a1 =>
     j_ia σ a1 v1 (
     j_oc σ 7 v0 (j_c0 call 231 [.ref v0, .long ((s_I σ a1 v1.toNatClampNeg).toInt64)] σ (fun τ2 =>
     again 56 [some (.ref v0), some (.int v1), some (.int (j_k 0))] [] τ2)))))
    else again 91 [some (.ref v0), some (.int (j_k 0)), none] [] σ := rfl

set_option maxRecDepth 1000000 in
set_option maxHeartbeats 8000000 in
theorem t_233_56 (call : Nat → List Value → Sto → Option Rr) (again : Nat → j_L → List Value → Sto → Option Rr) (σ : Sto) (v0 : Nat) (v1 : Int32) (v2 : Int32) :
    j_seg k_233 h_233 call again 2000 56 [some (.ref v0), some (.int v1), some (.int v2)] [] σ =
    j_gP σ 7 v0 5 (fun a1 =>
    j_ia σ a1 v1 (
    if v2 < (s_I σ a1 v1.toNatClampNeg) then (j_oc σ 7 v0 (j_c1 call 140 [.ref v0, .int v1, .int v2] σ (fun x3 τ2 =>
     j_oc τ2 7 v0 (j_c0 call 231 [.ref v0, .long x3.toInt64] τ2 (fun τ4 =>
     again 56 [some (.ref v0), some (.int v1), some (.int (v2 + (j_k 1)))] [] τ4)))))
    else again 37 [some (.ref v0), some (.int (v1 + (j_k 1))), none] [] σ)) := rfl

set_option maxRecDepth 1000000 in
set_option maxHeartbeats 8000000 in
theorem t_233_91 (call : Nat → List Value → Sto → Option Rr) (again : Nat → j_L → List Value → Sto → Option Rr) (σ : Sto) (v0 : Nat) (v1 : Int32) :
    j_seg k_233 h_233 call again 2000 91 [some (.ref v0), some (.int v1), none] [] σ =
    if v1 < (j_k 4) then (j_gP σ 7 v0 8 (fun a1 =>
     j_ia σ a1 v1 (
     j_oc σ 7 v0 (j_c0 call 231 [.ref v0, .long ((s_I σ a1 v1.toNatClampNeg).toInt64)] σ (fun τ2 =>
     again 109 [some (.ref v0), some (.int v1), some (.int (j_k 0))] [] τ2)))))
    else j_oc σ 7 v0 (some (some (.long (s_J σ v0 38)), σ)) := rfl

set_option maxRecDepth 1000000 in
set_option maxHeartbeats 8000000 in
theorem t_233_109 (call : Nat → List Value → Sto → Option Rr) (again : Nat → j_L → List Value → Sto → Option Rr) (σ : Sto) (v0 : Nat) (v1 : Int32) (v2 : Int32) :
    j_seg k_233 h_233 call again 2000 109 [some (.ref v0), some (.int v1), some (.int v2)] [] σ =
    j_gP σ 7 v0 8 (fun a1 =>
    j_ia σ a1 v1 (
    if v2 < (s_I σ a1 v1.toNatClampNeg) then (j_oc σ 7 v0 (j_c1 call 150 [.ref v0, .int v1, .int v2] σ (fun x3 τ2 =>
     j_oc τ2 7 v0 (j_c0 call 231 [.ref v0, .long x3.toInt64] τ2 (fun τ4 =>
     again 109 [some (.ref v0), some (.int v1), some (.int (v2 + (j_k 1)))] [] τ4)))))
    else again 91 [some (.ref v0), some (.int (v1 + (j_k 1))), none] [] σ)) := rfl
end
section
/-! ===== what each stretch of each method does (by program wip/gen) ===== -/
-- LastStirredLaw.law([I)Z
set_option maxRecDepth 1000000 in
set_option maxHeartbeats 8000000 in
theorem t_236_0 (call : Nat → List Value → Sto → Option Rr) (again : Nat → j_L → List Value → Sto → Option Rr) (σ : Sto) (v0 : Nat) :
    j_seg k_236 h_236 call again 2000 0 [some (.ref v0), none, none, none] [] σ =
    let τ1 : Sto := s_al σ (.inl 6) 16;
    j_c0 call 68 [.ref (s_n σ)] τ1 (fun τ2 =>
    let τ3 : Sto := s_al τ2 (.inl 7) 39;
    j_c0 call 126 [.ref (s_n τ2)] τ3 (fun τ4 =>
    again 18 [some (.ref v0), some (.ref (s_n σ)), some (.ref (s_n τ2)), some (.int (j_k 0))] [] τ4)) := rfl

set_option maxRecDepth 1000000 in
set_option maxHeartbeats 8000000 in
theorem t_236_18 (call : Nat → List Value → Sto → Option Rr) (again : Nat → j_L → List Value → Sto → Option Rr) (σ : Sto) (v0 : Nat) (v1 : Nat) (v2 : Nat) (v3 : Int32) :
    j_seg k_236 h_236 call again 2000 18 [some (.ref v0), some (.ref v1), some (.ref v2), some (.int v3)] [] σ =
    j_len σ v0 (fun n1 =>
    if (n1 - (j_k 6)) < v3 then (if (j_k 1) = 0 ∨ (j_k 1) = 1 then some (some (.int (j_k 1)), σ) else none)
    else j_ia σ v0 v3 (
    if ((s_I σ v0 v3.toNatClampNeg) &&& (j_k 63)) = (j_k 0) then (j_ia σ v0 (v3 + (j_k 1)) (
     j_ia σ v0 (v3 + (j_k 2)) (
     j_oc σ 6 v1 (j_c1 call 69 [.ref v1, .int (s_I σ v0 (v3 + (j_k 1)).toNatClampNeg), .int (s_I σ v0 (v3 + (j_k 2)).toNatClampNeg)] σ (fun x3 τ2 =>
     j_ia τ2 v0 (v3 + (j_k 1)) (
     j_ia τ2 v0 (v3 + (j_k 2)) (
     j_oc τ2 7 v2 (j_c1 call 141 [.ref v2, .int (s_I τ2 v0 (v3 + (j_k 1)).toNatClampNeg), .int (s_I τ2 v0 (v3 + (j_k 2)).toNatClampNeg)] τ2 (fun x5 τ4 =>
     if x3 = x5 then (again 18 [some (.ref v0), some (.ref v1), some (.ref v2), some (.int (v3 + (j_k 6)))] [] τ4)
     else if (j_k 0) = 0 ∨ (j_k 0) = 1 then some (some (.int (j_k 0)), τ4) else none)))))))))
    else if ((s_I σ v0 v3.toNatClampNeg) &&& (j_k 63)) = (j_k 1) then (j_ia σ v0 (v3 + (j_k 1)) (
     j_ia σ v0 (v3 + (j_k 2)) (
     j_ia σ v0 (v3 + (j_k 3)) (
     j_oc σ 6 v1 (j_c1 call 70 [.ref v1, .int (s_I σ v0 (v3 + (j_k 1)).toNatClampNeg), .int (s_I σ v0 (v3 + (j_k 2)).toNatClampNeg), .int (s_I σ v0 (v3 + (j_k 3)).toNatClampNeg)] σ (fun x7 τ6 =>
     j_ia τ6 v0 (v3 + (j_k 1)) (
     j_ia τ6 v0 (v3 + (j_k 2)) (
     j_ia τ6 v0 (v3 + (j_k 3)) (
     j_oc τ6 7 v2 (j_c1 call 142 [.ref v2, .int (s_I τ6 v0 (v3 + (j_k 1)).toNatClampNeg), .int (s_I τ6 v0 (v3 + (j_k 2)).toNatClampNeg), .int (s_I τ6 v0 (v3 + (j_k 3)).toNatClampNeg)] τ6 (fun x9 τ8 =>
     if x7 = x9 then (again 18 [some (.ref v0), some (.ref v1), some (.ref v2), some (.int (v3 + (j_k 6)))] [] τ8)
     else if (j_k 0) = 0 ∨ (j_k 0) = 1 then some (some (.int (j_k 0)), τ8) else none)))))))))))
    else if ((s_I σ v0 v3.toNatClampNeg) &&& (j_k 63)) = (j_k 2) then (j_ia σ v0 (v3 + (j_k 1)) (
     j_ia σ v0 (v3 + (j_k 2)) (
     j_oc σ 6 v1 (j_c1 call 71 [.ref v1, .int (s_I σ v0 (v3 + (j_k 1)).toNatClampNeg), .int (s_I σ v0 (v3 + (j_k 2)).toNatClampNeg)] σ (fun x11 τ10 =>
     j_ia τ10 v0 (v3 + (j_k 1)) (
     j_ia τ10 v0 (v3 + (j_k 2)) (
     j_oc τ10 7 v2 (j_c1 call 143 [.ref v2, .int (s_I τ10 v0 (v3 + (j_k 1)).toNatClampNeg), .int (s_I τ10 v0 (v3 + (j_k 2)).toNatClampNeg)] τ10 (fun x13 τ12 =>
     if x11 = x13 then (again 18 [some (.ref v0), some (.ref v1), some (.ref v2), some (.int (v3 + (j_k 6)))] [] τ12)
     else if (j_k 0) = 0 ∨ (j_k 0) = 1 then some (some (.int (j_k 0)), τ12) else none)))))))))
    else if ((s_I σ v0 v3.toNatClampNeg) &&& (j_k 63)) = (j_k 3) then (j_ia σ v0 (v3 + (j_k 1)) (
     j_oc σ 6 v1 (j_c1 call 72 [.ref v1, .int (s_I σ v0 (v3 + (j_k 1)).toNatClampNeg)] σ (fun x15 τ14 =>
     j_ia τ14 v0 (v3 + (j_k 1)) (
     j_oc τ14 7 v2 (j_c1 call 144 [.ref v2, .int (s_I τ14 v0 (v3 + (j_k 1)).toNatClampNeg)] τ14 (fun x17 τ16 =>
     if x15 = x17 then (again 18 [some (.ref v0), some (.ref v1), some (.ref v2), some (.int (v3 + (j_k 6)))] [] τ16)
     else if (j_k 0) = 0 ∨ (j_k 0) = 1 then some (some (.int (j_k 0)), τ16) else none)))))))
    else if ((s_I σ v0 v3.toNatClampNeg) &&& (j_k 63)) = (j_k 4) then (j_ia σ v0 (v3 + (j_k 1)) (
     j_ia σ v0 (v3 + (j_k 2)) (
     j_ia σ v0 (v3 + (j_k 3)) (
     j_ia σ v0 (v3 + (j_k 4)) (
     j_ia σ v0 (v3 + (j_k 5)) (
     j_oc σ 6 v1 (j_c1 call 73 [.ref v1, .int (s_I σ v0 (v3 + (j_k 1)).toNatClampNeg), .int (s_I σ v0 (v3 + (j_k 2)).toNatClampNeg), .int (s_I σ v0 (v3 + (j_k 3)).toNatClampNeg), .int (s_I σ v0 (v3 + (j_k 4)).toNatClampNeg), .int (s_I σ v0 (v3 + (j_k 5)).toNatClampNeg)] σ (fun x19 τ18 =>
     j_ia τ18 v0 (v3 + (j_k 1)) (
     j_ia τ18 v0 (v3 + (j_k 2)) (
     j_ia τ18 v0 (v3 + (j_k 3)) (
     j_ia τ18 v0 (v3 + (j_k 4)) (
     j_ia τ18 v0 (v3 + (j_k 5)) (
     j_oc τ18 7 v2 (j_c1 call 145 [.ref v2, .int (s_I τ18 v0 (v3 + (j_k 1)).toNatClampNeg), .int (s_I τ18 v0 (v3 + (j_k 2)).toNatClampNeg), .int (s_I τ18 v0 (v3 + (j_k 3)).toNatClampNeg), .int (s_I τ18 v0 (v3 + (j_k 4)).toNatClampNeg), .int (s_I τ18 v0 (v3 + (j_k 5)).toNatClampNeg)] τ18 (fun x21 τ20 =>
     if x19 = x21 then (again 18 [some (.ref v0), some (.ref v1), some (.ref v2), some (.int (v3 + (j_k 6)))] [] τ20)
     else if (j_k 0) = 0 ∨ (j_k 0) = 1 then some (some (.int (j_k 0)), τ20) else none)))))))))))))))
    else if ((s_I σ v0 v3.toNatClampNeg) &&& (j_k 63)) = (j_k 5) then (j_ia σ v0 (v3 + (j_k 1)) (
     j_oc σ 6 v1 (j_c1 call 74 [.ref v1, .int (s_I σ v0 (v3 + (j_k 1)).toNatClampNeg)] σ (fun x23 τ22 =>
     j_ia τ22 v0 (v3 + (j_k 1)) (
     j_oc τ22 7 v2 (j_c1 call 146 [.ref v2, .int (s_I τ22 v0 (v3 + (j_k 1)).toNatClampNeg)] τ22 (fun x25 τ24 =>
     if x23 = x25 then (again 18 [some (.ref v0), some (.ref v1), some (.ref v2), some (.int (v3 + (j_k 6)))] [] τ24)
     else if (j_k 0) = 0 ∨ (j_k 0) = 1 then some (some (.int (j_k 0)), τ24) else none)))))))
    else if ((s_I σ v0 v3.toNatClampNeg) &&& (j_k 63)) = (j_k 6) then (j_ia σ v0 (v3 + (j_k 1)) (
     j_ia σ v0 (v3 + (j_k 2)) (
     j_oc σ 6 v1 (j_c1 call 75 [.ref v1, .int (s_I σ v0 (v3 + (j_k 1)).toNatClampNeg), .int (s_I σ v0 (v3 + (j_k 2)).toNatClampNeg)] σ (fun x27 τ26 =>
     j_ia τ26 v0 (v3 + (j_k 1)) (
     j_ia τ26 v0 (v3 + (j_k 2)) (
     j_oc τ26 7 v2 (j_c1 call 148 [.ref v2, .int (s_I τ26 v0 (v3 + (j_k 1)).toNatClampNeg), .int (s_I τ26 v0 (v3 + (j_k 2)).toNatClampNeg)] τ26 (fun x29 τ28 =>
     if x27 = x29 then (again 18 [some (.ref v0), some (.ref v1), some (.ref v2), some (.int (v3 + (j_k 6)))] [] τ28)
     else if (j_k 0) = 0 ∨ (j_k 0) = 1 then some (some (.int (j_k 0)), τ28) else none)))))))))
    else if ((s_I σ v0 v3.toNatClampNeg) &&& (j_k 63)) = (j_k 7) then (j_ia σ v0 (v3 + (j_k 1)) (
     j_ia σ v0 (v3 + (j_k 2)) (
     j_ia σ v0 (v3 + (j_k 3)) (
     j_oc σ 6 v1 (j_c1 call 76 [.ref v1, .int (s_I σ v0 (v3 + (j_k 1)).toNatClampNeg), .int (s_I σ v0 (v3 + (j_k 2)).toNatClampNeg), .int (s_I σ v0 (v3 + (j_k 3)).toNatClampNeg)] σ (fun x31 τ30 =>
     j_ia τ30 v0 (v3 + (j_k 1)) (
     j_ia τ30 v0 (v3 + (j_k 2)) (
     j_ia τ30 v0 (v3 + (j_k 3)) (
     j_oc τ30 7 v2 (j_c1 call 149 [.ref v2, .int (s_I τ30 v0 (v3 + (j_k 1)).toNatClampNeg), .int (s_I τ30 v0 (v3 + (j_k 2)).toNatClampNeg), .int (s_I τ30 v0 (v3 + (j_k 3)).toNatClampNeg)] τ30 (fun x33 τ32 =>
     if x31 = x33 then (again 18 [some (.ref v0), some (.ref v1), some (.ref v2), some (.int (v3 + (j_k 6)))] [] τ32)
     else if (j_k 0) = 0 ∨ (j_k 0) = 1 then some (some (.int (j_k 0)), τ32) else none)))))))))))
    else if ((s_I σ v0 v3.toNatClampNeg) &&& (j_k 63)) = (j_k 8) then (j_ia σ v0 (v3 + (j_k 1)) (
     j_oc σ 6 v1 (j_c1 call 77 [.ref v1, .int (s_I σ v0 (v3 + (j_k 1)).toNatClampNeg)] σ (fun x35 τ34 =>
     j_ia τ34 v0 (v3 + (j_k 1)) (
     j_oc τ34 7 v2 (j_c1 call 158 [.ref v2, .int (s_I τ34 v0 (v3 + (j_k 1)).toNatClampNeg)] τ34 (fun x37 τ36 =>
     if x35 = x37 then (again 18 [some (.ref v0), some (.ref v1), some (.ref v2), some (.int (v3 + (j_k 6)))] [] τ36)
     else if (j_k 0) = 0 ∨ (j_k 0) = 1 then some (some (.int (j_k 0)), τ36) else none)))))))
    else if ((s_I σ v0 v3.toNatClampNeg) &&& (j_k 63)) = (j_k 9) then (j_ia σ v0 (v3 + (j_k 1)) (
     j_oc σ 6 v1 (j_c1 call 78 [.ref v1, .int (s_I σ v0 (v3 + (j_k 1)).toNatClampNeg)] σ (fun x39 τ38 =>
     j_ia τ38 v0 (v3 + (j_k 1)) (
     j_oc τ38 7 v2 (j_c1 call 159 [.ref v2, .int (s_I τ38 v0 (v3 + (j_k 1)).toNatClampNeg)] τ38 (fun x41 τ40 =>
     if x39 = x41 then (again 18 [some (.ref v0), some (.ref v1), some (.ref v2), some (.int (v3 + (j_k 6)))] [] τ40)
     else if (j_k 0) = 0 ∨ (j_k 0) = 1 then some (some (.int (j_k 0)), τ40) else none)))))))
    else if ((s_I σ v0 v3.toNatClampNeg) &&& (j_k 63)) = (j_k 10) then (j_ia σ v0 (v3 + (j_k 1)) (
     j_oc σ 6 v1 (j_c1 call 79 [.ref v1, .int (s_I σ v0 (v3 + (j_k 1)).toNatClampNeg)] σ (fun x43 τ42 =>
     j_ia τ42 v0 (v3 + (j_k 1)) (
     j_oc τ42 7 v2 (j_c1 call 169 [.ref v2, .int (s_I τ42 v0 (v3 + (j_k 1)).toNatClampNeg)] τ42 (fun x45 τ44 =>
     if x43 = x45 then (again 18 [some (.ref v0), some (.ref v1), some (.ref v2), some (.int (v3 + (j_k 6)))] [] τ44)
     else if (j_k 0) = 0 ∨ (j_k 0) = 1 then some (some (.int (j_k 0)), τ44) else none)))))))
    else if ((s_I σ v0 v3.toNatClampNeg) &&& (j_k 63)) = (j_k 11) then (j_ia σ v0 (v3 + (j_k 1)) (
     j_ia σ v0 (v3 + (j_k 2)) (
     j_oc σ 6 v1 (j_c1 call 80 [.ref v1, .int (s_I σ v0 (v3 + (j_k 1)).toNatClampNeg), .int (s_I σ v0 (v3 + (j_k 2)).toNatClampNeg)] σ (fun x47 τ46 =>
     j_ia τ46 v0 (v3 + (j_k 1)) (
     j_ia τ46 v0 (v3 + (j_k 2)) (
     j_oc τ46 7 v2 (j_c1 call 170 [.ref v2, .int (s_I τ46 v0 (v3 + (j_k 1)).toNatClampNeg), .int (s_I τ46 v0 (v3 + (j_k 2)).toNatClampNeg)] τ46 (fun x49 τ48 =>
     if x47 = x49 then (again 18 [some (.ref v0), some (.ref v1), some (.ref v2), some (.int (v3 + (j_k 6)))] [] τ48)
     else if (j_k 0) = 0 ∨ (j_k 0) = 1 then some (some (.int (j_k 0)), τ48) else none)))))))))
    else if ((s_I σ v0 v3.toNatClampNeg) &&& (j_k 63)) = (j_k 12) then (j_ia σ v0 (v3 + (j_k 1)) (
     j_ia σ v0 (v3 + (j_k 2)) (
     j_oc σ 6 v1 (j_c1 call 81 [.ref v1, .int (s_I σ v0 (v3 + (j_k 1)).toNatClampNeg), .int (s_I σ v0 (v3 + (j_k 2)).toNatClampNeg)] σ (fun x51 τ50 =>
     j_ia τ50 v0 (v3 + (j_k 1)) (
     j_ia τ50 v0 (v3 + (j_k 2)) (
     j_oc τ50 7 v2 (j_c1 call 172 [.ref v2, .int (s_I τ50 v0 (v3 + (j_k 1)).toNatClampNeg), .int (s_I τ50 v0 (v3 + (j_k 2)).toNatClampNeg)] τ50 (fun x53 τ52 =>
     if x51 = x53 then (again 18 [some (.ref v0), some (.ref v1), some (.ref v2), some (.int (v3 + (j_k 6)))] [] τ52)
     else if (j_k 0) = 0 ∨ (j_k 0) = 1 then some (some (.int (j_k 0)), τ52) else none)))))))))
    else if ((s_I σ v0 v3.toNatClampNeg) &&& (j_k 63)) = (j_k 13) then (j_ia σ v0 (v3 + (j_k 1)) (
     j_ia σ v0 (v3 + (j_k 2)) (
     j_oc σ 6 v1 (j_c1 call 82 [.ref v1, .int (s_I σ v0 (v3 + (j_k 1)).toNatClampNeg), .int (s_I σ v0 (v3 + (j_k 2)).toNatClampNeg)] σ (fun x55 τ54 =>
     j_ia τ54 v0 (v3 + (j_k 1)) (
     j_ia τ54 v0 (v3 + (j_k 2)) (
     j_oc τ54 7 v2 (j_c1 call 178 [.ref v2, .int (s_I τ54 v0 (v3 + (j_k 1)).toNatClampNeg), .int (s_I τ54 v0 (v3 + (j_k 2)).toNatClampNeg)] τ54 (fun x57 τ56 =>
     if x55 = x57 then (again 18 [some (.ref v0), some (.ref v1), some (.ref v2), some (.int (v3 + (j_k 6)))] [] τ56)
     else if (j_k 0) = 0 ∨ (j_k 0) = 1 then some (some (.int (j_k 0)), τ56) else none)))))))))
    else if ((s_I σ v0 v3.toNatClampNeg) &&& (j_k 63)) = (j_k 14) then (j_oc σ 6 v1 (j_c1 call 83 [.ref v1] σ (fun x59 τ58 =>
     j_oc τ58 7 v2 (j_c1 call 179 [.ref v2] τ58 (fun x61 τ60 =>
     if x59 = x61 then (again 18 [some (.ref v0), some (.ref v1), some (.ref v2), some (.int (v3 + (j_k 6)))] [] τ60)
     else if (j_k 0) = 0 ∨ (j_k 0) = 1 then some (some (.int (j_k 0)), τ60) else none)))))
    else if ((s_I σ v0 v3.toNatClampNeg) &&& (j_k 63)) = (j_k 15) then (j_ia σ v0 (v3 + (j_k 1)) (
     j_ia σ v0 (v3 + (j_k 2)) (
     j_oc σ 6 v1 (j_c1 call 84 [.ref v1, .int (s_I σ v0 (v3 + (j_k 1)).toNatClampNeg), .int (s_I σ v0 (v3 + (j_k 2)).toNatClampNeg)] σ (fun x63 τ62 =>
     j_ia τ62 v0 (v3 + (j_k 1)) (
     j_ia τ62 v0 (v3 + (j_k 2)) (
     j_oc τ62 7 v2 (j_c1 call 190 [.ref v2, .int (s_I τ62 v0 (v3 + (j_k 1)).toNatClampNeg), .int (s_I τ62 v0 (v3 + (j_k 2)).toNatClampNeg)] τ62 (fun x65 τ64 =>
     if x63 = x65 then (again 18 [some (.ref v0), some (.ref v1), some (.ref v2), some (.int (v3 + (j_k 6)))] [] τ64)
     else if (j_k 0) = 0 ∨ (j_k 0) = 1 then some (some (.int (j_k 0)), τ64) else none)))))))))
    else if ((s_I σ v0 v3.toNatClampNeg) &&& (j_k 63)) = (j_k 16) then (j_ia σ v0 (v3 + (j_k 1)) (
     j_oc σ 6 v1 (j_c1 call 85 [.ref v1, .int (s_I σ v0 (v3 + (j_k 1)).toNatClampNeg)] σ (fun x67 τ66 =>
     j_ia τ66 v0 (v3 + (j_k 1)) (
     j_oc τ66 7 v2 (j_c1 call 191 [.ref v2, .int (s_I τ66 v0 (v3 + (j_k 1)).toNatClampNeg)] τ66 (fun x69 τ68 =>
     if x67 = x69 then (again 18 [some (.ref v0), some (.ref v1), some (.ref v2), some (.int (v3 + (j_k 6)))] [] τ68)
     else if (j_k 0) = 0 ∨ (j_k 0) = 1 then some (some (.int (j_k 0)), τ68) else none)))))))
    else if ((s_I σ v0 v3.toNatClampNeg) &&& (j_k 63)) = (j_k 17) then (j_oc σ 6 v1 (j_c1 call 86 [.ref v1] σ (fun x71 τ70 =>
     j_oc τ70 7 v2 (j_c1 call 192 [.ref v2] τ70 (fun x73 τ72 =>
     if x71 = x73 then (again 18 [some (.ref v0), some (.ref v1), some (.ref v2), some (.int (v3 + (j_k 6)))] [] τ72)
     else if (j_k 0) = 0 ∨ (j_k 0) = 1 then some (some (.int (j_k 0)), τ72) else none)))))
    else if ((s_I σ v0 v3.toNatClampNeg) &&& (j_k 63)) = (j_k 18) then (j_oc σ 6 v1 (j_c1 call 87 [.ref v1] σ (fun x75 τ74 =>
     j_oc τ74 7 v2 (j_c1 call 194 [.ref v2] τ74 (fun x77 τ76 =>
     if x75 = x77 then (again 18 [some (.ref v0), some (.ref v1), some (.ref v2), some (.int (v3 + (j_k 6)))] [] τ76)
     else if (j_k 0) = 0 ∨ (j_k 0) = 1 then some (some (.int (j_k 0)), τ76) else none)))))
    else if ((s_I σ v0 v3.toNatClampNeg) &&& (j_k 63)) = (j_k 19) then (j_ia σ v0 (v3 + (j_k 1)) (
     j_oc σ 6 v1 (j_c1 call 88 [.ref v1, .int (s_I σ v0 (v3 + (j_k 1)).toNatClampNeg)] σ (fun x79 τ78 =>
     j_ia τ78 v0 (v3 + (j_k 1)) (
     j_oc τ78 7 v2 (j_c1 call 195 [.ref v2, .int (s_I τ78 v0 (v3 + (j_k 1)).toNatClampNeg)] τ78 (fun x81 τ80 =>
     if x79 = x81 then (again 18 [some (.ref v0), some (.ref v1), some (.ref v2), some (.int (v3 + (j_k 6)))] [] τ80)
     else if (j_k 0) = 0 ∨ (j_k 0) = 1 then some (some (.int (j_k 0)), τ80) else none)))))))
    else if ((s_I σ v0 v3.toNatClampNeg) &&& (j_k 63)) = (j_k 20) then (j_oc σ 6 v1 (j_c1 call 89 [.ref v1] σ (fun x83 τ82 =>
     j_oc τ82 7 v2 (j_c1 call 197 [.ref v2] τ82 (fun x85 τ84 =>
     if x83 = x85 then (again 18 [some (.ref v0), some (.ref v1), some (.ref v2), some (.int (v3 + (j_k 6)))] [] τ84)
     else if (j_k 0) = 0 ∨ (j_k 0) = 1 then some (some (.int (j_k 0)), τ84) else none)))))
    else if ((s_I σ v0 v3.toNatClampNeg) &&& (j_k 63)) = (j_k 21) then (j_ia σ v0 (v3 + (j_k 1)) (
     j_oc σ 6 v1 (j_c1 call 90 [.ref v1, .int (s_I σ v0 (v3 + (j_k 1)).toNatClampNeg)] σ (fun x87 τ86 =>
     j_ia τ86 v0 (v3 + (j_k 1)) (
     j_oc τ86 7 v2 (j_c1 call 198 [.ref v2, .int (s_I τ86 v0 (v3 + (j_k 1)).toNatClampNeg)] τ86 (fun x89 τ88 =>
     if x87 = x89 then (again 18 [some (.ref v0), some (.ref v1), some (.ref v2), some (.int (v3 + (j_k 6)))] [] τ88)
     else if (j_k 0) = 0 ∨ (j_k 0) = 1 then some (some (.int (j_k 0)), τ88) else none)))))))
    else if ((s_I σ v0 v3.toNatClampNeg) &&& (j_k 63)) = (j_k 22) then (j_ia σ v0 (v3 + (j_k 1)) (
     j_oc σ 6 v1 (j_c1 call 91 [.ref v1, .int (s_I σ v0 (v3 + (j_k 1)).toNatClampNeg)] σ (fun x91 τ90 =>
     j_ia τ90 v0 (v3 + (j_k 1)) (
     j_oc τ90 7 v2 (j_c1 call 199 [.ref v2, .int (s_I τ90 v0 (v3 + (j_k 1)).toNatClampNeg)] τ90 (fun x93 τ92 =>
     if x91 = x93 then (again 18 [some (.ref v0), some (.ref v1), some (.ref v2), some (.int (v3 + (j_k 6)))] [] τ92)
     else if (j_k 0) = 0 ∨ (j_k 0) = 1 then some (some (.int (j_k 0)), τ92) else none)))))))
    else if ((s_I σ v0 v3.toNatClampNeg) &&& (j_k 63)) = (j_k 23) then (j_oc σ 6 v1 (j_c1 call 92 [.ref v1] σ (fun x95 τ94 =>
     j_oc τ94 7 v2 (j_c1 call 208 [.ref v2] τ94 (fun x97 τ96 =>
     if x95 = x97 then (again 18 [some (.ref v0), some (.ref v1), some (.ref v2), some (.int (v3 + (j_k 6)))] [] τ96)
     else if (j_k 0) = 0 ∨ (j_k 0) = 1 then some (some (.int (j_k 0)), τ96) else none)))))
    else if ((s_I σ v0 v3.toNatClampNeg) &&& (j_k 63)) = (j_k 24) then (j_ia σ v0 (v3 + (j_k 1)) (
     j_oc σ 6 v1 (j_c1 call 93 [.ref v1, .int (s_I σ v0 (v3 + (j_k 1)).toNatClampNeg)] σ (fun x99 τ98 =>
     j_ia τ98 v0 (v3 + (j_k 1)) (
     j_oc τ98 7 v2 (j_c1 call 209 [.ref v2, .int (s_I τ98 v0 (v3 + (j_k 1)).toNatClampNeg)] τ98 (fun x101 τ100 =>
     if x99 = x101 then (again 18 [some (.ref v0), some (.ref v1), some (.ref v2), some (.int (v3 + (j_k 6)))] [] τ100)
     else if (j_k 0) = 0 ∨ (j_k 0) = 1 then some (some (.int (j_k 0)), τ100) else none)))))))
    else if ((s_I σ v0 v3.toNatClampNeg) &&& (j_k 63)) = (j_k 25) then (j_oc σ 6 v1 (j_c1 call 94 [.ref v1] σ (fun x103 τ102 =>
     j_oc τ102 7 v2 (j_c1 call 210 [.ref v2] τ102 (fun x105 τ104 =>
     if x103 = x105 then (again 18 [some (.ref v0), some (.ref v1), some (.ref v2), some (.int (v3 + (j_k 6)))] [] τ104)
     else if (j_k 0) = 0 ∨ (j_k 0) = 1 then some (some (.int (j_k 0)), τ104) else none)))))
    else if ((s_I σ v0 v3.toNatClampNeg) &&& (j_k 63)) = (j_k 26) then (j_ia σ v0 (v3 + (j_k 1)) (
     j_ia σ v0 (v3 + (j_k 2)) (
     j_oc σ 6 v1 (j_c1 call 95 [.ref v1, .int (s_I σ v0 (v3 + (j_k 1)).toNatClampNeg), .int (s_I σ v0 (v3 + (j_k 2)).toNatClampNeg)] σ (fun x107 τ106 =>
     j_ia τ106 v0 (v3 + (j_k 1)) (
     j_ia τ106 v0 (v3 + (j_k 2)) (
     j_oc τ106 7 v2 (j_c1 call 211 [.ref v2, .int (s_I τ106 v0 (v3 + (j_k 1)).toNatClampNeg), .int (s_I τ106 v0 (v3 + (j_k 2)).toNatClampNeg)] τ106 (fun x109 τ108 =>
     if x107 = x109 then (again 18 [some (.ref v0), some (.ref v1), some (.ref v2), some (.int (v3 + (j_k 6)))] [] τ108)
     else if (j_k 0) = 0 ∨ (j_k 0) = 1 then some (some (.int (j_k 0)), τ108) else none)))))))))
    else if ((s_I σ v0 v3.toNatClampNeg) &&& (j_k 63)) = (j_k 27) then (j_ia σ v0 (v3 + (j_k 1)) (
     j_ia σ v0 (v3 + (j_k 2)) (
     j_oc σ 6 v1 (j_c1 call 96 [.ref v1, .int (s_I σ v0 (v3 + (j_k 1)).toNatClampNeg), .int (s_I σ v0 (v3 + (j_k 2)).toNatClampNeg)] σ (fun x111 τ110 =>
     j_ia τ110 v0 (v3 + (j_k 1)) (
     j_ia τ110 v0 (v3 + (j_k 2)) (
     j_oc τ110 7 v2 (j_c1 call 213 [.ref v2, .int (s_I τ110 v0 (v3 + (j_k 1)).toNatClampNeg), .int (s_I τ110 v0 (v3 + (j_k 2)).toNatClampNeg)] τ110 (fun x113 τ112 =>
     if x111 = x113 then (again 18 [some (.ref v0), some (.ref v1), some (.ref v2), some (.int (v3 + (j_k 6)))] [] τ112)
     else if (j_k 0) = 0 ∨ (j_k 0) = 1 then some (some (.int (j_k 0)), τ112) else none)))))))))
    else if ((s_I σ v0 v3.toNatClampNeg) &&& (j_k 63)) = (j_k 28) then (j_ia σ v0 (v3 + (j_k 1)) (
     j_oc σ 6 v1 (j_c1 call 97 [.ref v1, .int (s_I σ v0 (v3 + (j_k 1)).toNatClampNeg)] σ (fun x115 τ114 =>
     j_ia τ114 v0 (v3 + (j_k 1)) (
     j_oc τ114 7 v2 (j_c1 call 214 [.ref v2, .int (s_I τ114 v0 (v3 + (j_k 1)).toNatClampNeg)] τ114 (fun x117 τ116 =>
     if x115 = x117 then (again 18 [some (.ref v0), some (.ref v1), some (.ref v2), some (.int (v3 + (j_k 6)))] [] τ116)
     else if (j_k 0) = 0 ∨ (j_k 0) = 1 then some (some (.int (j_k 0)), τ116) else none)))))))
    else if ((s_I σ v0 v3.toNatClampNeg) &&& (j_k 63)) = (j_k 29) then (j_ia σ v0 (v3 + (j_k 1)) (
     j_oc σ 6 v1 (j_c1 call 98 [.ref v1, .int (s_I σ v0 (v3 + (j_k 1)).toNatClampNeg)] σ (fun x119 τ118 =>
     j_ia τ118 v0 (v3 + (j_k 1)) (
     j_oc τ118 7 v2 (j_c1 call 215 [.ref v2, .int (s_I τ118 v0 (v3 + (j_k 1)).toNatClampNeg)] τ118 (fun x121 τ120 =>
     if x119 = x121 then (again 18 [some (.ref v0), some (.ref v1), some (.ref v2), some (.int (v3 + (j_k 6)))] [] τ120)
     else if (j_k 0) = 0 ∨ (j_k 0) = 1 then some (some (.int (j_k 0)), τ120) else none)))))))
    else if ((s_I σ v0 v3.toNatClampNeg) &&& (j_k 63)) = (j_k 30) then (j_ia σ v0 (v3 + (j_k 1)) (
     j_ia σ v0 (v3 + (j_k 2)) (
     j_oc σ 6 v1 (j_c1 call 99 [.ref v1, .int (s_I σ v0 (v3 + (j_k 1)).toNatClampNeg), .int (s_I σ v0 (v3 + (j_k 2)).toNatClampNeg)] σ (fun x123 τ122 =>
     j_ia τ122 v0 (v3 + (j_k 1)) (
     j_ia τ122 v0 (v3 + (j_k 2)) (
     j_oc τ122 7 v2 (j_c1 call 218 [.ref v2, .int (s_I τ122 v0 (v3 + (j_k 1)).toNatClampNeg), .int (s_I τ122 v0 (v3 + (j_k 2)).toNatClampNeg)] τ122 (fun x125 τ124 =>
     if x123 = x125 then (again 18 [some (.ref v0), some (.ref v1), some (.ref v2), some (.int (v3 + (j_k 6)))] [] τ124)
     else if (j_k 0) = 0 ∨ (j_k 0) = 1 then some (some (.int (j_k 0)), τ124) else none)))))))))
    else if ((s_I σ v0 v3.toNatClampNeg) &&& (j_k 63)) = (j_k 31) then (j_oc σ 6 v1 (j_c1 call 100 [.ref v1] σ (fun x127 τ126 =>
     j_oc τ126 7 v2 (j_c1 call 219 [.ref v2] τ126 (fun x129 τ128 =>
     if x127 = x129 then (again 18 [some (.ref v0), some (.ref v1), some (.ref v2), some (.int (v3 + (j_k 6)))] [] τ128)
     else if (j_k 0) = 0 ∨ (j_k 0) = 1 then some (some (.int (j_k 0)), τ128) else none)))))
    else if ((s_I σ v0 v3.toNatClampNeg) &&& (j_k 63)) = (j_k 32) then (j_ia σ v0 (v3 + (j_k 1)) (
     j_ia σ v0 (v3 + (j_k 2)) (
     j_oc σ 6 v1 (j_c1 call 101 [.ref v1, .int (s_I σ v0 (v3 + (j_k 1)).toNatClampNeg), .int (s_I σ v0 (v3 + (j_k 2)).toNatClampNeg)] σ (fun x131 τ130 =>
     j_ia τ130 v0 (v3 + (j_k 1)) (
     j_ia τ130 v0 (v3 + (j_k 2)) (
     j_oc τ130 7 v2 (j_c1 call 224 [.ref v2, .int (s_I τ130 v0 (v3 + (j_k 1)).toNatClampNeg), .int (s_I τ130 v0 (v3 + (j_k 2)).toNatClampNeg)] τ130 (fun x133 τ132 =>
     if x131 = x133 then (again 18 [some (.ref v0), some (.ref v1), some (.ref v2), some (.int (v3 + (j_k 6)))] [] τ132)
     else if (j_k 0) = 0 ∨ (j_k 0) = 1 then some (some (.int (j_k 0)), τ132) else none)))))))))
    else if ((s_I σ v0 v3.toNatClampNeg) &&& (j_k 63)) = (j_k 33) then (j_ia σ v0 (v3 + (j_k 1)) (
     j_oc σ 6 v1 (j_c1 call 102 [.ref v1, .int (s_I σ v0 (v3 + (j_k 1)).toNatClampNeg)] σ (fun x135 τ134 =>
     j_ia τ134 v0 (v3 + (j_k 1)) (
     j_oc τ134 7 v2 (j_c1 call 226 [.ref v2, .int (s_I τ134 v0 (v3 + (j_k 1)).toNatClampNeg)] τ134 (fun x137 τ136 =>
     if x135 = x137 then (again 18 [some (.ref v0), some (.ref v1), some (.ref v2), some (.int (v3 + (j_k 6)))] [] τ136)
     else if (j_k 0) = 0 ∨ (j_k 0) = 1 then some (some (.int (j_k 0)), τ136) else none)))))))
    else if ((s_I σ v0 v3.toNatClampNeg) &&& (j_k 63)) = (j_k 34) then (j_ia σ v0 (v3 + (j_k 1)) (
     j_oc σ 6 v1 (j_c1 call 103 [.ref v1, .int (s_I σ v0 (v3 + (j_k 1)).toNatClampNeg)] σ (fun x139 τ138 =>
     j_ia τ138 v0 (v3 + (j_k 1)) (
     j_oc τ138 7 v2 (j_c1 call 227 [.ref v2, .int (s_I τ138 v0 (v3 + (j_k 1)).toNatClampNeg)] τ138 (fun x141 τ140 =>
     if x139 = x141 then (again 18 [some (.ref v0), some (.ref v1), some (.ref v2), some (.int (v3 + (j_k 6)))] [] τ140)
     else if (j_k 0) = 0 ∨ (j_k 0) = 1 then some (some (.int (j_k 0)), τ140) else none)))))))
    else if ((s_I σ v0 v3.toNatClampNeg) &&& (j_k 63)) = (j_k 35) then (j_ia σ v0 (v3 + (j_k 1)) (
     j_oc σ 6 v1 (j_c1 call 104 [.ref v1, .int (s_I σ v0 (v3 + (j_k 1)).toNatClampNeg)] σ (fun x143 τ142 =>
     j_ia τ142 v0 (v3 + (j_k 1)) (
     j_oc τ142 7 v2 (j_c1 call 228 [.ref v2, .int (s_I τ142 v0 (v3 + (j_k 1)).toNatClampNeg)] τ142 (fun x145 τ144 =>
     if x143 = x145 then (again 18 [some (.ref v0), some (.ref v1), some (.ref v2), some (.int (v3 + (j_k 6)))] [] τ144)
     else if (j_k 0) = 0 ∨ (j_k 0) = 1 then some (some (.int (j_k 0)), τ144) else none)))))))
    else if ((s_I σ v0 v3.toNatClampNeg) &&& (j_k 63)) = (j_k 36) then (j_oc σ 6 v1 (j_c1 call 105 [.ref v1] σ (fun x147 τ146 =>
     j_oc τ146 7 v2 (j_c1 call 135 [.ref v2] τ146 (fun x149 τ148 =>
     if x147 = x149 then (again 18 [some (.ref v0), some (.ref v1), some (.ref v2), some (.int (v3 + (j_k 6)))] [] τ148)
     else if (j_k 0) = 0 ∨ (j_k 0) = 1 then some (some (.int (j_k 0)), τ148) else none)))))
    else if ((s_I σ v0 v3.toNatClampNeg) &&& (j_k 63)) = (j_k 37) then (j_oc σ 6 v1 (j_c2 call 106 [.ref v1] σ (fun x151 τ150 =>
     j_oc τ150 7 v2 (j_c2 call 137 [.ref v2] τ150 (fun x153 τ152 =>
     if (lg_cmp x151 x153) = 0 then (again 18 [some (.ref v0), some (.ref v1), some (.ref v2), some (.int (v3 + (j_k 6)))] [] τ152)
     else if (j_k 0) = 0 ∨ (j_k 0) = 1 then some (some (.int (j_k 0)), τ152) else none)))))
    else if ((s_I σ v0 v3.toNatClampNeg) &&& (j_k 63)) = (j_k 38) then (j_oc σ 6 v1 (j_c2 call 107 [.ref v1] σ (fun x155 τ154 =>
     j_oc τ154 7 v2 (j_c2 call 138 [.ref v2] τ154 (fun x157 τ156 =>
     if (lg_cmp x155 x157) = 0 then (again 18 [some (.ref v0), some (.ref v1), some (.ref v2), some (.int (v3 + (j_k 6)))] [] τ156)
     else if (j_k 0) = 0 ∨ (j_k 0) = 1 then some (some (.int (j_k 0)), τ156) else none)))))
    else if ((s_I σ v0 v3.toNatClampNeg) &&& (j_k 63)) = (j_k 39) then (j_ia σ v0 (v3 + (j_k 1)) (
     j_oc σ 6 v1 (j_c1 call 108 [.ref v1, .int (s_I σ v0 (v3 + (j_k 1)).toNatClampNeg)] σ (fun x159 τ158 =>
     j_ia τ158 v0 (v3 + (j_k 1)) (
     j_oc τ158 7 v2 (j_c1 call 230 [.ref v2, .int (s_I τ158 v0 (v3 + (j_k 1)).toNatClampNeg)] τ158 (fun x161 τ160 =>
     if x159 = x161 then (again 18 [some (.ref v0), some (.ref v1), some (.ref v2), some (.int (v3 + (j_k 6)))] [] τ160)
     else if (j_k 0) = 0 ∨ (j_k 0) = 1 then some (some (.int (j_k 0)), τ160) else none)))))))
    else if ((s_I σ v0 v3.toNatClampNeg) &&& (j_k 63)) = (j_k 40) then (j_oc σ 6 v1 (j_c1 call 109 [.ref v1] σ (fun x163 τ162 =>
     j_oc τ162 7 v2 (j_c1 call 132 [.ref v2] τ162 (fun x165 τ164 =>
     if x163 = x165 then (again 18 [some (.ref v0), some (.ref v1), some (.ref v2), some (.int (v3 + (j_k 6)))] [] τ164)
     else if (j_k 0) = 0 ∨ (j_k 0) = 1 then some (some (.int (j_k 0)), τ164) else none)))))
    else if ((s_I σ v0 v3.toNatClampNeg) &&& (j_k 63)) = (j_k 41) then (j_ia σ v0 (v3 + (j_k 1)) (
     j_oc σ 6 v1 (j_c1 call 110 [.ref v1, .int (s_I σ v0 (v3 + (j_k 1)).toNatClampNeg)] σ (fun x167 τ166 =>
     j_ia τ166 v0 (v3 + (j_k 1)) (
     j_oc τ166 7 v2 (j_c1 call 133 [.ref v2, .int (s_I τ166 v0 (v3 + (j_k 1)).toNatClampNeg)] τ166 (fun x169 τ168 =>
     if x167 = x169 then (again 18 [some (.ref v0), some (.ref v1), some (.ref v2), some (.int (v3 + (j_k 6)))] [] τ168)
     else if (j_k 0) = 0 ∨ (j_k 0) = 1 then some (some (.int (j_k 0)), τ168) else none)))))))
    else if ((s_I σ v0 v3.toNatClampNeg) &&& (j_k 63)) = (j_k 42) then (j_oc σ 6 v1 (j_c2 call 111 [.ref v1] σ (fun x171 τ170 =>
     j_oc τ170 7 v2 (j_c2 call 233 [.ref v2] τ170 (fun x173 τ172 =>
     if (lg_cmp x171 x173) = 0 then (again 18 [some (.ref v0), some (.ref v1), some (.ref v2), some (.int (v3 + (j_k 6)))] [] τ172)
     else if (j_k 0) = 0 ∨ (j_k 0) = 1 then some (some (.int (j_k 0)), τ172) else none)))))
    else again 18 [some (.ref v0), some (.ref v1), some (.ref v2), some (.int (v3 + (j_k 6)))] [] σ)) := rfl
end
section
/-! ===== the entries of the methods (by program wip/gen/entries.py) ===== -/
theorem j_run_in (d m : Nat) (as : List Value) (σ : Sto) (h : (j_ent0 as).length ≤ j_mL.getD m 0) : j_run (d + 1) m as σ = j_seg (j_code m) (j_head m) (j_run d) (j_exec (j_code m) (j_head m) (j_run d) 999999) 2000 0 (j_ent (j_mL.getD m 0) as) [] σ := by
  show (if _ then _ else _) = _
  rw [if_pos h]
  rfl
theorem r_0 (d : Nat) (σ : Sto) (v0 : Nat) : j_run (d + 1) 0 [.ref v0] σ = j_seg k_0 h_0 (j_run d) (j_exec k_0 h_0 (j_run d) 999999) 2000 0 [some (.ref v0)] [] σ := j_run_in d 0 [.ref v0] σ (Nat.le_of_ble_eq_true rfl)
theorem r_1 (d : Nat) (σ : Sto) (v0 : Nat) : j_run (d + 1) 1 [.ref v0] σ = j_seg k_1 h_1 (j_run d) (j_exec k_1 h_1 (j_run d) 999999) 2000 0 [some (.ref v0)] [] σ := j_run_in d 1 [.ref v0] σ (Nat.le_of_ble_eq_true rfl)
theorem r_2 (d : Nat) (σ : Sto) (v0 : Nat) (v1 : Int32) (v2 : Int32) : j_run (d + 1) 2 [.ref v0, .int v1, .int v2] σ = j_seg k_2 h_2 (j_run d) (j_exec k_2 h_2 (j_run d) 999999) 2000 0 [some (.ref v0), some (.int v1), some (.int v2)] [] σ := j_run_in d 2 [.ref v0, .int v1, .int v2] σ (Nat.le_of_ble_eq_true rfl)
theorem r_3 (d : Nat) (σ : Sto) (v0 : Nat) (v1 : Nat) : j_run (d + 1) 3 [.ref v0, .ref v1] σ = j_seg k_3 h_3 (j_run d) (j_exec k_3 h_3 (j_run d) 999999) 2000 0 [some (.ref v0), some (.ref v1), none] [] σ := j_run_in d 3 [.ref v0, .ref v1] σ (Nat.le_of_ble_eq_true rfl)
theorem r_4 (d : Nat) (σ : Sto) (v0 : Nat) : j_run (d + 1) 4 [.ref v0] σ = j_seg k_4 h_4 (j_run d) (j_exec k_4 h_4 (j_run d) 999999) 2000 0 [some (.ref v0)] [] σ := j_run_in d 4 [.ref v0] σ (Nat.le_of_ble_eq_true rfl)
theorem r_5 (d : Nat) (σ : Sto) (v0 : Nat) (v1 : Int32) : j_run (d + 1) 5 [.ref v0, .int v1] σ = j_seg k_5 h_5 (j_run d) (j_exec k_5 h_5 (j_run d) 999999) 2000 0 [some (.ref v0), some (.int v1)] [] σ := j_run_in d 5 [.ref v0, .int v1] σ (Nat.le_of_ble_eq_true rfl)
theorem r_6 (d : Nat) (σ : Sto) (v0 : Nat) (v1 : Int32) : j_run (d + 1) 6 [.ref v0, .int v1] σ = j_seg k_6 h_6 (j_run d) (j_exec k_6 h_6 (j_run d) 999999) 2000 0 [some (.ref v0), some (.int v1)] [] σ := j_run_in d 6 [.ref v0, .int v1] σ (Nat.le_of_ble_eq_true rfl)
theorem r_7 (d : Nat) (σ : Sto) (v0 : Nat) (v1 : Int32) : j_run (d + 1) 7 [.ref v0, .int v1] σ = j_seg k_7 h_7 (j_run d) (j_exec k_7 h_7 (j_run d) 999999) 2000 0 [some (.ref v0), some (.int v1)] [] σ := j_run_in d 7 [.ref v0, .int v1] σ (Nat.le_of_ble_eq_true rfl)
theorem r_8 (d : Nat) (σ : Sto) (v0 : Nat) (v1 : Int32) : j_run (d + 1) 8 [.ref v0, .int v1] σ = j_seg k_8 h_8 (j_run d) (j_exec k_8 h_8 (j_run d) 999999) 2000 0 [some (.ref v0), some (.int v1), none] [] σ := j_run_in d 8 [.ref v0, .int v1] σ (Nat.le_of_ble_eq_true rfl)
theorem r_9 (d : Nat) (σ : Sto) (v0 : Nat) (v1 : Int32) (v2 : Int32) : j_run (d + 1) 9 [.ref v0, .int v1, .int v2] σ = j_seg k_9 h_9 (j_run d) (j_exec k_9 h_9 (j_run d) 999999) 2000 0 [some (.ref v0), some (.int v1), some (.int v2)] [] σ := j_run_in d 9 [.ref v0, .int v1, .int v2] σ (Nat.le_of_ble_eq_true rfl)
theorem r_10 (d : Nat) (σ : Sto) (v0 : Nat) (v1 : Int32) : j_run (d + 1) 10 [.ref v0, .int v1] σ = j_seg k_10 h_10 (j_run d) (j_exec k_10 h_10 (j_run d) 999999) 2000 0 [some (.ref v0), some (.int v1)] [] σ := j_run_in d 10 [.ref v0, .int v1] σ (Nat.le_of_ble_eq_true rfl)
theorem r_11 (d : Nat) (σ : Sto) (v0 : Nat) (v1 : Int32) : j_run (d + 1) 11 [.ref v0, .int v1] σ = j_seg k_11 h_11 (j_run d) (j_exec k_11 h_11 (j_run d) 999999) 2000 0 [some (.ref v0), some (.int v1)] [] σ := j_run_in d 11 [.ref v0, .int v1] σ (Nat.le_of_ble_eq_true rfl)
theorem r_12 (d : Nat) (σ : Sto) (v0 : Nat) (v1 : Int32) (v2 : Int32) : j_run (d + 1) 12 [.ref v0, .int v1, .int v2] σ = j_seg k_12 h_12 (j_run d) (j_exec k_12 h_12 (j_run d) 999999) 2000 0 [some (.ref v0), some (.int v1), some (.int v2)] [] σ := j_run_in d 12 [.ref v0, .int v1, .int v2] σ (Nat.le_of_ble_eq_true rfl)
theorem r_13 (d : Nat) (σ : Sto) (v0 : Nat) : j_run (d + 1) 13 [.ref v0] σ = j_seg k_13 h_13 (j_run d) (j_exec k_13 h_13 (j_run d) 999999) 2000 0 [some (.ref v0)] [] σ := j_run_in d 13 [.ref v0] σ (Nat.le_of_ble_eq_true rfl)
theorem r_14 (d : Nat) (σ : Sto) (v0 : Nat) : j_run (d + 1) 14 [.ref v0] σ = j_seg k_14 h_14 (j_run d) (j_exec k_14 h_14 (j_run d) 999999) 2000 0 [some (.ref v0), none, none] [] σ := j_run_in d 14 [.ref v0] σ (Nat.le_of_ble_eq_true rfl)
theorem r_15 (d : Nat) (σ : Sto) (v0 : Nat) : j_run (d + 1) 15 [.ref v0] σ = j_seg k_15 h_15 (j_run d) (j_exec k_15 h_15 (j_run d) 999999) 2000 0 [some (.ref v0), none, none] [] σ := j_run_in d 15 [.ref v0] σ (Nat.le_of_ble_eq_true rfl)
theorem r_16 (d : Nat) (σ : Sto) (v0 : Nat) (v1 : Nat) : j_run (d + 1) 16 [.ref v0, .ref v1] σ = j_seg k_16 h_16 (j_run d) (j_exec k_16 h_16 (j_run d) 999999) 2000 0 [some (.ref v0), some (.ref v1), none, none, none] [] σ := j_run_in d 16 [.ref v0, .ref v1] σ (Nat.le_of_ble_eq_true rfl)
theorem r_17 (d : Nat) (σ : Sto) (v0 : Nat) (v1 : Nat) : j_run (d + 1) 17 [.ref v0, .ref v1] σ = j_seg k_17 h_17 (j_run d) (j_exec k_17 h_17 (j_run d) 999999) 2000 0 [some (.ref v0), some (.ref v1), none] [] σ := j_run_in d 17 [.ref v0, .ref v1] σ (Nat.le_of_ble_eq_true rfl)
theorem r_18 (d : Nat) (σ : Sto) (v0 : Nat) (v1 : Nat) : j_run (d + 1) 18 [.ref v0, .ref v1] σ = j_seg k_18 h_18 (j_run d) (j_exec k_18 h_18 (j_run d) 999999) 2000 0 [some (.ref v0), some (.ref v1), none] [] σ := j_run_in d 18 [.ref v0, .ref v1] σ (Nat.le_of_ble_eq_true rfl)
theorem r_19 (d : Nat) (σ : Sto) (v0 : Nat) : j_run (d + 1) 19 [.ref v0] σ = j_seg k_19 h_19 (j_run d) (j_exec k_19 h_19 (j_run d) 999999) 2000 0 [some (.ref v0), none, none, none] [] σ := j_run_in d 19 [.ref v0] σ (Nat.le_of_ble_eq_true rfl)
theorem r_20 (d : Nat) (σ : Sto) (v0 : Int64) (v2 : Int32) : j_run (d + 1) 20 [.long v0, .int v2] σ = j_seg k_20 h_20 (j_run d) (j_exec k_20 h_20 (j_run d) 999999) 2000 0 [some (.long v0), none, some (.int v2)] [] σ := j_run_in d 20 [.long v0, .int v2] σ (Nat.le_of_ble_eq_true rfl)
theorem r_21 (d : Nat) (σ : Sto) (v0 : Nat) (v1 : Int32) : j_run (d + 1) 21 [.ref v0, .int v1] σ = j_seg k_21 h_21 (j_run d) (j_exec k_21 h_21 (j_run d) 999999) 2000 0 [some (.ref v0), some (.int v1)] [] σ := j_run_in d 21 [.ref v0, .int v1] σ (Nat.le_of_ble_eq_true rfl)
theorem r_22 (d : Nat) (σ : Sto) (v0 : Nat) (v1 : Nat) (v2 : Int32) (v3 : Int32) (v4 : Int32) : j_run (d + 1) 22 [.ref v0, .ref v1, .int v2, .int v3, .int v4] σ = j_seg k_22 h_22 (j_run d) (j_exec k_22 h_22 (j_run d) 999999) 2000 0 [some (.ref v0), some (.ref v1), some (.int v2), some (.int v3), some (.int v4)] [] σ := j_run_in d 22 [.ref v0, .ref v1, .int v2, .int v3, .int v4] σ (Nat.le_of_ble_eq_true rfl)
theorem r_23 (d : Nat) (σ : Sto) (v0 : Nat) (v1 : Nat) (v2 : Int32) (v3 : Int32) : j_run (d + 1) 23 [.ref v0, .ref v1, .int v2, .int v3] σ = j_seg k_23 h_23 (j_run d) (j_exec k_23 h_23 (j_run d) 999999) 2000 0 [some (.ref v0), some (.ref v1), some (.int v2), some (.int v3)] [] σ := j_run_in d 23 [.ref v0, .ref v1, .int v2, .int v3] σ (Nat.le_of_ble_eq_true rfl)
theorem r_24 (d : Nat) (σ : Sto) (v0 : Nat) (v1 : Int32) (v2 : Int32) : j_run (d + 1) 24 [.ref v0, .int v1, .int v2] σ = j_seg k_24 h_24 (j_run d) (j_exec k_24 h_24 (j_run d) 999999) 2000 0 [some (.ref v0), some (.int v1), some (.int v2)] [] σ := j_run_in d 24 [.ref v0, .int v1, .int v2] σ (Nat.le_of_ble_eq_true rfl)
theorem r_25 (d : Nat) (σ : Sto) (v0 : Nat) (v1 : Nat) (v2 : Int32) (v3 : Int32) : j_run (d + 1) 25 [.ref v0, .ref v1, .int v2, .int v3] σ = j_seg k_25 h_25 (j_run d) (j_exec k_25 h_25 (j_run d) 999999) 2000 0 [some (.ref v0), some (.ref v1), some (.int v2), some (.int v3), none] [] σ := j_run_in d 25 [.ref v0, .ref v1, .int v2, .int v3] σ (Nat.le_of_ble_eq_true rfl)
theorem r_26 (d : Nat) (σ : Sto) (v0 : Nat) (v1 : Nat) : j_run (d + 1) 26 [.ref v0, .ref v1] σ = j_seg k_26 h_26 (j_run d) (j_exec k_26 h_26 (j_run d) 999999) 2000 0 [some (.ref v0), some (.ref v1), none, none, none, none, none, none] [] σ := j_run_in d 26 [.ref v0, .ref v1] σ (Nat.le_of_ble_eq_true rfl)
theorem r_27 (d : Nat) (σ : Sto) (v0 : Nat) (v1 : Nat) (v2 : Int32) (v3 : Int32) : j_run (d + 1) 27 [.ref v0, .ref v1, .int v2, .int v3] σ = j_seg k_27 h_27 (j_run d) (j_exec k_27 h_27 (j_run d) 999999) 2000 0 [some (.ref v0), some (.ref v1), some (.int v2), some (.int v3), none, none, none, none, none, none, none, none, none, none, none, none] [] σ := j_run_in d 27 [.ref v0, .ref v1, .int v2, .int v3] σ (Nat.le_of_ble_eq_true rfl)
theorem r_28 (d : Nat) (σ : Sto) (v0 : Nat) (v1 : Nat) : j_run (d + 1) 28 [.ref v0, .ref v1] σ = j_seg k_28 h_28 (j_run d) (j_exec k_28 h_28 (j_run d) 999999) 2000 0 [some (.ref v0), some (.ref v1), none, none] [] σ := j_run_in d 28 [.ref v0, .ref v1] σ (Nat.le_of_ble_eq_true rfl)
theorem r_29 (d : Nat) (σ : Sto) (v0 : Nat) (v1 : Nat) (v2 : Int32) : j_run (d + 1) 29 [.ref v0, .ref v1, .int v2] σ = j_seg k_29 h_29 (j_run d) (j_exec k_29 h_29 (j_run d) 999999) 2000 0 [some (.ref v0), some (.ref v1), some (.int v2)] [] σ := j_run_in d 29 [.ref v0, .ref v1, .int v2] σ (Nat.le_of_ble_eq_true rfl)
theorem r_30 (d : Nat) (σ : Sto) (v0 : Nat) (v1 : Nat) (v2 : Int32) : j_run (d + 1) 30 [.ref v0, .ref v1, .int v2] σ = j_seg k_30 h_30 (j_run d) (j_exec k_30 h_30 (j_run d) 999999) 2000 0 [some (.ref v0), some (.ref v1), some (.int v2), none, none, none, none, none] [] σ := j_run_in d 30 [.ref v0, .ref v1, .int v2] σ (Nat.le_of_ble_eq_true rfl)
theorem r_31 (d : Nat) (σ : Sto) (v0 : Nat) (v1 : Int32) (v2 : Int32) : j_run (d + 1) 31 [.ref v0, .int v1, .int v2] σ = j_seg k_31 h_31 (j_run d) (j_exec k_31 h_31 (j_run d) 999999) 2000 0 [some (.ref v0), some (.int v1), some (.int v2), none] [] σ := j_run_in d 31 [.ref v0, .int v1, .int v2] σ (Nat.le_of_ble_eq_true rfl)
theorem r_32 (d : Nat) (σ : Sto) (v0 : Nat) : j_run (d + 1) 32 [.ref v0] σ = j_seg k_32 h_32 (j_run d) (j_exec k_32 h_32 (j_run d) 999999) 2000 0 [some (.ref v0)] [] σ := j_run_in d 32 [.ref v0] σ (Nat.le_of_ble_eq_true rfl)
theorem r_33 (d : Nat) (σ : Sto) (v0 : Nat) (v1 : Int32) (v2 : Int32) : j_run (d + 1) 33 [.ref v0, .int v1, .int v2] σ = j_seg k_33 h_33 (j_run d) (j_exec k_33 h_33 (j_run d) 999999) 2000 0 [some (.ref v0), some (.int v1), some (.int v2), none, none] [] σ := j_run_in d 33 [.ref v0, .int v1, .int v2] σ (Nat.le_of_ble_eq_true rfl)
theorem r_34 (d : Nat) (σ : Sto) (v0 : Nat) (v1 : Nat) : j_run (d + 1) 34 [.ref v0, .ref v1] σ = j_seg k_34 h_34 (j_run d) (j_exec k_34 h_34 (j_run d) 999999) 2000 0 [some (.ref v0), some (.ref v1)] [] σ := j_run_in d 34 [.ref v0, .ref v1] σ (Nat.le_of_ble_eq_true rfl)
theorem r_35 (d : Nat) (σ : Sto) (v0 : Nat) (v1 : Int32) : j_run (d + 1) 35 [.ref v0, .int v1] σ = j_seg k_35 h_35 (j_run d) (j_exec k_35 h_35 (j_run d) 999999) 2000 0 [some (.ref v0), some (.int v1)] [] σ := j_run_in d 35 [.ref v0, .int v1] σ (Nat.le_of_ble_eq_true rfl)
theorem r_36 (d : Nat) (σ : Sto) (v0 : Nat) (v1 : Int32) : j_run (d + 1) 36 [.ref v0, .int v1] σ = j_seg k_36 h_36 (j_run d) (j_exec k_36 h_36 (j_run d) 999999) 2000 0 [some (.ref v0), some (.int v1)] [] σ := j_run_in d 36 [.ref v0, .int v1] σ (Nat.le_of_ble_eq_true rfl)
theorem r_37 (d : Nat) (σ : Sto) (v0 : Nat) (v1 : Int32) (v2 : Int32) : j_run (d + 1) 37 [.ref v0, .int v1, .int v2] σ = j_seg k_37 h_37 (j_run d) (j_exec k_37 h_37 (j_run d) 999999) 2000 0 [some (.ref v0), some (.int v1), some (.int v2)] [] σ := j_run_in d 37 [.ref v0, .int v1, .int v2] σ (Nat.le_of_ble_eq_true rfl)
theorem r_38 (d : Nat) (σ : Sto) (v0 : Nat) (v1 : Int32) (v2 : Int32) : j_run (d + 1) 38 [.ref v0, .int v1, .int v2] σ = j_seg k_38 h_38 (j_run d) (j_exec k_38 h_38 (j_run d) 999999) 2000 0 [some (.ref v0), some (.int v1), some (.int v2), none, none] [] σ := j_run_in d 38 [.ref v0, .int v1, .int v2] σ (Nat.le_of_ble_eq_true rfl)
theorem r_39 (d : Nat) (σ : Sto) (v0 : Nat) (v1 : Int32) : j_run (d + 1) 39 [.ref v0, .int v1] σ = j_seg k_39 h_39 (j_run d) (j_exec k_39 h_39 (j_run d) 999999) 2000 0 [some (.ref v0), some (.int v1), none, none] [] σ := j_run_in d 39 [.ref v0, .int v1] σ (Nat.le_of_ble_eq_true rfl)
theorem r_40 (d : Nat) (σ : Sto) (v0 : Nat) (v1 : Int32) (v2 : Int32) : j_run (d + 1) 40 [.ref v0, .int v1, .int v2] σ = j_seg k_40 h_40 (j_run d) (j_exec k_40 h_40 (j_run d) 999999) 2000 0 [some (.ref v0), some (.int v1), some (.int v2), none, none, none, none] [] σ := j_run_in d 40 [.ref v0, .int v1, .int v2] σ (Nat.le_of_ble_eq_true rfl)
theorem r_41 (d : Nat) (σ : Sto) (v0 : Nat) (v1 : Int32) (v2 : Int32) : j_run (d + 1) 41 [.ref v0, .int v1, .int v2] σ = j_seg k_41 h_41 (j_run d) (j_exec k_41 h_41 (j_run d) 999999) 2000 0 [some (.ref v0), some (.int v1), some (.int v2), none, none, none] [] σ := j_run_in d 41 [.ref v0, .int v1, .int v2] σ (Nat.le_of_ble_eq_true rfl)
theorem r_42 (d : Nat) (σ : Sto) (v0 : Nat) : j_run (d + 1) 42 [.ref v0] σ = j_seg k_42 h_42 (j_run d) (j_exec k_42 h_42 (j_run d) 999999) 2000 0 [some (.ref v0)] [] σ := j_run_in d 42 [.ref v0] σ (Nat.le_of_ble_eq_true rfl)
theorem r_43 (d : Nat) (σ : Sto) (v0 : Nat) (v1 : Nat) (v2 : Int32) : j_run (d + 1) 43 [.ref v0, .ref v1, .int v2] σ = j_seg k_43 h_43 (j_run d) (j_exec k_43 h_43 (j_run d) 999999) 2000 0 [some (.ref v0), some (.ref v1), some (.int v2)] [] σ := j_run_in d 43 [.ref v0, .ref v1, .int v2] σ (Nat.le_of_ble_eq_true rfl)
theorem r_44 (d : Nat) (σ : Sto) (v0 : Nat) : j_run (d + 1) 44 [.ref v0] σ = j_seg k_44 h_44 (j_run d) (j_exec k_44 h_44 (j_run d) 999999) 2000 0 [some (.ref v0), none, none] [] σ := j_run_in d 44 [.ref v0] σ (Nat.le_of_ble_eq_true rfl)
theorem r_45 (d : Nat) (σ : Sto) (v0 : Nat) : j_run (d + 1) 45 [.ref v0] σ = j_seg k_45 h_45 (j_run d) (j_exec k_45 h_45 (j_run d) 999999) 2000 0 [some (.ref v0), none, none] [] σ := j_run_in d 45 [.ref v0] σ (Nat.le_of_ble_eq_true rfl)
theorem r_46 (d : Nat) (σ : Sto) (v0 : Nat) : j_run (d + 1) 46 [.ref v0] σ = j_seg k_46 h_46 (j_run d) (j_exec k_46 h_46 (j_run d) 999999) 2000 0 [some (.ref v0), none] [] σ := j_run_in d 46 [.ref v0] σ (Nat.le_of_ble_eq_true rfl)
theorem r_47 (d : Nat) (σ : Sto) (v0 : Nat) : j_run (d + 1) 47 [.ref v0] σ = j_seg k_47 h_47 (j_run d) (j_exec k_47 h_47 (j_run d) 999999) 2000 0 [some (.ref v0), none, none, none, none] [] σ := j_run_in d 47 [.ref v0] σ (Nat.le_of_ble_eq_true rfl)
theorem r_48 (d : Nat) (σ : Sto) (v0 : Nat) : j_run (d + 1) 48 [.ref v0] σ = j_seg k_48 h_48 (j_run d) (j_exec k_48 h_48 (j_run d) 999999) 2000 0 [some (.ref v0)] [] σ := j_run_in d 48 [.ref v0] σ (Nat.le_of_ble_eq_true rfl)
theorem r_49 (d : Nat) (σ : Sto) (v0 : Nat) : j_run (d + 1) 49 [.ref v0] σ = j_seg k_49 h_49 (j_run d) (j_exec k_49 h_49 (j_run d) 999999) 2000 0 [some (.ref v0)] [] σ := j_run_in d 49 [.ref v0] σ (Nat.le_of_ble_eq_true rfl)
theorem r_50 (d : Nat) (σ : Sto) (v0 : Nat) (v1 : Int32) (v2 : Int32) : j_run (d + 1) 50 [.ref v0, .int v1, .int v2] σ = j_seg k_50 h_50 (j_run d) (j_exec k_50 h_50 (j_run d) 999999) 2000 0 [some (.ref v0), some (.int v1), some (.int v2), none] [] σ := j_run_in d 50 [.ref v0, .int v1, .int v2] σ (Nat.le_of_ble_eq_true rfl)
theorem r_51 (d : Nat) (σ : Sto) (v0 : Nat) : j_run (d + 1) 51 [.ref v0] σ = j_seg k_51 h_51 (j_run d) (j_exec k_51 h_51 (j_run d) 999999) 2000 0 [some (.ref v0)] [] σ := j_run_in d 51 [.ref v0] σ (Nat.le_of_ble_eq_true rfl)
theorem r_52 (d : Nat) (σ : Sto) (v0 : Nat) : j_run (d + 1) 52 [.ref v0] σ = j_seg k_52 h_52 (j_run d) (j_exec k_52 h_52 (j_run d) 999999) 2000 0 [some (.ref v0)] [] σ := j_run_in d 52 [.ref v0] σ (Nat.le_of_ble_eq_true rfl)
theorem r_53 (d : Nat) (σ : Sto) (v0 : Nat) (v1 : Nat) : j_run (d + 1) 53 [.ref v0, .ref v1] σ = j_seg k_53 h_53 (j_run d) (j_exec k_53 h_53 (j_run d) 999999) 2000 0 [some (.ref v0), some (.ref v1)] [] σ := j_run_in d 53 [.ref v0, .ref v1] σ (Nat.le_of_ble_eq_true rfl)
theorem r_54 (d : Nat) (σ : Sto) (v0 : Nat) (v1 : Nat) (v2 : Nat) (v3 : Int32) : j_run (d + 1) 54 [.ref v0, .ref v1, .ref v2, .int v3] σ = j_seg k_54 h_54 (j_run d) (j_exec k_54 h_54 (j_run d) 999999) 2000 0 [some (.ref v0), some (.ref v1), some (.ref v2), some (.int v3), none] [] σ := j_run_in d 54 [.ref v0, .ref v1, .ref v2, .int v3] σ (Nat.le_of_ble_eq_true rfl)
theorem r_55 (d : Nat) (σ : Sto) (v0 : Nat) (v1 : Nat) (v2 : Nat) (v3 : Int32) : j_run (d + 1) 55 [.ref v0, .ref v1, .ref v2, .int v3] σ = j_seg k_55 h_55 (j_run d) (j_exec k_55 h_55 (j_run d) 999999) 2000 0 [some (.ref v0), some (.ref v1), some (.ref v2), some (.int v3)] [] σ := j_run_in d 55 [.ref v0, .ref v1, .ref v2, .int v3] σ (Nat.le_of_ble_eq_true rfl)
theorem r_56 (d : Nat) (σ : Sto) (v0 : Nat) (v1 : Nat) (v2 : Int32) : j_run (d + 1) 56 [.ref v0, .ref v1, .int v2] σ = j_seg k_56 h_56 (j_run d) (j_exec k_56 h_56 (j_run d) 999999) 2000 0 [some (.ref v0), some (.ref v1), some (.int v2)] [] σ := j_run_in d 56 [.ref v0, .ref v1, .int v2] σ (Nat.le_of_ble_eq_true rfl)
theorem r_57 (d : Nat) (σ : Sto) (v0 : Nat) (v1 : Nat) (v2 : Int32) (v3 : Int32) : j_run (d + 1) 57 [.ref v0, .ref v1, .int v2, .int v3] σ = j_seg k_57 h_57 (j_run d) (j_exec k_57 h_57 (j_run d) 999999) 2000 0 [some (.ref v0), some (.ref v1), some (.int v2), some (.int v3), none, none] [] σ := j_run_in d 57 [.ref v0, .ref v1, .int v2, .int v3] σ (Nat.le_of_ble_eq_true rfl)
theorem r_58 (d : Nat) (σ : Sto) (v0 : Nat) (v1 : Nat) (v2 : Int32) (v3 : Int32) : j_run (d + 1) 58 [.ref v0, .ref v1, .int v2, .int v3] σ = j_seg k_58 h_58 (j_run d) (j_exec k_58 h_58 (j_run d) 999999) 2000 0 [some (.ref v0), some (.ref v1), some (.int v2), some (.int v3), none, none] [] σ := j_run_in d 58 [.ref v0, .ref v1, .int v2, .int v3] σ (Nat.le_of_ble_eq_true rfl)
theorem r_59 (d : Nat) (σ : Sto) (v0 : Nat) (v1 : Nat) : j_run (d + 1) 59 [.ref v0, .ref v1] σ = j_seg k_59 h_59 (j_run d) (j_exec k_59 h_59 (j_run d) 999999) 2000 0 [some (.ref v0), some (.ref v1)] [] σ := j_run_in d 59 [.ref v0, .ref v1] σ (Nat.le_of_ble_eq_true rfl)
theorem r_60 (d : Nat) (σ : Sto) (v0 : Nat) (v1 : Int32) : j_run (d + 1) 60 [.ref v0, .int v1] σ = j_seg k_60 h_60 (j_run d) (j_exec k_60 h_60 (j_run d) 999999) 2000 0 [some (.ref v0), some (.int v1)] [] σ := j_run_in d 60 [.ref v0, .int v1] σ (Nat.le_of_ble_eq_true rfl)
theorem r_61 (d : Nat) (σ : Sto) (v0 : Nat) (v1 : Int32) (v2 : Int32) (v3 : Int32) : j_run (d + 1) 61 [.ref v0, .int v1, .int v2, .int v3] σ = j_seg k_61 h_61 (j_run d) (j_exec k_61 h_61 (j_run d) 999999) 2000 0 [some (.ref v0), some (.int v1), some (.int v2), some (.int v3)] [] σ := j_run_in d 61 [.ref v0, .int v1, .int v2, .int v3] σ (Nat.le_of_ble_eq_true rfl)
theorem r_62 (d : Nat) (σ : Sto) (v0 : Nat) : j_run (d + 1) 62 [.ref v0] σ = j_seg k_62 h_62 (j_run d) (j_exec k_62 h_62 (j_run d) 999999) 2000 0 [some (.ref v0), none, none, none, none, none] [] σ := j_run_in d 62 [.ref v0] σ (Nat.le_of_ble_eq_true rfl)
theorem r_63 (d : Nat) (σ : Sto) (v0 : Nat) (v1 : Int64) : j_run (d + 1) 63 [.ref v0, .long v1] σ = j_seg k_63 h_63 (j_run d) (j_exec k_63 h_63 (j_run d) 999999) 2000 0 [some (.ref v0), some (.long v1), none, none, none, none, none] [] σ := j_run_in d 63 [.ref v0, .long v1] σ (Nat.le_of_ble_eq_true rfl)
theorem r_64 (d : Nat) (σ : Sto) (v0 : Nat) : j_run (d + 1) 64 [.ref v0] σ = j_seg k_64 h_64 (j_run d) (j_exec k_64 h_64 (j_run d) 999999) 2000 0 [some (.ref v0)] [] σ := j_run_in d 64 [.ref v0] σ (Nat.le_of_ble_eq_true rfl)
theorem r_65 (d : Nat) (σ : Sto) (v0 : Nat) (v1 : Nat) (v2 : Nat) (v3 : Int32) (v4 : Int32) : j_run (d + 1) 65 [.ref v0, .ref v1, .ref v2, .int v3, .int v4] σ = j_seg k_65 h_65 (j_run d) (j_exec k_65 h_65 (j_run d) 999999) 2000 0 [some (.ref v0), some (.ref v1), some (.ref v2), some (.int v3), some (.int v4)] [] σ := j_run_in d 65 [.ref v0, .ref v1, .ref v2, .int v3, .int v4] σ (Nat.le_of_ble_eq_true rfl)
theorem r_66 (d : Nat) (σ : Sto) (v0 : Nat) (v1 : Nat) (v2 : Int32) (v3 : Int32) : j_run (d + 1) 66 [.ref v0, .ref v1, .int v2, .int v3] σ = j_seg k_66 h_66 (j_run d) (j_exec k_66 h_66 (j_run d) 999999) 2000 0 [some (.ref v0), some (.ref v1), some (.int v2), some (.int v3), none, none] [] σ := j_run_in d 66 [.ref v0, .ref v1, .int v2, .int v3] σ (Nat.le_of_ble_eq_true rfl)
theorem r_67 (d : Nat) (σ : Sto) (v0 : Nat) (v1 : Nat) (v2 : Int32) (v3 : Int32) : j_run (d + 1) 67 [.ref v0, .ref v1, .int v2, .int v3] σ = j_seg k_67 h_67 (j_run d) (j_exec k_67 h_67 (j_run d) 999999) 2000 0 [some (.ref v0), some (.ref v1), some (.int v2), some (.int v3), none, none] [] σ := j_run_in d 67 [.ref v0, .ref v1, .int v2, .int v3] σ (Nat.le_of_ble_eq_true rfl)
theorem r_68 (d : Nat) (σ : Sto) (v0 : Nat) : j_run (d + 1) 68 [.ref v0] σ = j_seg k_68 h_68 (j_run d) (j_exec k_68 h_68 (j_run d) 999999) 2000 0 [some (.ref v0)] [] σ := j_run_in d 68 [.ref v0] σ (Nat.le_of_ble_eq_true rfl)
theorem r_69 (d : Nat) (σ : Sto) (v0 : Nat) (v1 : Int32) (v2 : Int32) : j_run (d + 1) 69 [.ref v0, .int v1, .int v2] σ = j_seg k_69 h_69 (j_run d) (j_exec k_69 h_69 (j_run d) 999999) 2000 0 [some (.ref v0), some (.int v1), some (.int v2)] [] σ := j_run_in d 69 [.ref v0, .int v1, .int v2] σ (Nat.le_of_ble_eq_true rfl)
theorem r_70 (d : Nat) (σ : Sto) (v0 : Nat) (v1 : Int32) (v2 : Int32) (v3 : Int32) : j_run (d + 1) 70 [.ref v0, .int v1, .int v2, .int v3] σ = j_seg k_70 h_70 (j_run d) (j_exec k_70 h_70 (j_run d) 999999) 2000 0 [some (.ref v0), some (.int v1), some (.int v2), some (.int v3), none] [] σ := j_run_in d 70 [.ref v0, .int v1, .int v2, .int v3] σ (Nat.le_of_ble_eq_true rfl)
theorem r_71 (d : Nat) (σ : Sto) (v0 : Nat) (v1 : Int32) (v2 : Int32) : j_run (d + 1) 71 [.ref v0, .int v1, .int v2] σ = j_seg k_71 h_71 (j_run d) (j_exec k_71 h_71 (j_run d) 999999) 2000 0 [some (.ref v0), some (.int v1), some (.int v2), none] [] σ := j_run_in d 71 [.ref v0, .int v1, .int v2] σ (Nat.le_of_ble_eq_true rfl)
theorem r_72 (d : Nat) (σ : Sto) (v0 : Nat) (v1 : Int32) : j_run (d + 1) 72 [.ref v0, .int v1] σ = j_seg k_72 h_72 (j_run d) (j_exec k_72 h_72 (j_run d) 999999) 2000 0 [some (.ref v0), some (.int v1), none] [] σ := j_run_in d 72 [.ref v0, .int v1] σ (Nat.le_of_ble_eq_true rfl)
theorem r_73 (d : Nat) (σ : Sto) (v0 : Nat) (v1 : Int32) (v2 : Int32) (v3 : Int32) (v4 : Int32) (v5 : Int32) : j_run (d + 1) 73 [.ref v0, .int v1, .int v2, .int v3, .int v4, .int v5] σ = j_seg k_73 h_73 (j_run d) (j_exec k_73 h_73 (j_run d) 999999) 2000 0 [some (.ref v0), some (.int v1), some (.int v2), some (.int v3), some (.int v4), some (.int v5)] [] σ := j_run_in d 73 [.ref v0, .int v1, .int v2, .int v3, .int v4, .int v5] σ (Nat.le_of_ble_eq_true rfl)
theorem r_74 (d : Nat) (σ : Sto) (v0 : Nat) (v1 : Int32) : j_run (d + 1) 74 [.ref v0, .int v1] σ = j_seg k_74 h_74 (j_run d) (j_exec k_74 h_74 (j_run d) 999999) 2000 0 [some (.ref v0), some (.int v1), none, none, none, none, none] [] σ := j_run_in d 74 [.ref v0, .int v1] σ (Nat.le_of_ble_eq_true rfl)
theorem r_75 (d : Nat) (σ : Sto) (v0 : Nat) (v1 : Int32) (v2 : Int32) : j_run (d + 1) 75 [.ref v0, .int v1, .int v2] σ = j_seg k_75 h_75 (j_run d) (j_exec k_75 h_75 (j_run d) 999999) 2000 0 [some (.ref v0), some (.int v1), some (.int v2)] [] σ := j_run_in d 75 [.ref v0, .int v1, .int v2] σ (Nat.le_of_ble_eq_true rfl)
theorem r_76 (d : Nat) (σ : Sto) (v0 : Nat) (v1 : Int32) (v2 : Int32) (v3 : Int32) : j_run (d + 1) 76 [.ref v0, .int v1, .int v2, .int v3] σ = j_seg k_76 h_76 (j_run d) (j_exec k_76 h_76 (j_run d) 999999) 2000 0 [some (.ref v0), some (.int v1), some (.int v2), some (.int v3), none, none] [] σ := j_run_in d 76 [.ref v0, .int v1, .int v2, .int v3] σ (Nat.le_of_ble_eq_true rfl)
theorem r_77 (d : Nat) (σ : Sto) (v0 : Nat) (v1 : Int32) : j_run (d + 1) 77 [.ref v0, .int v1] σ = j_seg k_77 h_77 (j_run d) (j_exec k_77 h_77 (j_run d) 999999) 2000 0 [some (.ref v0), some (.int v1), none] [] σ := j_run_in d 77 [.ref v0, .int v1] σ (Nat.le_of_ble_eq_true rfl)
theorem r_78 (d : Nat) (σ : Sto) (v0 : Nat) (v1 : Int32) : j_run (d + 1) 78 [.ref v0, .int v1] σ = j_seg k_78 h_78 (j_run d) (j_exec k_78 h_78 (j_run d) 999999) 2000 0 [some (.ref v0), some (.int v1), none] [] σ := j_run_in d 78 [.ref v0, .int v1] σ (Nat.le_of_ble_eq_true rfl)
theorem r_79 (d : Nat) (σ : Sto) (v0 : Nat) (v1 : Int32) : j_run (d + 1) 79 [.ref v0, .int v1] σ = j_seg k_79 h_79 (j_run d) (j_exec k_79 h_79 (j_run d) 999999) 2000 0 [some (.ref v0), some (.int v1)] [] σ := j_run_in d 79 [.ref v0, .int v1] σ (Nat.le_of_ble_eq_true rfl)
theorem r_80 (d : Nat) (σ : Sto) (v0 : Nat) (v1 : Int32) (v2 : Int32) : j_run (d + 1) 80 [.ref v0, .int v1, .int v2] σ = j_seg k_80 h_80 (j_run d) (j_exec k_80 h_80 (j_run d) 999999) 2000 0 [some (.ref v0), some (.int v1), some (.int v2), none] [] σ := j_run_in d 80 [.ref v0, .int v1, .int v2] σ (Nat.le_of_ble_eq_true rfl)
theorem r_81 (d : Nat) (σ : Sto) (v0 : Nat) (v1 : Int32) (v2 : Int32) : j_run (d + 1) 81 [.ref v0, .int v1, .int v2] σ = j_seg k_81 h_81 (j_run d) (j_exec k_81 h_81 (j_run d) 999999) 2000 0 [some (.ref v0), some (.int v1), some (.int v2)] [] σ := j_run_in d 81 [.ref v0, .int v1, .int v2] σ (Nat.le_of_ble_eq_true rfl)
theorem r_82 (d : Nat) (σ : Sto) (v0 : Nat) (v1 : Int32) (v2 : Int32) : j_run (d + 1) 82 [.ref v0, .int v1, .int v2] σ = j_seg k_82 h_82 (j_run d) (j_exec k_82 h_82 (j_run d) 999999) 2000 0 [some (.ref v0), some (.int v1), some (.int v2)] [] σ := j_run_in d 82 [.ref v0, .int v1, .int v2] σ (Nat.le_of_ble_eq_true rfl)
theorem r_83 (d : Nat) (σ : Sto) (v0 : Nat) : j_run (d + 1) 83 [.ref v0] σ = j_seg k_83 h_83 (j_run d) (j_exec k_83 h_83 (j_run d) 999999) 2000 0 [some (.ref v0)] [] σ := j_run_in d 83 [.ref v0] σ (Nat.le_of_ble_eq_true rfl)
theorem r_84 (d : Nat) (σ : Sto) (v0 : Nat) (v1 : Int32) (v2 : Int32) : j_run (d + 1) 84 [.ref v0, .int v1, .int v2] σ = j_seg k_84 h_84 (j_run d) (j_exec k_84 h_84 (j_run d) 999999) 2000 0 [some (.ref v0), some (.int v1), some (.int v2), none] [] σ := j_run_in d 84 [.ref v0, .int v1, .int v2] σ (Nat.le_of_ble_eq_true rfl)
theorem r_85 (d : Nat) (σ : Sto) (v0 : Nat) (v1 : Int32) : j_run (d + 1) 85 [.ref v0, .int v1] σ = j_seg k_85 h_85 (j_run d) (j_exec k_85 h_85 (j_run d) 999999) 2000 0 [some (.ref v0), some (.int v1), none, none] [] σ := j_run_in d 85 [.ref v0, .int v1] σ (Nat.le_of_ble_eq_true rfl)
theorem r_86 (d : Nat) (σ : Sto) (v0 : Nat) : j_run (d + 1) 86 [.ref v0] σ = j_seg k_86 h_86 (j_run d) (j_exec k_86 h_86 (j_run d) 999999) 2000 0 [some (.ref v0), none] [] σ := j_run_in d 86 [.ref v0] σ (Nat.le_of_ble_eq_true rfl)
theorem r_87 (d : Nat) (σ : Sto) (v0 : Nat) : j_run (d + 1) 87 [.ref v0] σ = j_seg k_87 h_87 (j_run d) (j_exec k_87 h_87 (j_run d) 999999) 2000 0 [some (.ref v0), none, none] [] σ := j_run_in d 87 [.ref v0] σ (Nat.le_of_ble_eq_true rfl)
theorem r_88 (d : Nat) (σ : Sto) (v0 : Nat) (v1 : Int32) : j_run (d + 1) 88 [.ref v0, .int v1] σ = j_seg k_88 h_88 (j_run d) (j_exec k_88 h_88 (j_run d) 999999) 2000 0 [some (.ref v0), some (.int v1), none] [] σ := j_run_in d 88 [.ref v0, .int v1] σ (Nat.le_of_ble_eq_true rfl)
theorem r_89 (d : Nat) (σ : Sto) (v0 : Nat) : j_run (d + 1) 89 [.ref v0] σ = j_seg k_89 h_89 (j_run d) (j_exec k_89 h_89 (j_run d) 999999) 2000 0 [some (.ref v0)] [] σ := j_run_in d 89 [.ref v0] σ (Nat.le_of_ble_eq_true rfl)
theorem r_90 (d : Nat) (σ : Sto) (v0 : Nat) (v1 : Int32) : j_run (d + 1) 90 [.ref v0, .int v1] σ = j_seg k_90 h_90 (j_run d) (j_exec k_90 h_90 (j_run d) 999999) 2000 0 [some (.ref v0), some (.int v1)] [] σ := j_run_in d 90 [.ref v0, .int v1] σ (Nat.le_of_ble_eq_true rfl)
theorem r_91 (d : Nat) (σ : Sto) (v0 : Nat) (v1 : Int32) : j_run (d + 1) 91 [.ref v0, .int v1] σ = j_seg k_91 h_91 (j_run d) (j_exec k_91 h_91 (j_run d) 999999) 2000 0 [some (.ref v0), some (.int v1)] [] σ := j_run_in d 91 [.ref v0, .int v1] σ (Nat.le_of_ble_eq_true rfl)
theorem r_92 (d : Nat) (σ : Sto) (v0 : Nat) : j_run (d + 1) 92 [.ref v0] σ = j_seg k_92 h_92 (j_run d) (j_exec k_92 h_92 (j_run d) 999999) 2000 0 [some (.ref v0), none] [] σ := j_run_in d 92 [.ref v0] σ (Nat.le_of_ble_eq_true rfl)
theorem r_93 (d : Nat) (σ : Sto) (v0 : Nat) (v1 : Int32) : j_run (d + 1) 93 [.ref v0, .int v1] σ = j_seg k_93 h_93 (j_run d) (j_exec k_93 h_93 (j_run d) 999999) 2000 0 [some (.ref v0), some (.int v1)] [] σ := j_run_in d 93 [.ref v0, .int v1] σ (Nat.le_of_ble_eq_true rfl)
theorem r_94 (d : Nat) (σ : Sto) (v0 : Nat) : j_run (d + 1) 94 [.ref v0] σ = j_seg k_94 h_94 (j_run d) (j_exec k_94 h_94 (j_run d) 999999) 2000 0 [some (.ref v0), none, none, none, none, none] [] σ := j_run_in d 94 [.ref v0] σ (Nat.le_of_ble_eq_true rfl)
theorem r_95 (d : Nat) (σ : Sto) (v0 : Nat) (v1 : Int32) (v2 : Int32) : j_run (d + 1) 95 [.ref v0, .int v1, .int v2] σ = j_seg k_95 h_95 (j_run d) (j_exec k_95 h_95 (j_run d) 999999) 2000 0 [some (.ref v0), some (.int v1), some (.int v2), none, none, none, none] [] σ := j_run_in d 95 [.ref v0, .int v1, .int v2] σ (Nat.le_of_ble_eq_true rfl)
theorem r_96 (d : Nat) (σ : Sto) (v0 : Nat) (v1 : Int32) (v2 : Int32) : j_run (d + 1) 96 [.ref v0, .int v1, .int v2] σ = j_seg k_96 h_96 (j_run d) (j_exec k_96 h_96 (j_run d) 999999) 2000 0 [some (.ref v0), some (.int v1), some (.int v2), none, none, none] [] σ := j_run_in d 96 [.ref v0, .int v1, .int v2] σ (Nat.le_of_ble_eq_true rfl)
theorem r_97 (d : Nat) (σ : Sto) (v0 : Nat) (v1 : Int32) : j_run (d + 1) 97 [.ref v0, .int v1] σ = j_seg k_97 h_97 (j_run d) (j_exec k_97 h_97 (j_run d) 999999) 2000 0 [some (.ref v0), some (.int v1)] [] σ := j_run_in d 97 [.ref v0, .int v1] σ (Nat.le_of_ble_eq_true rfl)
theorem r_98 (d : Nat) (σ : Sto) (v0 : Nat) (v1 : Int32) : j_run (d + 1) 98 [.ref v0, .int v1] σ = j_seg k_98 h_98 (j_run d) (j_exec k_98 h_98 (j_run d) 999999) 2000 0 [some (.ref v0), some (.int v1), none, none, none] [] σ := j_run_in d 98 [.ref v0, .int v1] σ (Nat.le_of_ble_eq_true rfl)
theorem r_99 (d : Nat) (σ : Sto) (v0 : Nat) (v1 : Int32) (v2 : Int32) : j_run (d + 1) 99 [.ref v0, .int v1, .int v2] σ = j_seg k_99 h_99 (j_run d) (j_exec k_99 h_99 (j_run d) 999999) 2000 0 [some (.ref v0), some (.int v1), some (.int v2)] [] σ := j_run_in d 99 [.ref v0, .int v1, .int v2] σ (Nat.le_of_ble_eq_true rfl)
theorem r_100 (d : Nat) (σ : Sto) (v0 : Nat) : j_run (d + 1) 100 [.ref v0] σ = j_seg k_100 h_100 (j_run d) (j_exec k_100 h_100 (j_run d) 999999) 2000 0 [some (.ref v0), none, none, none, none] [] σ := j_run_in d 100 [.ref v0] σ (Nat.le_of_ble_eq_true rfl)
theorem r_101 (d : Nat) (σ : Sto) (v0 : Nat) (v1 : Int32) (v2 : Int32) : j_run (d + 1) 101 [.ref v0, .int v1, .int v2] σ = j_seg k_101 h_101 (j_run d) (j_exec k_101 h_101 (j_run d) 999999) 2000 0 [some (.ref v0), some (.int v1), some (.int v2), none] [] σ := j_run_in d 101 [.ref v0, .int v1, .int v2] σ (Nat.le_of_ble_eq_true rfl)
theorem r_102 (d : Nat) (σ : Sto) (v0 : Nat) (v1 : Int32) : j_run (d + 1) 102 [.ref v0, .int v1] σ = j_seg k_102 h_102 (j_run d) (j_exec k_102 h_102 (j_run d) 999999) 2000 0 [some (.ref v0), some (.int v1), none, none] [] σ := j_run_in d 102 [.ref v0, .int v1] σ (Nat.le_of_ble_eq_true rfl)
theorem r_103 (d : Nat) (σ : Sto) (v0 : Nat) (v1 : Int32) : j_run (d + 1) 103 [.ref v0, .int v1] σ = j_seg k_103 h_103 (j_run d) (j_exec k_103 h_103 (j_run d) 999999) 2000 0 [some (.ref v0), some (.int v1), none, none] [] σ := j_run_in d 103 [.ref v0, .int v1] σ (Nat.le_of_ble_eq_true rfl)
theorem r_104 (d : Nat) (σ : Sto) (v0 : Nat) (v1 : Int32) : j_run (d + 1) 104 [.ref v0, .int v1] σ = j_seg k_104 h_104 (j_run d) (j_exec k_104 h_104 (j_run d) 999999) 2000 0 [some (.ref v0), some (.int v1)] [] σ := j_run_in d 104 [.ref v0, .int v1] σ (Nat.le_of_ble_eq_true rfl)
theorem r_105 (d : Nat) (σ : Sto) (v0 : Nat) : j_run (d + 1) 105 [.ref v0] σ = j_seg k_105 h_105 (j_run d) (j_exec k_105 h_105 (j_run d) 999999) 2000 0 [some (.ref v0)] [] σ := j_run_in d 105 [.ref v0] σ (Nat.le_of_ble_eq_true rfl)
theorem r_106 (d : Nat) (σ : Sto) (v0 : Nat) : j_run (d + 1) 106 [.ref v0] σ = j_seg k_106 h_106 (j_run d) (j_exec k_106 h_106 (j_run d) 999999) 2000 0 [some (.ref v0)] [] σ := j_run_in d 106 [.ref v0] σ (Nat.le_of_ble_eq_true rfl)
theorem r_107 (d : Nat) (σ : Sto) (v0 : Nat) : j_run (d + 1) 107 [.ref v0] σ = j_seg k_107 h_107 (j_run d) (j_exec k_107 h_107 (j_run d) 999999) 2000 0 [some (.ref v0)] [] σ := j_run_in d 107 [.ref v0] σ (Nat.le_of_ble_eq_true rfl)
theorem r_108 (d : Nat) (σ : Sto) (v0 : Nat) (v1 : Int32) : j_run (d + 1) 108 [.ref v0, .int v1] σ = j_seg k_108 h_108 (j_run d) (j_exec k_108 h_108 (j_run d) 999999) 2000 0 [some (.ref v0), some (.int v1)] [] σ := j_run_in d 108 [.ref v0, .int v1] σ (Nat.le_of_ble_eq_true rfl)
theorem r_109 (d : Nat) (σ : Sto) (v0 : Nat) : j_run (d + 1) 109 [.ref v0] σ = j_seg k_109 h_109 (j_run d) (j_exec k_109 h_109 (j_run d) 999999) 2000 0 [some (.ref v0)] [] σ := j_run_in d 109 [.ref v0] σ (Nat.le_of_ble_eq_true rfl)
theorem r_110 (d : Nat) (σ : Sto) (v0 : Nat) (v1 : Int32) : j_run (d + 1) 110 [.ref v0, .int v1] σ = j_seg k_110 h_110 (j_run d) (j_exec k_110 h_110 (j_run d) 999999) 2000 0 [some (.ref v0), some (.int v1)] [] σ := j_run_in d 110 [.ref v0, .int v1] σ (Nat.le_of_ble_eq_true rfl)
theorem r_111 (d : Nat) (σ : Sto) (v0 : Nat) : j_run (d + 1) 111 [.ref v0] σ = j_seg k_111 h_111 (j_run d) (j_exec k_111 h_111 (j_run d) 999999) 2000 0 [some (.ref v0), none, none, none, none] [] σ := j_run_in d 111 [.ref v0] σ (Nat.le_of_ble_eq_true rfl)
theorem r_112 (d : Nat) (σ : Sto) (v0 : Nat) (v1 : Int32) : j_run (d + 1) 112 [.ref v0, .int v1] σ = j_seg k_112 h_112 (j_run d) (j_exec k_112 h_112 (j_run d) 999999) 2000 0 [some (.ref v0), some (.int v1)] [] σ := j_run_in d 112 [.ref v0, .int v1] σ (Nat.le_of_ble_eq_true rfl)
theorem r_113 (d : Nat) (σ : Sto) (v0 : Nat) (v1 : Nat) (v2 : Int32) (v3 : Int32) (v4 : Int32) : j_run (d + 1) 113 [.ref v0, .ref v1, .int v2, .int v3, .int v4] σ = j_seg k_113 h_113 (j_run d) (j_exec k_113 h_113 (j_run d) 999999) 2000 0 [some (.ref v0), some (.ref v1), some (.int v2), some (.int v3), some (.int v4)] [] σ := j_run_in d 113 [.ref v0, .ref v1, .int v2, .int v3, .int v4] σ (Nat.le_of_ble_eq_true rfl)
theorem r_114 (d : Nat) (σ : Sto) (v0 : Nat) (v1 : Nat) (v2 : Int32) : j_run (d + 1) 114 [.ref v0, .ref v1, .int v2] σ = j_seg k_114 h_114 (j_run d) (j_exec k_114 h_114 (j_run d) 999999) 2000 0 [some (.ref v0), some (.ref v1), some (.int v2)] [] σ := j_run_in d 114 [.ref v0, .ref v1, .int v2] σ (Nat.le_of_ble_eq_true rfl)
theorem r_115 (d : Nat) (σ : Sto) (v0 : Nat) (v1 : Nat) (v2 : Int32) (v3 : Int32) : j_run (d + 1) 115 [.ref v0, .ref v1, .int v2, .int v3] σ = j_seg k_115 h_115 (j_run d) (j_exec k_115 h_115 (j_run d) 999999) 2000 0 [some (.ref v0), some (.ref v1), some (.int v2), some (.int v3), none] [] σ := j_run_in d 115 [.ref v0, .ref v1, .int v2, .int v3] σ (Nat.le_of_ble_eq_true rfl)
theorem r_116 (d : Nat) (σ : Sto) (v0 : Nat) (v1 : Int32) : j_run (d + 1) 116 [.ref v0, .int v1] σ = j_seg k_116 h_116 (j_run d) (j_exec k_116 h_116 (j_run d) 999999) 2000 0 [some (.ref v0), some (.int v1), none, none, none] [] σ := j_run_in d 116 [.ref v0, .int v1] σ (Nat.le_of_ble_eq_true rfl)
theorem r_117 (d : Nat) (σ : Sto) (v0 : Int32) (v1 : Int32) (v2 : Int32) : j_run (d + 1) 117 [.int v0, .int v1, .int v2] σ = j_seg k_117 h_117 (j_run d) (j_exec k_117 h_117 (j_run d) 999999) 2000 0 [some (.int v0), some (.int v1), some (.int v2)] [] σ := j_run_in d 117 [.int v0, .int v1, .int v2] σ (Nat.le_of_ble_eq_true rfl)
theorem r_118 (d : Nat) (σ : Sto) (v0 : Int32) : j_run (d + 1) 118 [.int v0] σ = j_seg k_118 h_118 (j_run d) (j_exec k_118 h_118 (j_run d) 999999) 2000 0 [some (.int v0)] [] σ := j_run_in d 118 [.int v0] σ (Nat.le_of_ble_eq_true rfl)
theorem r_119 (d : Nat) (σ : Sto) (v0 : Nat) (v1 : Int32) : j_run (d + 1) 119 [.ref v0, .int v1] σ = j_seg k_119 h_119 (j_run d) (j_exec k_119 h_119 (j_run d) 999999) 2000 0 [some (.ref v0), some (.int v1)] [] σ := j_run_in d 119 [.ref v0, .int v1] σ (Nat.le_of_ble_eq_true rfl)
theorem r_120 (d : Nat) (σ : Sto) (v0 : Nat) (v1 : Int32) : j_run (d + 1) 120 [.ref v0, .int v1] σ = j_seg k_120 h_120 (j_run d) (j_exec k_120 h_120 (j_run d) 999999) 2000 0 [some (.ref v0), some (.int v1)] [] σ := j_run_in d 120 [.ref v0, .int v1] σ (Nat.le_of_ble_eq_true rfl)
theorem r_121 (d : Nat) (σ : Sto) (v0 : Nat) (v1 : Int32) : j_run (d + 1) 121 [.ref v0, .int v1] σ = j_seg k_121 h_121 (j_run d) (j_exec k_121 h_121 (j_run d) 999999) 2000 0 [some (.ref v0), some (.int v1)] [] σ := j_run_in d 121 [.ref v0, .int v1] σ (Nat.le_of_ble_eq_true rfl)
theorem r_122 (d : Nat) (σ : Sto) (v0 : Nat) (v1 : Int32) : j_run (d + 1) 122 [.ref v0, .int v1] σ = j_seg k_122 h_122 (j_run d) (j_exec k_122 h_122 (j_run d) 999999) 2000 0 [some (.ref v0), some (.int v1), none, none] [] σ := j_run_in d 122 [.ref v0, .int v1] σ (Nat.le_of_ble_eq_true rfl)
theorem r_123 (d : Nat) (σ : Sto) (v0 : Nat) (v1 : Int32) : j_run (d + 1) 123 [.ref v0, .int v1] σ = j_seg k_123 h_123 (j_run d) (j_exec k_123 h_123 (j_run d) 999999) 2000 0 [some (.ref v0), some (.int v1)] [] σ := j_run_in d 123 [.ref v0, .int v1] σ (Nat.le_of_ble_eq_true rfl)
theorem r_124 (d : Nat) (σ : Sto) (v0 : Nat) (v1 : Int32) (v2 : Int32) : j_run (d + 1) 124 [.ref v0, .int v1, .int v2] σ = j_seg k_124 h_124 (j_run d) (j_exec k_124 h_124 (j_run d) 999999) 2000 0 [some (.ref v0), some (.int v1), some (.int v2), none] [] σ := j_run_in d 124 [.ref v0, .int v1, .int v2] σ (Nat.le_of_ble_eq_true rfl)
theorem r_125 (d : Nat) (σ : Sto) (v0 : Nat) (v1 : Int32) : j_run (d + 1) 125 [.ref v0, .int v1] σ = j_seg k_125 h_125 (j_run d) (j_exec k_125 h_125 (j_run d) 999999) 2000 0 [some (.ref v0), some (.int v1), none] [] σ := j_run_in d 125 [.ref v0, .int v1] σ (Nat.le_of_ble_eq_true rfl)
theorem r_126 (d : Nat) (σ : Sto) (v0 : Nat) : j_run (d + 1) 126 [.ref v0] σ = j_seg k_126 h_126 (j_run d) (j_exec k_126 h_126 (j_run d) 999999) 2000 0 [some (.ref v0), none] [] σ := j_run_in d 126 [.ref v0] σ (Nat.le_of_ble_eq_true rfl)
theorem r_127 (d : Nat) (σ : Sto) (v0 : Int32) (v1 : Int32) (v2 : Int32) : j_run (d + 1) 127 [.int v0, .int v1, .int v2] σ = j_seg k_127 h_127 (j_run d) (j_exec k_127 h_127 (j_run d) 999999) 2000 0 [some (.int v0), some (.int v1), some (.int v2)] [] σ := j_run_in d 127 [.int v0, .int v1, .int v2] σ (Nat.le_of_ble_eq_true rfl)
theorem r_128 (d : Nat) (σ : Sto) (v0 : Int32) (v1 : Int32) : j_run (d + 1) 128 [.int v0, .int v1] σ = j_seg k_128 h_128 (j_run d) (j_exec k_128 h_128 (j_run d) 999999) 2000 0 [some (.int v0), some (.int v1)] [] σ := j_run_in d 128 [.int v0, .int v1] σ (Nat.le_of_ble_eq_true rfl)
theorem r_129 (d : Nat) (σ : Sto) (v0 : Int32) : j_run (d + 1) 129 [.int v0] σ = j_seg k_129 h_129 (j_run d) (j_exec k_129 h_129 (j_run d) 999999) 2000 0 [some (.int v0), none, none] [] σ := j_run_in d 129 [.int v0] σ (Nat.le_of_ble_eq_true rfl)
theorem r_130 (d : Nat) (σ : Sto) (v0 : Int32) : j_run (d + 1) 130 [.int v0] σ = j_seg k_130 h_130 (j_run d) (j_exec k_130 h_130 (j_run d) 999999) 2000 0 [some (.int v0)] [] σ := j_run_in d 130 [.int v0] σ (Nat.le_of_ble_eq_true rfl)
theorem r_131 (d : Nat) (σ : Sto) (v0 : Nat) (v1 : Int32) : j_run (d + 1) 131 [.ref v0, .int v1] σ = j_seg k_131 h_131 (j_run d) (j_exec k_131 h_131 (j_run d) 999999) 2000 0 [some (.ref v0), some (.int v1)] [] σ := j_run_in d 131 [.ref v0, .int v1] σ (Nat.le_of_ble_eq_true rfl)
theorem r_132 (d : Nat) (σ : Sto) (v0 : Nat) : j_run (d + 1) 132 [.ref v0] σ = j_seg k_132 h_132 (j_run d) (j_exec k_132 h_132 (j_run d) 999999) 2000 0 [some (.ref v0)] [] σ := j_run_in d 132 [.ref v0] σ (Nat.le_of_ble_eq_true rfl)
theorem r_133 (d : Nat) (σ : Sto) (v0 : Nat) (v1 : Int32) : j_run (d + 1) 133 [.ref v0, .int v1] σ = j_seg k_133 h_133 (j_run d) (j_exec k_133 h_133 (j_run d) 999999) 2000 0 [some (.ref v0), some (.int v1)] [] σ := j_run_in d 133 [.ref v0, .int v1] σ (Nat.le_of_ble_eq_true rfl)
theorem r_134 (d : Nat) (σ : Sto) (v0 : Nat) (v1 : Int32) (v2 : Int32) : j_run (d + 1) 134 [.ref v0, .int v1, .int v2] σ = j_seg k_134 h_134 (j_run d) (j_exec k_134 h_134 (j_run d) 999999) 2000 0 [some (.ref v0), some (.int v1), some (.int v2)] [] σ := j_run_in d 134 [.ref v0, .int v1, .int v2] σ (Nat.le_of_ble_eq_true rfl)
theorem r_135 (d : Nat) (σ : Sto) (v0 : Nat) : j_run (d + 1) 135 [.ref v0] σ = j_seg k_135 h_135 (j_run d) (j_exec k_135 h_135 (j_run d) 999999) 2000 0 [some (.ref v0)] [] σ := j_run_in d 135 [.ref v0] σ (Nat.le_of_ble_eq_true rfl)
theorem r_136 (d : Nat) (σ : Sto) (v0 : Nat) (v1 : Int64) (v3 : Int64) (v5 : Int32) : j_run (d + 1) 136 [.ref v0, .long v1, .long v3, .int v5] σ = j_seg k_136 h_136 (j_run d) (j_exec k_136 h_136 (j_run d) 999999) 2000 0 [some (.ref v0), some (.long v1), none, some (.long v3), none, some (.int v5), none, none, none, none, none, none] [] σ := j_run_in d 136 [.ref v0, .long v1, .long v3, .int v5] σ (Nat.le_of_ble_eq_true rfl)
theorem r_137 (d : Nat) (σ : Sto) (v0 : Nat) : j_run (d + 1) 137 [.ref v0] σ = j_seg k_137 h_137 (j_run d) (j_exec k_137 h_137 (j_run d) 999999) 2000 0 [some (.ref v0)] [] σ := j_run_in d 137 [.ref v0] σ (Nat.le_of_ble_eq_true rfl)
theorem r_138 (d : Nat) (σ : Sto) (v0 : Nat) : j_run (d + 1) 138 [.ref v0] σ = j_seg k_138 h_138 (j_run d) (j_exec k_138 h_138 (j_run d) 999999) 2000 0 [some (.ref v0)] [] σ := j_run_in d 138 [.ref v0] σ (Nat.le_of_ble_eq_true rfl)
theorem r_139 (d : Nat) (σ : Sto) (v0 : Int32) : j_run (d + 1) 139 [.int v0] σ = j_seg k_139 h_139 (j_run d) (j_exec k_139 h_139 (j_run d) 999999) 2000 0 [some (.int v0)] [] σ := j_run_in d 139 [.int v0] σ (Nat.le_of_ble_eq_true rfl)
theorem r_140 (d : Nat) (σ : Sto) (v0 : Nat) (v1 : Int32) (v2 : Int32) : j_run (d + 1) 140 [.ref v0, .int v1, .int v2] σ = j_seg k_140 h_140 (j_run d) (j_exec k_140 h_140 (j_run d) 999999) 2000 0 [some (.ref v0), some (.int v1), some (.int v2)] [] σ := j_run_in d 140 [.ref v0, .int v1, .int v2] σ (Nat.le_of_ble_eq_true rfl)
theorem r_141 (d : Nat) (σ : Sto) (v0 : Nat) (v1 : Int32) (v2 : Int32) : j_run (d + 1) 141 [.ref v0, .int v1, .int v2] σ = j_seg k_141 h_141 (j_run d) (j_exec k_141 h_141 (j_run d) 999999) 2000 0 [some (.ref v0), some (.int v1), some (.int v2), none] [] σ := j_run_in d 141 [.ref v0, .int v1, .int v2] σ (Nat.le_of_ble_eq_true rfl)
theorem r_142 (d : Nat) (σ : Sto) (v0 : Nat) (v1 : Int32) (v2 : Int32) (v3 : Int32) : j_run (d + 1) 142 [.ref v0, .int v1, .int v2, .int v3] σ = j_seg k_142 h_142 (j_run d) (j_exec k_142 h_142 (j_run d) 999999) 2000 0 [some (.ref v0), some (.int v1), some (.int v2), some (.int v3), none] [] σ := j_run_in d 142 [.ref v0, .int v1, .int v2, .int v3] σ (Nat.le_of_ble_eq_true rfl)
theorem r_143 (d : Nat) (σ : Sto) (v0 : Nat) (v1 : Int32) (v2 : Int32) : j_run (d + 1) 143 [.ref v0, .int v1, .int v2] σ = j_seg k_143 h_143 (j_run d) (j_exec k_143 h_143 (j_run d) 999999) 2000 0 [some (.ref v0), some (.int v1), some (.int v2)] [] σ := j_run_in d 143 [.ref v0, .int v1, .int v2] σ (Nat.le_of_ble_eq_true rfl)
theorem r_144 (d : Nat) (σ : Sto) (v0 : Nat) (v1 : Int32) : j_run (d + 1) 144 [.ref v0, .int v1] σ = j_seg k_144 h_144 (j_run d) (j_exec k_144 h_144 (j_run d) 999999) 2000 0 [some (.ref v0), some (.int v1)] [] σ := j_run_in d 144 [.ref v0, .int v1] σ (Nat.le_of_ble_eq_true rfl)
theorem r_145 (d : Nat) (σ : Sto) (v0 : Nat) (v1 : Int32) (v2 : Int32) (v3 : Int32) (v4 : Int32) (v5 : Int32) : j_run (d + 1) 145 [.ref v0, .int v1, .int v2, .int v3, .int v4, .int v5] σ = j_seg k_145 h_145 (j_run d) (j_exec k_145 h_145 (j_run d) 999999) 2000 0 [some (.ref v0), some (.int v1), some (.int v2), some (.int v3), some (.int v4), some (.int v5), none] [] σ := j_run_in d 145 [.ref v0, .int v1, .int v2, .int v3, .int v4, .int v5] σ (Nat.le_of_ble_eq_true rfl)
theorem r_146 (d : Nat) (σ : Sto) (v0 : Nat) (v1 : Int32) : j_run (d + 1) 146 [.ref v0, .int v1] σ = j_seg k_146 h_146 (j_run d) (j_exec k_146 h_146 (j_run d) 999999) 2000 0 [some (.ref v0), some (.int v1), none, none, none] [] σ := j_run_in d 146 [.ref v0, .int v1] σ (Nat.le_of_ble_eq_true rfl)
theorem r_147 (d : Nat) (σ : Sto) (v0 : Int32) : j_run (d + 1) 147 [.int v0] σ = j_seg k_147 h_147 (j_run d) (j_exec k_147 h_147 (j_run d) 999999) 2000 0 [some (.int v0)] [] σ := j_run_in d 147 [.int v0] σ (Nat.le_of_ble_eq_true rfl)
theorem r_148 (d : Nat) (σ : Sto) (v0 : Nat) (v1 : Int32) (v2 : Int32) : j_run (d + 1) 148 [.ref v0, .int v1, .int v2] σ = j_seg k_148 h_148 (j_run d) (j_exec k_148 h_148 (j_run d) 999999) 2000 0 [some (.ref v0), some (.int v1), some (.int v2), none] [] σ := j_run_in d 148 [.ref v0, .int v1, .int v2] σ (Nat.le_of_ble_eq_true rfl)
theorem r_149 (d : Nat) (σ : Sto) (v0 : Nat) (v1 : Int32) (v2 : Int32) (v3 : Int32) : j_run (d + 1) 149 [.ref v0, .int v1, .int v2, .int v3] σ = j_seg k_149 h_149 (j_run d) (j_exec k_149 h_149 (j_run d) 999999) 2000 0 [some (.ref v0), some (.int v1), some (.int v2), some (.int v3), none] [] σ := j_run_in d 149 [.ref v0, .int v1, .int v2, .int v3] σ (Nat.le_of_ble_eq_true rfl)
theorem r_150 (d : Nat) (σ : Sto) (v0 : Nat) (v1 : Int32) (v2 : Int32) : j_run (d + 1) 150 [.ref v0, .int v1, .int v2] σ = j_seg k_150 h_150 (j_run d) (j_exec k_150 h_150 (j_run d) 999999) 2000 0 [some (.ref v0), some (.int v1), some (.int v2)] [] σ := j_run_in d 150 [.ref v0, .int v1, .int v2] σ (Nat.le_of_ble_eq_true rfl)
theorem r_151 (d : Nat) (σ : Sto) (v0 : Int32) : j_run (d + 1) 151 [.int v0] σ = j_seg k_151 h_151 (j_run d) (j_exec k_151 h_151 (j_run d) 999999) 2000 0 [some (.int v0)] [] σ := j_run_in d 151 [.int v0] σ (Nat.le_of_ble_eq_true rfl)
theorem r_152 (d : Nat) (σ : Sto) (v0 : Int32) : j_run (d + 1) 152 [.int v0] σ = j_seg k_152 h_152 (j_run d) (j_exec k_152 h_152 (j_run d) 999999) 2000 0 [some (.int v0)] [] σ := j_run_in d 152 [.int v0] σ (Nat.le_of_ble_eq_true rfl)
theorem r_153 (d : Nat) (σ : Sto) (v0 : Nat) (v1 : Int32) (v2 : Int32) (v3 : Int32) : j_run (d + 1) 153 [.ref v0, .int v1, .int v2, .int v3] σ = j_seg k_153 h_153 (j_run d) (j_exec k_153 h_153 (j_run d) 999999) 2000 0 [some (.ref v0), some (.int v1), some (.int v2), some (.int v3), none] [] σ := j_run_in d 153 [.ref v0, .int v1, .int v2, .int v3] σ (Nat.le_of_ble_eq_true rfl)
theorem r_154 (d : Nat) (σ : Sto) (v0 : Nat) (v1 : Int32) : j_run (d + 1) 154 [.ref v0, .int v1] σ = j_seg k_154 h_154 (j_run d) (j_exec k_154 h_154 (j_run d) 999999) 2000 0 [some (.ref v0), some (.int v1), none] [] σ := j_run_in d 154 [.ref v0, .int v1] σ (Nat.le_of_ble_eq_true rfl)
theorem r_155 (d : Nat) (σ : Sto) (v0 : Nat) (v1 : Int32) : j_run (d + 1) 155 [.ref v0, .int v1] σ = j_seg k_155 h_155 (j_run d) (j_exec k_155 h_155 (j_run d) 999999) 2000 0 [some (.ref v0), some (.int v1), none] [] σ := j_run_in d 155 [.ref v0, .int v1] σ (Nat.le_of_ble_eq_true rfl)
theorem r_156 (d : Nat) (σ : Sto) (v0 : Nat) (v1 : Int32) : j_run (d + 1) 156 [.ref v0, .int v1] σ = j_seg k_156 h_156 (j_run d) (j_exec k_156 h_156 (j_run d) 999999) 2000 0 [some (.ref v0), some (.int v1), none, none, none, none, none] [] σ := j_run_in d 156 [.ref v0, .int v1] σ (Nat.le_of_ble_eq_true rfl)
theorem r_157 (d : Nat) (σ : Sto) (v0 : Nat) (v1 : Int32) : j_run (d + 1) 157 [.ref v0, .int v1] σ = j_seg k_157 h_157 (j_run d) (j_exec k_157 h_157 (j_run d) 999999) 2000 0 [some (.ref v0), some (.int v1)] [] σ := j_run_in d 157 [.ref v0, .int v1] σ (Nat.le_of_ble_eq_true rfl)
theorem r_158 (d : Nat) (σ : Sto) (v0 : Nat) (v1 : Int32) : j_run (d + 1) 158 [.ref v0, .int v1] σ = j_seg k_158 h_158 (j_run d) (j_exec k_158 h_158 (j_run d) 999999) 2000 0 [some (.ref v0), some (.int v1)] [] σ := j_run_in d 158 [.ref v0, .int v1] σ (Nat.le_of_ble_eq_true rfl)
theorem r_159 (d : Nat) (σ : Sto) (v0 : Nat) (v1 : Int32) : j_run (d + 1) 159 [.ref v0, .int v1] σ = j_seg k_159 h_159 (j_run d) (j_exec k_159 h_159 (j_run d) 999999) 2000 0 [some (.ref v0), some (.int v1), none] [] σ := j_run_in d 159 [.ref v0, .int v1] σ (Nat.le_of_ble_eq_true rfl)
theorem r_160 (d : Nat) (σ : Sto) (v0 : Nat) (v1 : Int32) : j_run (d + 1) 160 [.ref v0, .int v1] σ = j_seg k_160 h_160 (j_run d) (j_exec k_160 h_160 (j_run d) 999999) 2000 0 [some (.ref v0), some (.int v1)] [] σ := j_run_in d 160 [.ref v0, .int v1] σ (Nat.le_of_ble_eq_true rfl)
theorem r_161 (d : Nat) (σ : Sto) (v0 : Nat) (v1 : Int32) : j_run (d + 1) 161 [.ref v0, .int v1] σ = j_seg k_161 h_161 (j_run d) (j_exec k_161 h_161 (j_run d) 999999) 2000 0 [some (.ref v0), some (.int v1)] [] σ := j_run_in d 161 [.ref v0, .int v1] σ (Nat.le_of_ble_eq_true rfl)
theorem r_162 (d : Nat) (σ : Sto) (v0 : Nat) (v1 : Int32) (v2 : Int32) : j_run (d + 1) 162 [.ref v0, .int v1, .int v2] σ = j_seg k_162 h_162 (j_run d) (j_exec k_162 h_162 (j_run d) 999999) 2000 0 [some (.ref v0), some (.int v1), some (.int v2)] [] σ := j_run_in d 162 [.ref v0, .int v1, .int v2] σ (Nat.le_of_ble_eq_true rfl)
theorem r_163 (d : Nat) (σ : Sto) (v0 : Nat) (v1 : Int32) (v2 : Int32) (v3 : Int32) : j_run (d + 1) 163 [.ref v0, .int v1, .int v2, .int v3] σ = j_seg k_163 h_163 (j_run d) (j_exec k_163 h_163 (j_run d) 999999) 2000 0 [some (.ref v0), some (.int v1), some (.int v2), some (.int v3)] [] σ := j_run_in d 163 [.ref v0, .int v1, .int v2, .int v3] σ (Nat.le_of_ble_eq_true rfl)
theorem r_164 (d : Nat) (σ : Sto) (v0 : Nat) (v1 : Int32) (v2 : Int32) : j_run (d + 1) 164 [.ref v0, .int v1, .int v2] σ = j_seg k_164 h_164 (j_run d) (j_exec k_164 h_164 (j_run d) 999999) 2000 0 [some (.ref v0), some (.int v1), some (.int v2), none] [] σ := j_run_in d 164 [.ref v0, .int v1, .int v2] σ (Nat.le_of_ble_eq_true rfl)
theorem r_165 (d : Nat) (σ : Sto) (v0 : Nat) (v1 : Int32) (v2 : Int32) : j_run (d + 1) 165 [.ref v0, .int v1, .int v2] σ = j_seg k_165 h_165 (j_run d) (j_exec k_165 h_165 (j_run d) 999999) 2000 0 [some (.ref v0), some (.int v1), some (.int v2)] [] σ := j_run_in d 165 [.ref v0, .int v1, .int v2] σ (Nat.le_of_ble_eq_true rfl)
theorem r_166 (d : Nat) (σ : Sto) (v0 : Nat) (v1 : Int32) : j_run (d + 1) 166 [.ref v0, .int v1] σ = j_seg k_166 h_166 (j_run d) (j_exec k_166 h_166 (j_run d) 999999) 2000 0 [some (.ref v0), some (.int v1), none, none] [] σ := j_run_in d 166 [.ref v0, .int v1] σ (Nat.le_of_ble_eq_true rfl)
theorem r_167 (d : Nat) (σ : Sto) (v0 : Nat) (v1 : Int32) (v2 : Int32) (v3 : Int32) : j_run (d + 1) 167 [.ref v0, .int v1, .int v2, .int v3] σ = j_seg k_167 h_167 (j_run d) (j_exec k_167 h_167 (j_run d) 999999) 2000 0 [some (.ref v0), some (.int v1), some (.int v2), some (.int v3), none] [] σ := j_run_in d 167 [.ref v0, .int v1, .int v2, .int v3] σ (Nat.le_of_ble_eq_true rfl)
theorem r_168 (d : Nat) (σ : Sto) (v0 : Nat) (v1 : Int32) (v2 : Int32) : j_run (d + 1) 168 [.ref v0, .int v1, .int v2] σ = j_seg k_168 h_168 (j_run d) (j_exec k_168 h_168 (j_run d) 999999) 2000 0 [some (.ref v0), some (.int v1), some (.int v2)] [] σ := j_run_in d 168 [.ref v0, .int v1, .int v2] σ (Nat.le_of_ble_eq_true rfl)
theorem r_169 (d : Nat) (σ : Sto) (v0 : Nat) (v1 : Int32) : j_run (d + 1) 169 [.ref v0, .int v1] σ = j_seg k_169 h_169 (j_run d) (j_exec k_169 h_169 (j_run d) 999999) 2000 0 [some (.ref v0), some (.int v1)] [] σ := j_run_in d 169 [.ref v0, .int v1] σ (Nat.le_of_ble_eq_true rfl)
theorem r_170 (d : Nat) (σ : Sto) (v0 : Nat) (v1 : Int32) (v2 : Int32) : j_run (d + 1) 170 [.ref v0, .int v1, .int v2] σ = j_seg k_170 h_170 (j_run d) (j_exec k_170 h_170 (j_run d) 999999) 2000 0 [some (.ref v0), some (.int v1), some (.int v2), none] [] σ := j_run_in d 170 [.ref v0, .int v1, .int v2] σ (Nat.le_of_ble_eq_true rfl)
theorem r_171 (d : Nat) (σ : Sto) (v0 : Nat) (v1 : Int32) (v2 : Int32) : j_run (d + 1) 171 [.ref v0, .int v1, .int v2] σ = j_seg k_171 h_171 (j_run d) (j_exec k_171 h_171 (j_run d) 999999) 2000 0 [some (.ref v0), some (.int v1), some (.int v2)] [] σ := j_run_in d 171 [.ref v0, .int v1, .int v2] σ (Nat.le_of_ble_eq_true rfl)
theorem r_172 (d : Nat) (σ : Sto) (v0 : Nat) (v1 : Int32) (v2 : Int32) : j_run (d + 1) 172 [.ref v0, .int v1, .int v2] σ = j_seg k_172 h_172 (j_run d) (j_exec k_172 h_172 (j_run d) 999999) 2000 0 [some (.ref v0), some (.int v1), some (.int v2)] [] σ := j_run_in d 172 [.ref v0, .int v1, .int v2] σ (Nat.le_of_ble_eq_true rfl)
theorem r_173 (d : Nat) (σ : Sto) (v0 : Nat) (v1 : Int32) : j_run (d + 1) 173 [.ref v0, .int v1] σ = j_seg k_173 h_173 (j_run d) (j_exec k_173 h_173 (j_run d) 999999) 2000 0 [some (.ref v0), some (.int v1)] [] σ := j_run_in d 173 [.ref v0, .int v1] σ (Nat.le_of_ble_eq_true rfl)
theorem r_174 (d : Nat) (σ : Sto) (v0 : Nat) (v1 : Int32) : j_run (d + 1) 174 [.ref v0, .int v1] σ = j_seg k_174 h_174 (j_run d) (j_exec k_174 h_174 (j_run d) 999999) 2000 0 [some (.ref v0), some (.int v1)] [] σ := j_run_in d 174 [.ref v0, .int v1] σ (Nat.le_of_ble_eq_true rfl)
theorem r_175 (d : Nat) (σ : Sto) (v0 : Nat) (v1 : Int32) (v2 : Int32) : j_run (d + 1) 175 [.ref v0, .int v1, .int v2] σ = j_seg k_175 h_175 (j_run d) (j_exec k_175 h_175 (j_run d) 999999) 2000 0 [some (.ref v0), some (.int v1), some (.int v2)] [] σ := j_run_in d 175 [.ref v0, .int v1, .int v2] σ (Nat.le_of_ble_eq_true rfl)
theorem r_176 (d : Nat) (σ : Sto) (v0 : Nat) (v1 : Int32) : j_run (d + 1) 176 [.ref v0, .int v1] σ = j_seg k_176 h_176 (j_run d) (j_exec k_176 h_176 (j_run d) 999999) 2000 0 [some (.ref v0), some (.int v1), none, none] [] σ := j_run_in d 176 [.ref v0, .int v1] σ (Nat.le_of_ble_eq_true rfl)
theorem r_177 (d : Nat) (σ : Sto) (v0 : Nat) : j_run (d + 1) 177 [.ref v0] σ = j_seg k_177 h_177 (j_run d) (j_exec k_177 h_177 (j_run d) 999999) 2000 0 [some (.ref v0), none, none] [] σ := j_run_in d 177 [.ref v0] σ (Nat.le_of_ble_eq_true rfl)
theorem r_178 (d : Nat) (σ : Sto) (v0 : Nat) (v1 : Int32) (v2 : Int32) : j_run (d + 1) 178 [.ref v0, .int v1, .int v2] σ = j_seg k_178 h_178 (j_run d) (j_exec k_178 h_178 (j_run d) 999999) 2000 0 [some (.ref v0), some (.int v1), some (.int v2)] [] σ := j_run_in d 178 [.ref v0, .int v1, .int v2] σ (Nat.le_of_ble_eq_true rfl)
theorem r_179 (d : Nat) (σ : Sto) (v0 : Nat) : j_run (d + 1) 179 [.ref v0] σ = j_seg k_179 h_179 (j_run d) (j_exec k_179 h_179 (j_run d) 999999) 2000 0 [some (.ref v0)] [] σ := j_run_in d 179 [.ref v0] σ (Nat.le_of_ble_eq_true rfl)
theorem r_180 (d : Nat) (σ : Sto) (v0 : Nat) (v1 : Int32) (v2 : Int32) (v3 : Int32) : j_run (d + 1) 180 [.ref v0, .int v1, .int v2, .int v3] σ = j_seg k_180 h_180 (j_run d) (j_exec k_180 h_180 (j_run d) 999999) 2000 0 [some (.ref v0), some (.int v1), some (.int v2), some (.int v3)] [] σ := j_run_in d 180 [.ref v0, .int v1, .int v2, .int v3] σ (Nat.le_of_ble_eq_true rfl)
theorem r_181 (d : Nat) (σ : Sto) (v0 : Nat) (v1 : Int32) (v2 : Int32) (v3 : Int32) : j_run (d + 1) 181 [.ref v0, .int v1, .int v2, .int v3] σ = j_seg k_181 h_181 (j_run d) (j_exec k_181 h_181 (j_run d) 999999) 2000 0 [some (.ref v0), some (.int v1), some (.int v2), some (.int v3), none, none] [] σ := j_run_in d 181 [.ref v0, .int v1, .int v2, .int v3] σ (Nat.le_of_ble_eq_true rfl)
theorem r_182 (d : Nat) (σ : Sto) (v0 : Nat) (v1 : Int32) (v2 : Int32) (v3 : Int32) : j_run (d + 1) 182 [.ref v0, .int v1, .int v2, .int v3] σ = j_seg k_182 h_182 (j_run d) (j_exec k_182 h_182 (j_run d) 999999) 2000 0 [some (.ref v0), some (.int v1), some (.int v2), some (.int v3)] [] σ := j_run_in d 182 [.ref v0, .int v1, .int v2, .int v3] σ (Nat.le_of_ble_eq_true rfl)
theorem r_183 (d : Nat) (σ : Sto) (v0 : Nat) (v1 : Int32) (v2 : Int32) (v3 : Int32) : j_run (d + 1) 183 [.ref v0, .int v1, .int v2, .int v3] σ = j_seg k_183 h_183 (j_run d) (j_exec k_183 h_183 (j_run d) 999999) 2000 0 [some (.ref v0), some (.int v1), some (.int v2), some (.int v3)] [] σ := j_run_in d 183 [.ref v0, .int v1, .int v2, .int v3] σ (Nat.le_of_ble_eq_true rfl)
theorem r_184 (d : Nat) (σ : Sto) (v0 : Int32) : j_run (d + 1) 184 [.int v0] σ = j_seg k_184 h_184 (j_run d) (j_exec k_184 h_184 (j_run d) 999999) 2000 0 [some (.int v0)] [] σ := j_run_in d 184 [.int v0] σ (Nat.le_of_ble_eq_true rfl)
theorem r_185 (d : Nat) (σ : Sto) (v0 : Nat) (v1 : Int32) (v2 : Int32) (v3 : Int32) : j_run (d + 1) 185 [.ref v0, .int v1, .int v2, .int v3] σ = j_seg k_185 h_185 (j_run d) (j_exec k_185 h_185 (j_run d) 999999) 2000 0 [some (.ref v0), some (.int v1), some (.int v2), some (.int v3), none, none, none, none, none, none, none, none, none] [] σ := j_run_in d 185 [.ref v0, .int v1, .int v2, .int v3] σ (Nat.le_of_ble_eq_true rfl)
theorem r_186 (d : Nat) (σ : Sto) (v0 : Nat) (v1 : Int32) : j_run (d + 1) 186 [.ref v0, .int v1] σ = j_seg k_186 h_186 (j_run d) (j_exec k_186 h_186 (j_run d) 999999) 2000 0 [some (.ref v0), some (.int v1), none, none, none, none] [] σ := j_run_in d 186 [.ref v0, .int v1] σ (Nat.le_of_ble_eq_true rfl)
theorem r_187 (d : Nat) (σ : Sto) (v0 : Nat) (v1 : Int32) : j_run (d + 1) 187 [.ref v0, .int v1] σ = j_seg k_187 h_187 (j_run d) (j_exec k_187 h_187 (j_run d) 999999) 2000 0 [some (.ref v0), some (.int v1), none, none, none] [] σ := j_run_in d 187 [.ref v0, .int v1] σ (Nat.le_of_ble_eq_true rfl)
theorem r_188 (d : Nat) (σ : Sto) (v0 : Nat) (v1 : Int32) (v2 : Int32) (v3 : Int32) : j_run (d + 1) 188 [.ref v0, .int v1, .int v2, .int v3] σ = j_seg k_188 h_188 (j_run d) (j_exec k_188 h_188 (j_run d) 999999) 2000 0 [some (.ref v0), some (.int v1), some (.int v2), some (.int v3), none] [] σ := j_run_in d 188 [.ref v0, .int v1, .int v2, .int v3] σ (Nat.le_of_ble_eq_true rfl)
theorem r_189 (d : Nat) (σ : Sto) (v0 : Nat) (v1 : Int32) (v2 : Int32) : j_run (d + 1) 189 [.ref v0, .int v1, .int v2] σ = j_seg k_189 h_189 (j_run d) (j_exec k_189 h_189 (j_run d) 999999) 2000 0 [some (.ref v0), some (.int v1), some (.int v2)] [] σ := j_run_in d 189 [.ref v0, .int v1, .int v2] σ (Nat.le_of_ble_eq_true rfl)
theorem r_190 (d : Nat) (σ : Sto) (v0 : Nat) (v1 : Int32) (v2 : Int32) : j_run (d + 1) 190 [.ref v0, .int v1, .int v2] σ = j_seg k_190 h_190 (j_run d) (j_exec k_190 h_190 (j_run d) 999999) 2000 0 [some (.ref v0), some (.int v1), some (.int v2)] [] σ := j_run_in d 190 [.ref v0, .int v1, .int v2] σ (Nat.le_of_ble_eq_true rfl)
theorem r_191 (d : Nat) (σ : Sto) (v0 : Nat) (v1 : Int32) : j_run (d + 1) 191 [.ref v0, .int v1] σ = j_seg k_191 h_191 (j_run d) (j_exec k_191 h_191 (j_run d) 999999) 2000 0 [some (.ref v0), some (.int v1), none, none] [] σ := j_run_in d 191 [.ref v0, .int v1] σ (Nat.le_of_ble_eq_true rfl)
theorem r_192 (d : Nat) (σ : Sto) (v0 : Nat) : j_run (d + 1) 192 [.ref v0] σ = j_seg k_192 h_192 (j_run d) (j_exec k_192 h_192 (j_run d) 999999) 2000 0 [some (.ref v0), none] [] σ := j_run_in d 192 [.ref v0] σ (Nat.le_of_ble_eq_true rfl)
theorem r_193 (d : Nat) (σ : Sto) (v0 : Nat) (v1 : Int32) : j_run (d + 1) 193 [.ref v0, .int v1] σ = j_seg k_193 h_193 (j_run d) (j_exec k_193 h_193 (j_run d) 999999) 2000 0 [some (.ref v0), some (.int v1), none, none, none] [] σ := j_run_in d 193 [.ref v0, .int v1] σ (Nat.le_of_ble_eq_true rfl)
theorem r_194 (d : Nat) (σ : Sto) (v0 : Nat) : j_run (d + 1) 194 [.ref v0] σ = j_seg k_194 h_194 (j_run d) (j_exec k_194 h_194 (j_run d) 999999) 2000 0 [some (.ref v0), none, none] [] σ := j_run_in d 194 [.ref v0] σ (Nat.le_of_ble_eq_true rfl)
theorem r_195 (d : Nat) (σ : Sto) (v0 : Nat) (v1 : Int32) : j_run (d + 1) 195 [.ref v0, .int v1] σ = j_seg k_195 h_195 (j_run d) (j_exec k_195 h_195 (j_run d) 999999) 2000 0 [some (.ref v0), some (.int v1), none] [] σ := j_run_in d 195 [.ref v0, .int v1] σ (Nat.le_of_ble_eq_true rfl)
theorem r_196 (d : Nat) (σ : Sto) (v0 : Nat) (v1 : Int32) : j_run (d + 1) 196 [.ref v0, .int v1] σ = j_seg k_196 h_196 (j_run d) (j_exec k_196 h_196 (j_run d) 999999) 2000 0 [some (.ref v0), some (.int v1), none, none, none] [] σ := j_run_in d 196 [.ref v0, .int v1] σ (Nat.le_of_ble_eq_true rfl)
theorem r_197 (d : Nat) (σ : Sto) (v0 : Nat) : j_run (d + 1) 197 [.ref v0] σ = j_seg k_197 h_197 (j_run d) (j_exec k_197 h_197 (j_run d) 999999) 2000 0 [some (.ref v0)] [] σ := j_run_in d 197 [.ref v0] σ (Nat.le_of_ble_eq_true rfl)
theorem r_198 (d : Nat) (σ : Sto) (v0 : Nat) (v1 : Int32) : j_run (d + 1) 198 [.ref v0, .int v1] σ = j_seg k_198 h_198 (j_run d) (j_exec k_198 h_198 (j_run d) 999999) 2000 0 [some (.ref v0), some (.int v1)] [] σ := j_run_in d 198 [.ref v0, .int v1] σ (Nat.le_of_ble_eq_true rfl)
theorem r_199 (d : Nat) (σ : Sto) (v0 : Nat) (v1 : Int32) : j_run (d + 1) 199 [.ref v0, .int v1] σ = j_seg k_199 h_199 (j_run d) (j_exec k_199 h_199 (j_run d) 999999) 2000 0 [some (.ref v0), some (.int v1)] [] σ := j_run_in d 199 [.ref v0, .int v1] σ (Nat.le_of_ble_eq_true rfl)
theorem r_200 (d : Nat) (σ : Sto) (v0 : Nat) (v1 : Int32) : j_run (d + 1) 200 [.ref v0, .int v1] σ = j_seg k_200 h_200 (j_run d) (j_exec k_200 h_200 (j_run d) 999999) 2000 0 [some (.ref v0), some (.int v1), none, none] [] σ := j_run_in d 200 [.ref v0, .int v1] σ (Nat.le_of_ble_eq_true rfl)
theorem r_201 (d : Nat) (σ : Sto) (v0 : Nat) : j_run (d + 1) 201 [.ref v0] σ = j_seg k_201 h_201 (j_run d) (j_exec k_201 h_201 (j_run d) 999999) 2000 0 [some (.ref v0)] [] σ := j_run_in d 201 [.ref v0] σ (Nat.le_of_ble_eq_true rfl)
theorem r_202 (d : Nat) (σ : Sto) (v0 : Nat) (v1 : Int32) (v2 : Int32) : j_run (d + 1) 202 [.ref v0, .int v1, .int v2] σ = j_seg k_202 h_202 (j_run d) (j_exec k_202 h_202 (j_run d) 999999) 2000 0 [some (.ref v0), some (.int v1), some (.int v2)] [] σ := j_run_in d 202 [.ref v0, .int v1, .int v2] σ (Nat.le_of_ble_eq_true rfl)
theorem r_203 (d : Nat) (σ : Sto) (v0 : Nat) (v1 : Int32) (v2 : Int32) : j_run (d + 1) 203 [.ref v0, .int v1, .int v2] σ = j_seg k_203 h_203 (j_run d) (j_exec k_203 h_203 (j_run d) 999999) 2000 0 [some (.ref v0), some (.int v1), some (.int v2), none, none] [] σ := j_run_in d 203 [.ref v0, .int v1, .int v2] σ (Nat.le_of_ble_eq_true rfl)
theorem r_204 (d : Nat) (σ : Sto) (v0 : Nat) (v1 : Int32) (v2 : Int32) : j_run (d + 1) 204 [.ref v0, .int v1, .int v2] σ = j_seg k_204 h_204 (j_run d) (j_exec k_204 h_204 (j_run d) 999999) 2000 0 [some (.ref v0), some (.int v1), some (.int v2), none] [] σ := j_run_in d 204 [.ref v0, .int v1, .int v2] σ (Nat.le_of_ble_eq_true rfl)
theorem r_205 (d : Nat) (σ : Sto) (v0 : Nat) (v1 : Int32) (v2 : Int32) (v3 : Int32) : j_run (d + 1) 205 [.ref v0, .int v1, .int v2, .int v3] σ = j_seg k_205 h_205 (j_run d) (j_exec k_205 h_205 (j_run d) 999999) 2000 0 [some (.ref v0), some (.int v1), some (.int v2), some (.int v3), none, none] [] σ := j_run_in d 205 [.ref v0, .int v1, .int v2, .int v3] σ (Nat.le_of_ble_eq_true rfl)
theorem r_206 (d : Nat) (σ : Sto) (v0 : Nat) (v1 : Int32) (v2 : Int32) (v3 : Int32) (v4 : Int32) : j_run (d + 1) 206 [.ref v0, .int v1, .int v2, .int v3, .int v4] σ = j_seg k_206 h_206 (j_run d) (j_exec k_206 h_206 (j_run d) 999999) 2000 0 [some (.ref v0), some (.int v1), some (.int v2), some (.int v3), some (.int v4)] [] σ := j_run_in d 206 [.ref v0, .int v1, .int v2, .int v3, .int v4] σ (Nat.le_of_ble_eq_true rfl)
theorem r_207 (d : Nat) (σ : Sto) (v0 : Nat) (v1 : Int32) (v2 : Int32) : j_run (d + 1) 207 [.ref v0, .int v1, .int v2] σ = j_seg k_207 h_207 (j_run d) (j_exec k_207 h_207 (j_run d) 999999) 2000 0 [some (.ref v0), some (.int v1), some (.int v2), none] [] σ := j_run_in d 207 [.ref v0, .int v1, .int v2] σ (Nat.le_of_ble_eq_true rfl)
theorem r_208 (d : Nat) (σ : Sto) (v0 : Nat) : j_run (d + 1) 208 [.ref v0] σ = j_seg k_208 h_208 (j_run d) (j_exec k_208 h_208 (j_run d) 999999) 2000 0 [some (.ref v0), none] [] σ := j_run_in d 208 [.ref v0] σ (Nat.le_of_ble_eq_true rfl)
theorem r_209 (d : Nat) (σ : Sto) (v0 : Nat) (v1 : Int32) : j_run (d + 1) 209 [.ref v0, .int v1] σ = j_seg k_209 h_209 (j_run d) (j_exec k_209 h_209 (j_run d) 999999) 2000 0 [some (.ref v0), some (.int v1)] [] σ := j_run_in d 209 [.ref v0, .int v1] σ (Nat.le_of_ble_eq_true rfl)
theorem r_210 (d : Nat) (σ : Sto) (v0 : Nat) : j_run (d + 1) 210 [.ref v0] σ = j_seg k_210 h_210 (j_run d) (j_exec k_210 h_210 (j_run d) 999999) 2000 0 [some (.ref v0), none, none, none, none] [] σ := j_run_in d 210 [.ref v0] σ (Nat.le_of_ble_eq_true rfl)
theorem r_211 (d : Nat) (σ : Sto) (v0 : Nat) (v1 : Int32) (v2 : Int32) : j_run (d + 1) 211 [.ref v0, .int v1, .int v2] σ = j_seg k_211 h_211 (j_run d) (j_exec k_211 h_211 (j_run d) 999999) 2000 0 [some (.ref v0), some (.int v1), some (.int v2), none, none, none, none, none] [] σ := j_run_in d 211 [.ref v0, .int v1, .int v2] σ (Nat.le_of_ble_eq_true rfl)
theorem r_212 (d : Nat) (σ : Sto) (v0 : Nat) (v1 : Int32) : j_run (d + 1) 212 [.ref v0, .int v1] σ = j_seg k_212 h_212 (j_run d) (j_exec k_212 h_212 (j_run d) 999999) 2000 0 [some (.ref v0), some (.int v1), none, none] [] σ := j_run_in d 212 [.ref v0, .int v1] σ (Nat.le_of_ble_eq_true rfl)
theorem r_213 (d : Nat) (σ : Sto) (v0 : Nat) (v1 : Int32) (v2 : Int32) : j_run (d + 1) 213 [.ref v0, .int v1, .int v2] σ = j_seg k_213 h_213 (j_run d) (j_exec k_213 h_213 (j_run d) 999999) 2000 0 [some (.ref v0), some (.int v1), some (.int v2), none] [] σ := j_run_in d 213 [.ref v0, .int v1, .int v2] σ (Nat.le_of_ble_eq_true rfl)
theorem r_214 (d : Nat) (σ : Sto) (v0 : Nat) (v1 : Int32) : j_run (d + 1) 214 [.ref v0, .int v1] σ = j_seg k_214 h_214 (j_run d) (j_exec k_214 h_214 (j_run d) 999999) 2000 0 [some (.ref v0), some (.int v1), none, none, none, none, none] [] σ := j_run_in d 214 [.ref v0, .int v1] σ (Nat.le_of_ble_eq_true rfl)
theorem r_215 (d : Nat) (σ : Sto) (v0 : Nat) (v1 : Int32) : j_run (d + 1) 215 [.ref v0, .int v1] σ = j_seg k_215 h_215 (j_run d) (j_exec k_215 h_215 (j_run d) 999999) 2000 0 [some (.ref v0), some (.int v1), none, none] [] σ := j_run_in d 215 [.ref v0, .int v1] σ (Nat.le_of_ble_eq_true rfl)
theorem r_216 (d : Nat) (σ : Sto) (v0 : Nat) (v1 : Int32) (v2 : Int32) : j_run (d + 1) 216 [.ref v0, .int v1, .int v2] σ = j_seg k_216 h_216 (j_run d) (j_exec k_216 h_216 (j_run d) 999999) 2000 0 [some (.ref v0), some (.int v1), some (.int v2)] [] σ := j_run_in d 216 [.ref v0, .int v1, .int v2] σ (Nat.le_of_ble_eq_true rfl)
theorem r_217 (d : Nat) (σ : Sto) (v0 : Nat) (v1 : Int32) (v2 : Int32) : j_run (d + 1) 217 [.ref v0, .int v1, .int v2] σ = j_seg k_217 h_217 (j_run d) (j_exec k_217 h_217 (j_run d) 999999) 2000 0 [some (.ref v0), some (.int v1), some (.int v2), none, none, none, none, none, none, none] [] σ := j_run_in d 217 [.ref v0, .int v1, .int v2] σ (Nat.le_of_ble_eq_true rfl)
theorem r_218 (d : Nat) (σ : Sto) (v0 : Nat) (v1 : Int32) (v2 : Int32) : j_run (d + 1) 218 [.ref v0, .int v1, .int v2] σ = j_seg k_218 h_218 (j_run d) (j_exec k_218 h_218 (j_run d) 999999) 2000 0 [some (.ref v0), some (.int v1), some (.int v2)] [] σ := j_run_in d 218 [.ref v0, .int v1, .int v2] σ (Nat.le_of_ble_eq_true rfl)
theorem r_219 (d : Nat) (σ : Sto) (v0 : Nat) : j_run (d + 1) 219 [.ref v0] σ = j_seg k_219 h_219 (j_run d) (j_exec k_219 h_219 (j_run d) 999999) 2000 0 [some (.ref v0), none, none, none, none] [] σ := j_run_in d 219 [.ref v0] σ (Nat.le_of_ble_eq_true rfl)
theorem r_220 (d : Nat) (σ : Sto) (v0 : Nat) (v1 : Int32) (v2 : Int32) : j_run (d + 1) 220 [.ref v0, .int v1, .int v2] σ = j_seg k_220 h_220 (j_run d) (j_exec k_220 h_220 (j_run d) 999999) 2000 0 [some (.ref v0), some (.int v1), some (.int v2), none] [] σ := j_run_in d 220 [.ref v0, .int v1, .int v2] σ (Nat.le_of_ble_eq_true rfl)
theorem r_221 (d : Nat) (σ : Sto) (v0 : Nat) (v1 : Int32) (v2 : Int32) (v3 : Int32) (v4 : Int32) : j_run (d + 1) 221 [.ref v0, .int v1, .int v2, .int v3, .int v4] σ = j_seg k_221 h_221 (j_run d) (j_exec k_221 h_221 (j_run d) 999999) 2000 0 [some (.ref v0), some (.int v1), some (.int v2), some (.int v3), some (.int v4), none, none, none] [] σ := j_run_in d 221 [.ref v0, .int v1, .int v2, .int v3, .int v4] σ (Nat.le_of_ble_eq_true rfl)
theorem r_222 (d : Nat) (σ : Sto) (v0 : Nat) (v1 : Int32) (v2 : Int32) : j_run (d + 1) 222 [.ref v0, .int v1, .int v2] σ = j_seg k_222 h_222 (j_run d) (j_exec k_222 h_222 (j_run d) 999999) 2000 0 [some (.ref v0), some (.int v1), some (.int v2), none, none] [] σ := j_run_in d 222 [.ref v0, .int v1, .int v2] σ (Nat.le_of_ble_eq_true rfl)
theorem r_223 (d : Nat) (σ : Sto) (v0 : Nat) (v1 : Int32) (v2 : Int32) (v3 : Int32) : j_run (d + 1) 223 [.ref v0, .int v1, .int v2, .int v3] σ = j_seg k_223 h_223 (j_run d) (j_exec k_223 h_223 (j_run d) 999999) 2000 0 [some (.ref v0), some (.int v1), some (.int v2), some (.int v3), none, none, none] [] σ := j_run_in d 223 [.ref v0, .int v1, .int v2, .int v3] σ (Nat.le_of_ble_eq_true rfl)
theorem r_224 (d : Nat) (σ : Sto) (v0 : Nat) (v1 : Int32) (v2 : Int32) : j_run (d + 1) 224 [.ref v0, .int v1, .int v2] σ = j_seg k_224 h_224 (j_run d) (j_exec k_224 h_224 (j_run d) 999999) 2000 0 [some (.ref v0), some (.int v1), some (.int v2), none] [] σ := j_run_in d 224 [.ref v0, .int v1, .int v2] σ (Nat.le_of_ble_eq_true rfl)
theorem r_225 (d : Nat) (σ : Sto) (v0 : Nat) (v1 : Int32) : j_run (d + 1) 225 [.ref v0, .int v1] σ = j_seg k_225 h_225 (j_run d) (j_exec k_225 h_225 (j_run d) 999999) 2000 0 [some (.ref v0), some (.int v1), none, none] [] σ := j_run_in d 225 [.ref v0, .int v1] σ (Nat.le_of_ble_eq_true rfl)
theorem r_226 (d : Nat) (σ : Sto) (v0 : Nat) (v1 : Int32) : j_run (d + 1) 226 [.ref v0, .int v1] σ = j_seg k_226 h_226 (j_run d) (j_exec k_226 h_226 (j_run d) 999999) 2000 0 [some (.ref v0), some (.int v1), none, none] [] σ := j_run_in d 226 [.ref v0, .int v1] σ (Nat.le_of_ble_eq_true rfl)
theorem r_227 (d : Nat) (σ : Sto) (v0 : Nat) (v1 : Int32) : j_run (d + 1) 227 [.ref v0, .int v1] σ = j_seg k_227 h_227 (j_run d) (j_exec k_227 h_227 (j_run d) 999999) 2000 0 [some (.ref v0), some (.int v1), none, none] [] σ := j_run_in d 227 [.ref v0, .int v1] σ (Nat.le_of_ble_eq_true rfl)
theorem r_228 (d : Nat) (σ : Sto) (v0 : Nat) (v1 : Int32) : j_run (d + 1) 228 [.ref v0, .int v1] σ = j_seg k_228 h_228 (j_run d) (j_exec k_228 h_228 (j_run d) 999999) 2000 0 [some (.ref v0), some (.int v1), none, none] [] σ := j_run_in d 228 [.ref v0, .int v1] σ (Nat.le_of_ble_eq_true rfl)
theorem r_229 (d : Nat) (σ : Sto) (v0 : Nat) (v1 : Int32) : j_run (d + 1) 229 [.ref v0, .int v1] σ = j_seg k_229 h_229 (j_run d) (j_exec k_229 h_229 (j_run d) 999999) 2000 0 [some (.ref v0), some (.int v1), none, none] [] σ := j_run_in d 229 [.ref v0, .int v1] σ (Nat.le_of_ble_eq_true rfl)
theorem r_230 (d : Nat) (σ : Sto) (v0 : Nat) (v1 : Int32) : j_run (d + 1) 230 [.ref v0, .int v1] σ = j_seg k_230 h_230 (j_run d) (j_exec k_230 h_230 (j_run d) 999999) 2000 0 [some (.ref v0), some (.int v1)] [] σ := j_run_in d 230 [.ref v0, .int v1] σ (Nat.le_of_ble_eq_true rfl)
theorem r_231 (d : Nat) (σ : Sto) (v0 : Nat) (v1 : Int64) : j_run (d + 1) 231 [.ref v0, .long v1] σ = j_seg k_231 h_231 (j_run d) (j_exec k_231 h_231 (j_run d) 999999) 2000 0 [some (.ref v0), some (.long v1), none] [] σ := j_run_in d 231 [.ref v0, .long v1] σ (Nat.le_of_ble_eq_true rfl)
theorem r_232 (d : Nat) (σ : Sto) (v0 : Nat) : j_run (d + 1) 232 [.ref v0] σ = j_seg k_232 h_232 (j_run d) (j_exec k_232 h_232 (j_run d) 999999) 2000 0 [some (.ref v0), none, none] [] σ := j_run_in d 232 [.ref v0] σ (Nat.le_of_ble_eq_true rfl)
theorem r_233 (d : Nat) (σ : Sto) (v0 : Nat) : j_run (d + 1) 233 [.ref v0] σ = j_seg k_233 h_233 (j_run d) (j_exec k_233 h_233 (j_run d) 999999) 2000 0 [some (.ref v0), none, none] [] σ := j_run_in d 233 [.ref v0] σ (Nat.le_of_ble_eq_true rfl)
theorem r_234 (d : Nat) (σ : Sto) (v0 : Int32) : j_run (d + 1) 234 [.int v0] σ = j_seg k_234 h_234 (j_run d) (j_exec k_234 h_234 (j_run d) 999999) 2000 0 [some (.int v0)] [] σ := j_run_in d 234 [.int v0] σ (Nat.le_of_ble_eq_true rfl)
theorem r_235 (d : Nat) (σ : Sto) (v0 : Nat) (v1 : Int32) : j_run (d + 1) 235 [.ref v0, .int v1] σ = j_seg k_235 h_235 (j_run d) (j_exec k_235 h_235 (j_run d) 999999) 2000 0 [some (.ref v0), some (.int v1), none, none] [] σ := j_run_in d 235 [.ref v0, .int v1] σ (Nat.le_of_ble_eq_true rfl)
end
section
/-! ===== numbers: Int32 by integers ===== -/
theorem k_add (a b : Int) : j_k a + j_k b = j_k (a + b) := (Int32.ofInt_add a b).symm
theorem k_sub (a b : Int) : j_k a - j_k b = j_k (a - b) := (Int32.ofInt_sub a b).symm
theorem k_mul (a b : Int) : j_k a * j_k b = j_k (a * b) := (Int32.ofInt_mul a b).symm
theorem k_neg (a : Int) : -(j_k a) = j_k (-a) := (Int32.ofInt_neg a).symm
theorem k_int {a : Int} (h1 : -2147483648 ≤ a) (h2 : a < 2147483648) : (j_k a).toInt = a := Int32.toInt_ofInt_of_le (by omega) (by omega)
theorem k_toInt (x : Int32) : j_k x.toInt = x := Int32.ofInt_toInt x
theorem k_ex (x : Int32) : ∃ a : Int, x = j_k a ∧ -2147483648 ≤ a ∧ a < 2147483648 := ⟨x.toInt, (k_toInt x).symm, by have := Int32.le_toInt x; omega, by have := Int32.toInt_lt x; omega⟩
theorem k_lt {a b : Int} (h1 : -2147483648 ≤ a) (h2 : a < 2147483648) (h3 : -2147483648 ≤ b) (h4 : b < 2147483648) : (j_k a < j_k b) = (a < b) := propext (by rw [Int32.lt_iff_toInt_lt, k_int h1 h2, k_int h3 h4])
theorem k_le {a b : Int} (h1 : -2147483648 ≤ a) (h2 : a < 2147483648) (h3 : -2147483648 ≤ b) (h4 : b < 2147483648) : (j_k a ≤ j_k b) = (a ≤ b) := propext (by rw [Int32.le_iff_toInt_le, k_int h1 h2, k_int h3 h4])
theorem k_eq {a b : Int} (h1 : -2147483648 ≤ a) (h2 : a < 2147483648) (h3 : -2147483648 ≤ b) (h4 : b < 2147483648) : (j_k a = j_k b) = (a = b) := propext ⟨fun h => by
  have h5 := congrArg Int32.toInt h
  rwa [k_int h1 h2, k_int h3 h4] at h5, fun h => by rw [h]⟩
theorem kk0 : j_k 0 = 0 := by decide
theorem kk1 : j_k 1 = 1 := by decide
theorem k_lt0 {a : Int} (h1 : -2147483648 ≤ a) (h2 : a < 2147483648) : (j_k a < 0) = (a < 0) := by rw [← kk0, k_lt h1 h2 (by decide) (by decide)]
theorem k_0lt {a : Int} (h1 : -2147483648 ≤ a) (h2 : a < 2147483648) : (0 < j_k a) = (0 < a) := by rw [← kk0, k_lt (by decide) (by decide) h1 h2]
theorem k_eq0 {a : Int} (h1 : -2147483648 ≤ a) (h2 : a < 2147483648) : (j_k a = 0) = (a = 0) := by rw [← kk0, k_eq h1 h2 (by decide) (by decide)]
theorem k_0eq {a : Int} (h1 : -2147483648 ≤ a) (h2 : a < 2147483648) : (0 = j_k a) = (0 = a) := by rw [← kk0, k_eq (by decide) (by decide) h1 h2]
theorem k_nat {a : Int} (h1 : -2147483648 ≤ a) (h2 : a < 2147483648) : (j_k a).toNatClampNeg = a.toNat := by rw [← Int32.toNat_toInt, k_int h1 h2]
theorem k_b0 : (j_k 0 = 0 ∨ j_k 0 = 1) = True := by decide
theorem k_b1 : (j_k 1 = 0 ∨ j_k 1 = 1) = True := by decide
theorem k_z1 : (j_k 1 = 0) = False := by decide
theorem k_z0 : (j_k 0 = 0) = True := by decide
theorem k_o1 : (j_k 1 = 1) = True := by decide
theorem k_o0 : (j_k 0 = 1) = False := by decide
theorem k_abs {a : Int} (h1 : -2147483647 ≤ a) (h2 : a < 2147483648) : j_abs (j_k a) = j_k (if 0 ≤ a then a else -a) := by
  unfold j_abs
  rw [← kk0]
  simp only [k_le (show (-2147483648 : Int) ≤ 0 by decide) (show (0 : Int) < 2147483648 by decide) (show -2147483648 ≤ a by omega) h2, k_sub]
  split
  · rfl
  · rw [Int.zero_sub]
theorem k_min {a b : Int} (h1 : -2147483648 ≤ a) (h2 : a < 2147483648) (h3 : -2147483648 ≤ b) (h4 : b < 2147483648) : j_min (j_k a) (j_k b) = j_k (if b < a then b else a) := by
  unfold j_min
  simp only [k_lt h3 h4 h1 h2]
  split <;> rfl
theorem k_lit (n : Nat) : (OfNat.ofNat n : Int32) = j_k n := (Int32.ofInt_eq_ofNat).symm
theorem k_div {a b : Int} (h1 : -2147483647 ≤ a) (h2 : a < 2147483648) (h3 : -2147483648 ≤ b) (h4 : b < 2147483648) : j_k a / j_k b = j_k (a.tdiv b) := (Int32.ofInt_tdiv (by show (-2147483648 : Int) ≤ a; omega) (by show a ≤ 2147483647; omega) (by show (-2147483648 : Int) ≤ b; omega) (by show b ≤ 2147483647; omega)).symm
theorem k_divp {a b : Int} (h1 : 0 ≤ a) (h2 : a < 2147483648) (h3 : 0 ≤ b) (h4 : b < 2147483648) : j_k a / j_k b = j_k (a / b) := by
  rw [k_div (by omega) h2 (by omega) h4, Int.tdiv_eq_ediv_of_nonneg h1]
theorem k_modp {a b : Int} (h1 : 0 ≤ a) (h2 : a < 2147483648) (h3 : 0 ≤ b) (h4 : b < 2147483648) : j_k a - j_k a / j_k b * j_k b = j_k (a % b) := by
  rw [k_divp h1 h2 h3 h4, k_mul, k_sub]
  congr 1
  have h := Int.emod_add_mul_ediv a b
  rw [Int.mul_comm b] at h
  omega
/-- bits -/
theorem k_tbv {a : Int} : (j_k a).toBitVec = BitVec.ofInt 32 a := Int32.toBitVec_ofInt a
theorem u2_ss {α : Type} (f : Nat → Nat → α) (r k : Nat) (v : α) : u2 f r k v r k = v := by unfold u2; rw [u1_same, u1_same]
theorem u2_k {α : Type} {f : Nat → Nat → α} {r k k' : Nat} {v : α} (h : k' ≠ k) : u2 f r k v r k' = f r k' := by unfold u2; rw [u1_same, u1_ne h]
theorem u2_r {α : Type} {f : Nat → Nat → α} {r k r' k' : Nat} {v : α} (h : r' ≠ r) : u2 f r k v r' k' = f r' k' := by unfold u2; rw [u1_ne h]
theorem x_exec (cd : List (Nat × Instr × List Nat)) (hd : List (Nat × Nat)) (call : Nat → List Value → Sto → Option Rr) (n pc : Nat) (L : j_L) (st : List Value) (σ : Sto) : j_exec cd hd call (n + 1) pc L st σ = j_seg cd hd call (j_exec cd hd call n) 2000 pc L st σ := rfl
/-- a loop with a body by its index: m times from k on -/
def p_loop {α : Type} (b : Int → α → α) : Nat → Int → α → α
  | 0, _, s => s
  | m + 1, k, s => p_loop b m (k + 1) (b k s)
theorem p_loop0 {α : Type} (b : Int → α → α) (k : Int) (s : α) : p_loop b 0 k s = s := rfl
theorem p_loopS {α : Type} (b : Int → α → α) (m : Nat) (k : Int) (s : α) : p_loop b (m + 1) k s = p_loop b m (k + 1) (b k s) := rfl
/-- the first index with a property; -9 -/
def p_first (P : Int → Bool) : Nat → Int → Int
  | 0, _ => -9
  | m + 1, k => if P k = true then k else p_first P m (k + 1)
theorem p_first0 (P : Int → Bool) (k : Int) : p_first P 0 k = -9 := rfl
theorem p_firstS (P : Int → Bool) (m : Nat) (k : Int) : p_first P (m + 1) k = if P k = true then k else p_first P m (k + 1) := rfl
end
section
/-! ===== the skeleton of the store behind the constructors (by program wip/gen/skel.py) ===== -/
def SHL : List j_Sh := [.inl 6, .inl 4, .inr (.array .int, 6), .inr (.int, 60), .inr (.int, 60), .inr (.int, 60), .inr (.int, 60), .inr (.int, 60), .inr (.int, 60), .inr (.int, 6), .inl 4, .inr (.array .int, 4), .inr (.int, 80), .inr (.int, 80), .inr (.int, 80), .inr (.int, 80), .inr (.int, 4), .inl 2, .inl 1, .inr (.int, 30), .inr (.int, 30), .inr (.int, 30), .inl 0, .inr (.int, 4), .inr (.int, 4), .inr (.int, 4), .inr (.int, 0), .inl 1, .inr (.int, 30), .inr (.int, 30), .inr (.int, 30), .inl 0, .inr (.int, 4), .inr (.int, 4), .inr (.int, 4), .inr (.object RX0, 3), .inl 0, .inr (.int, 4), .inr (.int, 4), .inr (.int, 4), .inl 0, .inr (.int, 4), .inr (.int, 4), .inr (.int, 4), .inl 0, .inr (.int, 4), .inr (.int, 4), .inr (.int, 4), .inl 0, .inr (.int, 4), .inr (.int, 4), .inr (.int, 4), .inr (.long, 201), .inl 3, .inr (.object RX0, 4), .inl 0, .inr (.int, 4), .inr (.int, 4), .inr (.int, 4), .inl 0, .inr (.int, 4), .inr (.int, 4), .inr (.int, 4), .inl 0, .inr (.int, 4), .inr (.int, 4), .inr (.int, 4), .inl 0, .inr (.int, 4), .inr (.int, 4), .inr (.int, 4), .inr (.int, 4), .inl 5, .inr (.object RX0, 3), .inl 0, .inr (.int, 4), .inr (.int, 4), .inr (.int, 4), .inl 0, .inr (.int, 4), .inr (.int, 4), .inr (.int, 4), .inl 0, .inr (.int, 4), .inr (.int, 4), .inr (.int, 4), .inr (.int, 6), .inl 7, .inr (.int, 6), .inr (.int, 6), .inr (.int, 360), .inr (.int, 60), .inr (.int, 4), .inr (.byte, 320), .inr (.int, 30), .inr (.int, 4), .inr (.int, 30), .inr (.int, 4), .inr (.int, 4), .inr (.int, 117), .inr (.boolean, 3), .inr (.int, 4), .inr (.long, 201), .inr (.int, 4)]
def SH (L r : Nat) : Option j_Sh := if r = 1000004 then some (.inr (.int, L)) else if 1000000 ≤ r ∧ r < 1000004 then some (.inr (.int, [5, 6, 4, 4].getD (r - 1000000) 0)) else SHL[r]?
/-- the pointers; p: which text the reader reads -/
def PPL (p : Nat) : Nat → List (Option Nat) := fun r => match r with
  | 0 => [some 1, some 10, some 17, some 27, some 31, some 35, some 48, some 52, some 53, some 72, some 86]
  | 1 => [some 2, some 9]
  | 2 => [some 3, some 4, some 5, some 6, some 7, some 8]
  | 10 => [some 11, some 16]
  | 11 => [some 12, some 13, some 14, some 15]
  | 17 => [some 18, some 22, some p]
  | 18 => [some 19, some 20, some 21]
  | 22 => [some 23, some 24, some 25]
  | 27 => [some 28, some 29, some 30]
  | 31 => [some 32, some 33, some 34]
  | 35 => [some 36, some 40, some 44]
  | 36 => [some 37, some 38, some 39]
  | 40 => [some 41, some 42, some 43]
  | 44 => [some 45, some 46, some 47]
  | 48 => [some 49, some 50, some 51]
  | 53 => [some 54, some 71]
  | 54 => [some 55, some 59, some 63, some 67]
  | 55 => [some 56, some 57, some 58]
  | 59 => [some 60, some 61, some 62]
  | 63 => [some 64, some 65, some 66]
  | 67 => [some 68, some 69, some 70]
  | 72 => [some 73]
  | 73 => [some 74, some 78, some 82]
  | 74 => [some 75, some 76, some 77]
  | 78 => [some 79, some 80, some 81]
  | 82 => [some 83, some 84, some 85]
  | 87 => [none, some 88, none, none, none, some 89, some 90, some 91, some 92, some 93, none, none, some 94, none, some 95, none, none, none, none, none, none, some 96, some 97, some 98, some 99, some 100, none, none, some 101, none, none, some 102, none, none, none, none, none, some 103]
  | _ => []
def PP (p r k : Nat) : Option Nat := ((PPL p r)[k]?).getD none
def FL : List Nat := [22, 31, 36, 40, 44, 48, 55, 59, 63, 67, 74, 78, 82]
/-- a flock's cell, a ground's -/
def FA (a : Nat) : Prop := a ∈ FL
def GA (g : Nat) : Prop := g = 18 ∨ g = 27
abbrev ST (L p : Nat) (I : Nat → Nat → Int32) (J : Nat → Nat → Int64) : Sto := (SH L, PP p, I, J, 104, 2633)
theorem fa_all {L p a : Nat} (h : FA a) : (SH L a = some (.inl 0) ∧ SH L (a + 1) = some (.inr (.int, 4)) ∧ SH L (a + 2) = some (.inr (.int, 4)) ∧ SH L (a + 3) = some (.inr (.int, 4))) ∧ (PP p a 0 = some (a + 1) ∧ PP p a 1 = some (a + 2) ∧ PP p a 2 = some (a + 3)) ∧ 22 ≤ a ∧ a + 3 < 86 := by
  have h1 : a ∈ FL := h
  simp only [FL, List.mem_cons, List.not_mem_nil, or_false] at h1
  rcases h1 with rfl | rfl | rfl | rfl | rfl | rfl | rfl | rfl | rfl | rfl | rfl | rfl | rfl <;> exact ⟨⟨rfl, rfl, rfl, rfl⟩, ⟨rfl, rfl, rfl⟩, by omega, by omega⟩
theorem ga_all {L p g : Nat} (h : GA g) : (SH L g = some (.inl 1) ∧ SH L (g + 1) = some (.inr (.int, 30)) ∧ SH L (g + 2) = some (.inr (.int, 30)) ∧ SH L (g + 3) = some (.inr (.int, 30))) ∧ (PP p g 0 = some (g + 1) ∧ PP p g 1 = some (g + 2) ∧ PP p g 2 = some (g + 3)) ∧ 18 ≤ g ∧ g + 3 < 31 := by
  rcases h with rfl | rfl <;> exact ⟨⟨rfl, rfl, rfl, rfl⟩, ⟨rfl, rfl, rfl⟩, by omega, by omega⟩
section SKEL
variable {L p : Nat} {I : Nat → Nat → Int32} {J : Nat → Nat → Int64} {K : Option Rr} {Kn : Nat → Option Rr} {Ki : Int32 → Option Rr} {Ks : Sto → Option Rr} {a g : Nat} {i : Int}
theorem k_in {n : Nat} {i : Int} (h1 : 0 ≤ i) (h2 : i < n) (h3 : n ≤ 1000) : j_in (j_k i) n := by
  refine ⟨?_, ?_⟩
  · rw [k_lt0 (by omega) (by omega)]; omega
  · rw [k_nat (by omega) (by omega)]; omega
theorem q_ia {σ : Sto} {r n : Nat} (e : σ.1 r = some (.inr (.int, n))) (h3 : n ≤ 1000) (h1 : 0 ≤ i) (h2 : i < n) : j_ia σ r (j_k i) K = K := by
  unfold j_ia
  rw [e]
  exact if_pos (k_in h1 h2 h3)
theorem q_is {σ : Sto} {r n : Nat} (e : σ.1 r = some (.inr (.int, n))) (hr : r < 1000000) (h3 : n ≤ 1000) (h1 : 0 ≤ i) (h2 : i < n) : j_is σ r (j_k i) K = K := by
  unfold j_is
  rw [e]
  exact if_pos ⟨hr, k_in h1 h2 h3⟩
theorem q_la {σ : Sto} {r n : Nat} (e : σ.1 r = some (.inr (.long, n))) (h3 : n ≤ 1000) (h1 : 0 ≤ i) (h2 : i < n) : j_la σ r (j_k i) K = K := by
  unfold j_la
  rw [e]
  exact if_pos (k_in h1 h2 h3)
theorem q_ba {σ : Sto} {r n : Nat} (e : σ.1 r = some (.inr (.byte, n))) (h3 : n ≤ 1000) (h1 : 0 ≤ i) (h2 : i < n) : j_ba σ r (j_k i) K = K := by
  unfold j_ba
  rw [e]
  exact if_pos (k_in h1 h2 h3)
theorem q_za {σ : Sto} {r n : Nat} (e : σ.1 r = some (.inr (.boolean, n))) (h3 : n ≤ 1000) (h1 : 0 ≤ i) (h2 : i < n) : j_ba σ r (j_k i) K = K := by
  unfold j_ba
  rw [e]
  exact if_pos (k_in h1 h2 h3)
theorem q_bs {σ : Sto} {r n : Nat} {v : Int32} (e : σ.1 r = some (.inr (.byte, n))) (hr : r < 1000000) (h3 : n ≤ 1000) (h1 : 0 ≤ i) (h2 : i < n) : j_bs σ r (j_k i) v Ks = Ks (s_uI σ r (j_k i).toNatClampNeg v.toInt8.toInt32) := by
  unfold j_bs
  rw [e]
  exact if_pos ⟨hr, k_in h1 h2 h3⟩
theorem q_zs {σ : Sto} {r n : Nat} {v : Int32} (e : σ.1 r = some (.inr (.boolean, n))) (hr : r < 1000000) (h3 : n ≤ 1000) (h1 : 0 ≤ i) (h2 : i < n) (hv : v = 0 ∨ v = 1) : j_bs σ r (j_k i) v Ks = Ks (s_uI σ r (j_k i).toNatClampNeg v) := by
  unfold j_bs
  rw [e]
  exact if_pos ⟨hr, k_in h1 h2 h3, hv⟩
theorem q_oc {σ : Sto} {r c : Nat} (e : σ.1 r = some (.inl c)) : j_oc σ c r K = K := if_pos e
theorem q_gP {σ : Sto} {r c k q : Nat} (e : σ.1 r = some (.inl c)) (e2 : σ.2.1 r k = some q) : j_gP σ c r k Kn = Kn q := by
  unfold j_gP
  rw [if_pos e, e2]
theorem q_lenI {σ : Sto} {r n : Nat} (e : σ.1 r = some (.inr (.int, n))) : j_len σ r Ki = Ki (j_k n) := by
  unfold j_len
  rw [e]
  show Ki _ = _
  rw [show Int32.ofNat n = j_k n from (Int32.ofInt_eq_ofNat).symm]
theorem q_lenQ {σ : Sto} {r n : Nat} (e : σ.1 r = some (.inr (.object RX0, n))) : j_len σ r Ki = Ki (j_k n) := by
  unfold j_len
  rw [e]
  show (if RX0 = RX0 then Ki _ else none) = _
  rw [if_pos rfl, show Int32.ofNat n = j_k n from (Int32.ofInt_eq_ofNat).symm]
theorem q_qaQ {σ : Sto} {r n q : Nat} (e : σ.1 r = some (.inr (.object RX0, n))) (h3 : n ≤ 1000) (h1 : 0 ≤ i) (h2 : i < n) (hq : σ.2.1 r i.toNat = some q) : j_qa σ r (j_k i) Kn = Kn q := by
  unfold j_qa
  rw [e]
  show (if RX0 = RX0 ∧ j_in (j_k i) n then _ else none) = _
  rw [if_pos ⟨rfl, k_in h1 h2 h3⟩, k_nat (by omega) (by omega), hq]
theorem q_qaI {σ : Sto} {r n q : Nat} (e : σ.1 r = some (.inr (.array .int, n))) (h3 : n ≤ 1000) (h1 : 0 ≤ i) (h2 : i < n) (hq : σ.2.1 r i.toNat = some q) : j_qa σ r (j_k i) Kn = Kn q := by
  unfold j_qa
  rw [e]
  show (if j_in (j_k i) n then _ else none) = _
  rw [if_pos (k_in h1 h2 h3), k_nat (by omega) (by omega), hq]
theorem f_oc (h : FA a) : j_oc (ST L p I J) 0 a K = K := q_oc (fa_all (p := p) h).1.1
theorem f_gP0 (h : FA a) : j_gP (ST L p I J) 0 a 0 Kn = Kn (a + 1) := q_gP (fa_all (p := p) h).1.1 (fa_all (L := L) h).2.1.1
theorem f_ia0 (h : FA a) (h1 : 0 ≤ i) (h2 : i < 4) : j_ia (ST L p I J) (a + 1) (j_k i) K = K := q_ia (fa_all (p := p) h).1.2.1 (by decide) h1 h2
theorem f_is0 (h : FA a) (h1 : 0 ≤ i) (h2 : i < 4) : j_is (ST L p I J) (a + 1) (j_k i) K = K := q_is (fa_all (p := p) h).1.2.1 (by have := (fa_all (L := L) (p := p) h).2.2; omega) (by decide) h1 h2
theorem f_gP1 (h : FA a) : j_gP (ST L p I J) 0 a 1 Kn = Kn (a + 2) := q_gP (fa_all (p := p) h).1.1 (fa_all (L := L) h).2.1.2.1
theorem f_ia1 (h : FA a) (h1 : 0 ≤ i) (h2 : i < 4) : j_ia (ST L p I J) (a + 2) (j_k i) K = K := q_ia (fa_all (p := p) h).1.2.2.1 (by decide) h1 h2
theorem f_is1 (h : FA a) (h1 : 0 ≤ i) (h2 : i < 4) : j_is (ST L p I J) (a + 2) (j_k i) K = K := q_is (fa_all (p := p) h).1.2.2.1 (by have := (fa_all (L := L) (p := p) h).2.2; omega) (by decide) h1 h2
theorem f_gP2 (h : FA a) : j_gP (ST L p I J) 0 a 2 Kn = Kn (a + 3) := q_gP (fa_all (p := p) h).1.1 (fa_all (L := L) h).2.1.2.2
theorem f_ia2 (h : FA a) (h1 : 0 ≤ i) (h2 : i < 4) : j_ia (ST L p I J) (a + 3) (j_k i) K = K := q_ia (fa_all (p := p) h).1.2.2.2 (by decide) h1 h2
theorem f_is2 (h : FA a) (h1 : 0 ≤ i) (h2 : i < 4) : j_is (ST L p I J) (a + 3) (j_k i) K = K := q_is (fa_all (p := p) h).1.2.2.2 (by have := (fa_all (L := L) (p := p) h).2.2; omega) (by decide) h1 h2
theorem f_lt (h : FA a) : (a < j_b) = True := eq_true (by have := (fa_all (L := 0) (p := 0) h).2.2; show a < 1000000; omega)
theorem g_oc (h : GA g) : j_oc (ST L p I J) 1 g K = K := q_oc (ga_all (p := p) h).1.1
theorem g_gP0 (h : GA g) : j_gP (ST L p I J) 1 g 0 Kn = Kn (g + 1) := q_gP (ga_all (p := p) h).1.1 (ga_all (L := L) h).2.1.1
theorem g_ia0 (h : GA g) (h1 : 0 ≤ i) (h2 : i < 30) : j_ia (ST L p I J) (g + 1) (j_k i) K = K := q_ia (ga_all (p := p) h).1.2.1 (by decide) h1 h2
theorem g_is0 (h : GA g) (h1 : 0 ≤ i) (h2 : i < 30) : j_is (ST L p I J) (g + 1) (j_k i) K = K := q_is (ga_all (p := p) h).1.2.1 (by have := (ga_all (L := L) (p := p) h).2.2; omega) (by decide) h1 h2
theorem g_gP1 (h : GA g) : j_gP (ST L p I J) 1 g 1 Kn = Kn (g + 2) := q_gP (ga_all (p := p) h).1.1 (ga_all (L := L) h).2.1.2.1
theorem g_ia1 (h : GA g) (h1 : 0 ≤ i) (h2 : i < 30) : j_ia (ST L p I J) (g + 2) (j_k i) K = K := q_ia (ga_all (p := p) h).1.2.2.1 (by decide) h1 h2
theorem g_is1 (h : GA g) (h1 : 0 ≤ i) (h2 : i < 30) : j_is (ST L p I J) (g + 2) (j_k i) K = K := q_is (ga_all (p := p) h).1.2.2.1 (by have := (ga_all (L := L) (p := p) h).2.2; omega) (by decide) h1 h2
theorem g_gP2 (h : GA g) : j_gP (ST L p I J) 1 g 2 Kn = Kn (g + 3) := q_gP (ga_all (p := p) h).1.1 (ga_all (L := L) h).2.1.2.2
theorem g_ia2 (h : GA g) (h1 : 0 ≤ i) (h2 : i < 30) : j_ia (ST L p I J) (g + 3) (j_k i) K = K := q_ia (ga_all (p := p) h).1.2.2.2 (by decide) h1 h2
theorem g_is2 (h : GA g) (h1 : 0 ≤ i) (h2 : i < 30) : j_is (ST L p I J) (g + 3) (j_k i) K = K := q_is (ga_all (p := p) h).1.2.2.2 (by have := (ga_all (L := L) (p := p) h).2.2; omega) (by decide) h1 h2
theorem g_lt (h : GA g) : (g < j_b) = True := eq_true (by have := (ga_all (L := 0) (p := 0) h).2.2; show g < 1000000; omega)
theorem c_ia_b0 (h1 : 0 ≤ i) (h2 : i < 5) : j_ia (ST L p I J) (j_b + 0) (j_k i) K = K := q_ia (n := 5) rfl (by decide) h1 h2
theorem c_len_b0 : j_len (ST L p I J) (j_b + 0) Ki = Ki (j_k 5) := q_lenI (n := 5) rfl
theorem c_ia_b1 (h1 : 0 ≤ i) (h2 : i < 6) : j_ia (ST L p I J) (j_b + 1) (j_k i) K = K := q_ia (n := 6) rfl (by decide) h1 h2
theorem c_len_b1 : j_len (ST L p I J) (j_b + 1) Ki = Ki (j_k 6) := q_lenI (n := 6) rfl
theorem c_ia_b2 (h1 : 0 ≤ i) (h2 : i < 4) : j_ia (ST L p I J) (j_b + 2) (j_k i) K = K := q_ia (n := 4) rfl (by decide) h1 h2
theorem c_len_b2 : j_len (ST L p I J) (j_b + 2) Ki = Ki (j_k 4) := q_lenI (n := 4) rfl
theorem c_ia_b3 (h1 : 0 ≤ i) (h2 : i < 4) : j_ia (ST L p I J) (j_b + 3) (j_k i) K = K := q_ia (n := 4) rfl (by decide) h1 h2
theorem c_len_b3 : j_len (ST L p I J) (j_b + 3) Ki = Ki (j_k 4) := q_lenI (n := 4) rfl
theorem c_oc_0 : j_oc (ST L p I J) 6 0 K = K := q_oc rfl
theorem c_lt_0 : (0 < j_b) = True := eq_true (by decide)
theorem c_gP_0_0 : j_gP (ST L p I J) 6 0 0 Kn = Kn 1 := q_gP rfl rfl
theorem c_gP_0_1 : j_gP (ST L p I J) 6 0 1 Kn = Kn 10 := q_gP rfl rfl
theorem c_gP_0_2 : j_gP (ST L p I J) 6 0 2 Kn = Kn 17 := q_gP rfl rfl
theorem c_gP_0_3 : j_gP (ST L p I J) 6 0 3 Kn = Kn 27 := q_gP rfl rfl
theorem c_gP_0_4 : j_gP (ST L p I J) 6 0 4 Kn = Kn 31 := q_gP rfl rfl
theorem c_gP_0_5 : j_gP (ST L p I J) 6 0 5 Kn = Kn 35 := q_gP rfl rfl
theorem c_gP_0_6 : j_gP (ST L p I J) 6 0 6 Kn = Kn 48 := q_gP rfl rfl
theorem c_gP_0_7 : j_gP (ST L p I J) 6 0 7 Kn = Kn 52 := q_gP rfl rfl
theorem c_gP_0_8 : j_gP (ST L p I J) 6 0 8 Kn = Kn 53 := q_gP rfl rfl
theorem c_gP_0_9 : j_gP (ST L p I J) 6 0 9 Kn = Kn 72 := q_gP rfl rfl
theorem c_gP_0_10 : j_gP (ST L p I J) 6 0 10 Kn = Kn 86 := q_gP rfl rfl
theorem c_oc_1 : j_oc (ST L p I J) 4 1 K = K := q_oc rfl
theorem c_lt_1 : (1 < j_b) = True := eq_true (by decide)
theorem c_gP_1_0 : j_gP (ST L p I J) 4 1 0 Kn = Kn 2 := q_gP rfl rfl
theorem c_gP_1_1 : j_gP (ST L p I J) 4 1 1 Kn = Kn 9 := q_gP rfl rfl
theorem c_qa_2 (h1 : 0 ≤ i) (h2 : i < 6) : j_qa (ST L p I J) 2 (j_k i) Kn = Kn (3 + 1 * i.toNat) := by
  rcases (show i = 0 ∨ i = 1 ∨ i = 2 ∨ i = 3 ∨ i = 4 ∨ i = 5 by omega) with rfl | rfl | rfl | rfl | rfl | rfl <;> exact q_qaI (n := 6) rfl (by decide) (by omega) (by omega) rfl
theorem c_ia_3 (h1 : 0 ≤ i) (h2 : i < 60) : j_ia (ST L p I J) 3 (j_k i) K = K := q_ia (n := 60) rfl (by decide) h1 h2
theorem c_is_3 (h1 : 0 ≤ i) (h2 : i < 60) : j_is (ST L p I J) 3 (j_k i) K = K := q_is (n := 60) rfl (by decide) (by decide) h1 h2
theorem c_len_3 : j_len (ST L p I J) 3 Ki = Ki (j_k 60) := q_lenI (n := 60) rfl
theorem c_ia_4 (h1 : 0 ≤ i) (h2 : i < 60) : j_ia (ST L p I J) 4 (j_k i) K = K := q_ia (n := 60) rfl (by decide) h1 h2
theorem c_is_4 (h1 : 0 ≤ i) (h2 : i < 60) : j_is (ST L p I J) 4 (j_k i) K = K := q_is (n := 60) rfl (by decide) (by decide) h1 h2
theorem c_len_4 : j_len (ST L p I J) 4 Ki = Ki (j_k 60) := q_lenI (n := 60) rfl
theorem c_ia_5 (h1 : 0 ≤ i) (h2 : i < 60) : j_ia (ST L p I J) 5 (j_k i) K = K := q_ia (n := 60) rfl (by decide) h1 h2
theorem c_is_5 (h1 : 0 ≤ i) (h2 : i < 60) : j_is (ST L p I J) 5 (j_k i) K = K := q_is (n := 60) rfl (by decide) (by decide) h1 h2
theorem c_len_5 : j_len (ST L p I J) 5 Ki = Ki (j_k 60) := q_lenI (n := 60) rfl
theorem c_ia_6 (h1 : 0 ≤ i) (h2 : i < 60) : j_ia (ST L p I J) 6 (j_k i) K = K := q_ia (n := 60) rfl (by decide) h1 h2
theorem c_is_6 (h1 : 0 ≤ i) (h2 : i < 60) : j_is (ST L p I J) 6 (j_k i) K = K := q_is (n := 60) rfl (by decide) (by decide) h1 h2
theorem c_len_6 : j_len (ST L p I J) 6 Ki = Ki (j_k 60) := q_lenI (n := 60) rfl
theorem c_ia_7 (h1 : 0 ≤ i) (h2 : i < 60) : j_ia (ST L p I J) 7 (j_k i) K = K := q_ia (n := 60) rfl (by decide) h1 h2
theorem c_is_7 (h1 : 0 ≤ i) (h2 : i < 60) : j_is (ST L p I J) 7 (j_k i) K = K := q_is (n := 60) rfl (by decide) (by decide) h1 h2
theorem c_len_7 : j_len (ST L p I J) 7 Ki = Ki (j_k 60) := q_lenI (n := 60) rfl
theorem c_ia_8 (h1 : 0 ≤ i) (h2 : i < 60) : j_ia (ST L p I J) 8 (j_k i) K = K := q_ia (n := 60) rfl (by decide) h1 h2
theorem c_is_8 (h1 : 0 ≤ i) (h2 : i < 60) : j_is (ST L p I J) 8 (j_k i) K = K := q_is (n := 60) rfl (by decide) (by decide) h1 h2
theorem c_len_8 : j_len (ST L p I J) 8 Ki = Ki (j_k 60) := q_lenI (n := 60) rfl
theorem c_ia_9 (h1 : 0 ≤ i) (h2 : i < 6) : j_ia (ST L p I J) 9 (j_k i) K = K := q_ia (n := 6) rfl (by decide) h1 h2
theorem c_is_9 (h1 : 0 ≤ i) (h2 : i < 6) : j_is (ST L p I J) 9 (j_k i) K = K := q_is (n := 6) rfl (by decide) (by decide) h1 h2
theorem c_len_9 : j_len (ST L p I J) 9 Ki = Ki (j_k 6) := q_lenI (n := 6) rfl
theorem c_oc_10 : j_oc (ST L p I J) 4 10 K = K := q_oc rfl
theorem c_lt_10 : (10 < j_b) = True := eq_true (by decide)
theorem c_gP_10_0 : j_gP (ST L p I J) 4 10 0 Kn = Kn 11 := q_gP rfl rfl
theorem c_gP_10_1 : j_gP (ST L p I J) 4 10 1 Kn = Kn 16 := q_gP rfl rfl
theorem c_qa_11 (h1 : 0 ≤ i) (h2 : i < 4) : j_qa (ST L p I J) 11 (j_k i) Kn = Kn (12 + 1 * i.toNat) := by
  rcases (show i = 0 ∨ i = 1 ∨ i = 2 ∨ i = 3 by omega) with rfl | rfl | rfl | rfl <;> exact q_qaI (n := 4) rfl (by decide) (by omega) (by omega) rfl
theorem c_ia_12 (h1 : 0 ≤ i) (h2 : i < 80) : j_ia (ST L p I J) 12 (j_k i) K = K := q_ia (n := 80) rfl (by decide) h1 h2
theorem c_is_12 (h1 : 0 ≤ i) (h2 : i < 80) : j_is (ST L p I J) 12 (j_k i) K = K := q_is (n := 80) rfl (by decide) (by decide) h1 h2
theorem c_len_12 : j_len (ST L p I J) 12 Ki = Ki (j_k 80) := q_lenI (n := 80) rfl
theorem c_ia_13 (h1 : 0 ≤ i) (h2 : i < 80) : j_ia (ST L p I J) 13 (j_k i) K = K := q_ia (n := 80) rfl (by decide) h1 h2
theorem c_is_13 (h1 : 0 ≤ i) (h2 : i < 80) : j_is (ST L p I J) 13 (j_k i) K = K := q_is (n := 80) rfl (by decide) (by decide) h1 h2
theorem c_len_13 : j_len (ST L p I J) 13 Ki = Ki (j_k 80) := q_lenI (n := 80) rfl
theorem c_ia_14 (h1 : 0 ≤ i) (h2 : i < 80) : j_ia (ST L p I J) 14 (j_k i) K = K := q_ia (n := 80) rfl (by decide) h1 h2
theorem c_is_14 (h1 : 0 ≤ i) (h2 : i < 80) : j_is (ST L p I J) 14 (j_k i) K = K := q_is (n := 80) rfl (by decide) (by decide) h1 h2
theorem c_len_14 : j_len (ST L p I J) 14 Ki = Ki (j_k 80) := q_lenI (n := 80) rfl
theorem c_ia_15 (h1 : 0 ≤ i) (h2 : i < 80) : j_ia (ST L p I J) 15 (j_k i) K = K := q_ia (n := 80) rfl (by decide) h1 h2
theorem c_is_15 (h1 : 0 ≤ i) (h2 : i < 80) : j_is (ST L p I J) 15 (j_k i) K = K := q_is (n := 80) rfl (by decide) (by decide) h1 h2
theorem c_len_15 : j_len (ST L p I J) 15 Ki = Ki (j_k 80) := q_lenI (n := 80) rfl
theorem c_ia_16 (h1 : 0 ≤ i) (h2 : i < 4) : j_ia (ST L p I J) 16 (j_k i) K = K := q_ia (n := 4) rfl (by decide) h1 h2
theorem c_is_16 (h1 : 0 ≤ i) (h2 : i < 4) : j_is (ST L p I J) 16 (j_k i) K = K := q_is (n := 4) rfl (by decide) (by decide) h1 h2
theorem c_len_16 : j_len (ST L p I J) 16 Ki = Ki (j_k 4) := q_lenI (n := 4) rfl
theorem c_oc_17 : j_oc (ST L p I J) 2 17 K = K := q_oc rfl
theorem c_lt_17 : (17 < j_b) = True := eq_true (by decide)
theorem c_gP_17_0 : j_gP (ST L p I J) 2 17 0 Kn = Kn 18 := q_gP rfl rfl
theorem c_gP_17_1 : j_gP (ST L p I J) 2 17 1 Kn = Kn 22 := q_gP rfl rfl
theorem c_oc_18 : j_oc (ST L p I J) 1 18 K = K := q_oc rfl
theorem c_lt_18 : (18 < j_b) = True := eq_true (by decide)
theorem c_gP_18_0 : j_gP (ST L p I J) 1 18 0 Kn = Kn 19 := q_gP rfl rfl
theorem c_gP_18_1 : j_gP (ST L p I J) 1 18 1 Kn = Kn 20 := q_gP rfl rfl
theorem c_gP_18_2 : j_gP (ST L p I J) 1 18 2 Kn = Kn 21 := q_gP rfl rfl
theorem c_ia_19 (h1 : 0 ≤ i) (h2 : i < 30) : j_ia (ST L p I J) 19 (j_k i) K = K := q_ia (n := 30) rfl (by decide) h1 h2
theorem c_is_19 (h1 : 0 ≤ i) (h2 : i < 30) : j_is (ST L p I J) 19 (j_k i) K = K := q_is (n := 30) rfl (by decide) (by decide) h1 h2
theorem c_len_19 : j_len (ST L p I J) 19 Ki = Ki (j_k 30) := q_lenI (n := 30) rfl
theorem c_ia_20 (h1 : 0 ≤ i) (h2 : i < 30) : j_ia (ST L p I J) 20 (j_k i) K = K := q_ia (n := 30) rfl (by decide) h1 h2
theorem c_is_20 (h1 : 0 ≤ i) (h2 : i < 30) : j_is (ST L p I J) 20 (j_k i) K = K := q_is (n := 30) rfl (by decide) (by decide) h1 h2
theorem c_len_20 : j_len (ST L p I J) 20 Ki = Ki (j_k 30) := q_lenI (n := 30) rfl
theorem c_ia_21 (h1 : 0 ≤ i) (h2 : i < 30) : j_ia (ST L p I J) 21 (j_k i) K = K := q_ia (n := 30) rfl (by decide) h1 h2
theorem c_is_21 (h1 : 0 ≤ i) (h2 : i < 30) : j_is (ST L p I J) 21 (j_k i) K = K := q_is (n := 30) rfl (by decide) (by decide) h1 h2
theorem c_len_21 : j_len (ST L p I J) 21 Ki = Ki (j_k 30) := q_lenI (n := 30) rfl
theorem c_oc_22 : j_oc (ST L p I J) 0 22 K = K := q_oc rfl
theorem c_lt_22 : (22 < j_b) = True := eq_true (by decide)
theorem c_gP_22_0 : j_gP (ST L p I J) 0 22 0 Kn = Kn 23 := q_gP rfl rfl
theorem c_gP_22_1 : j_gP (ST L p I J) 0 22 1 Kn = Kn 24 := q_gP rfl rfl
theorem c_gP_22_2 : j_gP (ST L p I J) 0 22 2 Kn = Kn 25 := q_gP rfl rfl
theorem c_ia_23 (h1 : 0 ≤ i) (h2 : i < 4) : j_ia (ST L p I J) 23 (j_k i) K = K := q_ia (n := 4) rfl (by decide) h1 h2
theorem c_is_23 (h1 : 0 ≤ i) (h2 : i < 4) : j_is (ST L p I J) 23 (j_k i) K = K := q_is (n := 4) rfl (by decide) (by decide) h1 h2
theorem c_len_23 : j_len (ST L p I J) 23 Ki = Ki (j_k 4) := q_lenI (n := 4) rfl
theorem c_ia_24 (h1 : 0 ≤ i) (h2 : i < 4) : j_ia (ST L p I J) 24 (j_k i) K = K := q_ia (n := 4) rfl (by decide) h1 h2
theorem c_is_24 (h1 : 0 ≤ i) (h2 : i < 4) : j_is (ST L p I J) 24 (j_k i) K = K := q_is (n := 4) rfl (by decide) (by decide) h1 h2
theorem c_len_24 : j_len (ST L p I J) 24 Ki = Ki (j_k 4) := q_lenI (n := 4) rfl
theorem c_ia_25 (h1 : 0 ≤ i) (h2 : i < 4) : j_ia (ST L p I J) 25 (j_k i) K = K := q_ia (n := 4) rfl (by decide) h1 h2
theorem c_is_25 (h1 : 0 ≤ i) (h2 : i < 4) : j_is (ST L p I J) 25 (j_k i) K = K := q_is (n := 4) rfl (by decide) (by decide) h1 h2
theorem c_len_25 : j_len (ST L p I J) 25 Ki = Ki (j_k 4) := q_lenI (n := 4) rfl
theorem c_ia_26 (h1 : 0 ≤ i) (h2 : i < 0) : j_ia (ST L p I J) 26 (j_k i) K = K := q_ia (n := 0) rfl (by decide) h1 h2
theorem c_is_26 (h1 : 0 ≤ i) (h2 : i < 0) : j_is (ST L p I J) 26 (j_k i) K = K := q_is (n := 0) rfl (by decide) (by decide) h1 h2
theorem c_len_26 : j_len (ST L p I J) 26 Ki = Ki (j_k 0) := q_lenI (n := 0) rfl
theorem c_oc_27 : j_oc (ST L p I J) 1 27 K = K := q_oc rfl
theorem c_lt_27 : (27 < j_b) = True := eq_true (by decide)
theorem c_gP_27_0 : j_gP (ST L p I J) 1 27 0 Kn = Kn 28 := q_gP rfl rfl
theorem c_gP_27_1 : j_gP (ST L p I J) 1 27 1 Kn = Kn 29 := q_gP rfl rfl
theorem c_gP_27_2 : j_gP (ST L p I J) 1 27 2 Kn = Kn 30 := q_gP rfl rfl
theorem c_ia_28 (h1 : 0 ≤ i) (h2 : i < 30) : j_ia (ST L p I J) 28 (j_k i) K = K := q_ia (n := 30) rfl (by decide) h1 h2
theorem c_is_28 (h1 : 0 ≤ i) (h2 : i < 30) : j_is (ST L p I J) 28 (j_k i) K = K := q_is (n := 30) rfl (by decide) (by decide) h1 h2
theorem c_len_28 : j_len (ST L p I J) 28 Ki = Ki (j_k 30) := q_lenI (n := 30) rfl
theorem c_ia_29 (h1 : 0 ≤ i) (h2 : i < 30) : j_ia (ST L p I J) 29 (j_k i) K = K := q_ia (n := 30) rfl (by decide) h1 h2
theorem c_is_29 (h1 : 0 ≤ i) (h2 : i < 30) : j_is (ST L p I J) 29 (j_k i) K = K := q_is (n := 30) rfl (by decide) (by decide) h1 h2
theorem c_len_29 : j_len (ST L p I J) 29 Ki = Ki (j_k 30) := q_lenI (n := 30) rfl
theorem c_ia_30 (h1 : 0 ≤ i) (h2 : i < 30) : j_ia (ST L p I J) 30 (j_k i) K = K := q_ia (n := 30) rfl (by decide) h1 h2
theorem c_is_30 (h1 : 0 ≤ i) (h2 : i < 30) : j_is (ST L p I J) 30 (j_k i) K = K := q_is (n := 30) rfl (by decide) (by decide) h1 h2
theorem c_len_30 : j_len (ST L p I J) 30 Ki = Ki (j_k 30) := q_lenI (n := 30) rfl
theorem c_oc_31 : j_oc (ST L p I J) 0 31 K = K := q_oc rfl
theorem c_lt_31 : (31 < j_b) = True := eq_true (by decide)
theorem c_gP_31_0 : j_gP (ST L p I J) 0 31 0 Kn = Kn 32 := q_gP rfl rfl
theorem c_gP_31_1 : j_gP (ST L p I J) 0 31 1 Kn = Kn 33 := q_gP rfl rfl
theorem c_gP_31_2 : j_gP (ST L p I J) 0 31 2 Kn = Kn 34 := q_gP rfl rfl
theorem c_ia_32 (h1 : 0 ≤ i) (h2 : i < 4) : j_ia (ST L p I J) 32 (j_k i) K = K := q_ia (n := 4) rfl (by decide) h1 h2
theorem c_is_32 (h1 : 0 ≤ i) (h2 : i < 4) : j_is (ST L p I J) 32 (j_k i) K = K := q_is (n := 4) rfl (by decide) (by decide) h1 h2
theorem c_len_32 : j_len (ST L p I J) 32 Ki = Ki (j_k 4) := q_lenI (n := 4) rfl
theorem c_ia_33 (h1 : 0 ≤ i) (h2 : i < 4) : j_ia (ST L p I J) 33 (j_k i) K = K := q_ia (n := 4) rfl (by decide) h1 h2
theorem c_is_33 (h1 : 0 ≤ i) (h2 : i < 4) : j_is (ST L p I J) 33 (j_k i) K = K := q_is (n := 4) rfl (by decide) (by decide) h1 h2
theorem c_len_33 : j_len (ST L p I J) 33 Ki = Ki (j_k 4) := q_lenI (n := 4) rfl
theorem c_ia_34 (h1 : 0 ≤ i) (h2 : i < 4) : j_ia (ST L p I J) 34 (j_k i) K = K := q_ia (n := 4) rfl (by decide) h1 h2
theorem c_is_34 (h1 : 0 ≤ i) (h2 : i < 4) : j_is (ST L p I J) 34 (j_k i) K = K := q_is (n := 4) rfl (by decide) (by decide) h1 h2
theorem c_len_34 : j_len (ST L p I J) 34 Ki = Ki (j_k 4) := q_lenI (n := 4) rfl
theorem c_len_35 : j_len (ST L p I J) 35 Ki = Ki (j_k 3) := q_lenQ (n := 3) rfl
theorem c_qa_35 (h1 : 0 ≤ i) (h2 : i < 3) : j_qa (ST L p I J) 35 (j_k i) Kn = Kn (36 + 4 * i.toNat) := by
  rcases (show i = 0 ∨ i = 1 ∨ i = 2 by omega) with rfl | rfl | rfl <;> exact q_qaQ (n := 3) rfl (by decide) (by omega) (by omega) rfl
theorem c_oc_36 : j_oc (ST L p I J) 0 36 K = K := q_oc rfl
theorem c_lt_36 : (36 < j_b) = True := eq_true (by decide)
theorem c_gP_36_0 : j_gP (ST L p I J) 0 36 0 Kn = Kn 37 := q_gP rfl rfl
theorem c_gP_36_1 : j_gP (ST L p I J) 0 36 1 Kn = Kn 38 := q_gP rfl rfl
theorem c_gP_36_2 : j_gP (ST L p I J) 0 36 2 Kn = Kn 39 := q_gP rfl rfl
theorem c_ia_37 (h1 : 0 ≤ i) (h2 : i < 4) : j_ia (ST L p I J) 37 (j_k i) K = K := q_ia (n := 4) rfl (by decide) h1 h2
theorem c_is_37 (h1 : 0 ≤ i) (h2 : i < 4) : j_is (ST L p I J) 37 (j_k i) K = K := q_is (n := 4) rfl (by decide) (by decide) h1 h2
theorem c_len_37 : j_len (ST L p I J) 37 Ki = Ki (j_k 4) := q_lenI (n := 4) rfl
theorem c_ia_38 (h1 : 0 ≤ i) (h2 : i < 4) : j_ia (ST L p I J) 38 (j_k i) K = K := q_ia (n := 4) rfl (by decide) h1 h2
theorem c_is_38 (h1 : 0 ≤ i) (h2 : i < 4) : j_is (ST L p I J) 38 (j_k i) K = K := q_is (n := 4) rfl (by decide) (by decide) h1 h2
theorem c_len_38 : j_len (ST L p I J) 38 Ki = Ki (j_k 4) := q_lenI (n := 4) rfl
theorem c_ia_39 (h1 : 0 ≤ i) (h2 : i < 4) : j_ia (ST L p I J) 39 (j_k i) K = K := q_ia (n := 4) rfl (by decide) h1 h2
theorem c_is_39 (h1 : 0 ≤ i) (h2 : i < 4) : j_is (ST L p I J) 39 (j_k i) K = K := q_is (n := 4) rfl (by decide) (by decide) h1 h2
theorem c_len_39 : j_len (ST L p I J) 39 Ki = Ki (j_k 4) := q_lenI (n := 4) rfl
theorem c_oc_40 : j_oc (ST L p I J) 0 40 K = K := q_oc rfl
theorem c_lt_40 : (40 < j_b) = True := eq_true (by decide)
theorem c_gP_40_0 : j_gP (ST L p I J) 0 40 0 Kn = Kn 41 := q_gP rfl rfl
theorem c_gP_40_1 : j_gP (ST L p I J) 0 40 1 Kn = Kn 42 := q_gP rfl rfl
theorem c_gP_40_2 : j_gP (ST L p I J) 0 40 2 Kn = Kn 43 := q_gP rfl rfl
theorem c_ia_41 (h1 : 0 ≤ i) (h2 : i < 4) : j_ia (ST L p I J) 41 (j_k i) K = K := q_ia (n := 4) rfl (by decide) h1 h2
theorem c_is_41 (h1 : 0 ≤ i) (h2 : i < 4) : j_is (ST L p I J) 41 (j_k i) K = K := q_is (n := 4) rfl (by decide) (by decide) h1 h2
theorem c_len_41 : j_len (ST L p I J) 41 Ki = Ki (j_k 4) := q_lenI (n := 4) rfl
theorem c_ia_42 (h1 : 0 ≤ i) (h2 : i < 4) : j_ia (ST L p I J) 42 (j_k i) K = K := q_ia (n := 4) rfl (by decide) h1 h2
theorem c_is_42 (h1 : 0 ≤ i) (h2 : i < 4) : j_is (ST L p I J) 42 (j_k i) K = K := q_is (n := 4) rfl (by decide) (by decide) h1 h2
theorem c_len_42 : j_len (ST L p I J) 42 Ki = Ki (j_k 4) := q_lenI (n := 4) rfl
theorem c_ia_43 (h1 : 0 ≤ i) (h2 : i < 4) : j_ia (ST L p I J) 43 (j_k i) K = K := q_ia (n := 4) rfl (by decide) h1 h2
theorem c_is_43 (h1 : 0 ≤ i) (h2 : i < 4) : j_is (ST L p I J) 43 (j_k i) K = K := q_is (n := 4) rfl (by decide) (by decide) h1 h2
theorem c_len_43 : j_len (ST L p I J) 43 Ki = Ki (j_k 4) := q_lenI (n := 4) rfl
theorem c_oc_44 : j_oc (ST L p I J) 0 44 K = K := q_oc rfl
theorem c_lt_44 : (44 < j_b) = True := eq_true (by decide)
theorem c_gP_44_0 : j_gP (ST L p I J) 0 44 0 Kn = Kn 45 := q_gP rfl rfl
theorem c_gP_44_1 : j_gP (ST L p I J) 0 44 1 Kn = Kn 46 := q_gP rfl rfl
theorem c_gP_44_2 : j_gP (ST L p I J) 0 44 2 Kn = Kn 47 := q_gP rfl rfl
theorem c_ia_45 (h1 : 0 ≤ i) (h2 : i < 4) : j_ia (ST L p I J) 45 (j_k i) K = K := q_ia (n := 4) rfl (by decide) h1 h2
theorem c_is_45 (h1 : 0 ≤ i) (h2 : i < 4) : j_is (ST L p I J) 45 (j_k i) K = K := q_is (n := 4) rfl (by decide) (by decide) h1 h2
theorem c_len_45 : j_len (ST L p I J) 45 Ki = Ki (j_k 4) := q_lenI (n := 4) rfl
theorem c_ia_46 (h1 : 0 ≤ i) (h2 : i < 4) : j_ia (ST L p I J) 46 (j_k i) K = K := q_ia (n := 4) rfl (by decide) h1 h2
theorem c_is_46 (h1 : 0 ≤ i) (h2 : i < 4) : j_is (ST L p I J) 46 (j_k i) K = K := q_is (n := 4) rfl (by decide) (by decide) h1 h2
theorem c_len_46 : j_len (ST L p I J) 46 Ki = Ki (j_k 4) := q_lenI (n := 4) rfl
theorem c_ia_47 (h1 : 0 ≤ i) (h2 : i < 4) : j_ia (ST L p I J) 47 (j_k i) K = K := q_ia (n := 4) rfl (by decide) h1 h2
theorem c_is_47 (h1 : 0 ≤ i) (h2 : i < 4) : j_is (ST L p I J) 47 (j_k i) K = K := q_is (n := 4) rfl (by decide) (by decide) h1 h2
theorem c_len_47 : j_len (ST L p I J) 47 Ki = Ki (j_k 4) := q_lenI (n := 4) rfl
theorem c_oc_48 : j_oc (ST L p I J) 0 48 K = K := q_oc rfl
theorem c_lt_48 : (48 < j_b) = True := eq_true (by decide)
theorem c_gP_48_0 : j_gP (ST L p I J) 0 48 0 Kn = Kn 49 := q_gP rfl rfl
theorem c_gP_48_1 : j_gP (ST L p I J) 0 48 1 Kn = Kn 50 := q_gP rfl rfl
theorem c_gP_48_2 : j_gP (ST L p I J) 0 48 2 Kn = Kn 51 := q_gP rfl rfl
theorem c_ia_49 (h1 : 0 ≤ i) (h2 : i < 4) : j_ia (ST L p I J) 49 (j_k i) K = K := q_ia (n := 4) rfl (by decide) h1 h2
theorem c_is_49 (h1 : 0 ≤ i) (h2 : i < 4) : j_is (ST L p I J) 49 (j_k i) K = K := q_is (n := 4) rfl (by decide) (by decide) h1 h2
theorem c_len_49 : j_len (ST L p I J) 49 Ki = Ki (j_k 4) := q_lenI (n := 4) rfl
theorem c_ia_50 (h1 : 0 ≤ i) (h2 : i < 4) : j_ia (ST L p I J) 50 (j_k i) K = K := q_ia (n := 4) rfl (by decide) h1 h2
theorem c_is_50 (h1 : 0 ≤ i) (h2 : i < 4) : j_is (ST L p I J) 50 (j_k i) K = K := q_is (n := 4) rfl (by decide) (by decide) h1 h2
theorem c_len_50 : j_len (ST L p I J) 50 Ki = Ki (j_k 4) := q_lenI (n := 4) rfl
theorem c_ia_51 (h1 : 0 ≤ i) (h2 : i < 4) : j_ia (ST L p I J) 51 (j_k i) K = K := q_ia (n := 4) rfl (by decide) h1 h2
theorem c_is_51 (h1 : 0 ≤ i) (h2 : i < 4) : j_is (ST L p I J) 51 (j_k i) K = K := q_is (n := 4) rfl (by decide) (by decide) h1 h2
theorem c_len_51 : j_len (ST L p I J) 51 Ki = Ki (j_k 4) := q_lenI (n := 4) rfl
theorem c_la_52 (h1 : 0 ≤ i) (h2 : i < 201) : j_la (ST L p I J) 52 (j_k i) K = K := q_la (n := 201) rfl (by decide) h1 h2
theorem c_lt_52 : (52 < j_b) = True := eq_true (by decide)
theorem c_oc_53 : j_oc (ST L p I J) 3 53 K = K := q_oc rfl
theorem c_lt_53 : (53 < j_b) = True := eq_true (by decide)
theorem c_gP_53_0 : j_gP (ST L p I J) 3 53 0 Kn = Kn 54 := q_gP rfl rfl
theorem c_gP_53_1 : j_gP (ST L p I J) 3 53 1 Kn = Kn 71 := q_gP rfl rfl
theorem c_len_54 : j_len (ST L p I J) 54 Ki = Ki (j_k 4) := q_lenQ (n := 4) rfl
theorem c_qa_54 (h1 : 0 ≤ i) (h2 : i < 4) : j_qa (ST L p I J) 54 (j_k i) Kn = Kn (55 + 4 * i.toNat) := by
  rcases (show i = 0 ∨ i = 1 ∨ i = 2 ∨ i = 3 by omega) with rfl | rfl | rfl | rfl <;> exact q_qaQ (n := 4) rfl (by decide) (by omega) (by omega) rfl
theorem c_oc_55 : j_oc (ST L p I J) 0 55 K = K := q_oc rfl
theorem c_lt_55 : (55 < j_b) = True := eq_true (by decide)
theorem c_gP_55_0 : j_gP (ST L p I J) 0 55 0 Kn = Kn 56 := q_gP rfl rfl
theorem c_gP_55_1 : j_gP (ST L p I J) 0 55 1 Kn = Kn 57 := q_gP rfl rfl
theorem c_gP_55_2 : j_gP (ST L p I J) 0 55 2 Kn = Kn 58 := q_gP rfl rfl
theorem c_ia_56 (h1 : 0 ≤ i) (h2 : i < 4) : j_ia (ST L p I J) 56 (j_k i) K = K := q_ia (n := 4) rfl (by decide) h1 h2
theorem c_is_56 (h1 : 0 ≤ i) (h2 : i < 4) : j_is (ST L p I J) 56 (j_k i) K = K := q_is (n := 4) rfl (by decide) (by decide) h1 h2
theorem c_len_56 : j_len (ST L p I J) 56 Ki = Ki (j_k 4) := q_lenI (n := 4) rfl
theorem c_ia_57 (h1 : 0 ≤ i) (h2 : i < 4) : j_ia (ST L p I J) 57 (j_k i) K = K := q_ia (n := 4) rfl (by decide) h1 h2
theorem c_is_57 (h1 : 0 ≤ i) (h2 : i < 4) : j_is (ST L p I J) 57 (j_k i) K = K := q_is (n := 4) rfl (by decide) (by decide) h1 h2
theorem c_len_57 : j_len (ST L p I J) 57 Ki = Ki (j_k 4) := q_lenI (n := 4) rfl
theorem c_ia_58 (h1 : 0 ≤ i) (h2 : i < 4) : j_ia (ST L p I J) 58 (j_k i) K = K := q_ia (n := 4) rfl (by decide) h1 h2
theorem c_is_58 (h1 : 0 ≤ i) (h2 : i < 4) : j_is (ST L p I J) 58 (j_k i) K = K := q_is (n := 4) rfl (by decide) (by decide) h1 h2
theorem c_len_58 : j_len (ST L p I J) 58 Ki = Ki (j_k 4) := q_lenI (n := 4) rfl
theorem c_oc_59 : j_oc (ST L p I J) 0 59 K = K := q_oc rfl
theorem c_lt_59 : (59 < j_b) = True := eq_true (by decide)
theorem c_gP_59_0 : j_gP (ST L p I J) 0 59 0 Kn = Kn 60 := q_gP rfl rfl
theorem c_gP_59_1 : j_gP (ST L p I J) 0 59 1 Kn = Kn 61 := q_gP rfl rfl
theorem c_gP_59_2 : j_gP (ST L p I J) 0 59 2 Kn = Kn 62 := q_gP rfl rfl
theorem c_ia_60 (h1 : 0 ≤ i) (h2 : i < 4) : j_ia (ST L p I J) 60 (j_k i) K = K := q_ia (n := 4) rfl (by decide) h1 h2
theorem c_is_60 (h1 : 0 ≤ i) (h2 : i < 4) : j_is (ST L p I J) 60 (j_k i) K = K := q_is (n := 4) rfl (by decide) (by decide) h1 h2
theorem c_len_60 : j_len (ST L p I J) 60 Ki = Ki (j_k 4) := q_lenI (n := 4) rfl
theorem c_ia_61 (h1 : 0 ≤ i) (h2 : i < 4) : j_ia (ST L p I J) 61 (j_k i) K = K := q_ia (n := 4) rfl (by decide) h1 h2
theorem c_is_61 (h1 : 0 ≤ i) (h2 : i < 4) : j_is (ST L p I J) 61 (j_k i) K = K := q_is (n := 4) rfl (by decide) (by decide) h1 h2
theorem c_len_61 : j_len (ST L p I J) 61 Ki = Ki (j_k 4) := q_lenI (n := 4) rfl
theorem c_ia_62 (h1 : 0 ≤ i) (h2 : i < 4) : j_ia (ST L p I J) 62 (j_k i) K = K := q_ia (n := 4) rfl (by decide) h1 h2
theorem c_is_62 (h1 : 0 ≤ i) (h2 : i < 4) : j_is (ST L p I J) 62 (j_k i) K = K := q_is (n := 4) rfl (by decide) (by decide) h1 h2
theorem c_len_62 : j_len (ST L p I J) 62 Ki = Ki (j_k 4) := q_lenI (n := 4) rfl
theorem c_oc_63 : j_oc (ST L p I J) 0 63 K = K := q_oc rfl
theorem c_lt_63 : (63 < j_b) = True := eq_true (by decide)
theorem c_gP_63_0 : j_gP (ST L p I J) 0 63 0 Kn = Kn 64 := q_gP rfl rfl
theorem c_gP_63_1 : j_gP (ST L p I J) 0 63 1 Kn = Kn 65 := q_gP rfl rfl
theorem c_gP_63_2 : j_gP (ST L p I J) 0 63 2 Kn = Kn 66 := q_gP rfl rfl
theorem c_ia_64 (h1 : 0 ≤ i) (h2 : i < 4) : j_ia (ST L p I J) 64 (j_k i) K = K := q_ia (n := 4) rfl (by decide) h1 h2
theorem c_is_64 (h1 : 0 ≤ i) (h2 : i < 4) : j_is (ST L p I J) 64 (j_k i) K = K := q_is (n := 4) rfl (by decide) (by decide) h1 h2
theorem c_len_64 : j_len (ST L p I J) 64 Ki = Ki (j_k 4) := q_lenI (n := 4) rfl
theorem c_ia_65 (h1 : 0 ≤ i) (h2 : i < 4) : j_ia (ST L p I J) 65 (j_k i) K = K := q_ia (n := 4) rfl (by decide) h1 h2
theorem c_is_65 (h1 : 0 ≤ i) (h2 : i < 4) : j_is (ST L p I J) 65 (j_k i) K = K := q_is (n := 4) rfl (by decide) (by decide) h1 h2
theorem c_len_65 : j_len (ST L p I J) 65 Ki = Ki (j_k 4) := q_lenI (n := 4) rfl
theorem c_ia_66 (h1 : 0 ≤ i) (h2 : i < 4) : j_ia (ST L p I J) 66 (j_k i) K = K := q_ia (n := 4) rfl (by decide) h1 h2
theorem c_is_66 (h1 : 0 ≤ i) (h2 : i < 4) : j_is (ST L p I J) 66 (j_k i) K = K := q_is (n := 4) rfl (by decide) (by decide) h1 h2
theorem c_len_66 : j_len (ST L p I J) 66 Ki = Ki (j_k 4) := q_lenI (n := 4) rfl
theorem c_oc_67 : j_oc (ST L p I J) 0 67 K = K := q_oc rfl
theorem c_lt_67 : (67 < j_b) = True := eq_true (by decide)
theorem c_gP_67_0 : j_gP (ST L p I J) 0 67 0 Kn = Kn 68 := q_gP rfl rfl
theorem c_gP_67_1 : j_gP (ST L p I J) 0 67 1 Kn = Kn 69 := q_gP rfl rfl
theorem c_gP_67_2 : j_gP (ST L p I J) 0 67 2 Kn = Kn 70 := q_gP rfl rfl
theorem c_ia_68 (h1 : 0 ≤ i) (h2 : i < 4) : j_ia (ST L p I J) 68 (j_k i) K = K := q_ia (n := 4) rfl (by decide) h1 h2
theorem c_is_68 (h1 : 0 ≤ i) (h2 : i < 4) : j_is (ST L p I J) 68 (j_k i) K = K := q_is (n := 4) rfl (by decide) (by decide) h1 h2
theorem c_len_68 : j_len (ST L p I J) 68 Ki = Ki (j_k 4) := q_lenI (n := 4) rfl
theorem c_ia_69 (h1 : 0 ≤ i) (h2 : i < 4) : j_ia (ST L p I J) 69 (j_k i) K = K := q_ia (n := 4) rfl (by decide) h1 h2
theorem c_is_69 (h1 : 0 ≤ i) (h2 : i < 4) : j_is (ST L p I J) 69 (j_k i) K = K := q_is (n := 4) rfl (by decide) (by decide) h1 h2
theorem c_len_69 : j_len (ST L p I J) 69 Ki = Ki (j_k 4) := q_lenI (n := 4) rfl
theorem c_ia_70 (h1 : 0 ≤ i) (h2 : i < 4) : j_ia (ST L p I J) 70 (j_k i) K = K := q_ia (n := 4) rfl (by decide) h1 h2
theorem c_is_70 (h1 : 0 ≤ i) (h2 : i < 4) : j_is (ST L p I J) 70 (j_k i) K = K := q_is (n := 4) rfl (by decide) (by decide) h1 h2
theorem c_len_70 : j_len (ST L p I J) 70 Ki = Ki (j_k 4) := q_lenI (n := 4) rfl
theorem c_ia_71 (h1 : 0 ≤ i) (h2 : i < 4) : j_ia (ST L p I J) 71 (j_k i) K = K := q_ia (n := 4) rfl (by decide) h1 h2
theorem c_is_71 (h1 : 0 ≤ i) (h2 : i < 4) : j_is (ST L p I J) 71 (j_k i) K = K := q_is (n := 4) rfl (by decide) (by decide) h1 h2
theorem c_len_71 : j_len (ST L p I J) 71 Ki = Ki (j_k 4) := q_lenI (n := 4) rfl
theorem c_oc_72 : j_oc (ST L p I J) 5 72 K = K := q_oc rfl
theorem c_lt_72 : (72 < j_b) = True := eq_true (by decide)
theorem c_gP_72_0 : j_gP (ST L p I J) 5 72 0 Kn = Kn 73 := q_gP rfl rfl
theorem c_len_73 : j_len (ST L p I J) 73 Ki = Ki (j_k 3) := q_lenQ (n := 3) rfl
theorem c_qa_73 (h1 : 0 ≤ i) (h2 : i < 3) : j_qa (ST L p I J) 73 (j_k i) Kn = Kn (74 + 4 * i.toNat) := by
  rcases (show i = 0 ∨ i = 1 ∨ i = 2 by omega) with rfl | rfl | rfl <;> exact q_qaQ (n := 3) rfl (by decide) (by omega) (by omega) rfl
theorem c_oc_74 : j_oc (ST L p I J) 0 74 K = K := q_oc rfl
theorem c_lt_74 : (74 < j_b) = True := eq_true (by decide)
theorem c_gP_74_0 : j_gP (ST L p I J) 0 74 0 Kn = Kn 75 := q_gP rfl rfl
theorem c_gP_74_1 : j_gP (ST L p I J) 0 74 1 Kn = Kn 76 := q_gP rfl rfl
theorem c_gP_74_2 : j_gP (ST L p I J) 0 74 2 Kn = Kn 77 := q_gP rfl rfl
theorem c_ia_75 (h1 : 0 ≤ i) (h2 : i < 4) : j_ia (ST L p I J) 75 (j_k i) K = K := q_ia (n := 4) rfl (by decide) h1 h2
theorem c_is_75 (h1 : 0 ≤ i) (h2 : i < 4) : j_is (ST L p I J) 75 (j_k i) K = K := q_is (n := 4) rfl (by decide) (by decide) h1 h2
theorem c_len_75 : j_len (ST L p I J) 75 Ki = Ki (j_k 4) := q_lenI (n := 4) rfl
theorem c_ia_76 (h1 : 0 ≤ i) (h2 : i < 4) : j_ia (ST L p I J) 76 (j_k i) K = K := q_ia (n := 4) rfl (by decide) h1 h2
theorem c_is_76 (h1 : 0 ≤ i) (h2 : i < 4) : j_is (ST L p I J) 76 (j_k i) K = K := q_is (n := 4) rfl (by decide) (by decide) h1 h2
theorem c_len_76 : j_len (ST L p I J) 76 Ki = Ki (j_k 4) := q_lenI (n := 4) rfl
theorem c_ia_77 (h1 : 0 ≤ i) (h2 : i < 4) : j_ia (ST L p I J) 77 (j_k i) K = K := q_ia (n := 4) rfl (by decide) h1 h2
theorem c_is_77 (h1 : 0 ≤ i) (h2 : i < 4) : j_is (ST L p I J) 77 (j_k i) K = K := q_is (n := 4) rfl (by decide) (by decide) h1 h2
theorem c_len_77 : j_len (ST L p I J) 77 Ki = Ki (j_k 4) := q_lenI (n := 4) rfl
theorem c_oc_78 : j_oc (ST L p I J) 0 78 K = K := q_oc rfl
theorem c_lt_78 : (78 < j_b) = True := eq_true (by decide)
theorem c_gP_78_0 : j_gP (ST L p I J) 0 78 0 Kn = Kn 79 := q_gP rfl rfl
theorem c_gP_78_1 : j_gP (ST L p I J) 0 78 1 Kn = Kn 80 := q_gP rfl rfl
theorem c_gP_78_2 : j_gP (ST L p I J) 0 78 2 Kn = Kn 81 := q_gP rfl rfl
theorem c_ia_79 (h1 : 0 ≤ i) (h2 : i < 4) : j_ia (ST L p I J) 79 (j_k i) K = K := q_ia (n := 4) rfl (by decide) h1 h2
theorem c_is_79 (h1 : 0 ≤ i) (h2 : i < 4) : j_is (ST L p I J) 79 (j_k i) K = K := q_is (n := 4) rfl (by decide) (by decide) h1 h2
theorem c_len_79 : j_len (ST L p I J) 79 Ki = Ki (j_k 4) := q_lenI (n := 4) rfl
theorem c_ia_80 (h1 : 0 ≤ i) (h2 : i < 4) : j_ia (ST L p I J) 80 (j_k i) K = K := q_ia (n := 4) rfl (by decide) h1 h2
theorem c_is_80 (h1 : 0 ≤ i) (h2 : i < 4) : j_is (ST L p I J) 80 (j_k i) K = K := q_is (n := 4) rfl (by decide) (by decide) h1 h2
theorem c_len_80 : j_len (ST L p I J) 80 Ki = Ki (j_k 4) := q_lenI (n := 4) rfl
theorem c_ia_81 (h1 : 0 ≤ i) (h2 : i < 4) : j_ia (ST L p I J) 81 (j_k i) K = K := q_ia (n := 4) rfl (by decide) h1 h2
theorem c_is_81 (h1 : 0 ≤ i) (h2 : i < 4) : j_is (ST L p I J) 81 (j_k i) K = K := q_is (n := 4) rfl (by decide) (by decide) h1 h2
theorem c_len_81 : j_len (ST L p I J) 81 Ki = Ki (j_k 4) := q_lenI (n := 4) rfl
theorem c_oc_82 : j_oc (ST L p I J) 0 82 K = K := q_oc rfl
theorem c_lt_82 : (82 < j_b) = True := eq_true (by decide)
theorem c_gP_82_0 : j_gP (ST L p I J) 0 82 0 Kn = Kn 83 := q_gP rfl rfl
theorem c_gP_82_1 : j_gP (ST L p I J) 0 82 1 Kn = Kn 84 := q_gP rfl rfl
theorem c_gP_82_2 : j_gP (ST L p I J) 0 82 2 Kn = Kn 85 := q_gP rfl rfl
theorem c_ia_83 (h1 : 0 ≤ i) (h2 : i < 4) : j_ia (ST L p I J) 83 (j_k i) K = K := q_ia (n := 4) rfl (by decide) h1 h2
theorem c_is_83 (h1 : 0 ≤ i) (h2 : i < 4) : j_is (ST L p I J) 83 (j_k i) K = K := q_is (n := 4) rfl (by decide) (by decide) h1 h2
theorem c_len_83 : j_len (ST L p I J) 83 Ki = Ki (j_k 4) := q_lenI (n := 4) rfl
theorem c_ia_84 (h1 : 0 ≤ i) (h2 : i < 4) : j_ia (ST L p I J) 84 (j_k i) K = K := q_ia (n := 4) rfl (by decide) h1 h2
theorem c_is_84 (h1 : 0 ≤ i) (h2 : i < 4) : j_is (ST L p I J) 84 (j_k i) K = K := q_is (n := 4) rfl (by decide) (by decide) h1 h2
theorem c_len_84 : j_len (ST L p I J) 84 Ki = Ki (j_k 4) := q_lenI (n := 4) rfl
theorem c_ia_85 (h1 : 0 ≤ i) (h2 : i < 4) : j_ia (ST L p I J) 85 (j_k i) K = K := q_ia (n := 4) rfl (by decide) h1 h2
theorem c_is_85 (h1 : 0 ≤ i) (h2 : i < 4) : j_is (ST L p I J) 85 (j_k i) K = K := q_is (n := 4) rfl (by decide) (by decide) h1 h2
theorem c_len_85 : j_len (ST L p I J) 85 Ki = Ki (j_k 4) := q_lenI (n := 4) rfl
theorem c_ia_86 (h1 : 0 ≤ i) (h2 : i < 6) : j_ia (ST L p I J) 86 (j_k i) K = K := q_ia (n := 6) rfl (by decide) h1 h2
theorem c_is_86 (h1 : 0 ≤ i) (h2 : i < 6) : j_is (ST L p I J) 86 (j_k i) K = K := q_is (n := 6) rfl (by decide) (by decide) h1 h2
theorem c_len_86 : j_len (ST L p I J) 86 Ki = Ki (j_k 6) := q_lenI (n := 6) rfl
theorem c_oc_87 : j_oc (ST L p I J) 7 87 K = K := q_oc rfl
theorem c_lt_87 : (87 < j_b) = True := eq_true (by decide)
theorem c_gP_87_1 : j_gP (ST L p I J) 7 87 1 Kn = Kn 88 := q_gP rfl rfl
theorem c_gP_87_5 : j_gP (ST L p I J) 7 87 5 Kn = Kn 89 := q_gP rfl rfl
theorem c_gP_87_6 : j_gP (ST L p I J) 7 87 6 Kn = Kn 90 := q_gP rfl rfl
theorem c_gP_87_7 : j_gP (ST L p I J) 7 87 7 Kn = Kn 91 := q_gP rfl rfl
theorem c_gP_87_8 : j_gP (ST L p I J) 7 87 8 Kn = Kn 92 := q_gP rfl rfl
theorem c_gP_87_9 : j_gP (ST L p I J) 7 87 9 Kn = Kn 93 := q_gP rfl rfl
theorem c_gP_87_12 : j_gP (ST L p I J) 7 87 12 Kn = Kn 94 := q_gP rfl rfl
theorem c_gP_87_14 : j_gP (ST L p I J) 7 87 14 Kn = Kn 95 := q_gP rfl rfl
theorem c_gP_87_21 : j_gP (ST L p I J) 7 87 21 Kn = Kn 96 := q_gP rfl rfl
theorem c_gP_87_22 : j_gP (ST L p I J) 7 87 22 Kn = Kn 97 := q_gP rfl rfl
theorem c_gP_87_23 : j_gP (ST L p I J) 7 87 23 Kn = Kn 98 := q_gP rfl rfl
theorem c_gP_87_24 : j_gP (ST L p I J) 7 87 24 Kn = Kn 99 := q_gP rfl rfl
theorem c_gP_87_25 : j_gP (ST L p I J) 7 87 25 Kn = Kn 100 := q_gP rfl rfl
theorem c_gP_87_28 : j_gP (ST L p I J) 7 87 28 Kn = Kn 101 := q_gP rfl rfl
theorem c_gP_87_31 : j_gP (ST L p I J) 7 87 31 Kn = Kn 102 := q_gP rfl rfl
theorem c_gP_87_37 : j_gP (ST L p I J) 7 87 37 Kn = Kn 103 := q_gP rfl rfl
theorem c_ia_88 (h1 : 0 ≤ i) (h2 : i < 6) : j_ia (ST L p I J) 88 (j_k i) K = K := q_ia (n := 6) rfl (by decide) h1 h2
theorem c_is_88 (h1 : 0 ≤ i) (h2 : i < 6) : j_is (ST L p I J) 88 (j_k i) K = K := q_is (n := 6) rfl (by decide) (by decide) h1 h2
theorem c_len_88 : j_len (ST L p I J) 88 Ki = Ki (j_k 6) := q_lenI (n := 6) rfl
theorem c_ia_89 (h1 : 0 ≤ i) (h2 : i < 6) : j_ia (ST L p I J) 89 (j_k i) K = K := q_ia (n := 6) rfl (by decide) h1 h2
theorem c_is_89 (h1 : 0 ≤ i) (h2 : i < 6) : j_is (ST L p I J) 89 (j_k i) K = K := q_is (n := 6) rfl (by decide) (by decide) h1 h2
theorem c_len_89 : j_len (ST L p I J) 89 Ki = Ki (j_k 6) := q_lenI (n := 6) rfl
theorem c_ia_90 (h1 : 0 ≤ i) (h2 : i < 360) : j_ia (ST L p I J) 90 (j_k i) K = K := q_ia (n := 360) rfl (by decide) h1 h2
theorem c_is_90 (h1 : 0 ≤ i) (h2 : i < 360) : j_is (ST L p I J) 90 (j_k i) K = K := q_is (n := 360) rfl (by decide) (by decide) h1 h2
theorem c_len_90 : j_len (ST L p I J) 90 Ki = Ki (j_k 360) := q_lenI (n := 360) rfl
theorem c_ia_91 (h1 : 0 ≤ i) (h2 : i < 60) : j_ia (ST L p I J) 91 (j_k i) K = K := q_ia (n := 60) rfl (by decide) h1 h2
theorem c_is_91 (h1 : 0 ≤ i) (h2 : i < 60) : j_is (ST L p I J) 91 (j_k i) K = K := q_is (n := 60) rfl (by decide) (by decide) h1 h2
theorem c_len_91 : j_len (ST L p I J) 91 Ki = Ki (j_k 60) := q_lenI (n := 60) rfl
theorem c_ia_92 (h1 : 0 ≤ i) (h2 : i < 4) : j_ia (ST L p I J) 92 (j_k i) K = K := q_ia (n := 4) rfl (by decide) h1 h2
theorem c_is_92 (h1 : 0 ≤ i) (h2 : i < 4) : j_is (ST L p I J) 92 (j_k i) K = K := q_is (n := 4) rfl (by decide) (by decide) h1 h2
theorem c_len_92 : j_len (ST L p I J) 92 Ki = Ki (j_k 4) := q_lenI (n := 4) rfl
theorem c_ba_93 (h1 : 0 ≤ i) (h2 : i < 320) : j_ba (ST L p I J) 93 (j_k i) K = K := q_ba (n := 320) rfl (by decide) h1 h2
theorem c_bs_93 {v : Int32} (h1 : 0 ≤ i) (h2 : i < 320) : j_bs (ST L p I J) 93 (j_k i) v Ks = Ks (s_uI (ST L p I J) 93 (j_k i).toNatClampNeg v.toInt8.toInt32) := q_bs (n := 320) rfl (by decide) (by decide) h1 h2
theorem c_ia_94 (h1 : 0 ≤ i) (h2 : i < 30) : j_ia (ST L p I J) 94 (j_k i) K = K := q_ia (n := 30) rfl (by decide) h1 h2
theorem c_is_94 (h1 : 0 ≤ i) (h2 : i < 30) : j_is (ST L p I J) 94 (j_k i) K = K := q_is (n := 30) rfl (by decide) (by decide) h1 h2
theorem c_len_94 : j_len (ST L p I J) 94 Ki = Ki (j_k 30) := q_lenI (n := 30) rfl
theorem c_ia_95 (h1 : 0 ≤ i) (h2 : i < 4) : j_ia (ST L p I J) 95 (j_k i) K = K := q_ia (n := 4) rfl (by decide) h1 h2
theorem c_is_95 (h1 : 0 ≤ i) (h2 : i < 4) : j_is (ST L p I J) 95 (j_k i) K = K := q_is (n := 4) rfl (by decide) (by decide) h1 h2
theorem c_len_95 : j_len (ST L p I J) 95 Ki = Ki (j_k 4) := q_lenI (n := 4) rfl
theorem c_ia_96 (h1 : 0 ≤ i) (h2 : i < 30) : j_ia (ST L p I J) 96 (j_k i) K = K := q_ia (n := 30) rfl (by decide) h1 h2
theorem c_is_96 (h1 : 0 ≤ i) (h2 : i < 30) : j_is (ST L p I J) 96 (j_k i) K = K := q_is (n := 30) rfl (by decide) (by decide) h1 h2
theorem c_len_96 : j_len (ST L p I J) 96 Ki = Ki (j_k 30) := q_lenI (n := 30) rfl
theorem c_ia_97 (h1 : 0 ≤ i) (h2 : i < 4) : j_ia (ST L p I J) 97 (j_k i) K = K := q_ia (n := 4) rfl (by decide) h1 h2
theorem c_is_97 (h1 : 0 ≤ i) (h2 : i < 4) : j_is (ST L p I J) 97 (j_k i) K = K := q_is (n := 4) rfl (by decide) (by decide) h1 h2
theorem c_len_97 : j_len (ST L p I J) 97 Ki = Ki (j_k 4) := q_lenI (n := 4) rfl
theorem c_ia_98 (h1 : 0 ≤ i) (h2 : i < 4) : j_ia (ST L p I J) 98 (j_k i) K = K := q_ia (n := 4) rfl (by decide) h1 h2
theorem c_is_98 (h1 : 0 ≤ i) (h2 : i < 4) : j_is (ST L p I J) 98 (j_k i) K = K := q_is (n := 4) rfl (by decide) (by decide) h1 h2
theorem c_len_98 : j_len (ST L p I J) 98 Ki = Ki (j_k 4) := q_lenI (n := 4) rfl
theorem c_ia_99 (h1 : 0 ≤ i) (h2 : i < 117) : j_ia (ST L p I J) 99 (j_k i) K = K := q_ia (n := 117) rfl (by decide) h1 h2
theorem c_is_99 (h1 : 0 ≤ i) (h2 : i < 117) : j_is (ST L p I J) 99 (j_k i) K = K := q_is (n := 117) rfl (by decide) (by decide) h1 h2
theorem c_len_99 : j_len (ST L p I J) 99 Ki = Ki (j_k 117) := q_lenI (n := 117) rfl
theorem c_ba_100 (h1 : 0 ≤ i) (h2 : i < 3) : j_ba (ST L p I J) 100 (j_k i) K = K := q_za (n := 3) rfl (by decide) h1 h2
theorem c_bs_100 {v : Int32} (h1 : 0 ≤ i) (h2 : i < 3) (hv : v = 0 ∨ v = 1) : j_bs (ST L p I J) 100 (j_k i) v Ks = Ks (s_uI (ST L p I J) 100 (j_k i).toNatClampNeg v) := q_zs (n := 3) rfl (by decide) (by decide) h1 h2 hv
theorem c_ia_101 (h1 : 0 ≤ i) (h2 : i < 4) : j_ia (ST L p I J) 101 (j_k i) K = K := q_ia (n := 4) rfl (by decide) h1 h2
theorem c_is_101 (h1 : 0 ≤ i) (h2 : i < 4) : j_is (ST L p I J) 101 (j_k i) K = K := q_is (n := 4) rfl (by decide) (by decide) h1 h2
theorem c_len_101 : j_len (ST L p I J) 101 Ki = Ki (j_k 4) := q_lenI (n := 4) rfl
theorem c_la_102 (h1 : 0 ≤ i) (h2 : i < 201) : j_la (ST L p I J) 102 (j_k i) K = K := q_la (n := 201) rfl (by decide) h1 h2
theorem c_lt_102 : (102 < j_b) = True := eq_true (by decide)
theorem c_ia_103 (h1 : 0 ≤ i) (h2 : i < 4) : j_ia (ST L p I J) 103 (j_k i) K = K := q_ia (n := 4) rfl (by decide) h1 h2
theorem c_is_103 (h1 : 0 ≤ i) (h2 : i < 4) : j_is (ST L p I J) 103 (j_k i) K = K := q_is (n := 4) rfl (by decide) (by decide) h1 h2
theorem c_len_103 : j_len (ST L p I J) 103 Ki = Ki (j_k 4) := q_lenI (n := 4) rfl
theorem fa_22 : FA 22 := show 22 ∈ FL by decide
theorem fa_31 : FA 31 := show 31 ∈ FL by decide
theorem fa_36 : FA 36 := show 36 ∈ FL by decide
theorem fa_40 : FA 40 := show 40 ∈ FL by decide
theorem fa_44 : FA 44 := show 44 ∈ FL by decide
theorem fa_48 : FA 48 := show 48 ∈ FL by decide
theorem fa_55 : FA 55 := show 55 ∈ FL by decide
theorem fa_59 : FA 59 := show 59 ∈ FL by decide
theorem fa_63 : FA 63 := show 63 ∈ FL by decide
theorem fa_67 : FA 67 := show 67 ∈ FL by decide
theorem fa_74 : FA 74 := show 74 ∈ FL by decide
theorem fa_78 : FA 78 := show 78 ∈ FL by decide
theorem fa_82 : FA 82 := show 82 ∈ FL by decide
theorem ga_18 : GA 18 := Or.inl rfl
theorem ga_27 : GA 27 := Or.inr rfl
end SKEL
end
section
/-! ===== what the document says of steps, runs, drives, as functions of integers ===== -/
/-- a flock by its numbers: 0 the step, 1 the last, 2 its cell, 3 the last but one, 4 its cell, 5.. the cells, 9.. how many cells went -/
abbrev Fl : Type := Int → Int
def p_set (f : Fl) (i v : Int) : Fl := fun j => if j = i then v else f j
def p_abs (x : Int) : Int := if 0 ≤ x then x else -x
def p_sgn (x : Int) : Int := if x < 0 then -1 else if 0 < x then 1 else 0
def p_off (w a b : Int) : Int := p_abs (a % w - b % w) + p_abs (a / w - b / w)
def p_by (w h c dx dy : Int) : Int := if 0 ≤ c % w + dx ∧ c % w + dx < w ∧ 0 ≤ c / w + dy ∧ c / w + dy < h then w * (c / w + dy) + (c % w + dx) else -9
def p_dx (way : Int) : Int := if way = 1 then 1 else if way = 3 then -1 else 0
def p_dy (way : Int) : Int := if way = 0 then -1 else if way = 2 then 1 else 0
def p_who (n : Int) (f : Fl) (c but : Int) : Int := p_first (fun k => decide (k ≠ but ∧ f (5 + k) = c)) n.toNat 0
def p_shy (kd : Fl) (k : Int) : Bool := decide (kd k = 1 ∨ kd k = 5)
def p_slow (kd : Fl) (k : Int) : Bool := decide (kd k = 2 ∨ kd k = 4)
def p_aim (kd f : Fl) (k : Int) : Int := if kd k = 3 ∧ f 4 ≠ -9 then f 4 else f 2
def p_can (gr : Fl) (n : Int) (kd f : Fl) (k c : Int) (gate : Bool) : Bool := decide (gr c ≠ 1 ∧ p_who n f c k = -9 ∧ ¬ (gr c = 4 ∧ (kd k = 4 ∨ gate = true)))
def p_try (gr : Fl) (n : Int) (kd f : Fl) (k c : Int) (gate : Bool) : Int := if c = -9 then -9 else if p_can gr n kd f k c gate = true then c else -9
def p_goTo (gr f : Fl) (k c : Int) : Fl := p_set (p_set f (5 + k) (if gr c = 2 then -9 else c)) (9 + k) (f (9 + k) + 1)
def p_bl (f : Fl) (k c : Int) : Fl := p_set (p_set (p_set (p_set f 3 (f 1)) 4 (f 2)) 1 k) 2 c
/-- across first or down first, then the other; sx, sy: by how much -/
def p_two (w h : Int) (gr : Fl) (n : Int) (kd f : Fl) (k sx sy : Int) (gate across : Bool) : Int :=
  if across = true then
    (if sx ≠ 0 ∧ p_try gr n kd f k (p_by w h (f (5 + k)) sx 0) gate ≠ -9 then p_try gr n kd f k (p_by w h (f (5 + k)) sx 0) gate
     else if sy = 0 then -9 else p_try gr n kd f k (p_by w h (f (5 + k)) 0 sy) gate)
  else
    (if sy ≠ 0 ∧ p_try gr n kd f k (p_by w h (f (5 + k)) 0 sy) gate ≠ -9 then p_try gr n kd f k (p_by w h (f (5 + k)) 0 sy) gate
     else if sx = 0 then -9 else p_try gr n kd f k (p_by w h (f (5 + k)) sx 0) gate)
/-- where one goes in a step by its aim; -9: it stays -/
def p_next (w h : Int) (gr : Fl) (n : Int) (kd f : Fl) (k aim : Int) (gate : Bool) : Int :=
  if aim = -9 then -9
  else if (p_shy kd k = true ∧ kd k = 5 ∧ 3 ≤ p_off w aim (f (5 + k))) ∨ (p_shy kd k = false ∧ p_off w aim (f (5 + k)) ≤ 1) then -9
  else p_two w h gr n kd f k ((if p_shy kd k = true then -1 else 1) * p_sgn (aim % w - f (5 + k) % w)) ((if p_shy kd k = true then -1 else 1) * p_sgn (aim / w - f (5 + k) / w)) gate (decide (p_abs (aim / w - f (5 + k) / w) ≤ p_abs (aim % w - f (5 + k) % w)))
/-- one in a step: the flock, who went (bits), who went last, whereto, whether a gate is used -/
abbrev Ss : Type := Fl × Int × Int × Int × Bool
def p_stepB (w h : Int) (gr : Fl) (n : Int) (kd f0 : Fl) (k : Int) (s : Ss) : Ss :=
  if k = f0 1 ∨ s.1 (5 + k) = -9 ∨ (f0 0 % 2 = 1 ∧ p_slow kd k = true) then s
  else if p_next w h gr n kd s.1 k (p_aim kd f0 k) s.2.2.2.2 = -9 then s
  else (p_goTo gr s.1 k (p_next w h gr n kd s.1 k (p_aim kd f0 k) s.2.2.2.2), s.2.1 + 2 ^ k.toNat, k, p_next w h gr n kd s.1 k (p_aim kd f0 k) s.2.2.2.2, s.2.2.2.2 || decide (gr (p_next w h gr n kd s.1 k (p_aim kd f0 k) s.2.2.2.2) = 4))
def p_stepE (s : Ss) : Fl := if s.2.2.1 = -9 then p_set s.1 0 (s.1 0 + 1) else p_bl (p_set s.1 0 (s.1 0 + 1)) s.2.2.1 s.2.2.2.1
def p_stepL (w h : Int) (gr : Fl) (n : Int) (kd f : Fl) : Ss := p_loop (p_stepB w h gr n kd f) n.toNat 0 (f, 0, -9, -9, false)
def p_stepF (w h : Int) (gr : Fl) (n : Int) (kd f : Fl) : Fl := p_stepE (p_stepL w h gr n kd f)
def p_stepW (w h : Int) (gr : Fl) (n : Int) (kd f : Fl) : Int := (p_stepL w h gr n kd f).2.1
/-- m steps at most until none went in two: the flock, how many stood still, how many steps -/
def p_run (w h : Int) (gr : Fl) (n : Int) (kd : Fl) : Nat → Int → Int → Fl → Fl × Int × Int
  | 0, st, sp, f => (f, st, sp)
  | m + 1, st, sp, f => if st < 2 then p_run w h gr n kd m (if p_stepW w h gr n kd f = 0 then st + 1 else 0) (sp + 1) (p_stepF w h gr n kd f) else (f, st, sp)
def p_runs (w h : Int) (gr : Fl) (n : Int) (kd f : Fl) : Fl × Int × Int := p_run w h gr n kd 40 0 0 f
/-- a stirring: whereto; -9 -/
def p_stir (w h : Int) (gr : Fl) (n : Int) (kd f : Fl) (k way : Int) : Int := if f (5 + k) = -9 then -9 else p_try gr n kd f k (p_by w h (f (5 + k)) (p_dx way) (p_dy way)) false
def p_stirF (gr f : Fl) (k c : Int) : Fl := p_bl (p_goTo gr f k c) k c
/-- a drive -/
def p_drive (w h : Int) (gr : Fl) (n : Int) (kd f : Fl) (code : Int) : Option Fl :=
  if p_stir w h gr n kd f (code / 4) (code % 4) = -9 then none else some (p_runs w h gr n kd (p_stirF gr f (code / 4) (p_stir w h gr n kd f (code / 4) (code % 4)))).1
def p_lost (n : Int) (f : Fl) : Int := p_loop (fun k s => if f (5 + k) = -9 then s + 1 else s) n.toNat 0 0
def p_apart (w n : Int) (f : Fl) : Int := p_loop (fun k s => p_loop (fun j s => if f (5 + k) ≠ -9 ∧ f (5 + j) ≠ -9 then s + p_off w (f (5 + k)) (f (5 + j)) else s) (n - (k + 1)).toNat (k + 1) s) n.toNat 0 0
def p_safe (gr : Fl) (n : Int) (f : Fl) : Bool := decide (0 < n ∧ p_first (fun k => decide (f (5 + k) = -9 ∨ gr (f (5 + k)) ≠ 3)) n.toNat 0 = -9)
def p_at (n : Int) (row : Int → Int32) (f : Fl) : Bool := decide (p_first (fun k => decide (¬ j_k (f (5 + k)) = row k)) n.toNat 0 = -9)
/-! ===== what is true of a flock on its ground ===== -/
/-- the ground is one that a text can tell, or none -/
def okC (w h N n : Int) (gr kd : Fl) : Prop :=
  N = w * h ∧ ((2 ≤ w ∧ w ≤ 6 ∧ 1 ≤ h ∧ h ≤ 5) ∨ (w = 0 ∧ h = 0 ∧ n = 0)) ∧ 0 ≤ n ∧ n ≤ 4 ∧ (∀ c, 0 ≤ c → c < N → 0 ≤ gr c ∧ gr c ≤ 4) ∧ (∀ k, 0 ≤ k → k < n → 0 ≤ kd k ∧ kd k ≤ 5)
def okF (N n b : Int) (f : Fl) : Prop :=
  (∀ k, 0 ≤ k → k < n → f (5 + k) = -9 ∨ (0 ≤ f (5 + k) ∧ f (5 + k) < N)) ∧
  (∀ j k, 0 ≤ j → j < k → k < n → f (5 + j) = f (5 + k) → f (5 + j) = -9) ∧
  ((f 1 = -9 ∧ f 2 = -9) ∨ (0 ≤ f 1 ∧ f 1 < n ∧ 0 ≤ f 2 ∧ f 2 < N)) ∧
  ((f 3 = -9 ∧ f 4 = -9) ∨ (0 ≤ f 3 ∧ f 3 < n ∧ 0 ≤ f 4 ∧ f 4 < N)) ∧
  (f 1 = -9 → f 3 = -9) ∧ 0 ≤ f 0 ∧ f 0 ≤ b
end
section
/-! ===== bits (the first rows out of kit/laws/BITS.to-paste) ===== -/
def bt (x : Int32) (i : Nat) : Bool := x.toBitVec.getLsbD i
theorem b_ext {x y : Int32} (h : ∀ i, i < 32 → bt x i = bt y i) : x = y := Int32.toBitVec_inj.mp (BitVec.eq_of_getLsbD_eq (fun i hi => h i hi))
theorem b_or (x y : Int32) (i : Nat) : bt (x ||| y) i = (bt x i || bt y i) := by unfold bt; rw [Int32.toBitVec_or, BitVec.getLsbD_or]
theorem b_and (x y : Int32) (i : Nat) : bt (x &&& y) i = (bt x i && bt y i) := by unfold bt; rw [Int32.toBitVec_and, BitVec.getLsbD_and]
theorem b_xor (x y : Int32) (i : Nat) : bt (x ^^^ y) i = (bt x i ^^ bt y i) := by unfold bt; rw [Int32.toBitVec_xor, BitVec.getLsbD_xor]
theorem b_big {x : Int32} {i : Nat} (h : 32 ≤ i) : bt x i = false := BitVec.getLsbD_of_ge _ _ h
theorem b_m1 : ∀ i, i < 32 → bt (-1) i = true := by decide +kernel
theorem b_0 (i : Nat) : bt 0 i = false := BitVec.getLsbD_zero
theorem s_lb : ∀ n, n < 32 → ((nI n &&& 31).toBitVec.smod 32).toNat = n := by decide +kernel
theorem s_u : ∀ n, n < 32 → (((nI n).toUInt32 &&& Int32.toUInt32 31).toBitVec % 32).toNat = n := by decide +kernel
theorem b_shl (n : Nat) (hn : n < 32) (x : Int32) {i : Nat} (hi : i < 32) : bt (x <<< (nI n &&& 31)) i = (decide (n ≤ i) && bt x (i - n)) := by
  unfold bt
  rw [Int32.toBitVec_shiftLeft]
  show (x.toBitVec <<< ((nI n &&& 31).toBitVec.smod 32).toNat).getLsbD i = _
  rw [s_lb n hn, BitVec.getLsbD_shiftLeft]
  rcases Nat.lt_or_ge i n with h | h
  · simp [h, Nat.not_le.mpr h]
  · simp [hi, h, Nat.not_lt.mpr h]
theorem b_sshr (n : Nat) (hn : n < 32) (x : Int32) {i : Nat} (hi : i < 32) : bt (x >>> (nI n &&& 31)) i = if n + i < 32 then bt x (n + i) else bt x 31 := by
  unfold bt
  rw [Int32.toBitVec_shiftRight]
  show (x.toBitVec.sshiftRight ((nI n &&& 31).toBitVec.smod 32).toNat).getLsbD i = _
  rw [s_lb n hn, BitVec.getLsbD_sshiftRight, BitVec.msb_eq_getLsbD_last]
  simp [hi]
theorem nI_k (n : Nat) : nI n = j_k n := (Int32.ofInt_eq_ofNat).symm
theorem bt_1 : ∀ i, i < 32 → bt 1 i = decide (i = 0) := by decide +kernel
theorem k_m1 : j_k (-1) = -1 := by decide
theorem tb_iff (x : Int32) {c : Int} (h1 : 0 ≤ c) (h2 : c < 32) : ((x >>> (j_k c &&& 31)) &&& j_k 1 = j_k 1) = (bt x c.toNat = true) := by
  obtain ⟨n, rfl⟩ : ∃ n : Nat, c = n := ⟨c.toNat, by omega⟩
  have hn : n < 32 := by omega
  rw [← nI_k, kk1, Int.toNat_natCast]
  have e : bt x n = bt (x >>> (nI n &&& 31)) 0 := by
    rw [b_sshr n hn x (by omega)]
    simp [hn]
  rw [e]
  generalize x >>> (nI n &&& 31) = y
  refine propext ⟨fun h => ?_, fun h => ?_⟩
  · have h3 := congrArg (fun z => bt z 0) h
    simp only [b_and, bt_1 0 (by omega)] at h3
    simpa using h3
  · refine b_ext fun i hi => ?_
    rw [b_and, bt_1 i hi]
    by_cases e : i = 0
    · subst e
      rw [h]
      rfl
    · simp [e]
theorem bt_bit {i c : Int} (h1 : 0 ≤ i) (h2 : i < 32) (h3 : 0 ≤ c) (h4 : c < 32) : bt (j_k 1 <<< (j_k i &&& 31)) c.toNat = decide (c = i) := by
  obtain ⟨n, rfl⟩ : ∃ n : Nat, i = n := ⟨i.toNat, by omega⟩
  obtain ⟨m, rfl⟩ : ∃ m : Nat, c = m := ⟨c.toNat, by omega⟩
  rw [← nI_k, Int.toNat_natCast, b_shl n (by omega) _ (by omega), kk1]
  by_cases e : n ≤ m
  · rw [bt_1 _ (by omega)]
    by_cases e2 : m = n
    · subst e2
      simp
    · have : ¬ m - n = 0 := by omega
      have : ¬ (m : Int) = n := by omega
      simp [*]
  · have : ¬ (m : Int) = n := by omega
    simp [*]
theorem bt_off (x : Int32) {i c : Int} (h1 : 0 ≤ i) (h2 : i < 32) (h3 : 0 ≤ c) (h4 : c < 32) : bt (x &&& ((j_k 1 <<< (j_k i &&& 31)) ^^^ j_k (-1))) c.toNat = (bt x c.toNat && !decide (c = i)) := by
  rw [b_and, b_xor, bt_bit h1 h2 h3 h4, k_m1, b_m1 _ (by omega), Bool.xor_true]
theorem bt_on (x : Int32) {i c : Int} (h1 : 0 ≤ i) (h2 : i < 32) (h3 : 0 ≤ c) (h4 : c < 32) : bt (x ||| (j_k 1 <<< (j_k i &&& 31))) c.toNat = (bt x c.toNat || decide (c = i)) := by
  rw [b_or, bt_bit h1 h2 h3 h4]
theorem or_fin : ∀ k, k < 4 → ∀ s, s < 2 ^ k → nI s ||| (nI 1 <<< (nI k &&& 31)) = nI (s + 2 ^ k) := by decide +kernel
theorem or_set {s k : Int} (h1 : 0 ≤ k) (h2 : k < 4) (h3 : 0 ≤ s) (h4 : s < 2 ^ k.toNat) : j_k s ||| (j_k 1 <<< (j_k k &&& 31)) = j_k (s + 2 ^ k.toNat) := by
  obtain ⟨n, rfl⟩ : ∃ n : Nat, k = n := ⟨k.toNat, by omega⟩
  obtain ⟨m, rfl⟩ : ∃ m : Nat, s = m := ⟨s.toNat, by omega⟩
  rw [Int.toNat_natCast] at h4 ⊢
  have h5 : m < 2 ^ n := by
    have : ((2 : Int) ^ n) = ((2 ^ n : Nat) : Int) := by rw [Int.natCast_pow]; rfl
    rw [this] at h4
    exact Int.ofNat_lt.mp h4
  have h6 := or_fin n (by omega) m h5
  rw [nI_k, nI_k, nI_k, nI_k] at h6
  refine Eq.trans h6 ?_
  congr 1
theorem k_par {a : Int} (h1 : 0 ≤ a) (h2 : a < 2147483648) : j_k a &&& j_k 1 = j_k (a % 2) := by
  obtain ⟨n, rfl⟩ : ∃ n : Nat, a = n := ⟨a.toNat, by omega⟩
  rw [kk1]
  refine b_ext fun i hi => ?_
  have e2 : ((n : Int) % 2) = ((n % 2 : Nat) : Int) := by omega
  rw [b_and, bt_1 i hi, e2, ← nI_k, ← nI_k]
  unfold bt nI
  show ((BitVec.ofNat 32 n).getLsbD i && _) = (BitVec.ofNat 32 (n % 2)).getLsbD i
  rw [BitVec.getLsbD_ofNat, BitVec.getLsbD_ofNat]
  by_cases e : i = 0
  · subst e
    rcases Nat.mod_two_eq_zero_or_one n with h | h <;> simp [h]
  · have : (n % 2).testBit i = false := Nat.testBit_lt_two_pow (Nat.lt_of_lt_of_le (Nat.mod_lt _ (by decide)) (show 2 ^ 1 ≤ 2 ^ i from Nat.pow_le_pow_right (by decide) (by omega)))
    simp [e, this]
end
section
/-! ===== the class's flocks: what they hold; reads ===== -/
def j_z (P : Prop) [Decidable P] : Int32 := if P then j_k 1 else j_k 0
theorem z_0 {P : Prop} [Decidable P] : (j_z P = 0) = ¬ P := by
  unfold j_z
  split
  · exact propext ⟨fun h => absurd h (by decide), fun h => absurd (by assumption) h⟩
  · exact propext ⟨fun _ => by assumption, fun _ => kk0⟩
theorem z_k {P : Prop} [Decidable P] : (j_z P = 0 ∨ j_z P = 1) = True := by
  unfold j_z
  split
  · exact eq_true (Or.inr kk1)
  · exact eq_true (Or.inl kk0)
theorem jc1 {call : Nat → List Value → Sto → Option Rr} {m : Nat} {as : List Value} {σ τ : Sto} {x : Int32} {K : Int32 → Sto → Option Rr} (h : call m as σ = some (some (.int x), τ)) : j_c1 call m as σ K = K x τ := by
  unfold j_c1
  rw [h]
theorem jc2 {call : Nat → List Value → Sto → Option Rr} {m : Nat} {as : List Value} {σ τ : Sto} {x : Int64} {K : Int64 → Sto → Option Rr} (h : call m as σ = some (some (.long x), τ)) : j_c2 call m as σ K = K x τ := by
  unfold j_c2
  rw [h]
theorem jc0 {call : Nat → List Value → Sto → Option Rr} {m : Nat} {as : List Value} {σ τ : Sto} {K : Sto → Option Rr} (h : call m as σ = some (none, τ)) : j_c0 call m as σ K = K τ := by
  unfold j_c0
  rw [h]
/-- what a flock's cells hold -/
def iF (I : Nat → Nat → Int32) (a : Nat) (n : Int) (kd f : Fl) : Prop :=
  I a 3 = j_k n ∧ I a 4 = j_k (f 1) ∧ I a 5 = j_k (f 2) ∧ I a 6 = j_k (f 3) ∧ I a 7 = j_k (f 4) ∧ I a 8 = j_k (f 0) ∧
  (∀ k : Int, 0 ≤ k → k < n → I (a + 1) k.toNat = j_k (kd k)) ∧ (∀ k : Int, 0 ≤ k → k < n → I (a + 2) k.toNat = j_k (f (5 + k))) ∧ (∀ k : Int, 0 ≤ k → k < n → I (a + 3) k.toNat = j_k (f (9 + k))) ∧
  (∀ c : Int, 0 ≤ c → c < 30 → (bt (I a 9) c.toNat = true ↔ ∃ k, 0 ≤ k ∧ k < n ∧ f (5 + k) = c))
/-- nothing but a flock's own cells has changed -/
def fr (a : Nat) (I I' : Nat → Nat → Int32) : Prop := ∀ r, (r < a ∨ a + 4 ≤ r) → I' r = I r
theorem fr.rf {a : Nat} {I : Nat → Nat → Int32} : fr a I I := fun _ _ => rfl
theorem fr.tr {a : Nat} {I I' I'' : Nat → Nat → Int32} (h : fr a I I') (h' : fr a I' I'') : fr a I I'' := fun r hr => (h' r hr).trans (h r hr)
/-- what a ground's cells hold -/
def iG (I : Nat → Nat → Int32) (g : Nat) (w h N : Int) (gr : Fl) : Prop :=
  I g 3 = j_k w ∧ I g 4 = j_k h ∧ I g 5 = j_k N ∧ (∀ c : Int, 0 ≤ c → c < N → I (g + 1) c.toNat = j_k (gr c)) ∧ (∀ c : Int, 0 ≤ c → c < N → I (g + 2) c.toNat = j_k (c % w)) ∧ (∀ c : Int, 0 ≤ c → c < N → I (g + 3) c.toNat = j_k (c / w))
/-- the tables of ways -/
def iT (I : Nat → Nat → Int32) : Prop := (∀ y : Int, 0 ≤ y → y < 4 → I (j_b + 2) y.toNat = j_k (p_dx y)) ∧ (∀ y : Int, 0 ≤ y → y < 4 → I (j_b + 3) y.toNat = j_k (p_dy y))
theorem iG.fr {I I' : Nat → Nat → Int32} {g a : Nat} {w h N : Int} {gr : Fl} (ha : FA a) (hg : GA g) (hf : fr a I I') (hG : iG I g w h N gr) : iG I' g w h N gr := by
  have h1 := (fa_all (L := 0) (p := 0) ha).2.2
  have h2 := (ga_all (L := 0) (p := 0) hg).2.2
  have hd : ∀ b, g ≤ b → b ≤ g + 3 → I' b = I b := by
    have h3 : a ∈ FL := ha
    simp only [FL, List.mem_cons, List.not_mem_nil, or_false] at h3
    intro b hb1 hb2
    refine hf b ?_
    rcases hg with rfl | rfl <;> omega
  unfold iG
  rw [hd g (by omega) (by omega), hd (g + 1) (by omega) (by omega), hd (g + 2) (by omega) (by omega), hd (g + 3) (by omega) (by omega)]
  exact hG
theorem iT.fr {I I' : Nat → Nat → Int32} {a : Nat} (ha : FA a) (hf : fr a I I') (hT : iT I) : iT I' := by
  have h1 := (fa_all (L := 0) (p := 0) ha).2.2
  unfold iT
  rw [hf (j_b + 2) (Or.inr (by show a + 4 ≤ 1000000 + 2; omega)), hf (j_b + 3) (Or.inr (by show a + 4 ≤ 1000000 + 3; omega))]
  exact hT
section FLOCKR
variable {L p a g d : Nat} {I : Nat → Nat → Int32} {J : Nat → Nat → Int64} {n w h N b : Int} {kd f gr : Fl}
theorem s_has (hF : FA a) (hi : iF I a n kd f) (hn : 0 ≤ n) (hn4 : n ≤ 4) {k : Int} (hk1 : -2147483648 ≤ k) (hk2 : k < 2147483648) : j_run (d + 1) 5 [.ref a, .int (j_k k)] (ST L p I J) = some (some (.int (j_z (0 ≤ k ∧ k < n))), ST L p I J) := by
  obtain ⟨e3, e4, e5, e6, e7, e8, ek, ec, eg, ef⟩ := hi
  rw [r_5, t_5_0]
  simp (disch := first | assumption | omega) only [k_add, k_sub, k_mul, k_lt, k_eq, k_lt0, k_0lt, k_eq0, k_nat, k_b0, k_b1, k_z1, k_z0, k_o1, k_o0, Int.reduceEq, Int.reduceLT, Int.reduceLE, Int.reduceAdd, Int.reduceMul, Int.reduceNeg, Bool.false_eq_true, or_true, true_or, or_false, false_or, and_true, true_and, and_false, false_and, not_true_eq_false, not_false_eq_true, ↓reduceIte, z_0, z_k, s_I, s_J, s_uI, s_uJ, f_oc, f_gP0, f_gP1, f_gP2, f_ia0, f_ia1, f_ia2, f_is0, f_is1, f_is2, f_lt, e3]
  unfold j_z
  ((repeat' split) <;> first | rfl | (exfalso; omega))
theorem s_isLost (hF : FA a) (hi : iF I a n kd f) (hn4 : n ≤ 4) (ho : okF N n b f) (hN : N ≤ 30) {k : Int} (hk1 : 0 ≤ k) (hk2 : k < n) : j_run (d + 1) 6 [.ref a, .int (j_k k)] (ST L p I J) = some (some (.int (j_z (f (5 + k) = -9))), ST L p I J) := by
  obtain ⟨e3, e4, e5, e6, e7, e8, ek, ec, eg, ef⟩ := hi
  have hc := ho.1 k hk1 hk2
  rw [r_6, t_6_0]
  simp (disch := first | assumption | omega) only [k_add, k_sub, k_mul, k_lt, k_eq, k_lt0, k_0lt, k_eq0, k_nat, k_b0, k_b1, k_z1, k_z0, k_o1, k_o0, Int.reduceEq, Int.reduceLT, Int.reduceLE, Int.reduceAdd, Int.reduceMul, Int.reduceNeg, Bool.false_eq_true, or_true, true_or, or_false, false_or, and_true, true_and, and_false, false_and, not_true_eq_false, not_false_eq_true, ↓reduceIte, z_0, z_k, s_I, s_J, s_uI, s_uJ, f_oc, f_gP0, f_gP1, f_gP2, f_ia0, f_ia1, f_ia2, f_is0, f_is1, f_is2, f_lt, ec]
  unfold j_z
  ((repeat' split) <;> first | rfl | (exfalso; omega))
theorem s_isIn (hF : FA a) (hi : iF I a n kd f) {c : Int} (hc1 : 0 ≤ c) (hc2 : c < 30) : j_run (d + 1) 7 [.ref a, .int (j_k c)] (ST L p I J) = some (some (.int (if bt (I a 9) c.toNat = true then j_k 1 else j_k 0)), ST L p I J) := by
  obtain ⟨e3, e4, e5, e6, e7, e8, ek, ec, eg, ef⟩ := hi
  rw [r_7, t_7_0]
  simp (disch := first | assumption | omega) only [k_add, k_sub, k_mul, k_lt, k_eq, k_lt0, k_0lt, k_eq0, k_nat, k_b0, k_b1, k_z1, k_z0, k_o1, k_o0, Int.reduceEq, Int.reduceLT, Int.reduceLE, Int.reduceAdd, Int.reduceMul, Int.reduceNeg, Bool.false_eq_true, or_true, true_or, or_false, false_or, and_true, true_and, and_false, false_and, not_true_eq_false, not_false_eq_true, ↓reduceIte, z_0, z_k, s_I, s_J, s_uI, s_uJ, f_oc, f_gP0, f_gP1, f_gP2, f_ia0, f_ia1, f_ia2, f_is0, f_is1, f_is2, f_lt, tb_iff]
  ((repeat' split) <;> first | rfl | (exfalso; omega))
theorem s_isShy (hF : FA a) (hi : iF I a n kd f) (hn4 : n ≤ 4) (hC : okC w h N n gr kd) {k : Int} (hk1 : 0 ≤ k) (hk2 : k < n) : j_run (d + 1) 10 [.ref a, .int (j_k k)] (ST L p I J) = some (some (.int (j_z (p_shy kd k = true))), ST L p I J) := by
  obtain ⟨e3, e4, e5, e6, e7, e8, ek, ec, eg, ef⟩ := hi
  have hc := hC.2.2.2.2.2 k hk1 hk2
  rw [r_10, t_10_0]
  simp (disch := first | assumption | omega) only [k_add, k_sub, k_mul, k_lt, k_eq, k_lt0, k_0lt, k_eq0, k_nat, k_b0, k_b1, k_z1, k_z0, k_o1, k_o0, Int.reduceEq, Int.reduceLT, Int.reduceLE, Int.reduceAdd, Int.reduceMul, Int.reduceNeg, Bool.false_eq_true, or_true, true_or, or_false, false_or, and_true, true_and, and_false, false_and, not_true_eq_false, not_false_eq_true, ↓reduceIte, z_0, z_k, s_I, s_J, s_uI, s_uJ, f_oc, f_gP0, f_gP1, f_gP2, f_ia0, f_ia1, f_ia2, f_is0, f_is1, f_is2, f_lt, ek]
  unfold j_z p_shy
  simp only [decide_eq_true_eq]
  ((repeat' split) <;> first | rfl | (exfalso; omega))
theorem s_isSlow (hF : FA a) (hi : iF I a n kd f) (hn4 : n ≤ 4) (hC : okC w h N n gr kd) {k : Int} (hk1 : 0 ≤ k) (hk2 : k < n) : j_run (d + 1) 11 [.ref a, .int (j_k k)] (ST L p I J) = some (some (.int (j_z (p_slow kd k = true))), ST L p I J) := by
  obtain ⟨e3, e4, e5, e6, e7, e8, ek, ec, eg, ef⟩ := hi
  have hc := hC.2.2.2.2.2 k hk1 hk2
  rw [r_11, t_11_0]
  simp (disch := first | assumption | omega) only [k_add, k_sub, k_mul, k_lt, k_eq, k_lt0, k_0lt, k_eq0, k_nat, k_b0, k_b1, k_z1, k_z0, k_o1, k_o0, Int.reduceEq, Int.reduceLT, Int.reduceLE, Int.reduceAdd, Int.reduceMul, Int.reduceNeg, Bool.false_eq_true, or_true, true_or, or_false, false_or, and_true, true_and, and_false, false_and, not_true_eq_false, not_false_eq_true, ↓reduceIte, z_0, z_k, s_I, s_J, s_uI, s_uJ, f_oc, f_gP0, f_gP1, f_gP2, f_ia0, f_ia1, f_ia2, f_is0, f_is1, f_is2, f_lt, ek]
  unfold j_z p_slow
  simp only [decide_eq_true_eq]
  ((repeat' split) <;> first | rfl | (exfalso; omega))
theorem s_drives (hF : FA a) (hi : iF I a n kd f) : j_run (d + 1) 13 [.ref a] (ST L p I J) = some (some (.int (j_k (4 * n))), ST L p I J) := by
  obtain ⟨e3, e4, e5, e6, e7, e8, ek, ec, eg, ef⟩ := hi
  rw [r_13, t_13_0]
  simp (disch := first | assumption | omega) only [k_add, k_sub, k_mul, k_lt, k_eq, k_lt0, k_0lt, k_eq0, k_nat, k_b0, k_b1, k_z1, k_z0, k_o1, k_o0, Int.reduceEq, Int.reduceLT, Int.reduceLE, Int.reduceAdd, Int.reduceMul, Int.reduceNeg, Bool.false_eq_true, or_true, true_or, or_false, false_or, and_true, true_and, and_false, false_and, not_true_eq_false, not_false_eq_true, ↓reduceIte, z_0, z_k, s_I, s_J, s_uI, s_uJ, f_oc, f_gP0, f_gP1, f_gP2, f_ia0, f_ia1, f_ia2, f_is0, f_is1, f_is2, f_lt, e3]
theorem s_aimOf (hF : FA a) (hi : iF I a n kd f) (hn4 : n ≤ 4) (hC : okC w h N n gr kd) (ho : okF N n b f) (hN : N ≤ 30) {k : Int} (hk1 : 0 ≤ k) (hk2 : k < n) : j_run (d + 1) 21 [.ref a, .int (j_k k)] (ST L p I J) = some (some (.int (j_k (p_aim kd f k))), ST L p I J) := by
  obtain ⟨e3, e4, e5, e6, e7, e8, ek, ec, eg, ef⟩ := hi
  have hc := hC.2.2.2.2.2 k hk1 hk2
  have h3 := ho.2.2.2.1
  rw [r_21, t_21_0]
  simp (disch := first | assumption | omega) only [k_add, k_sub, k_mul, k_lt, k_eq, k_lt0, k_0lt, k_eq0, k_nat, k_b0, k_b1, k_z1, k_z0, k_o1, k_o0, Int.reduceEq, Int.reduceLT, Int.reduceLE, Int.reduceAdd, Int.reduceMul, Int.reduceNeg, Bool.false_eq_true, or_true, true_or, or_false, false_or, and_true, true_and, and_false, false_and, not_true_eq_false, not_false_eq_true, ↓reduceIte, z_0, z_k, s_I, s_J, s_uI, s_uJ, f_oc, f_gP0, f_gP1, f_gP2, f_ia0, f_ia1, f_ia2, f_is0, f_is1, f_is2, f_lt, ek, e6, e5, e7]
  unfold p_aim
  ((repeat' split) <;> first | rfl | (exfalso; omega))
theorem s_lostOnes_l (hF : FA a) (hi : iF I a n kd f) (hn4 : n ≤ 4) (ho : okF N n b f) (hN : N ≤ 30) : ∀ (m M : Nat) (k s : Int), 0 ≤ k → k + m = n → 0 ≤ s → s ≤ k → m < M → j_exec k_14 h_14 (j_run d) M 4 [some (.ref a), some (.int (j_k s)), some (.int (j_k k))] [] (ST L p I J) = some (some (.int (j_k (p_loop (fun k s => if f (5 + k) = -9 then s + 1 else s) m k s))), ST L p I J) := by
  obtain ⟨e3, e4, e5, e6, e7, e8, ek, ec, eg, ef⟩ := hi
  intro m
  induction m with
  | zero =>
    intro M k s h1 h2 h3 h4 hM
    obtain ⟨M, rfl⟩ : ∃ q, M = q + 1 := ⟨M - 1, by omega⟩
    rw [x_exec, t_14_4]
    simp (disch := first | assumption | omega) only [k_add, k_sub, k_mul, k_lt, k_eq, k_lt0, k_0lt, k_eq0, k_nat, k_b0, k_b1, k_z1, k_z0, k_o1, k_o0, Int.reduceEq, Int.reduceLT, Int.reduceLE, Int.reduceAdd, Int.reduceMul, Int.reduceNeg, Bool.false_eq_true, or_true, true_or, or_false, false_or, and_true, true_and, and_false, false_and, not_true_eq_false, not_false_eq_true, ↓reduceIte, z_0, z_k, s_I, s_J, s_uI, s_uJ, f_oc, f_gP0, f_gP1, f_gP2, f_ia0, f_ia1, f_ia2, f_is0, f_is1, f_is2, f_lt, e3]
    rw [if_neg (by omega)]
    rfl
  | succ m ih =>
    intro M k s h1 h2 h3 h4 hM
    obtain ⟨M, rfl⟩ : ∃ q, M = q + 1 := ⟨M - 1, by omega⟩
    have hc := ho.1 k h1 (by omega)
    rw [x_exec, t_14_4]
    simp (disch := first | assumption | omega) only [k_add, k_sub, k_mul, k_lt, k_eq, k_lt0, k_0lt, k_eq0, k_nat, k_b0, k_b1, k_z1, k_z0, k_o1, k_o0, Int.reduceEq, Int.reduceLT, Int.reduceLE, Int.reduceAdd, Int.reduceMul, Int.reduceNeg, Bool.false_eq_true, or_true, true_or, or_false, false_or, and_true, true_and, and_false, false_and, not_true_eq_false, not_false_eq_true, ↓reduceIte, z_0, z_k, s_I, s_J, s_uI, s_uJ, f_oc, f_gP0, f_gP1, f_gP2, f_ia0, f_ia1, f_ia2, f_is0, f_is1, f_is2, f_lt, e3, ec]
    rw [if_pos (by omega), p_loopS]
    split
    · exact ih _ _ _ (by omega) (by omega) (by omega) (by omega) (by omega)
    · exact ih _ _ _ (by omega) (by omega) (by omega) (by omega) (by omega)
theorem s_lostOnes (hF : FA a) (hi : iF I a n kd f) (hn : 0 ≤ n) (hn4 : n ≤ 4) (ho : okF N n b f) (hN : N ≤ 30) : j_run (d + 1) 14 [.ref a] (ST L p I J) = some (some (.int (j_k (p_lost n f))), ST L p I J) := by
  rw [r_14, t_14_0, s_lostOnes_l hF hi hn4 ho hN n.toNat _ 0 0 (by omega) (by omega) (by omega) (by omega) (by omega)]
  rfl
end FLOCKR
end
section
/-! ===== the class's flocks: off, beside, can, move, stirrings ===== -/
theorem fg_apart {a g : Nat} (ha : FA a) (hg : GA g) : a + 3 < g ∨ g + 3 < a := by
  have h3 : a ∈ FL := ha
  simp only [FL, List.mem_cons, List.not_mem_nil, or_false] at h3
  rcases hg with rfl | rfl <;> omega
theorem bd_xy {w h N n c : Int} {gr kd : Fl} (hC : okC w h N n gr kd) (h1 : 0 ≤ c) (h2 : c < N) : 0 ≤ c % w ∧ c % w < w ∧ 0 ≤ c / w ∧ c / w < h ∧ c = w * (c / w) + c % w ∧ 2 ≤ w ∧ w ≤ 6 ∧ 1 ≤ h ∧ h ≤ 5 ∧ N ≤ 30 ∧ c / w < 30 := by
  obtain ⟨hN, hw, -⟩ := hC
  rcases hw with ⟨w1, w2, w3, w4⟩ | ⟨rfl, rfl, -⟩
  · have e1 := Int.emod_nonneg c (show w ≠ 0 by omega)
    have e2 := Int.emod_lt_of_pos c (show 0 < w by omega)
    have e3 : 0 ≤ c / w := Int.ediv_nonneg h1 (by omega)
    have e4 : c / w < h := Int.ediv_lt_of_lt_mul (by omega) (by rw [Int.mul_comm]; omega)
    have e5 := Int.mul_ediv_add_emod c w
    refine ⟨e1, e2, e3, e4, by omega, w1, w2, w3, w4, ?_, by omega⟩
    have : w = 2 ∨ w = 3 ∨ w = 4 ∨ w = 5 ∨ w = 6 := by omega
    rcases this with rfl | rfl | rfl | rfl | rfl <;> omega
  · omega
theorem bd_N {w h N n : Int} {gr kd : Fl} (hC : okC w h N n gr kd) : 0 ≤ N ∧ N ≤ 30 ∧ 0 ≤ w ∧ w ≤ 6 ∧ 0 ≤ h ∧ h ≤ 5 := by
  obtain ⟨hN, hw, -⟩ := hC
  rcases hw with ⟨w1, w2, w3, w4⟩ | ⟨rfl, rfl, -⟩
  · have : w = 2 ∨ w = 3 ∨ w = 4 ∨ w = 5 ∨ w = 6 := by omega
    rcases this with rfl | rfl | rfl | rfl | rfl <;> omega
  · omega
theorem cell_rg {w h x y : Int} (h1 : 0 ≤ x) (h2 : x < w) (h3 : 0 ≤ y) (h4 : y < h) : 0 ≤ w * y + x ∧ w * y + x < w * h := by
  have e1 := Int.mul_nonneg (show 0 ≤ w by omega) h3
  have e2 := Int.mul_le_mul_of_nonneg_left (show y ≤ h - 1 by omega) (show 0 ≤ w by omega)
  rw [Int.mul_sub, Int.mul_one] at e2
  omega
theorem cell_xy {w x y : Int} (h1 : 0 ≤ x) (h2 : x < w) : (w * y + x) % w = x ∧ (w * y + x) / w = y := by
  constructor
  · rw [Int.add_comm, Int.add_mul_emod_self_left, Int.emod_eq_of_lt h1 h2]
  · rw [Int.add_comm, Int.add_mul_ediv_left _ _ (by omega), Int.ediv_eq_zero_of_lt h1 h2, Int.zero_add]
theorem by_rg {w h N n c dx dy : Int} {gr kd : Fl} (hC : okC w h N n gr kd) (h1 : 0 ≤ c) (h2 : c < N) (hd : (dx = 0 ∧ (dy = 1 ∨ dy = -1)) ∨ (dy = 0 ∧ (dx = 1 ∨ dx = -1))) : p_by w h c dx dy = -9 ∨ (0 ≤ p_by w h c dx dy ∧ p_by w h c dx dy < N ∧ p_by w h c dx dy ≠ c) := by
  obtain ⟨b1, b2, b3, b4, b5, b6, b7, b8, b9, b10, b11⟩ := bd_xy hC h1 h2
  unfold p_by
  split
  · rename_i hz
    obtain ⟨z1, z2⟩ := cell_rg hz.1 hz.2.1 hz.2.2.1 hz.2.2.2
    refine Or.inr ⟨z1, by rw [hC.1]; exact z2, fun z => ?_⟩
    have e1 := congrArg (fun t => t % w) z
    have e2 := congrArg (fun t => t / w) z
    simp only [(cell_xy hz.1 hz.2.1).1, (cell_xy hz.1 hz.2.1).2] at e1 e2
    omega
  · exact Or.inl rfl
theorem dxy {y : Int} (h1 : 0 ≤ y) (h2 : y < 4) : (p_dx y = 0 ∧ (p_dy y = 1 ∨ p_dy y = -1)) ∨ (p_dy y = 0 ∧ (p_dx y = 1 ∨ p_dx y = -1)) := by
  unfold p_dx p_dy
  rcases (show y = 0 ∨ y = 1 ∨ y = 2 ∨ y = 3 by omega) with rfl | rfl | rfl | rfl <;> decide
theorem off_rg {w h N n a c : Int} {gr kd : Fl} (hC : okC w h N n gr kd) (h1 : 0 ≤ a) (h2 : a < N) (h3 : 0 ≤ c) (h4 : c < N) : 0 ≤ p_off w a c ∧ p_off w a c < 10 := by
  obtain ⟨b1, b2, b3, b4, b5, b6, b7, b8, b9, b10, b11⟩ := bd_xy hC h1 h2
  obtain ⟨d1, d2, d3, d4, -⟩ := bd_xy hC h3 h4
  unfold p_off p_abs
  constructor
  · split <;> split <;> omega
  · split <;> split <;> omega
theorem first_none {P : Int → Bool} : ∀ (m : Nat) (k : Int), 0 ≤ k → (p_first P m k = -9 ↔ ∀ j, k ≤ j → j < k + m → P j = false)
  | 0, k, h => ⟨fun _ j h1 h2 => by omega, fun _ => rfl⟩
  | m + 1, k, h => by
    rw [p_firstS]
    split
    · rename_i hp
      refine ⟨fun z => by omega, fun z => ?_⟩
      rw [z k (Int.le_refl k) (by omega)] at hp
      cases hp
    · rename_i hp
      rw [first_none m (k + 1) (by omega)]
      refine ⟨fun z j h1 h2 => ?_, fun z j h1 h2 => z j (by omega) (by omega)⟩
      by_cases e : j = k
      · subst e
        exact Bool.eq_false_iff.mpr hp
      · exact z j (by omega) (by omega)
theorem who_none {n c but : Int} {f : Fl} (hn : 0 ≤ n) : p_who n f c but = -9 ↔ ∀ j, 0 ≤ j → j < n → j ≠ but → f (5 + j) ≠ c := by
  unfold p_who
  rw [first_none _ _ (Int.le_refl 0)]
  refine ⟨fun z j h1 h2 h3 h4 => ?_, fun z j h1 h2 => ?_⟩
  · have := z j h1 (by omega)
    simp [h3, h4] at this
  · simp only [decide_eq_false_iff_not]
    exact fun y => z j h1 (by omega) y.1 y.2
section FLOCKW
variable {L p a g d : Nat} {I : Nat → Nat → Int32} {J : Nat → Nat → Int64} {n w h N b : Int} {kd f gr : Fl}
theorem s_off (hg : GA g) (hG : iG I g w h N gr) (hC : okC w h N n gr kd) {x y : Int} (h1 : 0 ≤ x) (h2 : x < N) (h3 : 0 ≤ y) (h4 : y < N) : j_run (d + 1) 37 [.ref g, .int (j_k x), .int (j_k y)] (ST L p I J) = some (some (.int (j_k (p_off w x y))), ST L p I J) := by
  obtain ⟨e3, e4, e5, e1, e2, e6⟩ := hG
  obtain ⟨b1, b2, b3, b4, b5, b6, b7, b8, b9, b10, b11⟩ := bd_xy hC h1 h2
  obtain ⟨d1, d2, d3, d4, d5, -⟩ := bd_xy hC h3 h4
  rw [r_37, t_37_0]
  simp (disch := first | assumption | omega) only [k_add, k_sub, k_mul, k_lt, k_eq, k_lt0, k_0lt, k_eq0, k_nat, k_b0, k_b1, k_z1, k_z0, k_o1, k_o0, Int.reduceEq, Int.reduceLT, Int.reduceLE, Int.reduceAdd, Int.reduceMul, Int.reduceNeg, Bool.false_eq_true, or_true, true_or, or_false, false_or, and_true, true_and, and_false, false_and, not_true_eq_false, not_false_eq_true, ↓reduceIte, z_0, z_k, s_I, s_J, s_uI, s_uJ, g_oc, g_gP0, g_gP1, g_gP2, g_ia0, g_ia1, g_ia2, g_is0, g_is1, g_is2, g_lt, e2, e6, k_abs]
  rfl
theorem s_isOpen (hg : GA g) (hG : iG I g w h N gr) (hC : okC w h N n gr kd) {x : Int} (h1 : 0 ≤ x) (h2 : x < N) : j_run (d + 1) 36 [.ref g, .int (j_k x)] (ST L p I J) = some (some (.int (j_z (gr x ≠ 1 ∧ gr x ≠ 2))), ST L p I J) := by
  obtain ⟨e3, e4, e5, e1, e2, e6⟩ := hG
  obtain ⟨b1, b2, b3, b4, b5, b6, b7, b8, b9, b10, b11⟩ := bd_xy hC h1 h2
  have hc := hC.2.2.2.2.1 x h1 h2
  rw [r_36, t_36_0]
  simp (disch := first | assumption | omega) only [k_add, k_sub, k_mul, k_lt, k_eq, k_lt0, k_0lt, k_eq0, k_nat, k_b0, k_b1, k_z1, k_z0, k_o1, k_o0, Int.reduceEq, Int.reduceLT, Int.reduceLE, Int.reduceAdd, Int.reduceMul, Int.reduceNeg, Bool.false_eq_true, or_true, true_or, or_false, false_or, and_true, true_and, and_false, false_and, not_true_eq_false, not_false_eq_true, ↓reduceIte, z_0, z_k, s_I, s_J, s_uI, s_uJ, g_oc, g_gP0, g_gP1, g_gP2, g_ia0, g_ia1, g_ia2, g_is0, g_is1, g_is2, g_lt, e1]
  unfold j_z
  ((repeat' split) <;> first | rfl | (exfalso; omega))
theorem s_beside (hg : GA g) (hG : iG I g w h N gr) (hT : iT I) (hC : okC w h N n gr kd) {x y : Int} (h1 : 0 ≤ x) (h2 : x < N) (h3 : 0 ≤ y) (h4 : y < 4) : j_run (d + 1) 38 [.ref g, .int (j_k x), .int (j_k y)] (ST L p I J) = some (some (.int (j_k (p_by w h x (p_dx y) (p_dy y)))), ST L p I J) := by
  obtain ⟨e3, e4, e5, e1, e2, e6⟩ := hG
  obtain ⟨t1, t2⟩ := hT
  obtain ⟨b1, b2, b3, b4, b5, b6, b7, b8, b9, b10, b11⟩ := bd_xy hC h1 h2
  have hd := dxy h3 h4
  rw [r_38, t_38_0]
  simp (disch := first | assumption | omega) only [k_add, k_sub, k_mul, k_lt, k_eq, k_lt0, k_0lt, k_eq0, k_nat, k_b0, k_b1, k_z1, k_z0, k_o1, k_o0, Int.reduceEq, Int.reduceLT, Int.reduceLE, Int.reduceAdd, Int.reduceMul, Int.reduceNeg, Bool.false_eq_true, or_true, true_or, or_false, false_or, and_true, true_and, and_false, false_and, not_true_eq_false, not_false_eq_true, ↓reduceIte, z_0, z_k, s_I, s_J, s_uI, s_uJ, g_oc, g_gP0, g_gP1, g_gP2, g_ia0, g_ia1, g_ia2, g_is0, g_is1, g_is2, g_lt, e2, e6, e3, e4, t1, t2, c_ia_b2, c_ia_b3]
  unfold p_by
  rw [Int.mul_comm w]
  ((repeat' split) <;> first | rfl | (exfalso; omega))
theorem s_can (hF : FA a) (hg : GA g) (hi : iF I a n kd f) (hG : iG I g w h N gr) (hC : okC w h N n gr kd) {k c : Int} {gate : Bool} (h1 : 0 ≤ k) (h2 : k < n) (hc : c = -9 ∨ (0 ≤ c ∧ c < N ∧ c ≠ f (5 + k))) : j_run (d + 1) 22 [.ref a, .ref g, .int (j_k k), .int (j_k c), .int (j_z (gate = true))] (ST L p I J) = some (some (.int (j_z (p_try gr n kd f k c gate ≠ -9))), ST L p I J) := by
  obtain ⟨e3, e4, e5, e6, e7, e8, ek, ec, eg, ef⟩ := hi
  obtain ⟨g3, g4, g5, g1, g2, g6⟩ := hG
  obtain ⟨b1, b2, -⟩ := bd_N hC
  have hn := hC.2.2.1
  have hn4 := hC.2.2.2.1
  have hk := hC.2.2.2.2.2 k h1 h2
  rw [r_22, t_22_0]
  rcases hc with rfl | ⟨c1, c2, c3⟩
  · simp (disch := first | assumption | omega) only [k_add, k_sub, k_mul, k_lt, k_eq, k_lt0, k_0lt, k_eq0, k_nat, k_b0, k_b1, k_z1, k_z0, k_o1, k_o0, Int.reduceEq, Int.reduceLT, Int.reduceLE, Int.reduceAdd, Int.reduceMul, Int.reduceNeg, Bool.false_eq_true, or_true, true_or, or_false, false_or, and_true, true_and, and_false, false_and, not_true_eq_false, not_false_eq_true, ↓reduceIte, z_0, z_k, s_I, s_J, s_uI, s_uJ, p_try]
    rfl
  · have hgc := hC.2.2.2.2.1 c c1 c2
    have hw : (bt (I a 9) c.toNat = true) = ¬ (p_who n f c k = -9) := by
      rw [propext (ef c c1 (by omega)), propext (who_none hn)]
      refine propext ⟨fun ⟨j, j1, j2, j3⟩ z => z j j1 j2 (fun e => c3 (by rw [← e]; exact j3.symm)) j3, fun z => ?_⟩
      refine Classical.byContradiction fun y => z fun j j1 j2 j3 j4 => y ⟨j, j1, j2, j4⟩
    simp (disch := first | assumption | omega) only [k_add, k_sub, k_mul, k_lt, k_eq, k_lt0, k_0lt, k_eq0, k_nat, k_b0, k_b1, k_z1, k_z0, k_o1, k_o0, Int.reduceEq, Int.reduceLT, Int.reduceLE, Int.reduceAdd, Int.reduceMul, Int.reduceNeg, Bool.false_eq_true, or_true, true_or, or_false, false_or, and_true, true_and, and_false, false_and, not_true_eq_false, not_false_eq_true, ↓reduceIte, z_0, z_k, s_I, s_J, s_uI, s_uJ, f_oc, f_gP0, f_gP1, f_gP2, f_ia0, f_ia1, f_ia2, f_is0, f_is1, f_is2, f_lt, g_oc, g_gP0, g_gP1, g_gP2, g_ia0, g_ia1, g_ia2, g_is0, g_is1, g_is2, g_lt, g1, ek, tb_iff, hw]
    unfold p_try p_can j_z
    simp only [decide_eq_true_eq]
    have e9 : ¬ c = -9 := by omega
    rw [if_neg e9]
    by_cases q1 : gr c = 1
    · have : ¬ gr c = 4 := by omega
      simp [q1]
    · by_cases q2 : p_who n f c k = -9
      · by_cases q3 : gr c = 4
        · by_cases q4 : kd k = 4
          · simp [q2, q3, q4]
          · cases gate <;> simp [q2, q3, q4, e9]
        · simp [q1, q2, q3, e9]
      · simp [q1, q2]
end FLOCKW
end
section
/-! ===== the class's flocks: writes ===== -/
theorem bl_hi {f : Fl} {k c i : Int} (hi : 5 ≤ i) : p_bl f k c i = f i := by
  unfold p_bl p_set
  rw [if_neg (by omega), if_neg (by omega), if_neg (by omega), if_neg (by omega)]
theorem bl_0 {f : Fl} {k c : Int} : p_bl f k c 0 = f 0 := rfl
theorem bl_1 {f : Fl} {k c : Int} : p_bl f k c 1 = k := rfl
theorem bl_2 {f : Fl} {k c : Int} : p_bl f k c 2 = c := rfl
theorem bl_3 {f : Fl} {k c : Int} : p_bl f k c 3 = f 1 := rfl
theorem bl_4 {f : Fl} {k c : Int} : p_bl f k c 4 = f 2 := rfl
theorem gt_c {gr f : Fl} {k c j : Int} (h1 : 0 ≤ k) (h3 : 0 ≤ j) (h4 : j < 4) : p_goTo gr f k c (5 + j) = if j = k then (if gr c = 2 then -9 else c) else f (5 + j) := by
  unfold p_goTo p_set
  rw [if_neg (by omega)]
  by_cases e : j = k
  · rw [if_pos (by omega), if_pos e]
  · rw [if_neg (by omega), if_neg e]
theorem gt_w {gr f : Fl} {k c j : Int} (h2 : k < 4) (h3 : 0 ≤ j) : p_goTo gr f k c (9 + j) = if j = k then f (9 + k) + 1 else f (9 + j) := by
  unfold p_goTo p_set
  by_cases e : j = k
  · rw [if_pos (by omega), if_pos e]
  · rw [if_neg (by omega), if_neg (by omega), if_neg e]
theorem gt_l {gr f : Fl} {k c i : Int} (h1 : 0 ≤ k) (h2 : i < 5) : p_goTo gr f k c i = f i := by
  unfold p_goTo p_set
  rw [if_neg (by omega), if_neg (by omega)]
section FLOCKX
variable {L p a g d : Nat} {I : Nat → Nat → Int32} {J : Nat → Nat → Int64} {n w h N b : Int} {kd f gr : Fl}
theorem s_becomesLast (hF : FA a) (hi : iF I a n kd f) {k c : Int} : ∃ I', j_run (d + 1) 24 [.ref a, .int (j_k k), .int (j_k c)] (ST L p I J) = some (none, ST L p I' J) ∧ iF I' a n kd (p_bl f k c) ∧ fr a I I' := by
  obtain ⟨e3, e4, e5, e6, e7, e8, ek, ec, eg, ef⟩ := hi
  have e := (r_24 d (ST L p I J) a (j_k k) (j_k c)).trans (t_24_0 _ _ _ _ _ _)
  simp (disch := first | assumption | omega) only [k_add, k_sub, k_mul, k_lt, k_eq, k_lt0, k_0lt, k_eq0, k_nat, k_b0, k_b1, k_z1, k_z0, k_o1, k_o0, Int.reduceEq, Int.reduceLT, Int.reduceLE, Int.reduceAdd, Int.reduceMul, Int.reduceNeg, Bool.false_eq_true, or_true, true_or, or_false, false_or, and_true, true_and, and_false, false_and, not_true_eq_false, not_false_eq_true, ↓reduceIte, z_0, z_k, s_I, s_J, s_uI, s_uJ, f_oc, f_gP0, f_gP1, f_gP2, f_ia0, f_ia1, f_ia2, f_is0, f_is1, f_is2, f_lt, u2_ss, u2_k, u2_r, e4, e5] at e
  refine ⟨_, e, ⟨?_, ?_, ?_, ?_, ?_, ?_, fun j h1 h2 => ?_, fun j h1 h2 => ?_, fun j h1 h2 => ?_, fun c h1 h2 => ?_⟩, fun r hr => ?_⟩
  · simp (disch := first | assumption | omega) only [k_add, k_sub, k_mul, k_lt, k_eq, k_lt0, k_0lt, k_eq0, k_nat, k_b0, k_b1, k_z1, k_z0, k_o1, k_o0, Int.reduceEq, Int.reduceLT, Int.reduceLE, Int.reduceAdd, Int.reduceMul, Int.reduceNeg, Bool.false_eq_true, or_true, true_or, or_false, false_or, and_true, true_and, and_false, false_and, not_true_eq_false, not_false_eq_true, ↓reduceIte, z_0, z_k, s_I, s_J, s_uI, s_uJ, u2_ss, u2_k, u2_r, e3]
  · simp (disch := first | assumption | omega) only [k_add, k_sub, k_mul, k_lt, k_eq, k_lt0, k_0lt, k_eq0, k_nat, k_b0, k_b1, k_z1, k_z0, k_o1, k_o0, Int.reduceEq, Int.reduceLT, Int.reduceLE, Int.reduceAdd, Int.reduceMul, Int.reduceNeg, Bool.false_eq_true, or_true, true_or, or_false, false_or, and_true, true_and, and_false, false_and, not_true_eq_false, not_false_eq_true, ↓reduceIte, z_0, z_k, s_I, s_J, s_uI, s_uJ, u2_ss, u2_k, u2_r, bl_1]
  · simp (disch := first | assumption | omega) only [k_add, k_sub, k_mul, k_lt, k_eq, k_lt0, k_0lt, k_eq0, k_nat, k_b0, k_b1, k_z1, k_z0, k_o1, k_o0, Int.reduceEq, Int.reduceLT, Int.reduceLE, Int.reduceAdd, Int.reduceMul, Int.reduceNeg, Bool.false_eq_true, or_true, true_or, or_false, false_or, and_true, true_and, and_false, false_and, not_true_eq_false, not_false_eq_true, ↓reduceIte, z_0, z_k, s_I, s_J, s_uI, s_uJ, u2_ss, u2_k, u2_r, bl_2]
  · simp (disch := first | assumption | omega) only [k_add, k_sub, k_mul, k_lt, k_eq, k_lt0, k_0lt, k_eq0, k_nat, k_b0, k_b1, k_z1, k_z0, k_o1, k_o0, Int.reduceEq, Int.reduceLT, Int.reduceLE, Int.reduceAdd, Int.reduceMul, Int.reduceNeg, Bool.false_eq_true, or_true, true_or, or_false, false_or, and_true, true_and, and_false, false_and, not_true_eq_false, not_false_eq_true, ↓reduceIte, z_0, z_k, s_I, s_J, s_uI, s_uJ, u2_ss, u2_k, u2_r, bl_3]
  · simp (disch := first | assumption | omega) only [k_add, k_sub, k_mul, k_lt, k_eq, k_lt0, k_0lt, k_eq0, k_nat, k_b0, k_b1, k_z1, k_z0, k_o1, k_o0, Int.reduceEq, Int.reduceLT, Int.reduceLE, Int.reduceAdd, Int.reduceMul, Int.reduceNeg, Bool.false_eq_true, or_true, true_or, or_false, false_or, and_true, true_and, and_false, false_and, not_true_eq_false, not_false_eq_true, ↓reduceIte, z_0, z_k, s_I, s_J, s_uI, s_uJ, u2_ss, u2_k, u2_r, bl_4]
  · simp (disch := first | assumption | omega) only [k_add, k_sub, k_mul, k_lt, k_eq, k_lt0, k_0lt, k_eq0, k_nat, k_b0, k_b1, k_z1, k_z0, k_o1, k_o0, Int.reduceEq, Int.reduceLT, Int.reduceLE, Int.reduceAdd, Int.reduceMul, Int.reduceNeg, Bool.false_eq_true, or_true, true_or, or_false, false_or, and_true, true_and, and_false, false_and, not_true_eq_false, not_false_eq_true, ↓reduceIte, z_0, z_k, s_I, s_J, s_uI, s_uJ, u2_ss, u2_k, u2_r, e8, bl_0]
  · simp (disch := first | assumption | omega) only [k_add, k_sub, k_mul, k_lt, k_eq, k_lt0, k_0lt, k_eq0, k_nat, k_b0, k_b1, k_z1, k_z0, k_o1, k_o0, Int.reduceEq, Int.reduceLT, Int.reduceLE, Int.reduceAdd, Int.reduceMul, Int.reduceNeg, Bool.false_eq_true, or_true, true_or, or_false, false_or, and_true, true_and, and_false, false_and, not_true_eq_false, not_false_eq_true, ↓reduceIte, z_0, z_k, s_I, s_J, s_uI, s_uJ, u2_ss, u2_k, u2_r, ek]
  · simp (disch := first | assumption | omega) only [k_add, k_sub, k_mul, k_lt, k_eq, k_lt0, k_0lt, k_eq0, k_nat, k_b0, k_b1, k_z1, k_z0, k_o1, k_o0, Int.reduceEq, Int.reduceLT, Int.reduceLE, Int.reduceAdd, Int.reduceMul, Int.reduceNeg, Bool.false_eq_true, or_true, true_or, or_false, false_or, and_true, true_and, and_false, false_and, not_true_eq_false, not_false_eq_true, ↓reduceIte, z_0, z_k, s_I, s_J, s_uI, s_uJ, u2_ss, u2_k, u2_r, ec, bl_hi]
  · simp (disch := first | assumption | omega) only [k_add, k_sub, k_mul, k_lt, k_eq, k_lt0, k_0lt, k_eq0, k_nat, k_b0, k_b1, k_z1, k_z0, k_o1, k_o0, Int.reduceEq, Int.reduceLT, Int.reduceLE, Int.reduceAdd, Int.reduceMul, Int.reduceNeg, Bool.false_eq_true, or_true, true_or, or_false, false_or, and_true, true_and, and_false, false_and, not_true_eq_false, not_false_eq_true, ↓reduceIte, z_0, z_k, s_I, s_J, s_uI, s_uJ, u2_ss, u2_k, u2_r, eg, bl_hi]
  · rw [u2_k (by decide), u2_k (by decide), u2_k (by decide), u2_k (by decide), ef c h1 h2]
    refine exists_congr fun j => ?_
    by_cases hj : 0 ≤ j
    · rw [bl_hi (by omega)]
    · simp [hj]
  · funext i
    simp (disch := first | assumption | omega) only [k_add, k_sub, k_mul, k_lt, k_eq, k_lt0, k_0lt, k_eq0, k_nat, k_b0, k_b1, k_z1, k_z0, k_o1, k_o0, Int.reduceEq, Int.reduceLT, Int.reduceLE, Int.reduceAdd, Int.reduceMul, Int.reduceNeg, Bool.false_eq_true, or_true, true_or, or_false, false_or, and_true, true_and, and_false, false_and, not_true_eq_false, not_false_eq_true, ↓reduceIte, z_0, z_k, s_I, s_J, s_uI, s_uJ, u2_r]
theorem s_move (hF : FA a) (hg : GA g) (hi : iF I a n kd f) (hG : iG I g w h N gr) (hC : okC w h N n gr kd) (ho : okF N n b f) {k c : Int} (h1 : 0 ≤ k) (h2 : k < n) (hl : f (5 + k) ≠ -9) (c1 : 0 ≤ c) (c2 : c < N) : ∃ I', j_run (d + 1) 23 [.ref a, .ref g, .int (j_k k), .int (j_k c)] (ST L p I J) = some (none, ST L p I' J) ∧ iF I' a n kd (p_goTo gr f k c) ∧ fr a I I' := by
  obtain ⟨e3, e4, e5, e6, e7, e8, ek, ec, eg, ef⟩ := hi
  obtain ⟨g3, g4, g5, g1, g2, g6⟩ := hG
  obtain ⟨b1, b2, -⟩ := bd_N hC
  have hn4 := hC.2.2.2.1
  have hgc := hC.2.2.2.2.1 c c1 c2
  have hk := (ho.1 k h1 h2).resolve_left hl
  have hap := fg_apart hF hg
  have hdis := ho.2.1
  have e := (r_23 d (ST L p I J) a g (j_k k) (j_k c)).trans (t_23_0 _ _ _ _ _ _ _)
  by_cases hw : gr c = 2
  · simp (disch := first | assumption | omega) only [k_add, k_sub, k_mul, k_lt, k_eq, k_lt0, k_0lt, k_eq0, k_nat, k_b0, k_b1, k_z1, k_z0, k_o1, k_o0, Int.reduceEq, Int.reduceLT, Int.reduceLE, Int.reduceAdd, Int.reduceMul, Int.reduceNeg, Bool.false_eq_true, or_true, true_or, or_false, false_or, and_true, true_and, and_false, false_and, not_true_eq_false, not_false_eq_true, ↓reduceIte, z_0, z_k, s_I, s_J, s_uI, s_uJ, f_oc, f_gP0, f_gP1, f_gP2, f_ia0, f_ia1, f_ia2, f_is0, f_is1, f_is2, f_lt, g_oc, g_gP0, g_gP1, g_gP2, g_ia0, g_ia1, g_ia2, g_is0, g_is1, g_is2, g_lt, u2_ss, u2_k, u2_r, ec, g1, hw, eg] at e
    refine ⟨_, e, ⟨?_, ?_, ?_, ?_, ?_, ?_, fun j q1 q2 => ?_, fun j q1 q2 => ?_, fun j q1 q2 => ?_, fun q q1 q2 => ?_⟩, fun r hr => ?_⟩
    · simp (disch := first | assumption | omega) only [k_add, k_sub, k_mul, k_lt, k_eq, k_lt0, k_0lt, k_eq0, k_nat, k_b0, k_b1, k_z1, k_z0, k_o1, k_o0, Int.reduceEq, Int.reduceLT, Int.reduceLE, Int.reduceAdd, Int.reduceMul, Int.reduceNeg, Bool.false_eq_true, or_true, true_or, or_false, false_or, and_true, true_and, and_false, false_and, not_true_eq_false, not_false_eq_true, ↓reduceIte, z_0, z_k, s_I, s_J, s_uI, s_uJ, u2_ss, u2_k, u2_r, e3]
    · simp (disch := first | assumption | omega) only [k_add, k_sub, k_mul, k_lt, k_eq, k_lt0, k_0lt, k_eq0, k_nat, k_b0, k_b1, k_z1, k_z0, k_o1, k_o0, Int.reduceEq, Int.reduceLT, Int.reduceLE, Int.reduceAdd, Int.reduceMul, Int.reduceNeg, Bool.false_eq_true, or_true, true_or, or_false, false_or, and_true, true_and, and_false, false_and, not_true_eq_false, not_false_eq_true, ↓reduceIte, z_0, z_k, s_I, s_J, s_uI, s_uJ, u2_ss, u2_k, u2_r, e4, gt_l]
    · simp (disch := first | assumption | omega) only [k_add, k_sub, k_mul, k_lt, k_eq, k_lt0, k_0lt, k_eq0, k_nat, k_b0, k_b1, k_z1, k_z0, k_o1, k_o0, Int.reduceEq, Int.reduceLT, Int.reduceLE, Int.reduceAdd, Int.reduceMul, Int.reduceNeg, Bool.false_eq_true, or_true, true_or, or_false, false_or, and_true, true_and, and_false, false_and, not_true_eq_false, not_false_eq_true, ↓reduceIte, z_0, z_k, s_I, s_J, s_uI, s_uJ, u2_ss, u2_k, u2_r, e5, gt_l]
    · simp (disch := first | assumption | omega) only [k_add, k_sub, k_mul, k_lt, k_eq, k_lt0, k_0lt, k_eq0, k_nat, k_b0, k_b1, k_z1, k_z0, k_o1, k_o0, Int.reduceEq, Int.reduceLT, Int.reduceLE, Int.reduceAdd, Int.reduceMul, Int.reduceNeg, Bool.false_eq_true, or_true, true_or, or_false, false_or, and_true, true_and, and_false, false_and, not_true_eq_false, not_false_eq_true, ↓reduceIte, z_0, z_k, s_I, s_J, s_uI, s_uJ, u2_ss, u2_k, u2_r, e6, gt_l]
    · simp (disch := first | assumption | omega) only [k_add, k_sub, k_mul, k_lt, k_eq, k_lt0, k_0lt, k_eq0, k_nat, k_b0, k_b1, k_z1, k_z0, k_o1, k_o0, Int.reduceEq, Int.reduceLT, Int.reduceLE, Int.reduceAdd, Int.reduceMul, Int.reduceNeg, Bool.false_eq_true, or_true, true_or, or_false, false_or, and_true, true_and, and_false, false_and, not_true_eq_false, not_false_eq_true, ↓reduceIte, z_0, z_k, s_I, s_J, s_uI, s_uJ, u2_ss, u2_k, u2_r, e7, gt_l]
    · simp (disch := first | assumption | omega) only [k_add, k_sub, k_mul, k_lt, k_eq, k_lt0, k_0lt, k_eq0, k_nat, k_b0, k_b1, k_z1, k_z0, k_o1, k_o0, Int.reduceEq, Int.reduceLT, Int.reduceLE, Int.reduceAdd, Int.reduceMul, Int.reduceNeg, Bool.false_eq_true, or_true, true_or, or_false, false_or, and_true, true_and, and_false, false_and, not_true_eq_false, not_false_eq_true, ↓reduceIte, z_0, z_k, s_I, s_J, s_uI, s_uJ, u2_ss, u2_k, u2_r, e8, gt_l]
    · simp (disch := first | assumption | omega) only [k_add, k_sub, k_mul, k_lt, k_eq, k_lt0, k_0lt, k_eq0, k_nat, k_b0, k_b1, k_z1, k_z0, k_o1, k_o0, Int.reduceEq, Int.reduceLT, Int.reduceLE, Int.reduceAdd, Int.reduceMul, Int.reduceNeg, Bool.false_eq_true, or_true, true_or, or_false, false_or, and_true, true_and, and_false, false_and, not_true_eq_false, not_false_eq_true, ↓reduceIte, z_0, z_k, s_I, s_J, s_uI, s_uJ, u2_ss, u2_k, u2_r, ek]
    · rw [gt_c h1 q1 (by omega)]
      by_cases z : j = k
      · subst z
        simp (disch := first | assumption | omega) only [k_add, k_sub, k_mul, k_lt, k_eq, k_lt0, k_0lt, k_eq0, k_nat, k_b0, k_b1, k_z1, k_z0, k_o1, k_o0, Int.reduceEq, Int.reduceLT, Int.reduceLE, Int.reduceAdd, Int.reduceMul, Int.reduceNeg, Bool.false_eq_true, or_true, true_or, or_false, false_or, and_true, true_and, and_false, false_and, not_true_eq_false, not_false_eq_true, ↓reduceIte, z_0, z_k, s_I, s_J, s_uI, s_uJ, u2_ss, u2_k, u2_r, hw]
      · simp (disch := first | assumption | omega) only [k_add, k_sub, k_mul, k_lt, k_eq, k_lt0, k_0lt, k_eq0, k_nat, k_b0, k_b1, k_z1, k_z0, k_o1, k_o0, Int.reduceEq, Int.reduceLT, Int.reduceLE, Int.reduceAdd, Int.reduceMul, Int.reduceNeg, Bool.false_eq_true, or_true, true_or, or_false, false_or, and_true, true_and, and_false, false_and, not_true_eq_false, not_false_eq_true, ↓reduceIte, z_0, z_k, s_I, s_J, s_uI, s_uJ, u2_ss, u2_k, u2_r, ec, z]
    · rw [gt_w (by omega) q1]
      by_cases z : j = k
      · subst z
        simp (disch := first | assumption | omega) only [k_add, k_sub, k_mul, k_lt, k_eq, k_lt0, k_0lt, k_eq0, k_nat, k_b0, k_b1, k_z1, k_z0, k_o1, k_o0, Int.reduceEq, Int.reduceLT, Int.reduceLE, Int.reduceAdd, Int.reduceMul, Int.reduceNeg, Bool.false_eq_true, or_true, true_or, or_false, false_or, and_true, true_and, and_false, false_and, not_true_eq_false, not_false_eq_true, ↓reduceIte, z_0, z_k, s_I, s_J, s_uI, s_uJ, u2_ss, u2_k, u2_r, eg]
      · simp (disch := first | assumption | omega) only [k_add, k_sub, k_mul, k_lt, k_eq, k_lt0, k_0lt, k_eq0, k_nat, k_b0, k_b1, k_z1, k_z0, k_o1, k_o0, Int.reduceEq, Int.reduceLT, Int.reduceLE, Int.reduceAdd, Int.reduceMul, Int.reduceNeg, Bool.false_eq_true, or_true, true_or, or_false, false_or, and_true, true_and, and_false, false_and, not_true_eq_false, not_false_eq_true, ↓reduceIte, z_0, z_k, s_I, s_J, s_uI, s_uJ, u2_ss, u2_k, u2_r, eg, z]
    · simp (disch := first | assumption | omega) only [k_add, k_sub, k_mul, k_lt, k_eq, k_lt0, k_0lt, k_eq0, k_nat, k_b0, k_b1, k_z1, k_z0, k_o1, k_o0, Int.reduceEq, Int.reduceLT, Int.reduceLE, Int.reduceAdd, Int.reduceMul, Int.reduceNeg, Bool.false_eq_true, or_true, true_or, or_false, false_or, and_true, true_and, and_false, false_and, not_true_eq_false, not_false_eq_true, ↓reduceIte, z_0, z_k, s_I, s_J, s_uI, s_uJ, u2_ss, u2_k, u2_r]
      rw [bt_off _ (by omega) (by omega) q1 (by omega), Bool.and_eq_true, ef q q1 q2]
      simp only [Bool.not_eq_true', decide_eq_false_iff_not]
      constructor
      · rintro ⟨⟨j, j1, j2, j3⟩, j4⟩
        refine ⟨j, j1, j2, ?_⟩
        rw [gt_c h1 j1 (by omega), if_neg (fun z => j4 (by rw [← j3, z]))]
        exact j3
      · rintro ⟨j, j1, j2, j3⟩
        rw [gt_c h1 j1 (by omega)] at j3
        by_cases z : j = k
        · rw [if_pos z, if_pos hw] at j3
          omega
        · rw [if_neg z] at j3
          refine ⟨⟨j, j1, j2, j3⟩, fun y => ?_⟩
          rcases Int.lt_or_gt_of_ne z with z | z
          · exact absurd (hdis j k j1 z h2 (by omega)) (by omega)
          · exact absurd (hdis k j h1 z j2 (by omega)) (by omega)
    · funext i
      simp (disch := first | assumption | omega) only [k_add, k_sub, k_mul, k_lt, k_eq, k_lt0, k_0lt, k_eq0, k_nat, k_b0, k_b1, k_z1, k_z0, k_o1, k_o0, Int.reduceEq, Int.reduceLT, Int.reduceLE, Int.reduceAdd, Int.reduceMul, Int.reduceNeg, Bool.false_eq_true, or_true, true_or, or_false, false_or, and_true, true_and, and_false, false_and, not_true_eq_false, not_false_eq_true, ↓reduceIte, z_0, z_k, s_I, s_J, s_uI, s_uJ, u2_r]
  · simp (disch := first | assumption | omega) only [k_add, k_sub, k_mul, k_lt, k_eq, k_lt0, k_0lt, k_eq0, k_nat, k_b0, k_b1, k_z1, k_z0, k_o1, k_o0, Int.reduceEq, Int.reduceLT, Int.reduceLE, Int.reduceAdd, Int.reduceMul, Int.reduceNeg, Bool.false_eq_true, or_true, true_or, or_false, false_or, and_true, true_and, and_false, false_and, not_true_eq_false, not_false_eq_true, ↓reduceIte, z_0, z_k, s_I, s_J, s_uI, s_uJ, f_oc, f_gP0, f_gP1, f_gP2, f_ia0, f_ia1, f_ia2, f_is0, f_is1, f_is2, f_lt, g_oc, g_gP0, g_gP1, g_gP2, g_ia0, g_ia1, g_ia2, g_is0, g_is1, g_is2, g_lt, u2_ss, u2_k, u2_r, ec, g1, hw, eg] at e
    refine ⟨_, e, ⟨?_, ?_, ?_, ?_, ?_, ?_, fun j q1 q2 => ?_, fun j q1 q2 => ?_, fun j q1 q2 => ?_, fun q q1 q2 => ?_⟩, fun r hr => ?_⟩
    · simp (disch := first | assumption | omega) only [k_add, k_sub, k_mul, k_lt, k_eq, k_lt0, k_0lt, k_eq0, k_nat, k_b0, k_b1, k_z1, k_z0, k_o1, k_o0, Int.reduceEq, Int.reduceLT, Int.reduceLE, Int.reduceAdd, Int.reduceMul, Int.reduceNeg, Bool.false_eq_true, or_true, true_or, or_false, false_or, and_true, true_and, and_false, false_and, not_true_eq_false, not_false_eq_true, ↓reduceIte, z_0, z_k, s_I, s_J, s_uI, s_uJ, u2_ss, u2_k, u2_r, e3]
    · simp (disch := first | assumption | omega) only [k_add, k_sub, k_mul, k_lt, k_eq, k_lt0, k_0lt, k_eq0, k_nat, k_b0, k_b1, k_z1, k_z0, k_o1, k_o0, Int.reduceEq, Int.reduceLT, Int.reduceLE, Int.reduceAdd, Int.reduceMul, Int.reduceNeg, Bool.false_eq_true, or_true, true_or, or_false, false_or, and_true, true_and, and_false, false_and, not_true_eq_false, not_false_eq_true, ↓reduceIte, z_0, z_k, s_I, s_J, s_uI, s_uJ, u2_ss, u2_k, u2_r, e4, gt_l]
    · simp (disch := first | assumption | omega) only [k_add, k_sub, k_mul, k_lt, k_eq, k_lt0, k_0lt, k_eq0, k_nat, k_b0, k_b1, k_z1, k_z0, k_o1, k_o0, Int.reduceEq, Int.reduceLT, Int.reduceLE, Int.reduceAdd, Int.reduceMul, Int.reduceNeg, Bool.false_eq_true, or_true, true_or, or_false, false_or, and_true, true_and, and_false, false_and, not_true_eq_false, not_false_eq_true, ↓reduceIte, z_0, z_k, s_I, s_J, s_uI, s_uJ, u2_ss, u2_k, u2_r, e5, gt_l]
    · simp (disch := first | assumption | omega) only [k_add, k_sub, k_mul, k_lt, k_eq, k_lt0, k_0lt, k_eq0, k_nat, k_b0, k_b1, k_z1, k_z0, k_o1, k_o0, Int.reduceEq, Int.reduceLT, Int.reduceLE, Int.reduceAdd, Int.reduceMul, Int.reduceNeg, Bool.false_eq_true, or_true, true_or, or_false, false_or, and_true, true_and, and_false, false_and, not_true_eq_false, not_false_eq_true, ↓reduceIte, z_0, z_k, s_I, s_J, s_uI, s_uJ, u2_ss, u2_k, u2_r, e6, gt_l]
    · simp (disch := first | assumption | omega) only [k_add, k_sub, k_mul, k_lt, k_eq, k_lt0, k_0lt, k_eq0, k_nat, k_b0, k_b1, k_z1, k_z0, k_o1, k_o0, Int.reduceEq, Int.reduceLT, Int.reduceLE, Int.reduceAdd, Int.reduceMul, Int.reduceNeg, Bool.false_eq_true, or_true, true_or, or_false, false_or, and_true, true_and, and_false, false_and, not_true_eq_false, not_false_eq_true, ↓reduceIte, z_0, z_k, s_I, s_J, s_uI, s_uJ, u2_ss, u2_k, u2_r, e7, gt_l]
    · simp (disch := first | assumption | omega) only [k_add, k_sub, k_mul, k_lt, k_eq, k_lt0, k_0lt, k_eq0, k_nat, k_b0, k_b1, k_z1, k_z0, k_o1, k_o0, Int.reduceEq, Int.reduceLT, Int.reduceLE, Int.reduceAdd, Int.reduceMul, Int.reduceNeg, Bool.false_eq_true, or_true, true_or, or_false, false_or, and_true, true_and, and_false, false_and, not_true_eq_false, not_false_eq_true, ↓reduceIte, z_0, z_k, s_I, s_J, s_uI, s_uJ, u2_ss, u2_k, u2_r, e8, gt_l]
    · simp (disch := first | assumption | omega) only [k_add, k_sub, k_mul, k_lt, k_eq, k_lt0, k_0lt, k_eq0, k_nat, k_b0, k_b1, k_z1, k_z0, k_o1, k_o0, Int.reduceEq, Int.reduceLT, Int.reduceLE, Int.reduceAdd, Int.reduceMul, Int.reduceNeg, Bool.false_eq_true, or_true, true_or, or_false, false_or, and_true, true_and, and_false, false_and, not_true_eq_false, not_false_eq_true, ↓reduceIte, z_0, z_k, s_I, s_J, s_uI, s_uJ, u2_ss, u2_k, u2_r, ek]
    · rw [gt_c h1 q1 (by omega)]
      by_cases z : j = k
      · subst z
        simp (disch := first | assumption | omega) only [k_add, k_sub, k_mul, k_lt, k_eq, k_lt0, k_0lt, k_eq0, k_nat, k_b0, k_b1, k_z1, k_z0, k_o1, k_o0, Int.reduceEq, Int.reduceLT, Int.reduceLE, Int.reduceAdd, Int.reduceMul, Int.reduceNeg, Bool.false_eq_true, or_true, true_or, or_false, false_or, and_true, true_and, and_false, false_and, not_true_eq_false, not_false_eq_true, ↓reduceIte, z_0, z_k, s_I, s_J, s_uI, s_uJ, u2_ss, u2_k, u2_r, hw]
      · simp (disch := first | assumption | omega) only [k_add, k_sub, k_mul, k_lt, k_eq, k_lt0, k_0lt, k_eq0, k_nat, k_b0, k_b1, k_z1, k_z0, k_o1, k_o0, Int.reduceEq, Int.reduceLT, Int.reduceLE, Int.reduceAdd, Int.reduceMul, Int.reduceNeg, Bool.false_eq_true, or_true, true_or, or_false, false_or, and_true, true_and, and_false, false_and, not_true_eq_false, not_false_eq_true, ↓reduceIte, z_0, z_k, s_I, s_J, s_uI, s_uJ, u2_ss, u2_k, u2_r, ec, z]
    · rw [gt_w (by omega) q1]
      by_cases z : j = k
      · subst z
        simp (disch := first | assumption | omega) only [k_add, k_sub, k_mul, k_lt, k_eq, k_lt0, k_0lt, k_eq0, k_nat, k_b0, k_b1, k_z1, k_z0, k_o1, k_o0, Int.reduceEq, Int.reduceLT, Int.reduceLE, Int.reduceAdd, Int.reduceMul, Int.reduceNeg, Bool.false_eq_true, or_true, true_or, or_false, false_or, and_true, true_and, and_false, false_and, not_true_eq_false, not_false_eq_true, ↓reduceIte, z_0, z_k, s_I, s_J, s_uI, s_uJ, u2_ss, u2_k, u2_r, eg]
      · simp (disch := first | assumption | omega) only [k_add, k_sub, k_mul, k_lt, k_eq, k_lt0, k_0lt, k_eq0, k_nat, k_b0, k_b1, k_z1, k_z0, k_o1, k_o0, Int.reduceEq, Int.reduceLT, Int.reduceLE, Int.reduceAdd, Int.reduceMul, Int.reduceNeg, Bool.false_eq_true, or_true, true_or, or_false, false_or, and_true, true_and, and_false, false_and, not_true_eq_false, not_false_eq_true, ↓reduceIte, z_0, z_k, s_I, s_J, s_uI, s_uJ, u2_ss, u2_k, u2_r, eg, z]
    · simp (disch := first | assumption | omega) only [k_add, k_sub, k_mul, k_lt, k_eq, k_lt0, k_0lt, k_eq0, k_nat, k_b0, k_b1, k_z1, k_z0, k_o1, k_o0, Int.reduceEq, Int.reduceLT, Int.reduceLE, Int.reduceAdd, Int.reduceMul, Int.reduceNeg, Bool.false_eq_true, or_true, true_or, or_false, false_or, and_true, true_and, and_false, false_and, not_true_eq_false, not_false_eq_true, ↓reduceIte, z_0, z_k, s_I, s_J, s_uI, s_uJ, u2_ss, u2_k, u2_r]
      rw [bt_on _ c1 (by omega) q1 (by omega), bt_off _ (by omega) (by omega) q1 (by omega), Bool.or_eq_true, Bool.and_eq_true, ef q q1 q2]
      simp only [Bool.not_eq_true', decide_eq_false_iff_not, decide_eq_true_eq]
      constructor
      · rintro (⟨⟨j, j1, j2, j3⟩, j4⟩ | j4)
        · refine ⟨j, j1, j2, ?_⟩
          rw [gt_c h1 j1 (by omega), if_neg (fun z => j4 (by rw [← j3, z]))]
          exact j3
        · refine ⟨k, h1, h2, ?_⟩
          rw [gt_c h1 h1 (by omega), if_pos rfl, if_neg hw]
          exact j4.symm
      · rintro ⟨j, j1, j2, j3⟩
        rw [gt_c h1 j1 (by omega)] at j3
        by_cases z : j = k
        · rw [if_pos z, if_neg hw] at j3
          exact Or.inr j3.symm
        · rw [if_neg z] at j3
          refine Or.inl ⟨⟨j, j1, j2, j3⟩, fun y => ?_⟩
          rcases Int.lt_or_gt_of_ne z with z | z
          · exact absurd (hdis j k j1 z h2 (by omega)) (by omega)
          · exact absurd (hdis k j h1 z j2 (by omega)) (by omega)
    · funext i
      simp (disch := first | assumption | omega) only [k_add, k_sub, k_mul, k_lt, k_eq, k_lt0, k_0lt, k_eq0, k_nat, k_b0, k_b1, k_z1, k_z0, k_o1, k_o0, Int.reduceEq, Int.reduceLT, Int.reduceLE, Int.reduceAdd, Int.reduceMul, Int.reduceNeg, Bool.false_eq_true, or_true, true_or, or_false, false_or, and_true, true_and, and_false, false_and, not_true_eq_false, not_false_eq_true, ↓reduceIte, z_0, z_k, s_I, s_J, s_uI, s_uJ, u2_r]
end FLOCKX
end
section
/-! ===== the class's flocks: stirrings, the next cell ===== -/
theorem z_t : j_z (true = true) = j_k 1 := rfl
theorem z_f : j_z (false = true) = j_k 0 := rfl
theorem try_eq {gr : Fl} {n : Int} {kd f : Fl} {k c : Int} {gate : Bool} (h : p_try gr n kd f k c gate ≠ -9) : p_try gr n kd f k c gate = c ∧ c ≠ -9 ∧ p_can gr n kd f k c gate = true := by
  unfold p_try at h ⊢
  split at h
  · exact absurd rfl h
  · split at h
    · rename_i h1 h2
      rw [if_neg h1, if_pos h2]
      exact ⟨rfl, h1, h2⟩
    · exact absurd rfl h
theorem aim_rg {N n b : Int} {kd f : Fl} (ho : okF N n b f) (k : Int) : p_aim kd f k = -9 ∨ (0 ≤ p_aim kd f k ∧ p_aim kd f k < N) := by
  unfold p_aim
  have h1 := ho.2.2.1
  have h2 := ho.2.2.2.1
  split <;> omega
section FLOCKN
variable {L p a g d : Nat} {I : Nat → Nat → Int32} {J : Nat → Nat → Int64} {n w h N b : Int} {kd f gr : Fl}
theorem s_stirBy (hF : FA a) (hg : GA g) (hi : iF I a n kd f) (hG : iG I g w h N gr) (hT : iT I) (hC : okC w h N n gr kd) (ho : okF N n b f) {k way : Int} (h1 : 0 ≤ k) (h2 : k < n) (y1 : 0 ≤ way) (y2 : way < 4) : ∃ I', j_run (d + 2) 25 [.ref a, .ref g, .int (j_k k), .int (j_k way)] (ST L p I J) = some (some (.int (j_k (p_stir w h gr n kd f k way))), ST L p I' J) ∧ iF I' a n kd (if p_stir w h gr n kd f k way = -9 then f else p_stirF gr f k (p_stir w h gr n kd f k way)) ∧ fr a I I' := by
  have hi0 := hi
  obtain ⟨e3, e4, e5, e6, e7, e8, ek, ec, eg, ef⟩ := hi
  obtain ⟨b1, b2, -⟩ := bd_N hC
  have hn := hC.2.2.1
  have hn4 := hC.2.2.2.1
  have hk := ho.1 k h1 h2
  have q1 := s_has (L := L) (p := p) (d := d) (J := J) hF hi0 hn hn4 (k := k) (by omega) (by omega)
  have z1 : j_z (0 ≤ k ∧ k < n) = j_k 1 := if_pos ⟨h1, h2⟩
  rw [z1] at q1
  have e := (r_25 (d + 1) (ST L p I J) a g (j_k k) (j_k way)).trans (t_25_0 _ _ _ _ _ _ _)
  by_cases hl : f (5 + k) = -9
  · have hs : p_stir w h gr n kd f k way = -9 := if_pos hl
    simp (disch := first | assumption | omega) only [k_add, k_sub, k_mul, k_lt, k_eq, k_lt0, k_0lt, k_eq0, k_nat, k_b0, k_b1, k_z1, k_z0, k_o1, k_o0, Int.reduceEq, Int.reduceLT, Int.reduceLE, Int.reduceAdd, Int.reduceMul, Int.reduceNeg, Bool.false_eq_true, or_true, true_or, or_false, false_or, and_true, true_and, and_false, false_and, not_true_eq_false, not_false_eq_true, ↓reduceIte, z_0, z_k, s_I, s_J, s_uI, s_uJ, f_oc, f_gP0, f_gP1, f_gP2, f_ia0, f_ia1, f_ia2, f_is0, f_is1, f_is2, f_lt, jc1 q1, ec, hl] at e
    rw [hs]
    exact ⟨I, e, hi0, fr.rf⟩
  · have hk := hk.resolve_left hl
    have q2 := s_beside (L := L) (p := p) (d := d) (J := J) hg hG hT hC hk.1 hk.2 y1 y2
    have hr := by_rg hC hk.1 hk.2 (dxy y1 y2)
    generalize hc : p_by w h (f (5 + k)) (p_dx way) (p_dy way) = c at q2 hr
    have q3 := s_can (L := L) (p := p) (d := d) (J := J) (gate := false) hF hg hi0 hG hC h1 h2 hr
    rw [z_f] at q3
    have hs : p_stir w h gr n kd f k way = p_try gr n kd f k c false := by
      unfold p_stir
      rw [if_neg hl, hc]
    by_cases ht : p_try gr n kd f k c false = -9
    · have z3 : j_z (p_try gr n kd f k c false ≠ -9) = j_k 0 := if_neg (fun z => z ht)
      rw [z3] at q3
      simp (disch := first | assumption | omega) only [k_add, k_sub, k_mul, k_lt, k_eq, k_lt0, k_0lt, k_eq0, k_nat, k_b0, k_b1, k_z1, k_z0, k_o1, k_o0, Int.reduceEq, Int.reduceLT, Int.reduceLE, Int.reduceAdd, Int.reduceMul, Int.reduceNeg, Bool.false_eq_true, or_true, true_or, or_false, false_or, and_true, true_and, and_false, false_and, not_true_eq_false, not_false_eq_true, ↓reduceIte, z_0, z_k, s_I, s_J, s_uI, s_uJ, f_oc, f_gP0, f_gP1, f_gP2, f_ia0, f_ia1, f_ia2, f_is0, f_is1, f_is2, f_lt, g_oc, g_gP0, g_gP1, g_gP2, g_ia0, g_ia1, g_ia2, g_is0, g_is1, g_is2, g_lt, jc1 q1, jc1 q2, jc1 q3, ec, hl] at e
      rw [hs, ht]
      exact ⟨I, e, hi0, fr.rf⟩
    · have z3 : j_z (p_try gr n kd f k c false ≠ -9) = j_k 1 := if_pos ht
      rw [z3] at q3
      obtain ⟨t1, t2, t3⟩ := try_eq ht
      have hc2 := hr.resolve_left t2
      obtain ⟨I1, m1, m2, m3⟩ := s_move (L := L) (p := p) (d := d) (J := J) hF hg hi0 hG hC ho h1 h2 hl hc2.1 hc2.2.1
      obtain ⟨I2, w1, w2, w3⟩ := s_becomesLast (L := L) (p := p) (d := d) (J := J) hF m2 (k := k) (c := c)
      simp (disch := first | assumption | omega) only [k_add, k_sub, k_mul, k_lt, k_eq, k_lt0, k_0lt, k_eq0, k_nat, k_b0, k_b1, k_z1, k_z0, k_o1, k_o0, Int.reduceEq, Int.reduceLT, Int.reduceLE, Int.reduceAdd, Int.reduceMul, Int.reduceNeg, Bool.false_eq_true, or_true, true_or, or_false, false_or, and_true, true_and, and_false, false_and, not_true_eq_false, not_false_eq_true, ↓reduceIte, z_0, z_k, s_I, s_J, s_uI, s_uJ, f_oc, f_gP0, f_gP1, f_gP2, f_ia0, f_ia1, f_ia2, f_is0, f_is1, f_is2, f_lt, g_oc, g_gP0, g_gP1, g_gP2, g_ia0, g_ia1, g_ia2, g_is0, g_is1, g_is2, g_lt, jc1 q1, jc1 q2, jc1 q3, ec, hl, jc0 m1, jc0 w1] at e
      rw [hs, t1, if_neg t2]
      exact ⟨I2, e, w2, m3.tr w3⟩
end FLOCKN
end
section
/-! ===== the class's flocks: the next cell ===== -/
section FLOCKN
variable {L p a g d : Nat} {I : Nat → Nat → Int32} {J : Nat → Nat → Int64} {n w h N b : Int} {kd f gr : Fl}
/-- what one way tries -/
def p_one (w h : Int) (gr : Fl) (n : Int) (kd f : Fl) (k across down : Int) (gate away sw : Bool) : Int :=
  if sw = true then (if across = 0 then -9 else p_try gr n kd f k (p_by w h (f (5 + k)) ((if away = true then -1 else 1) * p_sgn across) 0) gate)
  else (if down = 0 then -9 else p_try gr n kd f k (p_by w h (f (5 + k)) 0 ((if away = true then -1 else 1) * p_sgn down)) gate)
abbrev tl (a g : Nat) (k aim c across down : Int) (x3 x8 : Int32) (away sw : Bool) (t : Int) : j_L := [some (.ref a), some (.ref g), some (.int (j_k k)), some (.int x3), some (.int (j_k aim)), some (.int (j_k c)), some (.int (j_k across)), some (.int (j_k down)), some (.int x8), some (.int (j_z (away = true))), some (.int (j_z (sw = true))), some (.int (j_k t)), none, none, none, none]
theorem s_turn (hF : FA a) (hg : GA g) (hi : iF I a n kd f) (hG : iG I g w h N gr) (hT : iT I) (hC : okC w h N n gr kd) (ho : okF N n b f) {k aim across down t : Int} {gate away sw : Bool} {x8 : Int32} (h1 : 0 ≤ k) (h2 : k < n) (hl : f (5 + k) ≠ -9) (a1 : -100 ≤ across) (a2 : across ≤ 100) (a3 : -100 ≤ down) (a4 : down ≤ 100) (t1 : 0 ≤ t) (t2 : t < 2) (M : Nat) :
    (p_one w h gr n kd f k across down gate away sw ≠ -9 → j_exec k_27 h_27 (j_run (d + 1)) (M + 6) 135 (tl a g k aim (f (5 + k)) across down (j_z (gate = true)) x8 away sw t) [] (ST L p I J) = some (some (.int (j_k (p_one w h gr n kd f k across down gate away sw))), ST L p I J)) ∧
    (p_one w h gr n kd f k across down gate away sw = -9 → ∃ M', M ≤ M' ∧ j_exec k_27 h_27 (j_run (d + 1)) (M + 6) 135 (tl a g k aim (f (5 + k)) across down (j_z (gate = true)) x8 away sw t) [] (ST L p I J) = j_exec k_27 h_27 (j_run (d + 1)) M' 135 (tl a g k aim (f (5 + k)) across down (j_z (gate = true)) x8 away (!sw) (t + 1)) [] (ST L p I J)) := by
  obtain ⟨b1, b2, -⟩ := bd_N hC
  have hn4 := hC.2.2.2.1
  have hk := (ho.1 k h1 h2).resolve_left hl
  have key : ∀ (way dx dy : Int), 0 ≤ way → way < 4 → p_dx way = dx → p_dy way = dy → ∃ c, p_by w h (f (5 + k)) dx dy = c ∧ j_run (d + 1) 38 [.ref g, .int (j_k (f (5 + k))), .int (j_k way)] (ST L p I J) = some (some (.int (j_k c)), ST L p I J) ∧ j_run (d + 1) 22 [.ref a, .ref g, .int (j_k k), .int (j_k c), .int (j_z (gate = true))] (ST L p I J) = some (some (.int (j_z (p_try gr n kd f k c gate ≠ -9))), ST L p I J) := by
    intro way dx dy y1 y2 e1 e2
    refine ⟨_, rfl, ?_, ?_⟩
    · rw [← e1, ← e2]
      exact s_beside hg hG hT hC hk.1 hk.2 y1 y2
    · rw [← e1, ← e2]
      exact s_can hF hg hi hG hC h1 h2 (by_rg hC hk.1 hk.2 (dxy y1 y2))
  have hsw : ∀ z : Bool, j_z ((!z) = true) = if j_z (z = true) = 0 then j_k 1 else j_k 0 := by decide
  have fin : ∀ (way dx dy : Int), 0 ≤ way → way < 4 → p_dx way = dx → p_dy way = dy → ∀ (v12 v13 : Int32) (M : Nat), 
      (p_try gr n kd f k (p_by w h (f (5 + k)) dx dy) gate ≠ -9 → j_exec k_27 h_27 (j_run (d + 1)) (M + 2) 212 [some (.ref a), some (.ref g), some (.int (j_k k)), some (.int (j_z (gate = true))), some (.int (j_k aim)), some (.int (j_k (f (5 + k)))), some (.int (j_k across)), some (.int (j_k down)), some (.int x8), some (.int (j_z (away = true))), some (.int (j_z (sw = true))), some (.int (j_k t)), some (.int v12), some (.int v13), some (.int (j_k way)), none] [] (ST L p I J) = some (some (.int (j_k (p_try gr n kd f k (p_by w h (f (5 + k)) dx dy) gate))), ST L p I J)) ∧
      (p_try gr n kd f k (p_by w h (f (5 + k)) dx dy) gate = -9 → j_exec k_27 h_27 (j_run (d + 1)) (M + 2) 212 [some (.ref a), some (.ref g), some (.int (j_k k)), some (.int (j_z (gate = true))), some (.int (j_k aim)), some (.int (j_k (f (5 + k)))), some (.int (j_k across)), some (.int (j_k down)), some (.int x8), some (.int (j_z (away = true))), some (.int (j_z (sw = true))), some (.int (j_k t)), some (.int v12), some (.int v13), some (.int (j_k way)), none] [] (ST L p I J) = j_exec k_27 h_27 (j_run (d + 1)) M 135 (tl a g k aim (f (5 + k)) across down (j_z (gate = true)) x8 away (!sw) (t + 1)) [] (ST L p I J)) := by
    intro way dx dy y1 y2 e1 e2 v12 v13 M
    obtain ⟨c, c1, c2, c3⟩ := key way dx dy y1 y2 e1 e2
    rw [c1, x_exec, t_27_212]
    constructor
    · intro ht
      have z3 : j_z (p_try gr n kd f k c gate ≠ -9) = j_k 1 := if_pos ht
      rw [z3] at c3
      simp (disch := first | assumption | omega) only [k_add, k_sub, k_mul, k_lt, k_eq, k_lt0, k_0lt, k_eq0, k_nat, k_b0, k_b1, k_z1, k_z0, k_o1, k_o0, Int.reduceEq, Int.reduceLT, Int.reduceLE, Int.reduceAdd, Int.reduceMul, Int.reduceNeg, Bool.false_eq_true, or_true, true_or, or_false, false_or, and_true, true_and, and_false, false_and, not_true_eq_false, not_false_eq_true, ↓reduceIte, z_0, z_k, s_I, s_J, s_uI, s_uJ, f_oc, f_gP0, f_gP1, f_gP2, f_ia0, f_ia1, f_ia2, f_is0, f_is1, f_is2, f_lt, g_oc, g_gP0, g_gP1, g_gP2, g_ia0, g_ia1, g_ia2, g_is0, g_is1, g_is2, g_lt, jc1 c2, jc1 c3]
      rw [(try_eq ht).1]
    · intro ht
      have z3 : j_z (p_try gr n kd f k c gate ≠ -9) = j_k 0 := if_neg (fun z => z ht)
      rw [z3] at c3
      simp (disch := first | assumption | omega) only [k_add, k_sub, k_mul, k_lt, k_eq, k_lt0, k_0lt, k_eq0, k_nat, k_b0, k_b1, k_z1, k_z0, k_o1, k_o0, Int.reduceEq, Int.reduceLT, Int.reduceLE, Int.reduceAdd, Int.reduceMul, Int.reduceNeg, Bool.false_eq_true, or_true, true_or, or_false, false_or, and_true, true_and, and_false, false_and, not_true_eq_false, not_false_eq_true, ↓reduceIte, z_0, z_k, s_I, s_J, s_uI, s_uJ, f_oc, f_gP0, f_gP1, f_gP2, f_ia0, f_ia1, f_ia2, f_is0, f_is1, f_is2, f_lt, g_oc, g_gP0, g_gP1, g_gP2, g_ia0, g_ia1, g_ia2, g_is0, g_is1, g_is2, g_lt, jc1 c2, jc1 c3]
      rw [x_exec, t_27_237]
      show _ = j_exec _ _ _ _ _ [_, _, _, _, _, _, _, _, _, _, some (.int (j_z ((!sw) = true))), _, _, _, _, _] _ _
      rw [hsw]
      simp (disch := first | assumption | omega) only [k_add, k_sub, k_mul, k_lt, k_eq, k_lt0, k_0lt, k_eq0, k_nat, k_b0, k_b1, k_z1, k_z0, k_o1, k_o0, Int.reduceEq, Int.reduceLT, Int.reduceLE, Int.reduceAdd, Int.reduceMul, Int.reduceNeg, Bool.false_eq_true, or_true, true_or, or_false, false_or, and_true, true_and, and_false, false_and, not_true_eq_false, not_false_eq_true, ↓reduceIte, z_0, z_k, s_I, s_J, s_uI, s_uJ]
      split <;> rfl
  have zer : ∀ (v12 : Int32) (M : Nat), j_exec k_27 h_27 (j_run (d + 1)) (M + 1) 237 [some (.ref a), some (.ref g), some (.int (j_k k)), some (.int (j_z (gate = true))), some (.int (j_k aim)), some (.int (j_k (f (5 + k)))), some (.int (j_k across)), some (.int (j_k down)), some (.int x8), some (.int (j_z (away = true))), some (.int (j_z (sw = true))), some (.int (j_k t)), some (.int v12), none, none, none] [] (ST L p I J) = j_exec k_27 h_27 (j_run (d + 1)) M 135 (tl a g k aim (f (5 + k)) across down (j_z (gate = true)) x8 away (!sw) (t + 1)) [] (ST L p I J) := by
    intro v12 M
    rw [x_exec, t_27_237]
    show _ = j_exec _ _ _ _ _ [_, _, _, _, _, _, _, _, _, _, some (.int (j_z ((!sw) = true))), _, _, _, _, _] _ _
    rw [hsw]
    simp (disch := first | assumption | omega) only [k_add, k_sub, k_mul, k_lt, k_eq, k_lt0, k_0lt, k_eq0, k_nat, k_b0, k_b1, k_z1, k_z0, k_o1, k_o0, Int.reduceEq, Int.reduceLT, Int.reduceLE, Int.reduceAdd, Int.reduceMul, Int.reduceNeg, Bool.false_eq_true, or_true, true_or, or_false, false_or, and_true, true_and, and_false, false_and, not_true_eq_false, not_false_eq_true, ↓reduceIte, z_0, z_k, s_I, s_J, s_uI, s_uJ]
    split <;> rfl
  have hup : ∀ (apart : Int), apart ≠ 0 → p_sgn apart = if 0 < apart then 1 else -1 := by
    intro apart h3
    unfold p_sgn
    by_cases h4 : 0 < apart
    · rw [if_pos h4, if_neg (by omega), if_pos h4]
    · rw [if_neg h4, if_pos (by omega), if_neg h4]
  have mid : ∀ (apart : Int) (M : Nat), -100 ≤ apart → apart ≤ 100 → apart ≠ 0 → ∃ v13 : Int32, j_exec k_27 h_27 (j_run (d + 1)) (M + 2) 155 [some (.ref a), some (.ref g), some (.int (j_k k)), some (.int (j_z (gate = true))), some (.int (j_k aim)), some (.int (j_k (f (5 + k)))), some (.int (j_k across)), some (.int (j_k down)), some (.int x8), some (.int (j_z (away = true))), some (.int (j_z (sw = true))), some (.int (j_k t)), some (.int (j_k apart)), none, none, none] [] (ST L p I J) = j_exec k_27 h_27 (j_run (d + 1)) M 212 [some (.ref a), some (.ref g), some (.int (j_k k)), some (.int (j_z (gate = true))), some (.int (j_k aim)), some (.int (j_k (f (5 + k)))), some (.int (j_k across)), some (.int (j_k down)), some (.int x8), some (.int (j_z (away = true))), some (.int (j_z (sw = true))), some (.int (j_k t)), some (.int (j_k apart)), some (.int v13), some (.int (j_k (if sw = true then (if (if away = true then -1 else 1) * p_sgn apart = 1 then 1 else 3) else (if (if away = true then -1 else 1) * p_sgn apart = 1 then 2 else 0)))), none] [] (ST L p I J) := by
    intro apart M q1 q2 q3
    rw [x_exec, t_27_155, hup apart q3]
    by_cases q4 : 0 < apart
    · cases away
      · refine ⟨j_k 1, ?_⟩
        simp (disch := first | assumption | omega) only [k_add, k_sub, k_mul, k_lt, k_eq, k_lt0, k_0lt, k_eq0, k_nat, k_b0, k_b1, k_z1, k_z0, k_o1, k_o0, Int.reduceEq, Int.reduceLT, Int.reduceLE, Int.reduceAdd, Int.reduceMul, Int.reduceNeg, Bool.false_eq_true, or_true, true_or, or_false, false_or, and_true, true_and, and_false, false_and, not_true_eq_false, not_false_eq_true, ↓reduceIte, z_0, z_k, s_I, s_J, s_uI, s_uJ, q3, q4, z_f]
        rw [x_exec, t_27_182]
        cases sw <;> simp (disch := first | assumption | omega) only [k_add, k_sub, k_mul, k_lt, k_eq, k_lt0, k_0lt, k_eq0, k_nat, k_b0, k_b1, k_z1, k_z0, k_o1, k_o0, Int.reduceEq, Int.reduceLT, Int.reduceLE, Int.reduceAdd, Int.reduceMul, Int.reduceNeg, Bool.false_eq_true, or_true, true_or, or_false, false_or, and_true, true_and, and_false, false_and, not_true_eq_false, not_false_eq_true, ↓reduceIte, z_0, z_k, s_I, s_J, s_uI, s_uJ, z_t, z_f] <;> rfl
      · refine ⟨j_k 0, ?_⟩
        simp (disch := first | assumption | omega) only [k_add, k_sub, k_mul, k_lt, k_eq, k_lt0, k_0lt, k_eq0, k_nat, k_b0, k_b1, k_z1, k_z0, k_o1, k_o0, Int.reduceEq, Int.reduceLT, Int.reduceLE, Int.reduceAdd, Int.reduceMul, Int.reduceNeg, Bool.false_eq_true, or_true, true_or, or_false, false_or, and_true, true_and, and_false, false_and, not_true_eq_false, not_false_eq_true, ↓reduceIte, z_0, z_k, s_I, s_J, s_uI, s_uJ, q3, q4, z_t]
        rw [x_exec, t_27_182]
        cases sw <;> simp (disch := first | assumption | omega) only [k_add, k_sub, k_mul, k_lt, k_eq, k_lt0, k_0lt, k_eq0, k_nat, k_b0, k_b1, k_z1, k_z0, k_o1, k_o0, Int.reduceEq, Int.reduceLT, Int.reduceLE, Int.reduceAdd, Int.reduceMul, Int.reduceNeg, Bool.false_eq_true, or_true, true_or, or_false, false_or, and_true, true_and, and_false, false_and, not_true_eq_false, not_false_eq_true, ↓reduceIte, z_0, z_k, s_I, s_J, s_uI, s_uJ, z_t, z_f] <;> rfl
    · cases away
      · refine ⟨j_k 0, ?_⟩
        simp (disch := first | assumption | omega) only [k_add, k_sub, k_mul, k_lt, k_eq, k_lt0, k_0lt, k_eq0, k_nat, k_b0, k_b1, k_z1, k_z0, k_o1, k_o0, Int.reduceEq, Int.reduceLT, Int.reduceLE, Int.reduceAdd, Int.reduceMul, Int.reduceNeg, Bool.false_eq_true, or_true, true_or, or_false, false_or, and_true, true_and, and_false, false_and, not_true_eq_false, not_false_eq_true, ↓reduceIte, z_0, z_k, s_I, s_J, s_uI, s_uJ, q3, q4, z_f]
        rw [x_exec, t_27_182]
        cases sw <;> simp (disch := first | assumption | omega) only [k_add, k_sub, k_mul, k_lt, k_eq, k_lt0, k_0lt, k_eq0, k_nat, k_b0, k_b1, k_z1, k_z0, k_o1, k_o0, Int.reduceEq, Int.reduceLT, Int.reduceLE, Int.reduceAdd, Int.reduceMul, Int.reduceNeg, Bool.false_eq_true, or_true, true_or, or_false, false_or, and_true, true_and, and_false, false_and, not_true_eq_false, not_false_eq_true, ↓reduceIte, z_0, z_k, s_I, s_J, s_uI, s_uJ, z_t, z_f] <;> rfl
      · refine ⟨j_k 1, ?_⟩
        simp (disch := first | assumption | omega) only [k_add, k_sub, k_mul, k_lt, k_eq, k_lt0, k_0lt, k_eq0, k_nat, k_b0, k_b1, k_z1, k_z0, k_o1, k_o0, Int.reduceEq, Int.reduceLT, Int.reduceLE, Int.reduceAdd, Int.reduceMul, Int.reduceNeg, Bool.false_eq_true, or_true, true_or, or_false, false_or, and_true, true_and, and_false, false_and, not_true_eq_false, not_false_eq_true, ↓reduceIte, z_0, z_k, s_I, s_J, s_uI, s_uJ, q3, q4, z_t]
        rw [x_exec, t_27_182]
        cases sw <;> simp (disch := first | assumption | omega) only [k_add, k_sub, k_mul, k_lt, k_eq, k_lt0, k_0lt, k_eq0, k_nat, k_b0, k_b1, k_z1, k_z0, k_o1, k_o0, Int.reduceEq, Int.reduceLT, Int.reduceLE, Int.reduceAdd, Int.reduceMul, Int.reduceNeg, Bool.false_eq_true, or_true, true_or, or_false, false_or, and_true, true_and, and_false, false_and, not_true_eq_false, not_false_eq_true, ↓reduceIte, z_0, z_k, s_I, s_J, s_uI, s_uJ, z_t, z_f] <;> rfl
  rw [x_exec, t_27_135]
  simp (disch := first | assumption | omega) only [k_add, k_sub, k_mul, k_lt, k_eq, k_lt0, k_0lt, k_eq0, k_nat, k_b0, k_b1, k_z1, k_z0, k_o1, k_o0, Int.reduceEq, Int.reduceLT, Int.reduceLE, Int.reduceAdd, Int.reduceMul, Int.reduceNeg, Bool.false_eq_true, or_true, true_or, or_false, false_or, and_true, true_and, and_false, false_and, not_true_eq_false, not_false_eq_true, ↓reduceIte, z_0, z_k, s_I, s_J, s_uI, s_uJ]
  rw [if_pos t2]
  cases sw
  · rw [if_pos (by decide : ¬ false = true)]
    unfold p_one
    rw [if_neg (by decide : ¬ false = true)]
    by_cases hz : down = 0
    · subst hz
      rw [if_pos rfl]
      refine ⟨fun z => absurd rfl z, fun _ => ⟨M + 3, by omega, ?_⟩⟩
      rw [x_exec, t_27_155, if_pos kk0]
      exact zer _ _
    · rw [if_neg hz]
      obtain ⟨v13, e13⟩ := mid down (M + 3) a3 a4 hz
      rw [e13]
      rw [if_neg (by decide : ¬ false = true)]
      have hs : (if away = true then -1 else 1) * p_sgn down = 1 ∨ (if away = true then -1 else 1) * p_sgn down = -1 := by
        rw [hup down hz]
        cases away <;> by_cases q : 0 < down <;> simp [q]
      rcases hs with hs | hs
      · rw [hs, if_pos rfl]
        have F := fin 2 0 1 (by decide) (by decide) rfl rfl (j_k down) v13 (M + 1)
        exact ⟨F.1, fun z => ⟨M + 1, by omega, F.2 z⟩⟩
      · rw [hs, if_neg (by decide)]
        have F := fin 0 0 (-1) (by decide) (by decide) rfl rfl (j_k down) v13 (M + 1)
        exact ⟨F.1, fun z => ⟨M + 1, by omega, F.2 z⟩⟩
  · rw [if_neg (by decide : ¬ ¬ true = true)]
    unfold p_one
    rw [if_pos rfl]
    by_cases hz : across = 0
    · subst hz
      rw [if_pos rfl]
      refine ⟨fun z => absurd rfl z, fun _ => ⟨M + 3, by omega, ?_⟩⟩
      rw [x_exec, t_27_155, if_pos kk0]
      exact zer _ _
    · rw [if_neg hz]
      obtain ⟨v13, e13⟩ := mid across (M + 3) a1 a2 hz
      rw [e13]
      rw [if_pos rfl]
      have hs : (if away = true then -1 else 1) * p_sgn across = 1 ∨ (if away = true then -1 else 1) * p_sgn across = -1 := by
        rw [hup across hz]
        cases away <;> by_cases q : 0 < across <;> simp [q]
      rcases hs with hs | hs
      · rw [hs, if_pos rfl]
        have F := fin 1 1 0 (by decide) (by decide) rfl rfl (j_k across) v13 (M + 1)
        exact ⟨F.1, fun z => ⟨M + 1, by omega, F.2 z⟩⟩
      · rw [hs, if_neg (by decide)]
        have F := fin 3 (-1) 0 (by decide) (by decide) rfl rfl (j_k across) v13 (M + 1)
        exact ⟨F.1, fun z => ⟨M + 1, by omega, F.2 z⟩⟩
end FLOCKN
end
section
/-! ===== what stays true of a flock: steps, runs, drives keep it on its ground ===== -/
section KEEPS
variable {w h N n b : Int} {gr kd f : Fl}
theorem two_ok (hC : okC w h N n gr kd) {k c sx sy : Int} {gate ac : Bool} (hc : f (5 + k) = c) (c1 : 0 ≤ c) (c2 : c < N) (hx : sx = 0 ∨ sx = 1 ∨ sx = -1) (hy : sy = 0 ∨ sy = 1 ∨ sy = -1) : p_two w h gr n kd f k sx sy gate ac = -9 ∨ (0 ≤ p_two w h gr n kd f k sx sy gate ac ∧ p_two w h gr n kd f k sx sy gate ac < N ∧ p_can gr n kd f k (p_two w h gr n kd f k sx sy gate ac) gate = true) := by
  have key : ∀ dx dy, (dx = 0 ∧ (dy = 1 ∨ dy = -1)) ∨ (dy = 0 ∧ (dx = 1 ∨ dx = -1)) → p_try gr n kd f k (p_by w h (f (5 + k)) dx dy) gate = -9 ∨ (0 ≤ p_try gr n kd f k (p_by w h (f (5 + k)) dx dy) gate ∧ p_try gr n kd f k (p_by w h (f (5 + k)) dx dy) gate < N ∧ p_can gr n kd f k (p_try gr n kd f k (p_by w h (f (5 + k)) dx dy) gate) gate = true) := by
    intro dx dy hd
    rw [hc]
    by_cases hz : p_try gr n kd f k (p_by w h c dx dy) gate = -9
    · exact Or.inl hz
    · obtain ⟨e1, e2, e3⟩ := try_eq hz
      have := (by_rg hC c1 c2 hd).resolve_left e2
      rw [e1]
      exact Or.inr ⟨this.1, this.2.1, e3⟩
  unfold p_two
  split
  · split
    · rename_i hz
      exact key _ _ (by omega)
    · split
      · exact Or.inl rfl
      · exact key _ _ (by omega)
  · split
    · rename_i hz
      exact key _ _ (by omega)
    · split
      · exact Or.inl rfl
      · exact key _ _ (by omega)
theorem sgn_rg (s : Bool) (x : Int) : (if s = true then -1 else 1) * p_sgn x = 0 ∨ (if s = true then -1 else 1) * p_sgn x = 1 ∨ (if s = true then -1 else 1) * p_sgn x = -1 := by
  unfold p_sgn
  cases s <;> by_cases h1 : x < 0 <;> by_cases h2 : 0 < x <;> simp [h1, h2]
theorem next_ok (hC : okC w h N n gr kd) (ho : okF N n b f) {k aim : Int} {gate : Bool} (h1 : 0 ≤ k) (h2 : k < n) (hl : f (5 + k) ≠ -9) (hz : p_next w h gr n kd f k aim gate ≠ -9) : 0 ≤ p_next w h gr n kd f k aim gate ∧ p_next w h gr n kd f k aim gate < N ∧ p_can gr n kd f k (p_next w h gr n kd f k aim gate) gate = true := by
  have hk := (ho.1 k h1 h2).resolve_left hl
  unfold p_next at hz ⊢
  split at hz
  · exact absurd rfl hz
  · rename_i q1
    rw [if_neg q1]
    split at hz
    · exact absurd rfl hz
    · rename_i q2
      rw [if_neg q2]
      exact (two_ok hC rfl hk.1 hk.2 (sgn_rg _ _) (sgn_rg _ _)).resolve_left hz
theorem can_who {k c : Int} {gate : Bool} (h : p_can gr n kd f k c gate = true) : p_who n f c k = -9 := by
  unfold p_can at h
  simp only [decide_eq_true_eq] at h
  exact h.2.1
theorem okF_goTo (hC : okC w h N n gr kd) (ho : okF N n b f) {k c : Int} (h1 : 0 ≤ k) (h2 : k < n) (c1 : 0 ≤ c) (c2 : c < N) (hw : p_who n f c k = -9) : okF N n b (p_goTo gr f k c) := by
  have hn4 := hC.2.2.2.1
  have hn := hC.2.2.1
  rw [who_none hn] at hw
  refine ⟨fun j j1 j2 => ?_, fun i j i1 ij j2 e => ?_, ?_, ?_, ?_, ?_⟩
  · rw [gt_c h1 j1 (by omega)]
    have := ho.1 j j1 j2
    split
    · split <;> omega
    · exact this
  · rw [gt_c h1 (by omega) (by omega), gt_c h1 (by omega) (by omega)] at e
    rw [gt_c h1 (by omega) (by omega)]
    have q := ho.2.1 i j i1 ij j2
    by_cases z1 : i = k
    · rw [if_pos z1] at e ⊢
      rw [if_neg (show ¬ j = k by omega)] at e
      split
      · rfl
      · rename_i z2
        rw [if_neg z2] at e
        exact absurd e.symm (hw j (by omega) j2 (by omega))
    · rw [if_neg z1] at e ⊢
      by_cases z2 : j = k
      · rw [if_pos z2] at e
        split at e
        · exact e
        · exact absurd e (hw i i1 (by omega) z1)
      · rw [if_neg z2] at e
        exact q e
  · rw [gt_l h1 (by decide), gt_l h1 (by decide)]
    exact ho.2.2.1
  · rw [gt_l h1 (by decide), gt_l h1 (by decide)]
    exact ho.2.2.2.1
  · rw [gt_l h1 (by decide), gt_l h1 (by decide)]
    exact ho.2.2.2.2.1
  · rw [gt_l h1 (by decide)]
    exact ho.2.2.2.2.2
theorem okF_bl (ho : okF N n b f) {k c : Int} (h1 : 0 ≤ k) (h2 : k < n) (c1 : 0 ≤ c) (c2 : c < N) : okF N n b (p_bl f k c) := by
  refine ⟨fun j j1 j2 => ?_, fun i j i1 ij j2 e => ?_, Or.inr ⟨h1, h2, c1, c2⟩, ?_, fun z => ?_, ho.2.2.2.2.2⟩
  · rw [bl_hi (by omega)]
    exact ho.1 j j1 j2
  · rw [bl_hi (by omega), bl_hi (by omega)] at e
    rw [bl_hi (by omega)]
    exact ho.2.1 i j i1 ij j2 e
  · rw [bl_3, bl_4]
    exact ho.2.2.1
  · rw [bl_1] at z
    omega
theorem set0_hi {v i : Int} (hi : 1 ≤ i) : p_set f 0 v i = f i := if_neg (by omega)
theorem set0_0 {v : Int} : p_set f 0 v 0 = v := if_pos rfl
theorem okF_set0 (ho : okF N n b f) {v b' : Int} (h1 : 0 ≤ v) (h2 : v ≤ b') : okF N n b' (p_set f 0 v) := by
  refine ⟨fun j j1 j2 => ?_, fun i j i1 ij j2 e => ?_, ?_, ?_, ?_, ?_⟩
  · rw [set0_hi (by omega)]
    exact ho.1 j j1 j2
  · rw [set0_hi (by omega), set0_hi (by omega)] at e
    rw [set0_hi (by omega)]
    exact ho.2.1 i j i1 ij j2 e
  · rw [set0_hi (by decide), set0_hi (by decide)]
    exact ho.2.2.1
  · rw [set0_hi (by decide), set0_hi (by decide)]
    exact ho.2.2.2.1
  · rw [set0_hi (by decide), set0_hi (by decide)]
    exact ho.2.2.2.2.1
  · rw [set0_0]
    exact ⟨h1, h2⟩
/-- in a step, before the beast k goes -/
def inS (N n b : Int) (f0 : Fl) (k : Int) (s : Ss) : Prop :=
  okF N n b s.1 ∧ (∀ i, i < 5 → s.1 i = f0 i) ∧ 0 ≤ s.2.1 ∧ s.2.1 < 2 ^ k.toNat ∧ ((s.2.2.1 = -9 ∧ s.2.2.2.1 = -9) ∨ (0 ≤ s.2.2.1 ∧ s.2.2.1 < n ∧ 0 ≤ s.2.2.2.1 ∧ s.2.2.2.1 < N))
theorem pow_S {k : Int} (h : 0 ≤ k) : (2 : Int) ^ (k + 1).toNat = 2 * 2 ^ k.toNat := by
  rw [show (k + 1).toNat = k.toNat + 1 by omega, Int.pow_succ, Int.mul_comm]
theorem pow_pos (k : Int) : 0 < (2 : Int) ^ k.toNat := Int.pow_pos (by decide)
theorem stepB_in (hC : okC w h N n gr kd) {f0 : Fl} {k : Int} {s : Ss} (h1 : 0 ≤ k) (h2 : k < n) (hs : inS N n b f0 k s) : inS N n b f0 (k + 1) (p_stepB w h gr n kd f0 k s) := by
  have hp := pow_S h1
  have hp2 := pow_pos k
  have hmono : inS N n b f0 (k + 1) s := ⟨hs.1, hs.2.1, hs.2.2.1, by have := hs.2.2.2.1; omega, hs.2.2.2.2⟩
  unfold p_stepB
  split
  · exact hmono
  · rename_i q1
    split
    · exact hmono
    · rename_i q2
      obtain ⟨n1, n2, n3⟩ := next_ok hC hs.1 h1 h2 (fun z => q1 (Or.inr (Or.inl z))) q2
      refine ⟨okF_goTo hC hs.1 h1 h2 n1 n2 (can_who n3), fun i hi => ?_, ?_, ?_, Or.inr ⟨h1, h2, n1, n2⟩⟩
      · show p_goTo gr s.1 k _ i = _
        rw [gt_l h1 hi]
        exact hs.2.1 i hi
      · show 0 ≤ s.2.1 + 2 ^ k.toNat
        have := hs.2.2.1
        omega
      · show s.2.1 + 2 ^ k.toNat < _
        have := hs.2.2.2.1
        omega
theorem stepL_in (hC : okC w h N n gr kd) {f0 : Fl} : ∀ (m : Nat) (k : Int) (s : Ss), 0 ≤ k → k + m = n → inS N n b f0 k s → inS N n b f0 n (p_loop (p_stepB w h gr n kd f0) m k s)
  | 0, k, s, h1, h2, hs => by
    rw [show n = k by omega]
    rw [show n = k by omega] at hs
    exact hs
  | m + 1, k, s, h1, h2, hs => stepL_in hC m (k + 1) _ (by omega) (by omega) (stepB_in hC h1 (by omega) hs)
theorem stepE_ok {f0 : Fl} {s : Ss} (hs : inS N n b f0 n s) : okF N n (b + 1) (p_stepE s) := by
  have hb := hs.1.2.2.2.2.2
  have h1 := okF_set0 hs.1 (v := s.1 0 + 1) (b' := b + 1) (by omega) (by omega)
  unfold p_stepE
  split
  · exact h1
  · rename_i q
    rcases hs.2.2.2.2 with z | z
    · exact absurd z.1 q
    · exact okF_bl h1 z.1 z.2.1 z.2.2.1 z.2.2.2
theorem in0 (ho : okF N n b f) : inS N n b f 0 (f, 0, -9, -9, false) := ⟨ho, fun _ _ => rfl, Int.le_refl 0, (by decide : (0 : Int) < 2 ^ (0 : Int).toNat), Or.inl ⟨rfl, rfl⟩⟩
theorem stepF_ok (hC : okC w h N n gr kd) (ho : okF N n b f) : okF N n (b + 1) (p_stepF w h gr n kd f) := stepE_ok (stepL_in hC n.toNat 0 _ (Int.le_refl 0) (by have := hC.2.2.1; omega) (in0 ho))
theorem run_ok (hC : okC w h N n gr kd) : ∀ (m : Nat) (st sp b : Int) (f : Fl), okF N n b f → okF N n (b + m) (p_run w h gr n kd m st sp f).1
  | 0, st, sp, b, f, ho => by
    rw [show b + ((0 : Nat) : Int) = b by omega]
    exact ho
  | m + 1, st, sp, b, f, ho => by
    unfold p_run
    split
    · have := run_ok hC m (if p_stepW w h gr n kd f = 0 then st + 1 else 0) (sp + 1) (b + 1) _ (stepF_ok hC ho)
      rw [show b + ((m + 1 : Nat) : Int) = b + 1 + m by omega]
      exact this
    · exact ⟨ho.1, ho.2.1, ho.2.2.1, ho.2.2.2.1, ho.2.2.2.2.1, ho.2.2.2.2.2.1, by have := ho.2.2.2.2.2.2; show f 0 ≤ _; omega⟩
theorem stir_ok (hC : okC w h N n gr kd) (ho : okF N n b f) {k way : Int} (h1 : 0 ≤ k) (h2 : k < n) (y1 : 0 ≤ way) (y2 : way < 4) (hz : p_stir w h gr n kd f k way ≠ -9) : 0 ≤ p_stir w h gr n kd f k way ∧ p_stir w h gr n kd f k way < N ∧ okF N n b (p_stirF gr f k (p_stir w h gr n kd f k way)) := by
  unfold p_stir at hz ⊢
  by_cases hl : f (5 + k) = -9
  · rw [if_pos hl] at hz
    exact absurd rfl hz
  · rw [if_neg hl] at hz ⊢
    have hk := (ho.1 k h1 h2).resolve_left hl
    obtain ⟨e1, e2, e3⟩ := try_eq hz
    have := (by_rg hC hk.1 hk.2 (dxy y1 y2)).resolve_left e2
    rw [e1]
    exact ⟨this.1, this.2.1, okF_bl (okF_goTo hC ho h1 h2 this.1 this.2.1 (can_who e3)) h1 h2 this.1 this.2.1⟩
end KEEPS
end
section
/-! ===== the class's flocks: steps, runs, drives ===== -/
section FLOCKS
variable {L p a g d : Nat} {I : Nat → Nat → Int32} {J : Nat → Nat → Int64} {n w h N b : Int} {kd f gr : Fl}
theorem one_two {k across down : Int} {gate away sw : Bool} : p_two w h gr n kd f k ((if away = true then -1 else 1) * p_sgn across) ((if away = true then -1 else 1) * p_sgn down) gate sw = if p_one w h gr n kd f k across down gate away sw = -9 then p_one w h gr n kd f k across down gate away (!sw) else p_one w h gr n kd f k across down gate away sw := by
  have hz : ∀ x : Int, ((if away = true then (-1 : Int) else 1) * p_sgn x = 0) = (x = 0) := by
    intro x
    unfold p_sgn
    cases away <;> by_cases h1 : x < 0 <;> by_cases h2 : 0 < x <;> simp [h1, h2] <;> omega
  unfold p_two p_one
  generalize hA : p_try gr n kd f k (p_by w h (f (5 + k)) ((if away = true then -1 else 1) * p_sgn across) 0) gate = A
  generalize hB : p_try gr n kd f k (p_by w h (f (5 + k)) 0 ((if away = true then -1 else 1) * p_sgn down)) gate = B
  simp only [hz, ne_eq]
  cases sw <;> by_cases z1 : across = 0 <;> by_cases z2 : down = 0 <;> by_cases z3 : A = -9 <;> by_cases z4 : B = -9 <;> simp [z1, z2, z3, z4]
theorem s_tail (hF : FA a) (hg : GA g) (hi : iF I a n kd f) (hG : iG I g w h N gr) (hT : iT I) (hC : okC w h N n gr kd) (ho : okF N n b f) {k aim across down : Int} {gate away : Bool} {x8 : Int32} (h1 : 0 ≤ k) (h2 : k < n) (hl : f (5 + k) ≠ -9) (a1 : -100 ≤ across) (a2 : across ≤ 100) (a3 : -100 ≤ down) (a4 : down ≤ 100) (M : Nat) :
    j_exec k_27 h_27 (j_run (d + 1)) (M + 20) 112 [some (.ref a), some (.ref g), some (.int (j_k k)), some (.int (j_z (gate = true))), some (.int (j_k aim)), some (.int (j_k (f (5 + k)))), some (.int (j_k across)), some (.int (j_k down)), some (.int x8), some (.int (j_z (away = true))), none, none, none, none, none, none] [] (ST L p I J) = some (some (.int (j_k (p_two w h gr n kd f k ((if away = true then -1 else 1) * p_sgn across) ((if away = true then -1 else 1) * p_sgn down) gate (decide (p_abs down ≤ p_abs across))))), ST L p I J) := by
  have st : j_exec k_27 h_27 (j_run (d + 1)) (M + 20) 112 [some (.ref a), some (.ref g), some (.int (j_k k)), some (.int (j_z (gate = true))), some (.int (j_k aim)), some (.int (j_k (f (5 + k)))), some (.int (j_k across)), some (.int (j_k down)), some (.int x8), some (.int (j_z (away = true))), none, none, none, none, none, none] [] (ST L p I J) = j_exec k_27 h_27 (j_run (d + 1)) (M + 18) 135 (tl a g k aim (f (5 + k)) across down (j_z (gate = true)) x8 away (decide (p_abs down ≤ p_abs across)) 0) [] (ST L p I J) := by
    have b1 : 0 ≤ p_abs across ∧ p_abs across ≤ 100 := by unfold p_abs; split <;> omega
    have b2 : 0 ≤ p_abs down ∧ p_abs down ≤ 100 := by unfold p_abs; split <;> omega
    rw [x_exec, t_27_112, k_abs (by omega) (by omega), k_abs (by omega) (by omega)]
    show (if j_k (p_abs across) < j_k (p_abs down) then _ else _) = _
    by_cases hz : p_abs across < p_abs down
    · rw [if_pos (by rw [k_lt (by omega) (by omega) (by omega) (by omega)]; exact hz), x_exec, t_27_132, decide_eq_false (by omega)]
      rfl
    · rw [if_neg (by rw [k_lt (by omega) (by omega) (by omega) (by omega)]; exact hz), x_exec, t_27_132, decide_eq_true (by omega)]
      rfl
  rw [st, one_two]
  generalize decide (p_abs down ≤ p_abs across) = sw
  have T := s_turn (L := L) (p := p) (d := d) (J := J) (aim := aim) (gate := gate) (away := away) (sw := sw) (x8 := x8) (t := 0) hF hg hi hG hT hC ho h1 h2 hl a1 a2 a3 a4 (Int.le_refl 0) (by decide) (M + 12)
  by_cases hp : p_one w h gr n kd f k across down gate away sw = -9
  · obtain ⟨M1, hM, e1⟩ := T.2 hp
    obtain ⟨M2, rfl⟩ : ∃ q, M1 = q + 6 := ⟨M1 - 6, by omega⟩
    rw [e1, if_pos hp]
    have T2 := s_turn (L := L) (p := p) (d := d) (J := J) (aim := aim) (gate := gate) (away := away) (sw := !sw) (x8 := x8) (t := 0 + 1) hF hg hi hG hT hC ho h1 h2 hl a1 a2 a3 a4 (by decide) (by decide) M2
    by_cases hp2 : p_one w h gr n kd f k across down gate away (!sw) = -9
    · obtain ⟨M3, hM3, e2⟩ := T2.2 hp2
      obtain ⟨M4, rfl⟩ : ∃ q, M3 = q + 1 := ⟨M3 - 1, by omega⟩
      rw [e2, hp2, x_exec, t_27_135]
      rfl
    · exact T2.1 hp2
  · rw [if_neg hp]
    exact T.1 hp
theorem s_nextCell (hF : FA a) (hg : GA g) (hi : iF I a n kd f) (hG : iG I g w h N gr) (hT : iT I) (hC : okC w h N n gr kd) (ho : okF N n b f) {k : Int} {gate : Bool} (h1 : 0 ≤ k) (h2 : k < n) (hl : f (5 + k) ≠ -9) : j_run (d + 2) 27 [.ref a, .ref g, .int (j_k k), .int (j_z (gate = true))] (ST L p I J) = some (some (.int (j_k (p_next w h gr n kd f k (p_aim kd f k) gate))), ST L p I J) := by
  have hi0 := hi
  have hG0 := hG
  obtain ⟨e3, e4, e5, e6, e7, e8, ek, ec, eg, ef⟩ := hi
  obtain ⟨g3, g4, g5, g1, g2, g6⟩ := hG
  obtain ⟨b1, b2, -⟩ := bd_N hC
  have hn4 := hC.2.2.2.1
  have hk := (ho.1 k h1 h2).resolve_left hl
  have hkd := hC.2.2.2.2.2 k h1 h2
  have q1 := s_aimOf (L := L) (p := p) (d := d) (J := J) hF hi0 hn4 hC ho (by omega) h1 h2
  have q2 := s_isShy (L := L) (p := p) (d := d) (J := J) hF hi0 hn4 hC h1 h2
  have har := aim_rg (kd := kd) ho k
  generalize p_aim kd f k = aim at q1 har
  rw [r_27, t_27_0]
  by_cases ha : aim = -9
  · subst ha
    simp (disch := first | assumption | omega) only [k_add, k_sub, k_mul, k_lt, k_eq, k_lt0, k_0lt, k_eq0, k_nat, k_b0, k_b1, k_z1, k_z0, k_o1, k_o0, Int.reduceEq, Int.reduceLT, Int.reduceLE, Int.reduceAdd, Int.reduceMul, Int.reduceNeg, Bool.false_eq_true, or_true, true_or, or_false, false_or, and_true, true_and, and_false, false_and, not_true_eq_false, not_false_eq_true, ↓reduceIte, z_0, z_k, s_I, s_J, s_uI, s_uJ, f_oc, f_gP0, f_gP1, f_gP2, f_ia0, f_ia1, f_ia2, f_is0, f_is1, f_is2, f_lt, jc1 q1]
    rfl
  · have ha2 := har.resolve_left ha
    obtain ⟨x1, x2, x3, x4, -, x5, x6, x7, x8, -⟩ := bd_xy hC ha2.1 ha2.2
    obtain ⟨y1, y2, y3, y4, -⟩ := bd_xy hC hk.1 hk.2
    have hoff : ((if 0 ≤ aim % w - f (5 + k) % w then aim % w - f (5 + k) % w else -(aim % w - f (5 + k) % w)) + (if 0 ≤ aim / w - f (5 + k) / w then aim / w - f (5 + k) / w else -(aim / w - f (5 + k) / w))) = p_off w aim (f (5 + k)) := rfl
    have ho2 := off_rg hC ha2.1 ha2.2 hk.1 hk.2
    have TL := fun x8 => s_tail (L := L) (p := p) (d := d) (J := J) (aim := aim) (across := aim % w - f (5 + k) % w) (down := aim / w - f (5 + k) / w) (gate := gate) (away := p_shy kd k) (x8 := x8) hF hg hi0 hG0 hT hC ho h1 h2 hl (by omega) (by omega) (by omega) (by omega) 999979
    unfold p_next
    rw [if_neg ha]
    cases hs : p_shy kd k
    · rw [hs] at q2 TL
      rw [z_f] at q2
      simp (disch := first | assumption | omega) only [k_add, k_sub, k_mul, k_lt, k_eq, k_lt0, k_0lt, k_eq0, k_nat, k_b0, k_b1, k_z1, k_z0, k_o1, k_o0, Int.reduceEq, Int.reduceLT, Int.reduceLE, Int.reduceAdd, Int.reduceMul, Int.reduceNeg, Bool.false_eq_true, or_true, true_or, or_false, false_or, and_true, true_and, and_false, false_and, not_true_eq_false, not_false_eq_true, ↓reduceIte, z_0, z_k, s_I, s_J, s_uI, s_uJ, f_oc, f_gP0, f_gP1, f_gP2, f_ia0, f_ia1, f_ia2, f_is0, f_is1, f_is2, f_lt, g_oc, g_gP0, g_gP1, g_gP2, g_ia0, g_ia1, g_ia2, g_is0, g_is1, g_is2, g_lt, jc1 q1, jc1 q2, ec, g2, g6, k_abs, hoff, ek, ha]
      rw [z_f] at TL
      by_cases hf : p_off w aim (f (5 + k)) ≤ 1
      · rw [if_neg (by omega), if_pos hf]
      · rw [if_pos (by omega), if_neg hf]
        exact TL _
    · rw [hs] at q2 TL
      rw [z_t] at q2
      simp (disch := first | assumption | omega) only [k_add, k_sub, k_mul, k_lt, k_eq, k_lt0, k_0lt, k_eq0, k_nat, k_b0, k_b1, k_z1, k_z0, k_o1, k_o0, Int.reduceEq, Int.reduceLT, Int.reduceLE, Int.reduceAdd, Int.reduceMul, Int.reduceNeg, Bool.false_eq_true, or_true, true_or, or_false, false_or, and_true, true_and, and_false, false_and, not_true_eq_false, not_false_eq_true, ↓reduceIte, z_0, z_k, s_I, s_J, s_uI, s_uJ, f_oc, f_gP0, f_gP1, f_gP2, f_ia0, f_ia1, f_ia2, f_is0, f_is1, f_is2, f_lt, g_oc, g_gP0, g_gP1, g_gP2, g_ia0, g_ia1, g_ia2, g_is0, g_is1, g_is2, g_lt, jc1 q1, jc1 q2, ec, g2, g6, k_abs, hoff, ek, ha]
      rw [z_t] at TL
      by_cases hf : kd k = 5
      · by_cases hf2 : 3 ≤ p_off w aim (f (5 + k))
        · simp only [hf, true_and, if_true]
          rw [if_neg (by omega), if_pos (Or.inl hf2)]
        · simp only [hf, true_and, if_true]
          rw [if_pos (by omega), if_neg (fun z => z.elim hf2 (fun y => by cases y.1))]
          exact TL _
      · simp only [hf, false_and, if_false]
        exact TL _
theorem iF_set0 (hi : iF I a n kd f) {v : Int} : iF (u2 I a 8 (j_k v)) a n kd (p_set f 0 v) := by
  obtain ⟨e3, e4, e5, e6, e7, e8, ek, ec, eg, ef⟩ := hi
  refine ⟨?_, ?_, ?_, ?_, ?_, ?_, fun j h1 h2 => ?_, fun j h1 h2 => ?_, fun j h1 h2 => ?_, fun c h1 h2 => ?_⟩
  · simp (disch := first | assumption | omega) only [k_add, k_sub, k_mul, k_lt, k_eq, k_lt0, k_0lt, k_eq0, k_nat, k_b0, k_b1, k_z1, k_z0, k_o1, k_o0, Int.reduceEq, Int.reduceLT, Int.reduceLE, Int.reduceAdd, Int.reduceMul, Int.reduceNeg, Bool.false_eq_true, or_true, true_or, or_false, false_or, and_true, true_and, and_false, false_and, not_true_eq_false, not_false_eq_true, ↓reduceIte, z_0, z_k, s_I, s_J, s_uI, s_uJ, u2_k, e3]
  · simp (disch := first | assumption | omega) only [k_add, k_sub, k_mul, k_lt, k_eq, k_lt0, k_0lt, k_eq0, k_nat, k_b0, k_b1, k_z1, k_z0, k_o1, k_o0, Int.reduceEq, Int.reduceLT, Int.reduceLE, Int.reduceAdd, Int.reduceMul, Int.reduceNeg, Bool.false_eq_true, or_true, true_or, or_false, false_or, and_true, true_and, and_false, false_and, not_true_eq_false, not_false_eq_true, ↓reduceIte, z_0, z_k, s_I, s_J, s_uI, s_uJ, u2_k, e4, set0_hi]
  · simp (disch := first | assumption | omega) only [k_add, k_sub, k_mul, k_lt, k_eq, k_lt0, k_0lt, k_eq0, k_nat, k_b0, k_b1, k_z1, k_z0, k_o1, k_o0, Int.reduceEq, Int.reduceLT, Int.reduceLE, Int.reduceAdd, Int.reduceMul, Int.reduceNeg, Bool.false_eq_true, or_true, true_or, or_false, false_or, and_true, true_and, and_false, false_and, not_true_eq_false, not_false_eq_true, ↓reduceIte, z_0, z_k, s_I, s_J, s_uI, s_uJ, u2_k, e5, set0_hi]
  · simp (disch := first | assumption | omega) only [k_add, k_sub, k_mul, k_lt, k_eq, k_lt0, k_0lt, k_eq0, k_nat, k_b0, k_b1, k_z1, k_z0, k_o1, k_o0, Int.reduceEq, Int.reduceLT, Int.reduceLE, Int.reduceAdd, Int.reduceMul, Int.reduceNeg, Bool.false_eq_true, or_true, true_or, or_false, false_or, and_true, true_and, and_false, false_and, not_true_eq_false, not_false_eq_true, ↓reduceIte, z_0, z_k, s_I, s_J, s_uI, s_uJ, u2_k, e6, set0_hi]
  · simp (disch := first | assumption | omega) only [k_add, k_sub, k_mul, k_lt, k_eq, k_lt0, k_0lt, k_eq0, k_nat, k_b0, k_b1, k_z1, k_z0, k_o1, k_o0, Int.reduceEq, Int.reduceLT, Int.reduceLE, Int.reduceAdd, Int.reduceMul, Int.reduceNeg, Bool.false_eq_true, or_true, true_or, or_false, false_or, and_true, true_and, and_false, false_and, not_true_eq_false, not_false_eq_true, ↓reduceIte, z_0, z_k, s_I, s_J, s_uI, s_uJ, u2_k, e7, set0_hi]
  · simp (disch := first | assumption | omega) only [k_add, k_sub, k_mul, k_lt, k_eq, k_lt0, k_0lt, k_eq0, k_nat, k_b0, k_b1, k_z1, k_z0, k_o1, k_o0, Int.reduceEq, Int.reduceLT, Int.reduceLE, Int.reduceAdd, Int.reduceMul, Int.reduceNeg, Bool.false_eq_true, or_true, true_or, or_false, false_or, and_true, true_and, and_false, false_and, not_true_eq_false, not_false_eq_true, ↓reduceIte, z_0, z_k, s_I, s_J, s_uI, s_uJ, u2_ss, set0_0]
  · simp (disch := first | assumption | omega) only [k_add, k_sub, k_mul, k_lt, k_eq, k_lt0, k_0lt, k_eq0, k_nat, k_b0, k_b1, k_z1, k_z0, k_o1, k_o0, Int.reduceEq, Int.reduceLT, Int.reduceLE, Int.reduceAdd, Int.reduceMul, Int.reduceNeg, Bool.false_eq_true, or_true, true_or, or_false, false_or, and_true, true_and, and_false, false_and, not_true_eq_false, not_false_eq_true, ↓reduceIte, z_0, z_k, s_I, s_J, s_uI, s_uJ, u2_r, ek]
  · simp (disch := first | assumption | omega) only [k_add, k_sub, k_mul, k_lt, k_eq, k_lt0, k_0lt, k_eq0, k_nat, k_b0, k_b1, k_z1, k_z0, k_o1, k_o0, Int.reduceEq, Int.reduceLT, Int.reduceLE, Int.reduceAdd, Int.reduceMul, Int.reduceNeg, Bool.false_eq_true, or_true, true_or, or_false, false_or, and_true, true_and, and_false, false_and, not_true_eq_false, not_false_eq_true, ↓reduceIte, z_0, z_k, s_I, s_J, s_uI, s_uJ, u2_r, ec, set0_hi]
  · simp (disch := first | assumption | omega) only [k_add, k_sub, k_mul, k_lt, k_eq, k_lt0, k_0lt, k_eq0, k_nat, k_b0, k_b1, k_z1, k_z0, k_o1, k_o0, Int.reduceEq, Int.reduceLT, Int.reduceLE, Int.reduceAdd, Int.reduceMul, Int.reduceNeg, Bool.false_eq_true, or_true, true_or, or_false, false_or, and_true, true_and, and_false, false_and, not_true_eq_false, not_false_eq_true, ↓reduceIte, z_0, z_k, s_I, s_J, s_uI, s_uJ, u2_r, eg, set0_hi]
  · rw [u2_k (by decide), ef c h1 h2]
    refine exists_congr fun j => ?_
    by_cases hj : 0 ≤ j
    · rw [set0_hi (by omega)]
    · simp [hj]
theorem s_stepL (hF : FA a) (hg : GA g) (hC : okC w h N n gr kd) (hb : b ≤ 1000000) {f0 : Fl} : ∀ (m M : Nat) (k : Int) (s : Ss) (I : Nat → Nat → Int32), 0 ≤ k → k + m = n → m < M → inS N n b f0 k s → iF I a n kd s.1 → iG I g w h N gr → iT I →
    ∃ I', j_exec k_26 h_26 (j_run (d + 2)) M 15 [some (.ref a), some (.ref g), some (.int (j_k s.2.1)), some (.int (j_k s.2.2.1)), some (.int (j_k s.2.2.2.1)), some (.int (j_z (s.2.2.2.2 = true))), some (.int (j_k k)), none] [] (ST L p I J) = some (some (.int (j_k (p_loop (p_stepB w h gr n kd f0) m k s).2.1)), ST L p I' J) ∧ iF I' a n kd (p_stepE (p_loop (p_stepB w h gr n kd f0) m k s)) ∧ fr a I I' := by
  have hn4 := hC.2.2.2.1
  obtain ⟨b1, b2, -⟩ := bd_N hC
  intro m
  induction m with
  | zero =>
    intro M k s I k1 k2 hM hs hi hG hT
    obtain ⟨M, rfl⟩ : ∃ q, M = q + 1 := ⟨M - 1, by omega⟩
    have hi0 := hi
    obtain ⟨e3, e4, e5, e6, e7, e8, ek, ec, eg, ef⟩ := hi
    have h0 := hs.1.2.2.2.2.2
    have hl := hs.2.2.2.2
    have hset := iF_set0 (v := s.1 0 + 1) hi0
    have hkn : ¬ k < n := by omega
    have hfr : fr a I (u2 I a 8 (j_k (s.1 0 + 1))) := fun r hr => by
      funext i
      rw [u2_r (by omega)]
    rw [x_exec, t_26_15, p_loop0]
    by_cases hz : s.2.2.1 = -9
    · refine ⟨u2 I a 8 (j_k (s.1 0 + 1)), ?_, ?_, hfr⟩
      · simp (disch := first | assumption | omega) only [k_add, k_sub, k_mul, k_lt, k_eq, k_lt0, k_0lt, k_eq0, k_nat, k_b0, k_b1, k_z1, k_z0, k_o1, k_o0, Int.reduceEq, Int.reduceLT, Int.reduceLE, Int.reduceAdd, Int.reduceMul, Int.reduceNeg, Bool.false_eq_true, or_true, true_or, or_false, false_or, and_true, true_and, and_false, false_and, not_true_eq_false, not_false_eq_true, ↓reduceIte, z_0, z_k, s_I, s_J, s_uI, s_uJ, f_oc, f_gP0, f_gP1, f_gP2, f_ia0, f_ia1, f_ia2, f_is0, f_is1, f_is2, f_lt, e3, e8, hz, hkn]
      · unfold p_stepE
        rw [if_pos hz]
        exact hset
    · have hl := hl.resolve_left (fun z => hz z.1)
      obtain ⟨I2, w1, w2, w3⟩ := s_becomesLast (L := L) (p := p) (d := d + 1) (J := J) hF hset (k := s.2.2.1) (c := s.2.2.2.1)
      refine ⟨I2, ?_, ?_, hfr.tr w3⟩
      · simp (disch := first | assumption | omega) only [k_add, k_sub, k_mul, k_lt, k_eq, k_lt0, k_0lt, k_eq0, k_nat, k_b0, k_b1, k_z1, k_z0, k_o1, k_o0, Int.reduceEq, Int.reduceLT, Int.reduceLE, Int.reduceAdd, Int.reduceMul, Int.reduceNeg, Bool.false_eq_true, or_true, true_or, or_false, false_or, and_true, true_and, and_false, false_and, not_true_eq_false, not_false_eq_true, ↓reduceIte, z_0, z_k, s_I, s_J, s_uI, s_uJ, f_oc, f_gP0, f_gP1, f_gP2, f_ia0, f_ia1, f_ia2, f_is0, f_is1, f_is2, f_lt, e3, e8, hz, hkn, jc0 w1]
      · unfold p_stepE
        rw [if_neg hz]
        exact w2
  | succ m ih =>
    intro M k s I k1 k2 hM hs hi hG hT
    obtain ⟨M, rfl⟩ : ∃ q, M = q + 1 := ⟨M - 1, by omega⟩
    have hi0 := hi
    obtain ⟨e3, e4, e5, e6, e7, e8, ek, ec, eg, ef⟩ := hi
    have hkn : k < n := by omega
    have h0 := hs.1.2.2.2.2.2
    have hl1 := hs.1.2.2.1
    have hck := hs.1.1 k k1 hkn
    have hm := hs.2.1
    have hin := stepB_in hC k1 hkn hs
    have hf0 : s.1 0 = f0 0 := hm 0 (by decide)
    have hf1 : s.1 1 = f0 1 := hm 1 (by decide)
    have haim : p_aim kd s.1 k = p_aim kd f0 k := by
      unfold p_aim
      rw [hm 2 (by decide), hm 4 (by decide)]
    have q1 := s_isSlow (L := L) (p := p) (d := d + 1) (J := J) hF hi0 hn4 hC k1 hkn
    have ihs := ih M (k + 1) s I (by omega) (by omega) (by omega)
    rw [x_exec, t_26_15, p_loopS]
    by_cases hst : k = f0 1 ∨ s.1 (5 + k) = -9 ∨ (f0 0 % 2 = 1 ∧ p_slow kd k = true)
    · have hB : p_stepB w h gr n kd f0 k s = s := if_pos hst
      rw [hB] at hin ⊢
      obtain ⟨I', r1, r2, r3⟩ := ihs hin hi0 hG hT
      refine ⟨I', ?_, r2, r3⟩
      simp (disch := first | assumption | omega) only [k_add, k_sub, k_mul, k_lt, k_eq, k_lt0, k_0lt, k_eq0, k_nat, k_b0, k_b1, k_z1, k_z0, k_o1, k_o0, Int.reduceEq, Int.reduceLT, Int.reduceLE, Int.reduceAdd, Int.reduceMul, Int.reduceNeg, Bool.false_eq_true, or_true, true_or, or_false, false_or, and_true, true_and, and_false, false_and, not_true_eq_false, not_false_eq_true, ↓reduceIte, z_0, z_k, s_I, s_J, s_uI, s_uJ, f_oc, f_gP0, f_gP1, f_gP2, f_ia0, f_ia1, f_ia2, f_is0, f_is1, f_is2, f_lt, e3, e4, hkn]
      by_cases z1 : k = s.1 1
      · rw [if_pos z1]
        exact r1
      · rw [if_neg z1]
        by_cases z2 : s.1 (5 + k) = -9
        · simp (disch := first | assumption | omega) only [k_add, k_sub, k_mul, k_lt, k_eq, k_lt0, k_0lt, k_eq0, k_nat, k_b0, k_b1, k_z1, k_z0, k_o1, k_o0, Int.reduceEq, Int.reduceLT, Int.reduceLE, Int.reduceAdd, Int.reduceMul, Int.reduceNeg, Bool.false_eq_true, or_true, true_or, or_false, false_or, and_true, true_and, and_false, false_and, not_true_eq_false, not_false_eq_true, ↓reduceIte, z_0, z_k, s_I, s_J, s_uI, s_uJ, f_oc, f_gP0, f_gP1, f_gP2, f_ia0, f_ia1, f_ia2, f_is0, f_is1, f_is2, f_lt, ec, z2]
          exact r1
        · have z3 := (hst.resolve_left (by rw [← hf1]; exact z1)).resolve_left z2
          rw [z3.2, z_t] at q1
          have z4 : s.1 0 % 2 = 1 := by rw [hf0]; exact z3.1
          simp (disch := first | assumption | omega) only [k_add, k_sub, k_mul, k_lt, k_eq, k_lt0, k_0lt, k_eq0, k_nat, k_b0, k_b1, k_z1, k_z0, k_o1, k_o0, Int.reduceEq, Int.reduceLT, Int.reduceLE, Int.reduceAdd, Int.reduceMul, Int.reduceNeg, Bool.false_eq_true, or_true, true_or, or_false, false_or, and_true, true_and, and_false, false_and, not_true_eq_false, not_false_eq_true, ↓reduceIte, z_0, z_k, s_I, s_J, s_uI, s_uJ, f_oc, f_gP0, f_gP1, f_gP2, f_ia0, f_ia1, f_ia2, f_is0, f_is1, f_is2, f_lt, ec, z2, e8, k_par, z4, jc1 q1]
          exact r1
    · have z1 : ¬ k = s.1 1 := fun z => hst (Or.inl (by rw [← hf1]; exact z))
      have z2 : ¬ s.1 (5 + k) = -9 := fun z => hst (Or.inr (Or.inl z))
      have q2 := s_nextCell (L := L) (p := p) (d := d) (J := J) (gate := s.2.2.2.2) hF hg hi0 hG hT hC hs.1 k1 hkn z2
      rw [haim] at q2
      by_cases hnx : p_next w h gr n kd s.1 k (p_aim kd f0 k) s.2.2.2.2 = -9
      · have hB : p_stepB w h gr n kd f0 k s = s := by
          unfold p_stepB
          rw [if_neg hst, if_pos hnx]
        rw [hB] at hin ⊢
        rw [hnx] at q2
        obtain ⟨I', r1, r2, r3⟩ := ihs hin hi0 hG hT
        refine ⟨I', ?_, r2, r3⟩
        simp (disch := first | assumption | omega) only [k_add, k_sub, k_mul, k_lt, k_eq, k_lt0, k_0lt, k_eq0, k_nat, k_b0, k_b1, k_z1, k_z0, k_o1, k_o0, Int.reduceEq, Int.reduceLT, Int.reduceLE, Int.reduceAdd, Int.reduceMul, Int.reduceNeg, Bool.false_eq_true, or_true, true_or, or_false, false_or, and_true, true_and, and_false, false_and, not_true_eq_false, not_false_eq_true, ↓reduceIte, z_0, z_k, s_I, s_J, s_uI, s_uJ, f_oc, f_gP0, f_gP1, f_gP2, f_ia0, f_ia1, f_ia2, f_is0, f_is1, f_is2, f_lt, e3, e4, hkn, z1, ec, z2, e8, k_par]
        by_cases z4 : s.1 0 % 2 = 1
        · have z5 : p_slow kd k = false := by
            cases z6 : p_slow kd k
            · rfl
            · exact absurd (Or.inr (Or.inr ⟨by rw [← hf0]; exact z4, z6⟩)) hst
          rw [z5, z_f] at q1
          simp (disch := first | assumption | omega) only [k_add, k_sub, k_mul, k_lt, k_eq, k_lt0, k_0lt, k_eq0, k_nat, k_b0, k_b1, k_z1, k_z0, k_o1, k_o0, Int.reduceEq, Int.reduceLT, Int.reduceLE, Int.reduceAdd, Int.reduceMul, Int.reduceNeg, Bool.false_eq_true, or_true, true_or, or_false, false_or, and_true, true_and, and_false, false_and, not_true_eq_false, not_false_eq_true, ↓reduceIte, z_0, z_k, s_I, s_J, s_uI, s_uJ, f_oc, f_gP0, f_gP1, f_gP2, f_ia0, f_ia1, f_ia2, f_is0, f_is1, f_is2, f_lt, z4, jc1 q1, jc1 q2]
          exact r1
        · simp (disch := first | assumption | omega) only [k_add, k_sub, k_mul, k_lt, k_eq, k_lt0, k_0lt, k_eq0, k_nat, k_b0, k_b1, k_z1, k_z0, k_o1, k_o0, Int.reduceEq, Int.reduceLT, Int.reduceLE, Int.reduceAdd, Int.reduceMul, Int.reduceNeg, Bool.false_eq_true, or_true, true_or, or_false, false_or, and_true, true_and, and_false, false_and, not_true_eq_false, not_false_eq_true, ↓reduceIte, z_0, z_k, s_I, s_J, s_uI, s_uJ, f_oc, f_gP0, f_gP1, f_gP2, f_ia0, f_ia1, f_ia2, f_is0, f_is1, f_is2, f_lt, z4, jc1 q2]
          exact r1
      · obtain ⟨n1, n2, n3⟩ := next_ok hC hs.1 k1 hkn z2 hnx
        have hB : p_stepB w h gr n kd f0 k s = (p_goTo gr s.1 k (p_next w h gr n kd s.1 k (p_aim kd f0 k) s.2.2.2.2), s.2.1 + 2 ^ k.toNat, k, p_next w h gr n kd s.1 k (p_aim kd f0 k) s.2.2.2.2, s.2.2.2.2 || decide (gr (p_next w h gr n kd s.1 k (p_aim kd f0 k) s.2.2.2.2) = 4)) := by
          unfold p_stepB
          rw [if_neg hst, if_neg hnx]
        rw [hB] at hin ⊢
        generalize p_next w h gr n kd s.1 k (p_aim kd f0 k) s.2.2.2.2 = to at *
        have hto : 0 ≤ gr to ∧ gr to ≤ 4 := hC.2.2.2.2.1 to n1 n2
        obtain ⟨I1, m1, m2, m3⟩ := s_move (L := L) (p := p) (d := d + 1) (J := J) hF hg hi0 hG hC hs.1 k1 hkn z2 n1 n2
        have hG1 := hG.fr hF hg m3
        have hT1 := hT.fr hF m3
        obtain ⟨I', r1, r2, r3⟩ := ih M (k + 1) _ I1 (by omega) (by omega) (by omega) hin m2 hG1 hT1
        refine ⟨I', ?_, r2, m3.tr r3⟩
        have hor := or_set k1 (by omega) hs.2.2.1 hs.2.2.2.1
        obtain ⟨g3, g4, g5, g1, g2, g6⟩ := hG1
        dsimp only at r1
        have hgt : j_z ((s.2.2.2.2 || decide (gr to = 4)) = true) = if gr to = 4 then j_k 1 else j_z (s.2.2.2.2 = true) := by
          by_cases z : gr to = 4
          · simp only [z, decide_true, Bool.or_true, if_true]
            rfl
          · simp only [z, decide_false, Bool.or_false, if_false]
        rw [hgt] at r1
        simp (disch := first | assumption | omega) only [k_add, k_sub, k_mul, k_lt, k_eq, k_lt0, k_0lt, k_eq0, k_nat, k_b0, k_b1, k_z1, k_z0, k_o1, k_o0, Int.reduceEq, Int.reduceLT, Int.reduceLE, Int.reduceAdd, Int.reduceMul, Int.reduceNeg, Bool.false_eq_true, or_true, true_or, or_false, false_or, and_true, true_and, and_false, false_and, not_true_eq_false, not_false_eq_true, ↓reduceIte, z_0, z_k, s_I, s_J, s_uI, s_uJ, f_oc, f_gP0, f_gP1, f_gP2, f_ia0, f_ia1, f_ia2, f_is0, f_is1, f_is2, f_lt, e3, e4, hkn, z1, ec, z2, e8, k_par]
        by_cases z4 : s.1 0 % 2 = 1
        · have z5 : p_slow kd k = false := by
            cases z6 : p_slow kd k
            · rfl
            · exact absurd (Or.inr (Or.inr ⟨by rw [← hf0]; exact z4, z6⟩)) hst
          rw [z5, z_f] at q1
          simp (disch := first | assumption | omega) only [k_add, k_sub, k_mul, k_lt, k_eq, k_lt0, k_0lt, k_eq0, k_nat, k_b0, k_b1, k_z1, k_z0, k_o1, k_o0, Int.reduceEq, Int.reduceLT, Int.reduceLE, Int.reduceAdd, Int.reduceMul, Int.reduceNeg, Bool.false_eq_true, or_true, true_or, or_false, false_or, and_true, true_and, and_false, false_and, not_true_eq_false, not_false_eq_true, ↓reduceIte, z_0, z_k, s_I, s_J, s_uI, s_uJ, f_oc, f_gP0, f_gP1, f_gP2, f_ia0, f_ia1, f_ia2, f_is0, f_is1, f_is2, f_lt, g_oc, g_gP0, g_gP1, g_gP2, g_ia0, g_ia1, g_ia2, g_is0, g_is1, g_is2, g_lt, z4, jc1 q1, jc1 q2, hnx, jc0 m1, g1, hor]
          by_cases z7 : gr to = 4
          · rw [if_pos z7] at r1 ⊢
            exact r1
          · rw [if_neg z7] at r1 ⊢
            exact r1
        · simp (disch := first | assumption | omega) only [k_add, k_sub, k_mul, k_lt, k_eq, k_lt0, k_0lt, k_eq0, k_nat, k_b0, k_b1, k_z1, k_z0, k_o1, k_o0, Int.reduceEq, Int.reduceLT, Int.reduceLE, Int.reduceAdd, Int.reduceMul, Int.reduceNeg, Bool.false_eq_true, or_true, true_or, or_false, false_or, and_true, true_and, and_false, false_and, not_true_eq_false, not_false_eq_true, ↓reduceIte, z_0, z_k, s_I, s_J, s_uI, s_uJ, f_oc, f_gP0, f_gP1, f_gP2, f_ia0, f_ia1, f_ia2, f_is0, f_is1, f_is2, f_lt, g_oc, g_gP0, g_gP1, g_gP2, g_ia0, g_ia1, g_ia2, g_is0, g_is1, g_is2, g_lt, z4, jc1 q2, hnx, jc0 m1, g1, hor]
          by_cases z7 : gr to = 4
          · rw [if_pos z7] at r1 ⊢
            exact r1
          · rw [if_neg z7] at r1 ⊢
            exact r1
end FLOCKS
end
section
/-! ===== the class's flocks: a step, a run, a drive ===== -/
section FLOCKT
variable {L p a g d : Nat} {I : Nat → Nat → Int32} {J : Nat → Nat → Int64} {n w h N b : Int} {kd f gr : Fl}
theorem s_takeStep (hF : FA a) (hg : GA g) (hi : iF I a n kd f) (hG : iG I g w h N gr) (hT : iT I) (hC : okC w h N n gr kd) (ho : okF N n b f) (hb : b ≤ 1000000) : ∃ I', j_run (d + 3) 26 [.ref a, .ref g] (ST L p I J) = some (some (.int (j_k (p_stepW w h gr n kd f))), ST L p I' J) ∧ iF I' a n kd (p_stepF w h gr n kd f) ∧ fr a I I' := by
  have hn := hC.2.2.1
  have hn4 := hC.2.2.2.1
  rw [r_26, t_26_0]
  exact s_stepL (L := L) (p := p) (d := d) (J := J) hF hg hC hb n.toNat 999999 0 (f, 0, -9, -9, false) I (Int.le_refl 0) (by omega) (by omega) (in0 ho) hi hG hT
theorem stepW_rg (hC : okC w h N n gr kd) (ho : okF N n b f) : 0 ≤ p_stepW w h gr n kd f ∧ p_stepW w h gr n kd f < 16 := by
  have hn := hC.2.2.1
  have hn4 := hC.2.2.2.1
  have hin := stepL_in hC n.toNat 0 _ (Int.le_refl 0) (by omega) (in0 ho)
  have h1 := hin.2.2.1
  have h2 := hin.2.2.2.1
  have h3 : (2 : Int) ^ n.toNat ≤ 16 := by
    rcases (show n = 0 ∨ n = 1 ∨ n = 2 ∨ n = 3 ∨ n = 4 by omega) with rfl | rfl | rfl | rfl | rfl <;> decide
  exact ⟨h1, Int.lt_of_lt_of_le h2 h3⟩
theorem s_runL (hF : FA a) (hg : GA g) (hC : okC w h N n gr kd) : ∀ (m M : Nat) (st sp b : Int) (f : Fl) (I : Nat → Nat → Int32), 0 ≤ sp → sp + m = 40 → 0 ≤ st → st ≤ 2 → m < M → okF N n b f → b + m ≤ 1000000 → iF I a n kd f → iG I g w h N gr → iT I →
    ∃ I', j_exec k_28 h_28 (j_run (d + 3)) M 4 [some (.ref a), some (.ref g), some (.int (j_k st)), some (.int (j_k sp))] [] (ST L p I J) = some (some (.int (j_z ((p_run w h gr n kd m st sp f).2.1 = 2))), ST L p I' J) ∧ iF I' a n kd (p_run w h gr n kd m st sp f).1 ∧ fr a I I' := by
  intro m
  induction m with
  | zero =>
    intro M st sp b f I s1 s2 s3 s4 hM ho hb hi hG hT
    obtain ⟨M, rfl⟩ : ∃ q, M = q + 1 := ⟨M - 1, by omega⟩
    refine ⟨I, ?_, hi, fr.rf⟩
    rw [x_exec, t_28_4]
    have z : ¬ sp < 40 := by omega
    simp (disch := first | assumption | omega) only [k_add, k_sub, k_mul, k_lt, k_eq, k_lt0, k_0lt, k_eq0, k_nat, k_b0, k_b1, k_z1, k_z0, k_o1, k_o0, Int.reduceEq, Int.reduceLT, Int.reduceLE, Int.reduceAdd, Int.reduceMul, Int.reduceNeg, Bool.false_eq_true, or_true, true_or, or_false, false_or, and_true, true_and, and_false, false_and, not_true_eq_false, not_false_eq_true, ↓reduceIte, z_0, z_k, s_I, s_J, s_uI, s_uJ, z]
    show _ = some (some (Value.int (j_z (st = 2))), ST L p I J)
    unfold j_z
    ((repeat' split) <;> first | rfl | (exfalso; omega))
  | succ m ih =>
    intro M st sp b f I s1 s2 s3 s4 hM ho hb hi hG hT
    obtain ⟨M, rfl⟩ : ∃ q, M = q + 1 := ⟨M - 1, by omega⟩
    have z : sp < 40 := by omega
    rw [x_exec, t_28_4]
    by_cases hst : st < 2
    · obtain ⟨I1, m1, m2, m3⟩ := s_takeStep (L := L) (p := p) (d := d) (J := J) hF hg hi hG hT hC ho (by omega)
      have hw := stepW_rg hC ho
      have ho1 := stepF_ok hC ho
      have e : p_run w h gr n kd (m + 1) st sp f = p_run w h gr n kd m (if p_stepW w h gr n kd f = 0 then st + 1 else 0) (sp + 1) (p_stepF w h gr n kd f) := by
        show (if st < 2 then _ else _) = _
        rw [if_pos hst]
      rw [e]
      by_cases hz : p_stepW w h gr n kd f = 0
      · obtain ⟨I2, r1, r2, r3⟩ := ih M (st + 1) (sp + 1) (b + 1) _ I1 (by omega) (by omega) (by omega) (by omega) (by omega) ho1 (by omega) m2 (hG.fr hF hg m3) (hT.fr hF m3)
        refine ⟨I2, ?_, by rw [if_pos hz]; exact r2, m3.tr r3⟩
        rw [hz] at m1
        rw [if_pos hz]
        simp (disch := first | assumption | omega) only [k_add, k_sub, k_mul, k_lt, k_eq, k_lt0, k_0lt, k_eq0, k_nat, k_b0, k_b1, k_z1, k_z0, k_o1, k_o0, Int.reduceEq, Int.reduceLT, Int.reduceLE, Int.reduceAdd, Int.reduceMul, Int.reduceNeg, Bool.false_eq_true, or_true, true_or, or_false, false_or, and_true, true_and, and_false, false_and, not_true_eq_false, not_false_eq_true, ↓reduceIte, z_0, z_k, s_I, s_J, s_uI, s_uJ, f_oc, f_gP0, f_gP1, f_gP2, f_ia0, f_ia1, f_ia2, f_is0, f_is1, f_is2, f_lt, z, hst, jc1 m1]
        exact r1
      · obtain ⟨I2, r1, r2, r3⟩ := ih M 0 (sp + 1) (b + 1) _ I1 (by omega) (by omega) (by omega) (by omega) (by omega) ho1 (by omega) m2 (hG.fr hF hg m3) (hT.fr hF m3)
        refine ⟨I2, ?_, by rw [if_neg hz]; exact r2, m3.tr r3⟩
        rw [if_neg hz]
        simp (disch := first | assumption | omega) only [k_add, k_sub, k_mul, k_lt, k_eq, k_lt0, k_0lt, k_eq0, k_nat, k_b0, k_b1, k_z1, k_z0, k_o1, k_o0, Int.reduceEq, Int.reduceLT, Int.reduceLE, Int.reduceAdd, Int.reduceMul, Int.reduceNeg, Bool.false_eq_true, or_true, true_or, or_false, false_or, and_true, true_and, and_false, false_and, not_true_eq_false, not_false_eq_true, ↓reduceIte, z_0, z_k, s_I, s_J, s_uI, s_uJ, f_oc, f_gP0, f_gP1, f_gP2, f_ia0, f_ia1, f_ia2, f_is0, f_is1, f_is2, f_lt, z, hst, jc1 m1, hz]
        exact r1
    · have e : p_run w h gr n kd (m + 1) st sp f = (f, st, sp) := by
        show (if st < 2 then _ else _) = _
        rw [if_neg hst]
      rw [e]
      refine ⟨I, ?_, hi, fr.rf⟩
      have z2 : st = 2 := by omega
      simp (disch := first | assumption | omega) only [k_add, k_sub, k_mul, k_lt, k_eq, k_lt0, k_0lt, k_eq0, k_nat, k_b0, k_b1, k_z1, k_z0, k_o1, k_o0, Int.reduceEq, Int.reduceLT, Int.reduceLE, Int.reduceAdd, Int.reduceMul, Int.reduceNeg, Bool.false_eq_true, or_true, true_or, or_false, false_or, and_true, true_and, and_false, false_and, not_true_eq_false, not_false_eq_true, ↓reduceIte, z_0, z_k, s_I, s_J, s_uI, s_uJ, z, hst, z2]
      rfl
theorem s_runOut (hF : FA a) (hg : GA g) (hi : iF I a n kd f) (hG : iG I g w h N gr) (hT : iT I) (hC : okC w h N n gr kd) (ho : okF N n b f) (hb : b + 40 ≤ 1000000) : ∃ I', j_run (d + 4) 28 [.ref a, .ref g] (ST L p I J) = some (some (.int (j_z ((p_runs w h gr n kd f).2.1 = 2))), ST L p I' J) ∧ iF I' a n kd (p_runs w h gr n kd f).1 ∧ fr a I I' := by
  rw [r_28, t_28_0]
  exact s_runL hF hg hC 40 999999 0 0 b f I (Int.le_refl 0) (by decide) (Int.le_refl 0) (by decide) (by decide) ho (by omega) hi hG hT
theorem s_driveBy (hF : FA a) (hg : GA g) (hi : iF I a n kd f) (hG : iG I g w h N gr) (hT : iT I) (hC : okC w h N n gr kd) (ho : okF N n b f) (hb : b + 40 ≤ 1000000) {code : Int} (c1 : 0 ≤ code) (c2 : code < 4 * n) : ∃ I', j_run (d + 5) 29 [.ref a, .ref g, .int (j_k code)] (ST L p I J) = some (some (.int (if (p_drive w h gr n kd f code).isSome = true then j_k 1 else j_k 0)), ST L p I' J) ∧ iF I' a n kd ((p_drive w h gr n kd f code).getD f) ∧ fr a I I' := by
  have hn4 := hC.2.2.2.1
  obtain ⟨b1, b2, -⟩ := bd_N hC
  obtain ⟨I1, m1, m2, m3⟩ := s_stirBy (L := L) (p := p) (d := d + 2) (J := J) hF hg hi hG hT hC ho (k := code / 4) (way := code % 4) (by omega) (by omega) (by omega) (by omega)
  have e := (r_29 (d + 4) (ST L p I J) a g (j_k code)).trans (t_29_0 _ _ _ _ _ _)
  rw [k_modp c1 (by omega) (by decide) (by decide), k_divp c1 (by omega) (by decide) (by decide)] at e
  unfold p_drive
  by_cases hz : p_stir w h gr n kd f (code / 4) (code % 4) = -9
  · rw [if_pos hz] at m2 ⊢
    rw [hz] at m1
    refine ⟨I1, ?_, m2, m3⟩
    rw [e]
    simp (disch := first | assumption | omega) only [k_add, k_sub, k_mul, k_lt, k_eq, k_lt0, k_0lt, k_eq0, k_nat, k_b0, k_b1, k_z1, k_z0, k_o1, k_o0, Int.reduceEq, Int.reduceLT, Int.reduceLE, Int.reduceAdd, Int.reduceMul, Int.reduceNeg, Bool.false_eq_true, or_true, true_or, or_false, false_or, and_true, true_and, and_false, false_and, not_true_eq_false, not_false_eq_true, ↓reduceIte, z_0, z_k, s_I, s_J, s_uI, s_uJ, f_oc, f_gP0, f_gP1, f_gP2, f_ia0, f_ia1, f_ia2, f_is0, f_is1, f_is2, f_lt, jc1 m1]
    rfl
  · rw [if_neg hz] at m2 ⊢
    obtain ⟨s1, s2, s3⟩ := stir_ok hC ho (k := code / 4) (way := code % 4) (by omega) (by omega) (by omega) (by omega) hz
    obtain ⟨I2, r1, r2, r3⟩ := s_runOut (L := L) (p := p) (d := d) (J := J) hF hg m2 (hG.fr hF hg m3) (hT.fr hF m3) hC s3 hb
    refine ⟨I2, ?_, r2, m3.tr r3⟩
    rw [e]
    simp (disch := first | assumption | omega) only [k_add, k_sub, k_mul, k_lt, k_eq, k_lt0, k_0lt, k_eq0, k_nat, k_b0, k_b1, k_z1, k_z0, k_o1, k_o0, Int.reduceEq, Int.reduceLT, Int.reduceLE, Int.reduceAdd, Int.reduceMul, Int.reduceNeg, Bool.false_eq_true, or_true, true_or, or_false, false_or, and_true, true_and, and_false, false_and, not_true_eq_false, not_false_eq_true, ↓reduceIte, z_0, z_k, s_I, s_J, s_uI, s_uJ, f_oc, f_gP0, f_gP1, f_gP2, f_ia0, f_ia1, f_ia2, f_is0, f_is1, f_is2, f_lt, jc1 m1, hz, jc1 r1]
    rfl
theorem drive_ok (hC : okC w h N n gr kd) (ho : okF N n b f) {code : Int} (c1 : 0 ≤ code) (c2 : code < 4 * n) {f' : Fl} (hd : p_drive w h gr n kd f code = some f') : okF N n (b + 40) f' := by
  unfold p_drive at hd
  split at hd
  · cases hd
  · rename_i hz
    obtain ⟨s1, s2, s3⟩ := stir_ok hC ho (k := code / 4) (way := code % 4) (by omega) (by omega) (by omega) (by omega) hz
    cases hd
    exact run_ok hC 40 0 0 b _ s3
theorem okF_le {b' : Int} (h : b ≤ b') (ho : okF N n b f) : okF N n b' f := ⟨ho.1, ho.2.1, ho.2.2.1, ho.2.2.2.1, ho.2.2.2.2.1, ho.2.2.2.2.2.1, Int.le_trans ho.2.2.2.2.2.2 h⟩
theorem drive_ok' (hC : okC w h N n gr kd) (ho : okF N n b f) {code : Int} (c1 : 0 ≤ code) (c2 : code < 4 * n) : okF N n (b + 40) ((p_drive w h gr n kd f code).getD f) := by
  cases hd : p_drive w h gr n kd f code with
  | none => exact okF_le (by omega) ho
  | some f' => exact drive_ok hC ho c1 c2 hd
end FLOCKT
end
