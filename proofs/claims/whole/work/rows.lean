section
-- ===== PART A: goes FIRST, ahead of the names: the tables' words, and 'selects' of the private methods out of them =====
/-- a private method of a class that the tables say can be made, by its rows of tables_1 -/
def lw_okq (q : MethodName × Nat) : Prop := (q.1.cls ≠ "java/lang/invoke/MethodHandle" ∧ q.1.cls ≠ "java/lang/invoke/VarHandle") ∧ Cond.instantiable q.1.cls q.2 ∈ tables_1 ∧ Cond.privateMethod q.1 ∈ tables_1 ∧ Cond.instanceMethod q.1 ∈ tables_1
theorem lw_p0 : lw_okq (⟨"LastStirred", "makeIn", "(LLastStirred$Shelf;III)I"⟩, 16) := ⟨⟨by decide +kernel, by decide +kernel⟩, List.mem_of_getElem? (i := 14) (by decide +kernel), List.mem_of_getElem? (i := 269) (by decide +kernel), List.mem_of_getElem? (i := 270) (by decide +kernel)⟩
theorem lw_p1 : lw_okq (⟨"LastStirred", "finds", "(I)I"⟩, 16) := ⟨⟨by decide +kernel, by decide +kernel⟩, List.mem_of_getElem? (i := 14) (by decide +kernel), List.mem_of_getElem? (i := 277) (by decide +kernel), List.mem_of_getElem? (i := 278) (by decide +kernel)⟩
theorem lw_p2 : lw_okq (⟨"LastStirred", "refusedPlace", "(LLastStirred$Shelf;II)I"⟩, 16) := ⟨⟨by decide +kernel, by decide +kernel⟩, List.mem_of_getElem? (i := 14) (by decide +kernel), List.mem_of_getElem? (i := 289) (by decide +kernel), List.mem_of_getElem? (i := 290) (by decide +kernel)⟩
theorem lw_p3 : lw_okq (⟨"LastStirred", "refusedMissing", "(LLastStirred$Shelf;I)I"⟩, 16) := ⟨⟨by decide +kernel, by decide +kernel⟩, List.mem_of_getElem? (i := 14) (by decide +kernel), List.mem_of_getElem? (i := 293) (by decide +kernel), List.mem_of_getElem? (i := 294) (by decide +kernel)⟩
theorem lw_p4 : lw_okq (⟨"LastStirred$Reader", "readSize", "()Z"⟩, 5) := ⟨⟨by decide +kernel, by decide +kernel⟩, List.mem_of_getElem? (i := 43) (by decide +kernel), List.mem_of_getElem? (i := 335) (by decide +kernel), List.mem_of_getElem? (i := 336) (by decide +kernel)⟩
theorem lw_p5 : lw_okq (⟨"LastStirred$Reader", "skipBlanks", "()V"⟩, 5) := ⟨⟨by decide +kernel, by decide +kernel⟩, List.mem_of_getElem? (i := 43) (by decide +kernel), List.mem_of_getElem? (i := 339) (by decide +kernel), List.mem_of_getElem? (i := 340) (by decide +kernel)⟩
theorem lw_p6 : lw_okq (⟨"LastStirred$Reader", "sign", "()I"⟩, 5) := ⟨⟨by decide +kernel, by decide +kernel⟩, List.mem_of_getElem? (i := 43) (by decide +kernel), List.mem_of_getElem? (i := 343) (by decide +kernel), List.mem_of_getElem? (i := 344) (by decide +kernel)⟩
theorem lw_p7 : lw_okq (⟨"LastStirred$Reader", "figure", "(II)I"⟩, 5) := ⟨⟨by decide +kernel, by decide +kernel⟩, List.mem_of_getElem? (i := 43) (by decide +kernel), List.mem_of_getElem? (i := 347) (by decide +kernel), List.mem_of_getElem? (i := 348) (by decide +kernel)⟩
theorem lw_p8 : lw_okq (⟨"LastStirred$Reader", "readCells", "()Z"⟩, 5) := ⟨⟨by decide +kernel, by decide +kernel⟩, List.mem_of_getElem? (i := 43) (by decide +kernel), List.mem_of_getElem? (i := 355) (by decide +kernel), List.mem_of_getElem? (i := 356) (by decide +kernel)⟩
theorem lw_p9 : lw_okq (⟨"LastStirred$Reader", "readBeasts", "()Z"⟩, 5) := ⟨⟨by decide +kernel, by decide +kernel⟩, List.mem_of_getElem? (i := 43) (by decide +kernel), List.mem_of_getElem? (i := 364) (by decide +kernel), List.mem_of_getElem? (i := 365) (by decide +kernel)⟩
theorem lw_p10 : lw_okq (⟨"LastStirred$Reader", "readBeast", "()Z"⟩, 5) := ⟨⟨by decide +kernel, by decide +kernel⟩, List.mem_of_getElem? (i := 43) (by decide +kernel), List.mem_of_getElem? (i := 372) (by decide +kernel), List.mem_of_getElem? (i := 373) (by decide +kernel)⟩
theorem lw_p11 : lw_okq (⟨"LastStirred$Flock", "isSlow", "(I)Z"⟩, 10) := ⟨⟨by decide +kernel, by decide +kernel⟩, List.mem_of_getElem? (i := 83) (by decide +kernel), List.mem_of_getElem? (i := 445) (by decide +kernel), List.mem_of_getElem? (i := 446) (by decide +kernel)⟩
theorem lw_p12 : lw_okq (⟨"LastStirred", "offLast", "(I)I"⟩, 16) := ⟨⟨by decide +kernel, by decide +kernel⟩, List.mem_of_getElem? (i := 14) (by decide +kernel), List.mem_of_getElem? (i := 449) (by decide +kernel), List.mem_of_getElem? (i := 450) (by decide +kernel)⟩
theorem lw_p13 : lw_okq (⟨"LastStirred", "othersNear", "(I)I"⟩, 16) := ⟨⟨by decide +kernel, by decide +kernel⟩, List.mem_of_getElem? (i := 14) (by decide +kernel), List.mem_of_getElem? (i := 472) (by decide +kernel), List.mem_of_getElem? (i := 473) (by decide +kernel)⟩
theorem lw_p14 : lw_okq (⟨"LastStirred$Flock", "can", "(LLastStirred$Ground;IIZ)Z"⟩, 10) := ⟨⟨by decide +kernel, by decide +kernel⟩, List.mem_of_getElem? (i := 83) (by decide +kernel), List.mem_of_getElem? (i := 500) (by decide +kernel), List.mem_of_getElem? (i := 501) (by decide +kernel)⟩
theorem lw_p15 : lw_okq (⟨"LastStirred$Flock", "move", "(LLastStirred$Ground;II)V"⟩, 10) := ⟨⟨by decide +kernel, by decide +kernel⟩, List.mem_of_getElem? (i := 83) (by decide +kernel), List.mem_of_getElem? (i := 504) (by decide +kernel), List.mem_of_getElem? (i := 505) (by decide +kernel)⟩
def lw_privs_1 : List (MethodName × Nat) := [(⟨"LastStirred", "makeIn", "(LLastStirred$Shelf;III)I"⟩, 16), (⟨"LastStirred", "finds", "(I)I"⟩, 16), (⟨"LastStirred", "refusedPlace", "(LLastStirred$Shelf;II)I"⟩, 16), (⟨"LastStirred", "refusedMissing", "(LLastStirred$Shelf;I)I"⟩, 16), (⟨"LastStirred$Reader", "readSize", "()Z"⟩, 5), (⟨"LastStirred$Reader", "skipBlanks", "()V"⟩, 5), (⟨"LastStirred$Reader", "sign", "()I"⟩, 5), (⟨"LastStirred$Reader", "figure", "(II)I"⟩, 5), (⟨"LastStirred$Reader", "readCells", "()Z"⟩, 5), (⟨"LastStirred$Reader", "readBeasts", "()Z"⟩, 5), (⟨"LastStirred$Reader", "readBeast", "()Z"⟩, 5), (⟨"LastStirred$Flock", "isSlow", "(I)Z"⟩, 10), (⟨"LastStirred", "offLast", "(I)I"⟩, 16), (⟨"LastStirred", "othersNear", "(I)I"⟩, 16), (⟨"LastStirred$Flock", "can", "(LLastStirred$Ground;IIZ)Z"⟩, 10), (⟨"LastStirred$Flock", "move", "(LLastStirred$Ground;II)V"⟩, 10)]
theorem lw_r1 : ∀ q ∈ lw_privs_1, lw_okq q := List.forall_mem_cons.mpr ⟨lw_p0, List.forall_mem_cons.mpr ⟨lw_p1, List.forall_mem_cons.mpr ⟨lw_p2, List.forall_mem_cons.mpr ⟨lw_p3, List.forall_mem_cons.mpr ⟨lw_p4, List.forall_mem_cons.mpr ⟨lw_p5, List.forall_mem_cons.mpr ⟨lw_p6, List.forall_mem_cons.mpr ⟨lw_p7, List.forall_mem_cons.mpr ⟨lw_p8, List.forall_mem_cons.mpr ⟨lw_p9, List.forall_mem_cons.mpr ⟨lw_p10, List.forall_mem_cons.mpr ⟨lw_p11, List.forall_mem_cons.mpr ⟨lw_p12, List.forall_mem_cons.mpr ⟨lw_p13, List.forall_mem_cons.mpr ⟨lw_p14, List.forall_mem_cons.mpr ⟨lw_p15, fun _ h => absurd h List.not_mem_nil⟩⟩⟩⟩⟩⟩⟩⟩⟩⟩⟩⟩⟩⟩⟩⟩
theorem lw_p16 : lw_okq (⟨"LastStirred$Flock", "becomesLast", "(II)V"⟩, 10) := ⟨⟨by decide +kernel, by decide +kernel⟩, List.mem_of_getElem? (i := 83) (by decide +kernel), List.mem_of_getElem? (i := 508) (by decide +kernel), List.mem_of_getElem? (i := 509) (by decide +kernel)⟩
theorem lw_p17 : lw_okq (⟨"LastStirred$Flock", "nextCell", "(LLastStirred$Ground;IZ)I"⟩, 10) := ⟨⟨by decide +kernel, by decide +kernel⟩, List.mem_of_getElem? (i := 83) (by decide +kernel), List.mem_of_getElem? (i := 520) (by decide +kernel), List.mem_of_getElem? (i := 521) (by decide +kernel)⟩
theorem lw_p18 : lw_okq (⟨"LastStirred", "isPlace", "(I)Z"⟩, 16) := ⟨⟨by decide +kernel, by decide +kernel⟩, List.mem_of_getElem? (i := 14) (by decide +kernel), List.mem_of_getElem? (i := 568) (by decide +kernel), List.mem_of_getElem? (i := 569) (by decide +kernel)⟩
theorem lw_p19 : lw_okq (⟨"LastStirred", "isKept", "(I)Z"⟩, 16) := ⟨⟨by decide +kernel, by decide +kernel⟩, List.mem_of_getElem? (i := 14) (by decide +kernel), List.mem_of_getElem? (i := 576) (by decide +kernel), List.mem_of_getElem? (i := 577) (by decide +kernel)⟩
theorem lw_p20 : lw_okq (⟨"LastStirred$Search", "begin", "(LLastStirred$Flock;I)V"⟩, 9) := ⟨⟨by decide +kernel, by decide +kernel⟩, List.mem_of_getElem? (i := 152) (by decide +kernel), List.mem_of_getElem? (i := 592) (by decide +kernel), List.mem_of_getElem? (i := 593) (by decide +kernel)⟩
theorem lw_p21 : lw_okq (⟨"LastStirred$Search", "note", "(LLastStirred$Ground;II)V"⟩, 9) := ⟨⟨by decide +kernel, by decide +kernel⟩, List.mem_of_getElem? (i := 152) (by decide +kernel), List.mem_of_getElem? (i := 600) (by decide +kernel), List.mem_of_getElem? (i := 601) (by decide +kernel)⟩
theorem lw_p22 : lw_okq (⟨"LastStirred", "tellFraction", "(II)V"⟩, 16) := ⟨⟨by decide +kernel, by decide +kernel⟩, List.mem_of_getElem? (i := 14) (by decide +kernel), List.mem_of_getElem? (i := 630) (by decide +kernel), List.mem_of_getElem? (i := 631) (by decide +kernel)⟩
theorem lw_p23 : lw_okq (⟨"LastStirred", "tryDrive", "(I)Z"⟩, 16) := ⟨⟨by decide +kernel, by decide +kernel⟩, List.mem_of_getElem? (i := 14) (by decide +kernel), List.mem_of_getElem? (i := 639) (by decide +kernel), List.mem_of_getElem? (i := 640) (by decide +kernel)⟩
theorem lw_p24 : lw_okq (⟨"LastStirred$Ground", "openBeside", "(IZ)I"⟩, 6) := ⟨⟨by decide +kernel, by decide +kernel⟩, List.mem_of_getElem? (i := 49) (by decide +kernel), List.mem_of_getElem? (i := 681) (by decide +kernel), List.mem_of_getElem? (i := 682) (by decide +kernel)⟩
theorem lw_p25 : lw_okq (⟨"LastStirred$Watch", "shepherdKeeps", "(LLastStirred$Ground;II)Z"⟩, 4) := ⟨⟨by decide +kernel, by decide +kernel⟩, List.mem_of_getElem? (i := 194) (by decide +kernel), List.mem_of_getElem? (i := 704) (by decide +kernel), List.mem_of_getElem? (i := 705) (by decide +kernel)⟩
theorem lw_p26 : lw_okq (⟨"LastStirred$Watch", "wolfFails", "(LLastStirred$Ground;II)Z"⟩, 4) := ⟨⟨by decide +kernel, by decide +kernel⟩, List.mem_of_getElem? (i := 194) (by decide +kernel), List.mem_of_getElem? (i := 710) (by decide +kernel), List.mem_of_getElem? (i := 711) (by decide +kernel)⟩
theorem lw_p27 : lw_okq (⟨"LastStirred", "refusedDawn", "(I)I"⟩, 16) := ⟨⟨by decide +kernel, by decide +kernel⟩, List.mem_of_getElem? (i := 14) (by decide +kernel), List.mem_of_getElem? (i := 721) (by decide +kernel), List.mem_of_getElem? (i := 722) (by decide +kernel)⟩
theorem lw_p28 : lw_okq (⟨"LastStirredModel", "place", "(III)V"⟩, 39) := ⟨⟨by decide +kernel, by decide +kernel⟩, List.mem_of_getElem? (i := 789) (by decide +kernel), List.mem_of_getElem? (i := 795) (by decide +kernel), List.mem_of_getElem? (i := 796) (by decide +kernel)⟩
theorem lw_p29 : lw_okq (⟨"LastStirredModel", "meets", "(I)I"⟩, 39) := ⟨⟨by decide +kernel, by decide +kernel⟩, List.mem_of_getElem? (i := 789) (by decide +kernel), List.mem_of_getElem? (i := 949) (by decide +kernel), List.mem_of_getElem? (i := 950) (by decide +kernel)⟩
theorem lw_p30 : lw_okq (⟨"LastStirredModel", "rowAt", "(II)I"⟩, 39) := ⟨⟨by decide +kernel, by decide +kernel⟩, List.mem_of_getElem? (i := 789) (by decide +kernel), List.mem_of_getElem? (i := 957) (by decide +kernel), List.mem_of_getElem? (i := 958) (by decide +kernel)⟩
theorem lw_p31 : lw_okq (⟨"LastStirredModel", "tells", "(II)I"⟩, 39) := ⟨⟨by decide +kernel, by decide +kernel⟩, List.mem_of_getElem? (i := 789) (by decide +kernel), List.mem_of_getElem? (i := 961) (by decide +kernel), List.mem_of_getElem? (i := 962) (by decide +kernel)⟩
def lw_privs_2 : List (MethodName × Nat) := [(⟨"LastStirred$Flock", "becomesLast", "(II)V"⟩, 10), (⟨"LastStirred$Flock", "nextCell", "(LLastStirred$Ground;IZ)I"⟩, 10), (⟨"LastStirred", "isPlace", "(I)Z"⟩, 16), (⟨"LastStirred", "isKept", "(I)Z"⟩, 16), (⟨"LastStirred$Search", "begin", "(LLastStirred$Flock;I)V"⟩, 9), (⟨"LastStirred$Search", "note", "(LLastStirred$Ground;II)V"⟩, 9), (⟨"LastStirred", "tellFraction", "(II)V"⟩, 16), (⟨"LastStirred", "tryDrive", "(I)Z"⟩, 16), (⟨"LastStirred$Ground", "openBeside", "(IZ)I"⟩, 6), (⟨"LastStirred$Watch", "shepherdKeeps", "(LLastStirred$Ground;II)Z"⟩, 4), (⟨"LastStirred$Watch", "wolfFails", "(LLastStirred$Ground;II)Z"⟩, 4), (⟨"LastStirred", "refusedDawn", "(I)I"⟩, 16), (⟨"LastStirredModel", "place", "(III)V"⟩, 39), (⟨"LastStirredModel", "meets", "(I)I"⟩, 39), (⟨"LastStirredModel", "rowAt", "(II)I"⟩, 39), (⟨"LastStirredModel", "tells", "(II)I"⟩, 39)]
theorem lw_r2 : ∀ q ∈ lw_privs_2, lw_okq q := List.forall_mem_cons.mpr ⟨lw_p16, List.forall_mem_cons.mpr ⟨lw_p17, List.forall_mem_cons.mpr ⟨lw_p18, List.forall_mem_cons.mpr ⟨lw_p19, List.forall_mem_cons.mpr ⟨lw_p20, List.forall_mem_cons.mpr ⟨lw_p21, List.forall_mem_cons.mpr ⟨lw_p22, List.forall_mem_cons.mpr ⟨lw_p23, List.forall_mem_cons.mpr ⟨lw_p24, List.forall_mem_cons.mpr ⟨lw_p25, List.forall_mem_cons.mpr ⟨lw_p26, List.forall_mem_cons.mpr ⟨lw_p27, List.forall_mem_cons.mpr ⟨lw_p28, List.forall_mem_cons.mpr ⟨lw_p29, List.forall_mem_cons.mpr ⟨lw_p30, List.forall_mem_cons.mpr ⟨lw_p31, fun _ h => absurd h List.not_mem_nil⟩⟩⟩⟩⟩⟩⟩⟩⟩⟩⟩⟩⟩⟩⟩⟩
theorem lw_p32 : lw_okq (⟨"LastStirredModel", "faultOf", "(I)I"⟩, 39) := ⟨⟨by decide +kernel, by decide +kernel⟩, List.mem_of_getElem? (i := 789) (by decide +kernel), List.mem_of_getElem? (i := 996) (by decide +kernel), List.mem_of_getElem? (i := 997) (by decide +kernel)⟩
theorem lw_p33 : lw_okq (⟨"LastStirredModel", "byteAt", "(II)I"⟩, 39) := ⟨⟨by decide +kernel, by decide +kernel⟩, List.mem_of_getElem? (i := 789) (by decide +kernel), List.mem_of_getElem? (i := 1000) (by decide +kernel), List.mem_of_getElem? (i := 1001) (by decide +kernel)⟩
theorem lw_p34 : lw_okq (⟨"LastStirredModel", "readsGrid", "(I)Z"⟩, 39) := ⟨⟨by decide +kernel, by decide +kernel⟩, List.mem_of_getElem? (i := 789) (by decide +kernel), List.mem_of_getElem? (i := 1004) (by decide +kernel), List.mem_of_getElem? (i := 1005) (by decide +kernel)⟩
theorem lw_p35 : lw_okq (⟨"LastStirredModel", "figure", "(III)Z"⟩, 39) := ⟨⟨by decide +kernel, by decide +kernel⟩, List.mem_of_getElem? (i := 789) (by decide +kernel), List.mem_of_getElem? (i := 1008) (by decide +kernel), List.mem_of_getElem? (i := 1009) (by decide +kernel)⟩
theorem lw_p36 : lw_okq (⟨"LastStirredModel", "readsSign", "(I)Z"⟩, 39) := ⟨⟨by decide +kernel, by decide +kernel⟩, List.mem_of_getElem? (i := 789) (by decide +kernel), List.mem_of_getElem? (i := 1012) (by decide +kernel), List.mem_of_getElem? (i := 1013) (by decide +kernel)⟩
theorem lw_p37 : lw_okq (⟨"LastStirredModel", "readsBeast", "(I)Z"⟩, 39) := ⟨⟨by decide +kernel, by decide +kernel⟩, List.mem_of_getElem? (i := 789) (by decide +kernel), List.mem_of_getElem? (i := 1019) (by decide +kernel), List.mem_of_getElem? (i := 1020) (by decide +kernel)⟩
theorem lw_p38 : lw_okq (⟨"LastStirredModel", "isCell", "(I)Z"⟩, 39) := ⟨⟨by decide +kernel, by decide +kernel⟩, List.mem_of_getElem? (i := 789) (by decide +kernel), List.mem_of_getElem? (i := 1034) (by decide +kernel), List.mem_of_getElem? (i := 1035) (by decide +kernel)⟩
theorem lw_p39 : lw_okq (⟨"LastStirredModel", "whoIn", "(III)I"⟩, 39) := ⟨⟨by decide +kernel, by decide +kernel⟩, List.mem_of_getElem? (i := 789) (by decide +kernel), List.mem_of_getElem? (i := 1038) (by decide +kernel), List.mem_of_getElem? (i := 1039) (by decide +kernel)⟩
theorem lw_p40 : lw_okq (⟨"LastStirredModel", "v", "(II)I"⟩, 39) := ⟨⟨by decide +kernel, by decide +kernel⟩, List.mem_of_getElem? (i := 789) (by decide +kernel), List.mem_of_getElem? (i := 1042) (by decide +kernel), List.mem_of_getElem? (i := 1043) (by decide +kernel)⟩
theorem lw_p41 : lw_okq (⟨"LastStirredModel", "isBeast", "(I)Z"⟩, 39) := ⟨⟨by decide +kernel, by decide +kernel⟩, List.mem_of_getElem? (i := 789) (by decide +kernel), List.mem_of_getElem? (i := 1054) (by decide +kernel), List.mem_of_getElem? (i := 1055) (by decide +kernel)⟩
theorem lw_p42 : lw_okq (⟨"LastStirredModel", "beastTells", "(II)I"⟩, 39) := ⟨⟨by decide +kernel, by decide +kernel⟩, List.mem_of_getElem? (i := 789) (by decide +kernel), List.mem_of_getElem? (i := 1058) (by decide +kernel), List.mem_of_getElem? (i := 1059) (by decide +kernel)⟩
theorem lw_p43 : lw_okq (⟨"LastStirredModel", "isShy", "(I)Z"⟩, 39) := ⟨⟨by decide +kernel, by decide +kernel⟩, List.mem_of_getElem? (i := 789) (by decide +kernel), List.mem_of_getElem? (i := 1066) (by decide +kernel), List.mem_of_getElem? (i := 1067) (by decide +kernel)⟩
theorem lw_p44 : lw_okq (⟨"LastStirredModel", "isSlow", "(I)Z"⟩, 39) := ⟨⟨by decide +kernel, by decide +kernel⟩, List.mem_of_getElem? (i := 789) (by decide +kernel), List.mem_of_getElem? (i := 1070) (by decide +kernel), List.mem_of_getElem? (i := 1071) (by decide +kernel)⟩
theorem lw_p45 : lw_okq (⟨"LastStirredModel", "isLost", "(II)Z"⟩, 39) := ⟨⟨by decide +kernel, by decide +kernel⟩, List.mem_of_getElem? (i := 789) (by decide +kernel), List.mem_of_getElem? (i := 1074) (by decide +kernel), List.mem_of_getElem? (i := 1075) (by decide +kernel)⟩
theorem lw_p46 : lw_okq (⟨"LastStirredModel", "off", "(II)I"⟩, 39) := ⟨⟨by decide +kernel, by decide +kernel⟩, List.mem_of_getElem? (i := 789) (by decide +kernel), List.mem_of_getElem? (i := 1078) (by decide +kernel), List.mem_of_getElem? (i := 1079) (by decide +kernel)⟩
theorem lw_p47 : lw_okq (⟨"LastStirredModel", "aimOf", "(II)I"⟩, 39) := ⟨⟨by decide +kernel, by decide +kernel⟩, List.mem_of_getElem? (i := 789) (by decide +kernel), List.mem_of_getElem? (i := 1085) (by decide +kernel), List.mem_of_getElem? (i := 1086) (by decide +kernel)⟩
def lw_privs_3 : List (MethodName × Nat) := [(⟨"LastStirredModel", "faultOf", "(I)I"⟩, 39), (⟨"LastStirredModel", "byteAt", "(II)I"⟩, 39), (⟨"LastStirredModel", "readsGrid", "(I)Z"⟩, 39), (⟨"LastStirredModel", "figure", "(III)Z"⟩, 39), (⟨"LastStirredModel", "readsSign", "(I)Z"⟩, 39), (⟨"LastStirredModel", "readsBeast", "(I)Z"⟩, 39), (⟨"LastStirredModel", "isCell", "(I)Z"⟩, 39), (⟨"LastStirredModel", "whoIn", "(III)I"⟩, 39), (⟨"LastStirredModel", "v", "(II)I"⟩, 39), (⟨"LastStirredModel", "isBeast", "(I)Z"⟩, 39), (⟨"LastStirredModel", "beastTells", "(II)I"⟩, 39), (⟨"LastStirredModel", "isShy", "(I)Z"⟩, 39), (⟨"LastStirredModel", "isSlow", "(I)Z"⟩, 39), (⟨"LastStirredModel", "isLost", "(II)Z"⟩, 39), (⟨"LastStirredModel", "off", "(II)I"⟩, 39), (⟨"LastStirredModel", "aimOf", "(II)I"⟩, 39)]
theorem lw_r3 : ∀ q ∈ lw_privs_3, lw_okq q := List.forall_mem_cons.mpr ⟨lw_p32, List.forall_mem_cons.mpr ⟨lw_p33, List.forall_mem_cons.mpr ⟨lw_p34, List.forall_mem_cons.mpr ⟨lw_p35, List.forall_mem_cons.mpr ⟨lw_p36, List.forall_mem_cons.mpr ⟨lw_p37, List.forall_mem_cons.mpr ⟨lw_p38, List.forall_mem_cons.mpr ⟨lw_p39, List.forall_mem_cons.mpr ⟨lw_p40, List.forall_mem_cons.mpr ⟨lw_p41, List.forall_mem_cons.mpr ⟨lw_p42, List.forall_mem_cons.mpr ⟨lw_p43, List.forall_mem_cons.mpr ⟨lw_p44, List.forall_mem_cons.mpr ⟨lw_p45, List.forall_mem_cons.mpr ⟨lw_p46, List.forall_mem_cons.mpr ⟨lw_p47, fun _ h => absurd h List.not_mem_nil⟩⟩⟩⟩⟩⟩⟩⟩⟩⟩⟩⟩⟩⟩⟩⟩
theorem lw_p48 : lw_okq (⟨"LastStirredModel", "gates", "()I"⟩, 39) := ⟨⟨by decide +kernel, by decide +kernel⟩, List.mem_of_getElem? (i := 789) (by decide +kernel), List.mem_of_getElem? (i := 1089) (by decide +kernel), List.mem_of_getElem? (i := 1090) (by decide +kernel)⟩
theorem lw_p49 : lw_okq (⟨"LastStirredModel", "near", "(I)I"⟩, 39) := ⟨⟨by decide +kernel, by decide +kernel⟩, List.mem_of_getElem? (i := 789) (by decide +kernel), List.mem_of_getElem? (i := 1093) (by decide +kernel), List.mem_of_getElem? (i := 1094) (by decide +kernel)⟩
theorem lw_p50 : lw_okq (⟨"LastStirredModel", "stirs", "(III)Z"⟩, 39) := ⟨⟨by decide +kernel, by decide +kernel⟩, List.mem_of_getElem? (i := 789) (by decide +kernel), List.mem_of_getElem? (i := 1105) (by decide +kernel), List.mem_of_getElem? (i := 1106) (by decide +kernel)⟩
theorem lw_p51 : lw_okq (⟨"LastStirredModel", "by", "(III)I"⟩, 39) := ⟨⟨by decide +kernel, by decide +kernel⟩, List.mem_of_getElem? (i := 789) (by decide +kernel), List.mem_of_getElem? (i := 1109) (by decide +kernel), List.mem_of_getElem? (i := 1110) (by decide +kernel)⟩
theorem lw_p52 : lw_okq (⟨"LastStirredModel", "goesTo", "(III)Z"⟩, 39) := ⟨⟨by decide +kernel, by decide +kernel⟩, List.mem_of_getElem? (i := 789) (by decide +kernel), List.mem_of_getElem? (i := 1113) (by decide +kernel), List.mem_of_getElem? (i := 1114) (by decide +kernel)⟩
theorem lw_p53 : lw_okq (⟨"LastStirredModel", "can", "(III)Z"⟩, 39) := ⟨⟨by decide +kernel, by decide +kernel⟩, List.mem_of_getElem? (i := 789) (by decide +kernel), List.mem_of_getElem? (i := 1117) (by decide +kernel), List.mem_of_getElem? (i := 1118) (by decide +kernel)⟩
theorem lw_p54 : lw_okq (⟨"LastStirredModel", "becomesLast", "(III)V"⟩, 39) := ⟨⟨by decide +kernel, by decide +kernel⟩, List.mem_of_getElem? (i := 789) (by decide +kernel), List.mem_of_getElem? (i := 1121) (by decide +kernel), List.mem_of_getElem? (i := 1122) (by decide +kernel)⟩
theorem lw_p55 : lw_okq (⟨"LastStirredModel", "stepOf", "(I)I"⟩, 39) := ⟨⟨by decide +kernel, by decide +kernel⟩, List.mem_of_getElem? (i := 789) (by decide +kernel), List.mem_of_getElem? (i := 1129) (by decide +kernel), List.mem_of_getElem? (i := 1130) (by decide +kernel)⟩
theorem lw_p56 : lw_okq (⟨"LastStirredModel", "goes", "(III)Z"⟩, 39) := ⟨⟨by decide +kernel, by decide +kernel⟩, List.mem_of_getElem? (i := 789) (by decide +kernel), List.mem_of_getElem? (i := 1133) (by decide +kernel), List.mem_of_getElem? (i := 1134) (by decide +kernel)⟩
theorem lw_p57 : lw_okq (⟨"LastStirredModel", "runs", "(I)I"⟩, 39) := ⟨⟨by decide +kernel, by decide +kernel⟩, List.mem_of_getElem? (i := 789) (by decide +kernel), List.mem_of_getElem? (i := 1144) (by decide +kernel), List.mem_of_getElem? (i := 1145) (by decide +kernel)⟩
theorem lw_p58 : lw_okq (⟨"LastStirredModel", "copyFlock", "(II)V"⟩, 39) := ⟨⟨by decide +kernel, by decide +kernel⟩, List.mem_of_getElem? (i := 789) (by decide +kernel), List.mem_of_getElem? (i := 1152) (by decide +kernel), List.mem_of_getElem? (i := 1153) (by decide +kernel)⟩
theorem lw_p59 : lw_okq (⟨"LastStirredModel", "stateOf", "(I)J"⟩, 39) := ⟨⟨by decide +kernel, by decide +kernel⟩, List.mem_of_getElem? (i := 789) (by decide +kernel), List.mem_of_getElem? (i := 1156) (by decide +kernel), List.mem_of_getElem? (i := 1157) (by decide +kernel)⟩
theorem lw_p60 : lw_okq (⟨"LastStirredModel", "lostMany", "(I)I"⟩, 39) := ⟨⟨by decide +kernel, by decide +kernel⟩, List.mem_of_getElem? (i := 789) (by decide +kernel), List.mem_of_getElem? (i := 1166) (by decide +kernel), List.mem_of_getElem? (i := 1167) (by decide +kernel)⟩
theorem lw_p61 : lw_okq (⟨"LastStirredModel", "apartOf", "(I)I"⟩, 39) := ⟨⟨by decide +kernel, by decide +kernel⟩, List.mem_of_getElem? (i := 789) (by decide +kernel), List.mem_of_getElem? (i := 1174) (by decide +kernel), List.mem_of_getElem? (i := 1175) (by decide +kernel)⟩
theorem lw_p62 : lw_okq (⟨"LastStirredModel", "fewestOf", "(II)I"⟩, 39) := ⟨⟨by decide +kernel, by decide +kernel⟩, List.mem_of_getElem? (i := 789) (by decide +kernel), List.mem_of_getElem? (i := 1190) (by decide +kernel), List.mem_of_getElem? (i := 1191) (by decide +kernel)⟩
theorem lw_p63 : lw_okq (⟨"LastStirredModel", "layRows", "(II)V"⟩, 39) := ⟨⟨by decide +kernel, by decide +kernel⟩, List.mem_of_getElem? (i := 789) (by decide +kernel), List.mem_of_getElem? (i := 1194) (by decide +kernel), List.mem_of_getElem? (i := 1195) (by decide +kernel)⟩
def lw_privs_4 : List (MethodName × Nat) := [(⟨"LastStirredModel", "gates", "()I"⟩, 39), (⟨"LastStirredModel", "near", "(I)I"⟩, 39), (⟨"LastStirredModel", "stirs", "(III)Z"⟩, 39), (⟨"LastStirredModel", "by", "(III)I"⟩, 39), (⟨"LastStirredModel", "goesTo", "(III)Z"⟩, 39), (⟨"LastStirredModel", "can", "(III)Z"⟩, 39), (⟨"LastStirredModel", "becomesLast", "(III)V"⟩, 39), (⟨"LastStirredModel", "stepOf", "(I)I"⟩, 39), (⟨"LastStirredModel", "goes", "(III)Z"⟩, 39), (⟨"LastStirredModel", "runs", "(I)I"⟩, 39), (⟨"LastStirredModel", "copyFlock", "(II)V"⟩, 39), (⟨"LastStirredModel", "stateOf", "(I)J"⟩, 39), (⟨"LastStirredModel", "lostMany", "(I)I"⟩, 39), (⟨"LastStirredModel", "apartOf", "(I)I"⟩, 39), (⟨"LastStirredModel", "fewestOf", "(II)I"⟩, 39), (⟨"LastStirredModel", "layRows", "(II)V"⟩, 39)]
theorem lw_r4 : ∀ q ∈ lw_privs_4, lw_okq q := List.forall_mem_cons.mpr ⟨lw_p48, List.forall_mem_cons.mpr ⟨lw_p49, List.forall_mem_cons.mpr ⟨lw_p50, List.forall_mem_cons.mpr ⟨lw_p51, List.forall_mem_cons.mpr ⟨lw_p52, List.forall_mem_cons.mpr ⟨lw_p53, List.forall_mem_cons.mpr ⟨lw_p54, List.forall_mem_cons.mpr ⟨lw_p55, List.forall_mem_cons.mpr ⟨lw_p56, List.forall_mem_cons.mpr ⟨lw_p57, List.forall_mem_cons.mpr ⟨lw_p58, List.forall_mem_cons.mpr ⟨lw_p59, List.forall_mem_cons.mpr ⟨lw_p60, List.forall_mem_cons.mpr ⟨lw_p61, List.forall_mem_cons.mpr ⟨lw_p62, List.forall_mem_cons.mpr ⟨lw_p63, fun _ h => absurd h List.not_mem_nil⟩⟩⟩⟩⟩⟩⟩⟩⟩⟩⟩⟩⟩⟩⟩⟩
theorem lw_p64 : lw_okq (⟨"LastStirredModel", "layRow", "(IIII)V"⟩, 39) := ⟨⟨by decide +kernel, by decide +kernel⟩, List.mem_of_getElem? (i := 789) (by decide +kernel), List.mem_of_getElem? (i := 1198) (by decide +kernel), List.mem_of_getElem? (i := 1199) (by decide +kernel)⟩
theorem lw_p65 : lw_okq (⟨"LastStirredModel", "isWanted", "(II)Z"⟩, 39) := ⟨⟨by decide +kernel, by decide +kernel⟩, List.mem_of_getElem? (i := 789) (by decide +kernel), List.mem_of_getElem? (i := 1202) (by decide +kernel), List.mem_of_getElem? (i := 1203) (by decide +kernel)⟩
theorem lw_p66 : lw_okq (⟨"LastStirredModel", "isSafe", "(I)Z"⟩, 39) := ⟨⟨by decide +kernel, by decide +kernel⟩, List.mem_of_getElem? (i := 789) (by decide +kernel), List.mem_of_getElem? (i := 1206) (by decide +kernel), List.mem_of_getElem? (i := 1207) (by decide +kernel)⟩
theorem lw_p67 : lw_okq (⟨"LastStirredModel", "codes", "()I"⟩, 39) := ⟨⟨by decide +kernel, by decide +kernel⟩, List.mem_of_getElem? (i := 789) (by decide +kernel), List.mem_of_getElem? (i := 1210) (by decide +kernel), List.mem_of_getElem? (i := 1211) (by decide +kernel)⟩
theorem lw_p68 : lw_okq (⟨"LastStirredModel", "driven", "(II)Z"⟩, 39) := ⟨⟨by decide +kernel, by decide +kernel⟩, List.mem_of_getElem? (i := 789) (by decide +kernel), List.mem_of_getElem? (i := 1214) (by decide +kernel), List.mem_of_getElem? (i := 1215) (by decide +kernel)⟩
theorem lw_p69 : lw_okq (⟨"LastStirredModel", "drives", "(II)Z"⟩, 39) := ⟨⟨by decide +kernel, by decide +kernel⟩, List.mem_of_getElem? (i := 789) (by decide +kernel), List.mem_of_getElem? (i := 1218) (by decide +kernel), List.mem_of_getElem? (i := 1219) (by decide +kernel)⟩
theorem lw_p70 : lw_okq (⟨"LastStirredModel", "layDeeper", "(III)V"⟩, 39) := ⟨⟨by decide +kernel, by decide +kernel⟩, List.mem_of_getElem? (i := 789) (by decide +kernel), List.mem_of_getElem? (i := 1222) (by decide +kernel), List.mem_of_getElem? (i := 1223) (by decide +kernel)⟩
theorem lw_p71 : lw_okq (⟨"LastStirredModel", "fraction", "(JJI)I"⟩, 39) := ⟨⟨by decide +kernel, by decide +kernel⟩, List.mem_of_getElem? (i := 789) (by decide +kernel), List.mem_of_getElem? (i := 1230) (by decide +kernel), List.mem_of_getElem? (i := 1231) (by decide +kernel)⟩
theorem lw_p72 : lw_okq (⟨"LastStirredModel", "wentIn", "(I)I"⟩, 39) := ⟨⟨by decide +kernel, by decide +kernel⟩, List.mem_of_getElem? (i := 789) (by decide +kernel), List.mem_of_getElem? (i := 1246) (by decide +kernel), List.mem_of_getElem? (i := 1247) (by decide +kernel)⟩
theorem lw_p73 : lw_okq (⟨"LastStirredModel", "reached", "(IZ)I"⟩, 39) := ⟨⟨by decide +kernel, by decide +kernel⟩, List.mem_of_getElem? (i := 789) (by decide +kernel), List.mem_of_getElem? (i := 1265) (by decide +kernel), List.mem_of_getElem? (i := 1266) (by decide +kernel)⟩
theorem lw_p74 : lw_okq (⟨"LastStirredModel", "isOpen", "(IZ)Z"⟩, 39) := ⟨⟨by decide +kernel, by decide +kernel⟩, List.mem_of_getElem? (i := 789) (by decide +kernel), List.mem_of_getElem? (i := 1272) (by decide +kernel), List.mem_of_getElem? (i := 1273) (by decide +kernel)⟩
theorem lw_p75 : lw_okq (⟨"LastStirredModel", "keeps", "(IIII)Z"⟩, 39) := ⟨⟨by decide +kernel, by decide +kernel⟩, List.mem_of_getElem? (i := 789) (by decide +kernel), List.mem_of_getElem? (i := 1284) (by decide +kernel), List.mem_of_getElem? (i := 1285) (by decide +kernel)⟩
theorem lw_p76 : lw_okq (⟨"LastStirredModel", "wolfTo", "(II)I"⟩, 39) := ⟨⟨by decide +kernel, by decide +kernel⟩, List.mem_of_getElem? (i := 789) (by decide +kernel), List.mem_of_getElem? (i := 1288) (by decide +kernel), List.mem_of_getElem? (i := 1289) (by decide +kernel)⟩
theorem lw_p77 : lw_okq (⟨"LastStirredModel", "canKeep", "(II)Z"⟩, 39) := ⟨⟨by decide +kernel, by decide +kernel⟩, List.mem_of_getElem? (i := 789) (by decide +kernel), List.mem_of_getElem? (i := 1292) (by decide +kernel), List.mem_of_getElem? (i := 1293) (by decide +kernel)⟩
theorem lw_p78 : lw_okq (⟨"LastStirredModel", "keepsLast", "(III)Z"⟩, 39) := ⟨⟨by decide +kernel, by decide +kernel⟩, List.mem_of_getElem? (i := 789) (by decide +kernel), List.mem_of_getElem? (i := 1296) (by decide +kernel), List.mem_of_getElem? (i := 1297) (by decide +kernel)⟩
theorem lw_p79 : lw_okq (⟨"LastStirredModel", "needDawn", "(I)I"⟩, 39) := ⟨⟨by decide +kernel, by decide +kernel⟩, List.mem_of_getElem? (i := 789) (by decide +kernel), List.mem_of_getElem? (i := 1304) (by decide +kernel), List.mem_of_getElem? (i := 1305) (by decide +kernel)⟩
def lw_privs_5 : List (MethodName × Nat) := [(⟨"LastStirredModel", "layRow", "(IIII)V"⟩, 39), (⟨"LastStirredModel", "isWanted", "(II)Z"⟩, 39), (⟨"LastStirredModel", "isSafe", "(I)Z"⟩, 39), (⟨"LastStirredModel", "codes", "()I"⟩, 39), (⟨"LastStirredModel", "driven", "(II)Z"⟩, 39), (⟨"LastStirredModel", "drives", "(II)Z"⟩, 39), (⟨"LastStirredModel", "layDeeper", "(III)V"⟩, 39), (⟨"LastStirredModel", "fraction", "(JJI)I"⟩, 39), (⟨"LastStirredModel", "wentIn", "(I)I"⟩, 39), (⟨"LastStirredModel", "reached", "(IZ)I"⟩, 39), (⟨"LastStirredModel", "isOpen", "(IZ)Z"⟩, 39), (⟨"LastStirredModel", "keeps", "(IIII)Z"⟩, 39), (⟨"LastStirredModel", "wolfTo", "(II)I"⟩, 39), (⟨"LastStirredModel", "canKeep", "(II)Z"⟩, 39), (⟨"LastStirredModel", "keepsLast", "(III)Z"⟩, 39), (⟨"LastStirredModel", "needDawn", "(I)I"⟩, 39)]
theorem lw_r5 : ∀ q ∈ lw_privs_5, lw_okq q := List.forall_mem_cons.mpr ⟨lw_p64, List.forall_mem_cons.mpr ⟨lw_p65, List.forall_mem_cons.mpr ⟨lw_p66, List.forall_mem_cons.mpr ⟨lw_p67, List.forall_mem_cons.mpr ⟨lw_p68, List.forall_mem_cons.mpr ⟨lw_p69, List.forall_mem_cons.mpr ⟨lw_p70, List.forall_mem_cons.mpr ⟨lw_p71, List.forall_mem_cons.mpr ⟨lw_p72, List.forall_mem_cons.mpr ⟨lw_p73, List.forall_mem_cons.mpr ⟨lw_p74, List.forall_mem_cons.mpr ⟨lw_p75, List.forall_mem_cons.mpr ⟨lw_p76, List.forall_mem_cons.mpr ⟨lw_p77, List.forall_mem_cons.mpr ⟨lw_p78, List.forall_mem_cons.mpr ⟨lw_p79, fun _ h => absurd h List.not_mem_nil⟩⟩⟩⟩⟩⟩⟩⟩⟩⟩⟩⟩⟩⟩⟩⟩
theorem lw_p80 : lw_okq (⟨"LastStirredModel", "counted", "(I)I"⟩, 39) := ⟨⟨by decide +kernel, by decide +kernel⟩, List.mem_of_getElem? (i := 789) (by decide +kernel), List.mem_of_getElem? (i := 1320) (by decide +kernel), List.mem_of_getElem? (i := 1321) (by decide +kernel)⟩
theorem lw_p81 : lw_okq (⟨"LastStirredModel", "mix", "(J)V"⟩, 39) := ⟨⟨by decide +kernel, by decide +kernel⟩, List.mem_of_getElem? (i := 789) (by decide +kernel), List.mem_of_getElem? (i := 1329) (by decide +kernel), List.mem_of_getElem? (i := 1330) (by decide +kernel)⟩
theorem lw_p82 : lw_okq (⟨"LastStirredModel", "mixFlock", "()V"⟩, 39) := ⟨⟨by decide +kernel, by decide +kernel⟩, List.mem_of_getElem? (i := 789) (by decide +kernel), List.mem_of_getElem? (i := 1334) (by decide +kernel), List.mem_of_getElem? (i := 1335) (by decide +kernel)⟩
def lw_privs_6 : List (MethodName × Nat) := [(⟨"LastStirredModel", "counted", "(I)I"⟩, 39), (⟨"LastStirredModel", "mix", "(J)V"⟩, 39), (⟨"LastStirredModel", "mixFlock", "()V"⟩, 39)]
theorem lw_r6 : ∀ q ∈ lw_privs_6, lw_okq q := List.forall_mem_cons.mpr ⟨lw_p80, List.forall_mem_cons.mpr ⟨lw_p81, List.forall_mem_cons.mpr ⟨lw_p82, fun _ h => absurd h List.not_mem_nil⟩⟩⟩
def lw_privs : List (MethodName × Nat) := lw_privs_1 ++ (lw_privs_2 ++ (lw_privs_3 ++ (lw_privs_4 ++ (lw_privs_5 ++ (lw_privs_6)))))
def lw_tbl : List Cond := k2_sels lw_privs ++ tables_1
theorem lw_privs_ok : ∀ q ∈ lw_privs, lw_okq q := by
  show ∀ q ∈ lw_privs_1 ++ (lw_privs_2 ++ (lw_privs_3 ++ (lw_privs_4 ++ (lw_privs_5 ++ (lw_privs_6))))), lw_okq q
  exact List.forall_mem_append.mpr ⟨lw_r1, List.forall_mem_append.mpr ⟨lw_r2, List.forall_mem_append.mpr ⟨lw_r3, List.forall_mem_append.mpr ⟨lw_r4, List.forall_mem_append.mpr ⟨lw_r5, lw_r6⟩⟩⟩⟩⟩
end
section
/-! ===== names: classes, fields, methods (by program wip/gen out of the claim) ===== -/
def RX0 : String := "LastStirred$Flock"
def RX1 : String := "LastStirred$Ground"
def RX2 : String := "LastStirred$Reader"
def RX3 : String := "LastStirred$Search"
def RX4 : String := "LastStirred$Shelf"
def RX5 : String := "LastStirred$Watch"
def RX6 : String := "LastStirred"
def RX7 : String := "LastStirredModel"
def RX8 : String := "LastStirredLaw"
def RX9 : String := "java/lang/Integer"
def RX10 : String := "java/lang/Math"
def RX11 : String := "java/util/Arrays"
def RX12 : String := "java/lang/System"
def RX13 : String := "java/lang/Object"
def TX0 : u_T := fun k => match k with
  | 0 => ("LastStirred$Flock", "kind", "[I", true)
  | 1 => ("LastStirred$Flock", "cell", "[I", true)
  | 2 => ("LastStirred$Flock", "gone", "[I", true)
  | 3 => ("LastStirred$Flock", "size", "I", false)
  | 4 => ("LastStirred$Flock", "last", "I", false)
  | 5 => ("LastStirred$Flock", "lastCell", "I", false)
  | 6 => ("LastStirred$Flock", "before", "I", false)
  | 7 => ("LastStirred$Flock", "beforeCell", "I", false)
  | 8 => ("LastStirred$Flock", "step", "I", false)
  | _ => ("LastStirred$Flock", "full", "I", false)
def tyX0 : Nat → FieldType := fun k => match k with
  | 0 => .array .int
  | 1 => .array .int
  | 2 => .array .int
  | 3 => .int
  | 4 => .int
  | 5 => .int
  | 6 => .int
  | 7 => .int
  | 8 => .int
  | _ => .int
theorem nmX0 : ∀ a, a < 10 → ∀ b, b < 10 → a ≠ b → (TX0 a).2.1 ≠ (TX0 b).2.1 := by decide +kernel
theorem tyX0_ok : ∀ k, k < 10 → parseFieldDescriptor (TX0 k).2.2.1 = some (tyX0 k) := by decide +kernel
def TX1 : u_T := fun k => match k with
  | 0 => ("LastStirred$Ground", "what", "[I", true)
  | 1 => ("LastStirred$Ground", "column", "[I", true)
  | 2 => ("LastStirred$Ground", "line", "[I", true)
  | 3 => ("LastStirred$Ground", "width", "I", false)
  | 4 => ("LastStirred$Ground", "height", "I", false)
  | _ => ("LastStirred$Ground", "size", "I", false)
def tyX1 : Nat → FieldType := fun k => match k with
  | 0 => .array .int
  | 1 => .array .int
  | 2 => .array .int
  | 3 => .int
  | 4 => .int
  | _ => .int
theorem nmX1 : ∀ a, a < 6 → ∀ b, b < 6 → a ≠ b → (TX1 a).2.1 ≠ (TX1 b).2.1 := by decide +kernel
theorem tyX1_ok : ∀ k, k < 6 → parseFieldDescriptor (TX1 k).2.2.1 = some (tyX1 k) := by decide +kernel
def TX2 : u_T := fun k => match k with
  | 0 => ("LastStirred$Reader", "ground", "LLastStirred$Ground;", true)
  | 1 => ("LastStirred$Reader", "flock", "LLastStirred$Flock;", true)
  | 2 => ("LastStirred$Reader", "text", "[I", false)
  | 3 => ("LastStirred$Reader", "size", "I", false)
  | _ => ("LastStirred$Reader", "place", "I", false)
def tyX2 : Nat → FieldType := fun k => match k with
  | 0 => .object "LastStirred$Ground"
  | 1 => .object "LastStirred$Flock"
  | 2 => .array .int
  | 3 => .int
  | _ => .int
theorem nmX2 : ∀ a, a < 5 → ∀ b, b < 5 → a ≠ b → (TX2 a).2.1 ≠ (TX2 b).2.1 := by decide +kernel
theorem tyX2_ok : ∀ k, k < 5 → parseFieldDescriptor (TX2 k).2.2.1 = some (tyX2 k) := by decide +kernel
def TX3 : u_T := fun k => match k with
  | 0 => ("LastStirred$Search", "behind", "[LLastStirred$Flock;", true)
  | 1 => ("LastStirred$Search", "sought", "[I", true)
  | 2 => ("LastStirred$Search", "seeksSafe", "Z", false)
  | 3 => ("LastStirred$Search", "length", "I", false)
  | 4 => ("LastStirred$Search", "rows", "I", false)
  | 5 => ("LastStirred$Search", "hits", "I", false)
  | 6 => ("LastStirred$Search", "first", "I", false)
  | 7 => ("LastStirred$Search", "beasts", "I", false)
  | _ => ("LastStirred$Search", "ways", "I", false)
def tyX3 : Nat → FieldType := fun k => match k with
  | 0 => .array (.object "LastStirred$Flock")
  | 1 => .array .int
  | 2 => .boolean
  | 3 => .int
  | 4 => .int
  | 5 => .int
  | 6 => .int
  | 7 => .int
  | _ => .int
theorem nmX3 : ∀ a, a < 9 → ∀ b, b < 9 → a ≠ b → (TX3 a).2.1 ≠ (TX3 b).2.1 := by decide +kernel
theorem tyX3_ok : ∀ k, k < 9 → parseFieldDescriptor (TX3 k).2.2.1 = some (tyX3 k) := by decide +kernel
def TX4 : u_T := fun k => match k with
  | 0 => ("LastStirred$Shelf", "place", "[[I", true)
  | _ => ("LastStirred$Shelf", "size", "[I", true)
def tyX4 : Nat → FieldType := fun k => match k with
  | 0 => .array (.array .int)
  | _ => .array .int
theorem nmX4 : ∀ a, a < 2 → ∀ b, b < 2 → a ≠ b → (TX4 a).2.1 ≠ (TX4 b).2.1 := by decide +kernel
theorem tyX4_ok : ∀ k, k < 2 → parseFieldDescriptor (TX4 k).2.2.1 = some (tyX4 k) := by decide +kernel
def TX5 : u_T := fun k => match k with
  | 0 => ("LastStirred$Watch", "behind", "[LLastStirred$Flock;", true)
  | 1 => ("LastStirred$Watch", "turns", "I", false)
  | 2 => ("LastStirred$Watch", "lostNow", "I", false)
  | _ => ("LastStirred$Watch", "first", "I", false)
def tyX5 : Nat → FieldType := fun k => match k with
  | 0 => .array (.object "LastStirred$Flock")
  | 1 => .int
  | 2 => .int
  | _ => .int
theorem nmX5 : ∀ a, a < 4 → ∀ b, b < 4 → a ≠ b → (TX5 a).2.1 ≠ (TX5 b).2.1 := by decide +kernel
theorem tyX5_ok : ∀ k, k < 4 → parseFieldDescriptor (TX5 k).2.2.1 = some (tyX5 k) := by decide +kernel
def TX6 : u_T := fun k => match k with
  | 0 => ("LastStirred", "rows", "LLastStirred$Shelf;", true)
  | 1 => ("LastStirred", "texts", "LLastStirred$Shelf;", true)
  | 2 => ("LastStirred", "reader", "LLastStirred$Reader;", true)
  | 3 => ("LastStirred", "ground", "LLastStirred$Ground;", true)
  | 4 => ("LastStirred", "flock", "LLastStirred$Flock;", true)
  | 5 => ("LastStirred", "kept", "[LLastStirred$Flock;", true)
  | 6 => ("LastStirred", "trial", "LLastStirred$Flock;", true)
  | 7 => ("LastStirred", "trail", "[J", true)
  | 8 => ("LastStirred", "search", "LLastStirred$Search;", true)
  | 9 => ("LastStirred", "watch", "LLastStirred$Watch;", true)
  | 10 => ("LastStirred", "found", "[I", true)
  | 11 => ("LastStirred", "keptPlaces", "I", false)
  | 12 => ("LastStirred", "latest", "I", false)
  | 13 => ("LastStirred", "told", "I", false)
  | 14 => ("LastStirred", "up", "J", false)
  | _ => ("LastStirred", "low", "J", false)
def tyX6 : Nat → FieldType := fun k => match k with
  | 0 => .object "LastStirred$Shelf"
  | 1 => .object "LastStirred$Shelf"
  | 2 => .object "LastStirred$Reader"
  | 3 => .object "LastStirred$Ground"
  | 4 => .object "LastStirred$Flock"
  | 5 => .array (.object "LastStirred$Flock")
  | 6 => .object "LastStirred$Flock"
  | 7 => .array .long
  | 8 => .object "LastStirred$Search"
  | 9 => .object "LastStirred$Watch"
  | 10 => .array .int
  | 11 => .int
  | 12 => .int
  | 13 => .int
  | 14 => .long
  | _ => .long
theorem nmX6 : ∀ a, a < 16 → ∀ b, b < 16 → a ≠ b → (TX6 a).2.1 ≠ (TX6 b).2.1 := by decide +kernel
theorem tyX6_ok : ∀ k, k < 16 → parseFieldDescriptor (TX6 k).2.2.1 = some (tyX6 k) := by decide +kernel
def TX7 : u_T := fun k => match k with
  | 0 => ("LastStirredModel", "latest", "I", false)
  | 1 => ("LastStirredModel", "came", "[I", true)
  | 2 => ("LastStirredModel", "asked", "I", false)
  | 3 => ("LastStirredModel", "upper", "J", false)
  | 4 => ("LastStirredModel", "lower", "J", false)
  | 5 => ("LastStirredModel", "sizes", "[I", true)
  | 6 => ("LastStirredModel", "rows", "[I", true)
  | 7 => ("LastStirredModel", "copied", "[I", true)
  | 8 => ("LastStirredModel", "textSizes", "[I", true)
  | 9 => ("LastStirredModel", "bytes", "[B", true)
  | 10 => ("LastStirredModel", "wide", "I", false)
  | 11 => ("LastStirredModel", "cells", "I", false)
  | 12 => ("LastStirredModel", "ground", "[I", true)
  | 13 => ("LastStirredModel", "n", "I", false)
  | 14 => ("LastStirredModel", "kinds", "[I", true)
  | 15 => ("LastStirredModel", "readAt", "I", false)
  | 16 => ("LastStirredModel", "readNumber", "I", false)
  | 17 => ("LastStirredModel", "readWide", "I", false)
  | 18 => ("LastStirredModel", "readHigh", "I", false)
  | 19 => ("LastStirredModel", "readCells", "I", false)
  | 20 => ("LastStirredModel", "readMany", "I", false)
  | 21 => ("LastStirredModel", "readGround", "[I", true)
  | 22 => ("LastStirredModel", "readKinds", "[I", true)
  | 23 => ("LastStirredModel", "readPlaces", "[I", true)
  | 24 => ("LastStirredModel", "flocks", "[I", true)
  | 25 => ("LastStirredModel", "isKept", "[Z", true)
  | 26 => ("LastStirredModel", "isGateUsed", "Z", false)
  | 27 => ("LastStirredModel", "went", "I", false)
  | 28 => ("LastStirredModel", "aims", "[I", true)
  | 29 => ("LastStirredModel", "stand", "Z", false)
  | 30 => ("LastStirredModel", "runWent", "I", false)
  | 31 => ("LastStirredModel", "states", "[J", true)
  | 32 => ("LastStirredModel", "rowsAll", "I", false)
  | 33 => ("LastStirredModel", "rowsGood", "I", false)
  | 34 => ("LastStirredModel", "rowFirst", "I", false)
  | 35 => ("LastStirredModel", "firstBeasts", "I", false)
  | 36 => ("LastStirredModel", "firstWays", "I", false)
  | 37 => ("LastStirredModel", "were", "[I", true)
  | _ => ("LastStirredModel", "hash", "J", false)
def tyX7 : Nat → FieldType := fun k => match k with
  | 0 => .int
  | 1 => .array .int
  | 2 => .int
  | 3 => .long
  | 4 => .long
  | 5 => .array .int
  | 6 => .array .int
  | 7 => .array .int
  | 8 => .array .int
  | 9 => .array .byte
  | 10 => .int
  | 11 => .int
  | 12 => .array .int
  | 13 => .int
  | 14 => .array .int
  | 15 => .int
  | 16 => .int
  | 17 => .int
  | 18 => .int
  | 19 => .int
  | 20 => .int
  | 21 => .array .int
  | 22 => .array .int
  | 23 => .array .int
  | 24 => .array .int
  | 25 => .array .boolean
  | 26 => .boolean
  | 27 => .int
  | 28 => .array .int
  | 29 => .boolean
  | 30 => .int
  | 31 => .array .long
  | 32 => .int
  | 33 => .int
  | 34 => .int
  | 35 => .int
  | 36 => .int
  | 37 => .array .int
  | _ => .long
theorem nmX7 : ∀ a, a < 39 → ∀ b, b < 39 → a ≠ b → (TX7 a).2.1 ≠ (TX7 b).2.1 := by decide +kernel
theorem tyX7_ok : ∀ k, k < 39 → parseFieldDescriptor (TX7 k).2.2.1 = some (tyX7 k) := by decide +kernel
abbrev j_cls : List vw_C := [(RX0, TX0, 10), (RX1, TX1, 6), (RX2, TX2, 5), (RX3, TX3, 9), (RX4, TX4, 2), (RX5, TX5, 4), (RX6, TX6, 16), (RX7, TX7, 39)]
def j_CN : Nat → String := fun k => match k with
  | 0 => RX0
  | 1 => RX1
  | 2 => RX2
  | 3 => RX3
  | 4 => RX4
  | 5 => RX5
  | 6 => RX6
  | 7 => RX7
  | 8 => RX8
  | 9 => RX9
  | 10 => RX10
  | 11 => RX11
  | 12 => RX12
  | _ => RX13
def j_mN : List MethodName := [⟨RX0, "<init>", "()V"⟩,
  ⟨RX0, "clear", "()V"⟩,
  ⟨RX0, "add", "(II)V"⟩,
  ⟨RX0, "take", "(LLastStirred$Flock;)V"⟩,
  ⟨RX0, "forgetGone", "()V"⟩,
  ⟨RX0, "has", "(I)Z"⟩,
  ⟨RX0, "isLost", "(I)Z"⟩,
  ⟨RX0, "isIn", "(I)Z"⟩,
  ⟨RX0, "whoIsIn", "(I)I"⟩,
  ⟨RX0, "isOf", "(II)Z"⟩,
  ⟨RX0, "isShy", "(I)Z"⟩,
  ⟨RX0, "isSlow", "(I)Z"⟩,
  ⟨RX0, "tells", "(II)I"⟩,
  ⟨RX0, "drives", "()I"⟩,
  ⟨RX0, "lostOnes", "()I"⟩,
  ⟨RX0, "shyOnes", "()I"⟩,
  ⟨RX0, "allOff", "(LLastStirred$Ground;)I"⟩,
  ⟨RX0, "areSafe", "(LLastStirred$Ground;)Z"⟩,
  ⟨RX0, "areAt", "([I)Z"⟩,
  ⟨RX0, "inOneNumber", "()J"⟩,
  ⟨RX0, "joined", "(JI)J"⟩,
  ⟨RX0, "aimOf", "(I)I"⟩,
  ⟨RX0, "can", "(LLastStirred$Ground;IIZ)Z"⟩,
  ⟨RX0, "move", "(LLastStirred$Ground;II)V"⟩,
  ⟨RX0, "becomesLast", "(II)V"⟩,
  ⟨RX0, "stirBy", "(LLastStirred$Ground;II)I"⟩,
  ⟨RX0, "takeStep", "(LLastStirred$Ground;)I"⟩,
  ⟨RX0, "nextCell", "(LLastStirred$Ground;IZ)I"⟩,
  ⟨RX0, "runOut", "(LLastStirred$Ground;)Z"⟩,
  ⟨RX0, "driveBy", "(LLastStirred$Ground;I)Z"⟩,
  ⟨RX0, "fleeFrom", "(LLastStirred$Ground;I)I"⟩,
  ⟨RX0, "wayTo", "(LLastStirred$Ground;II)I"⟩,
  ⟨RX1, "<init>", "()V"⟩,
  ⟨RX1, "spread", "(II)V"⟩,
  ⟨RX1, "take", "(LLastStirred$Ground;)V"⟩,
  ⟨RX1, "has", "(I)Z"⟩,
  ⟨RX1, "isOpen", "(I)Z"⟩,
  ⟨RX1, "off", "(II)I"⟩,
  ⟨RX1, "beside", "(II)I"⟩,
  ⟨RX1, "howMany", "(I)I"⟩,
  ⟨RX1, "reachFrom", "(IZ)I"⟩,
  ⟨RX1, "openBeside", "(IZ)I"⟩,
  ⟨RX2, "<init>", "()V"⟩,
  ⟨RX2, "readAll", "([II)I"⟩,
  ⟨RX2, "readSize", "()Z"⟩,
  ⟨RX2, "readCells", "()Z"⟩,
  ⟨RX2, "readBeasts", "()Z"⟩,
  ⟨RX2, "readBeast", "()Z"⟩,
  ⟨RX2, "skipBlanks", "()V"⟩,
  ⟨RX2, "sign", "()I"⟩,
  ⟨RX2, "figure", "(II)I"⟩,
  ⟨RX3, "<init>", "()V"⟩,
  ⟨RX3, "seekSafe", "()V"⟩,
  ⟨RX3, "seekDawn", "([I)V"⟩,
  ⟨RX3, "fewFrom", "(LLastStirred$Ground;LLastStirred$Flock;I)I"⟩,
  ⟨RX3, "allFrom", "(LLastStirred$Ground;LLastStirred$Flock;I)V"⟩,
  ⟨RX3, "begin", "(LLastStirred$Flock;I)V"⟩,
  ⟨RX3, "follow", "(LLastStirred$Search;LLastStirred$Ground;II)V"⟩,
  ⟨RX3, "note", "(LLastStirred$Ground;II)V"⟩,
  ⟨RX4, "<init>", "([[I)V"⟩,
  ⟨RX4, "has", "(I)Z"⟩,
  ⟨RX4, "make", "(III)V"⟩,
  ⟨RX4, "thereAre", "()I"⟩,
  ⟨RX4, "addTo", "(J)J"⟩,
  ⟨RX5, "<init>", "()V"⟩,
  ⟨RX5, "keepsAll", "(LLastStirred$Ground;LLastStirred$Flock;II)Z"⟩,
  ⟨RX5, "shepherdKeeps", "(LLastStirred$Ground;II)Z"⟩,
  ⟨RX5, "wolfFails", "(LLastStirred$Ground;II)Z"⟩,
  ⟨RX6, "<init>", "()V"⟩,
  ⟨RX6, "row", "(II)I"⟩,
  ⟨RX6, "lay", "(III)I"⟩,
  ⟨RX6, "at", "(II)I"⟩,
  ⟨RX6, "tear", "(I)I"⟩,
  ⟨RX6, "copy", "(IIIII)I"⟩,
  ⟨RX6, "mean", "(I)I"⟩,
  ⟨RX6, "text", "(II)I"⟩,
  ⟨RX6, "put", "(III)I"⟩,
  ⟨RX6, "fault", "(I)I"⟩,
  ⟨RX6, "ground", "(I)I"⟩,
  ⟨RX6, "cell", "(I)I"⟩,
  ⟨RX6, "build", "(II)I"⟩,
  ⟨RX6, "beast", "(II)I"⟩,
  ⟨RX6, "mark", "(II)I"⟩,
  ⟨RX6, "last", "()I"⟩,
  ⟨RX6, "stir", "(II)I"⟩,
  ⟨RX6, "go", "(I)I"⟩,
  ⟨RX6, "run", "()I"⟩,
  ⟨RX6, "ring", "()I"⟩,
  ⟨RX6, "where", "(I)I"⟩,
  ⟨RX6, "apart", "()I"⟩,
  ⟨RX6, "keep", "(I)I"⟩,
  ⟨RX6, "on", "(I)I"⟩,
  ⟨RX6, "fewest", "()I"⟩,
  ⟨RX6, "ways", "(I)I"⟩,
  ⟨RX6, "gather", "()I"⟩,
  ⟨RX6, "part", "(II)I"⟩,
  ⟨RX6, "worth", "(II)I"⟩,
  ⟨RX6, "stone", "(I)I"⟩,
  ⟨RX6, "drive", "(I)I"⟩,
  ⟨RX6, "reach", "(II)I"⟩,
  ⟨RX6, "never", "()I"⟩,
  ⟨RX6, "wolf", "(II)I"⟩,
  ⟨RX6, "dawn", "(I)I"⟩,
  ⟨RX6, "who", "(I)I"⟩,
  ⟨RX6, "breed", "(I)I"⟩,
  ⟨RX6, "asked", "()I"⟩,
  ⟨RX6, "upper", "()J"⟩,
  ⟨RX6, "lower", "()J"⟩,
  ⟨RX6, "count", "(I)I"⟩,
  ⟨RX6, "finding", "()I"⟩,
  ⟨RX6, "findings", "(I)I"⟩,
  ⟨RX6, "digest", "()J"⟩,
  ⟨RX6, "finds", "(I)I"⟩,
  ⟨RX6, "makeIn", "(LLastStirred$Shelf;III)I"⟩,
  ⟨RX6, "refusedMissing", "(LLastStirred$Shelf;I)I"⟩,
  ⟨RX6, "refusedPlace", "(LLastStirred$Shelf;II)I"⟩,
  ⟨RX6, "refusedDawn", "(I)I"⟩,
  ⟨RX6, "fits", "(III)Z"⟩,
  ⟨RX6, "isWay", "(I)Z"⟩,
  ⟨RX6, "isPlace", "(I)Z"⟩,
  ⟨RX6, "isKept", "(I)Z"⟩,
  ⟨RX6, "offLast", "(I)I"⟩,
  ⟨RX6, "othersNear", "(I)I"⟩,
  ⟨RX6, "tryDrive", "(I)Z"⟩,
  ⟨RX6, "tellFraction", "(II)V"⟩,
  ⟨RX6, "placeOf", "([II)I"⟩,
  ⟨RX7, "<init>", "()V"⟩,
  ⟨RX7, "in", "(III)Z"⟩,
  ⟨RX7, "has", "(II)Z"⟩,
  ⟨RX7, "bits", "(I)I"⟩,
  ⟨RX7, "size", "(I)I"⟩,
  ⟨RX7, "meets", "(I)I"⟩,
  ⟨RX7, "finding", "()I"⟩,
  ⟨RX7, "findings", "(I)I"⟩,
  ⟨RX7, "tells", "(II)I"⟩,
  ⟨RX7, "asked", "()I"⟩,
  ⟨RX7, "fraction", "(JJI)I"⟩,
  ⟨RX7, "upper", "()J"⟩,
  ⟨RX7, "lower", "()J"⟩,
  ⟨RX7, "isRow", "(I)Z"⟩,
  ⟨RX7, "rowAt", "(II)I"⟩,
  ⟨RX7, "row", "(II)I"⟩,
  ⟨RX7, "lay", "(III)I"⟩,
  ⟨RX7, "at", "(II)I"⟩,
  ⟨RX7, "tear", "(I)I"⟩,
  ⟨RX7, "copy", "(IIIII)I"⟩,
  ⟨RX7, "mean", "(I)I"⟩,
  ⟨RX7, "isText", "(I)Z"⟩,
  ⟨RX7, "text", "(II)I"⟩,
  ⟨RX7, "put", "(III)I"⟩,
  ⟨RX7, "byteAt", "(II)I"⟩,
  ⟨RX7, "signOf", "(I)I"⟩,
  ⟨RX7, "kindOf", "(I)I"⟩,
  ⟨RX7, "figure", "(III)Z"⟩,
  ⟨RX7, "readsGrid", "(I)Z"⟩,
  ⟨RX7, "readsSign", "(I)Z"⟩,
  ⟨RX7, "readsBeast", "(I)Z"⟩,
  ⟨RX7, "faultOf", "(I)I"⟩,
  ⟨RX7, "fault", "(I)I"⟩,
  ⟨RX7, "ground", "(I)I"⟩,
  ⟨RX7, "isCell", "(I)Z"⟩,
  ⟨RX7, "isBeast", "(I)Z"⟩,
  ⟨RX7, "v", "(II)I"⟩,
  ⟨RX7, "place", "(III)V"⟩,
  ⟨RX7, "copyFlock", "(II)V"⟩,
  ⟨RX7, "isLost", "(II)Z"⟩,
  ⟨RX7, "lostMany", "(I)I"⟩,
  ⟨RX7, "whoIn", "(III)I"⟩,
  ⟨RX7, "off", "(II)I"⟩,
  ⟨RX7, "cell", "(I)I"⟩,
  ⟨RX7, "build", "(II)I"⟩,
  ⟨RX7, "beastTells", "(II)I"⟩,
  ⟨RX7, "beast", "(II)I"⟩,
  ⟨RX7, "isShy", "(I)Z"⟩,
  ⟨RX7, "isSlow", "(I)Z"⟩,
  ⟨RX7, "aimOf", "(II)I"⟩,
  ⟨RX7, "near", "(I)I"⟩,
  ⟨RX7, "gates", "()I"⟩,
  ⟨RX7, "mark", "(II)I"⟩,
  ⟨RX7, "last", "()I"⟩,
  ⟨RX7, "can", "(III)Z"⟩,
  ⟨RX7, "by", "(III)I"⟩,
  ⟨RX7, "goesTo", "(III)Z"⟩,
  ⟨RX7, "becomesLast", "(III)V"⟩,
  ⟨RX7, "sign", "(I)I"⟩,
  ⟨RX7, "goes", "(III)Z"⟩,
  ⟨RX7, "stepOf", "(I)I"⟩,
  ⟨RX7, "runs", "(I)I"⟩,
  ⟨RX7, "stirs", "(III)Z"⟩,
  ⟨RX7, "drives", "(II)Z"⟩,
  ⟨RX7, "stir", "(II)I"⟩,
  ⟨RX7, "go", "(I)I"⟩,
  ⟨RX7, "run", "()I"⟩,
  ⟨RX7, "stateOf", "(I)J"⟩,
  ⟨RX7, "ring", "()I"⟩,
  ⟨RX7, "where", "(I)I"⟩,
  ⟨RX7, "apartOf", "(I)I"⟩,
  ⟨RX7, "apart", "()I"⟩,
  ⟨RX7, "keep", "(I)I"⟩,
  ⟨RX7, "on", "(I)I"⟩,
  ⟨RX7, "isSafe", "(I)Z"⟩,
  ⟨RX7, "codes", "()I"⟩,
  ⟨RX7, "driven", "(II)Z"⟩,
  ⟨RX7, "isWanted", "(II)Z"⟩,
  ⟨RX7, "layRows", "(II)V"⟩,
  ⟨RX7, "layDeeper", "(III)V"⟩,
  ⟨RX7, "layRow", "(IIII)V"⟩,
  ⟨RX7, "fewestOf", "(II)I"⟩,
  ⟨RX7, "fewest", "()I"⟩,
  ⟨RX7, "ways", "(I)I"⟩,
  ⟨RX7, "gather", "()I"⟩,
  ⟨RX7, "part", "(II)I"⟩,
  ⟨RX7, "wentIn", "(I)I"⟩,
  ⟨RX7, "worth", "(II)I"⟩,
  ⟨RX7, "stone", "(I)I"⟩,
  ⟨RX7, "drive", "(I)I"⟩,
  ⟨RX7, "isOpen", "(IZ)Z"⟩,
  ⟨RX7, "reached", "(IZ)I"⟩,
  ⟨RX7, "reach", "(II)I"⟩,
  ⟨RX7, "never", "()I"⟩,
  ⟨RX7, "wolfTo", "(II)I"⟩,
  ⟨RX7, "keeps", "(IIII)Z"⟩,
  ⟨RX7, "canKeep", "(II)Z"⟩,
  ⟨RX7, "keepsLast", "(III)Z"⟩,
  ⟨RX7, "wolf", "(II)I"⟩,
  ⟨RX7, "needDawn", "(I)I"⟩,
  ⟨RX7, "dawn", "(I)I"⟩,
  ⟨RX7, "who", "(I)I"⟩,
  ⟨RX7, "breed", "(I)I"⟩,
  ⟨RX7, "counted", "(I)I"⟩,
  ⟨RX7, "count", "(I)I"⟩,
  ⟨RX7, "mix", "(J)V"⟩,
  ⟨RX7, "mixFlock", "()V"⟩,
  ⟨RX7, "digest", "()J"⟩,
  ⟨RX9, "bitCount", "(I)I"⟩,
  ⟨RX11, "fill", "([II)V"⟩,
  ⟨RX8, "law", "([I)Z"⟩]
def j_mB : List ByteArray := [prog_2_method_1_code, prog_2_method_2_code, prog_2_method_3_code, prog_2_method_4_code, prog_2_method_5_code, prog_2_method_6_code, prog_2_method_7_code, prog_2_method_8_code, prog_2_method_9_code, prog_2_method_10_code, prog_2_method_11_code, prog_2_method_12_code, prog_2_method_13_code, prog_2_method_14_code, prog_2_method_15_code, prog_2_method_16_code, prog_2_method_17_code, prog_2_method_18_code, prog_2_method_19_code, prog_2_method_20_code, prog_2_method_21_code, prog_2_method_22_code, prog_2_method_23_code, prog_2_method_24_code, prog_2_method_25_code, prog_2_method_26_code, prog_2_method_27_code, prog_2_method_28_code, prog_2_method_29_code, prog_2_method_30_code, prog_2_method_31_code, prog_2_method_32_code, prog_3_method_1_code, prog_3_method_2_code, prog_3_method_3_code, prog_3_method_4_code, prog_3_method_5_code, prog_3_method_6_code, prog_3_method_7_code, prog_3_method_8_code, prog_3_method_9_code, prog_3_method_10_code, prog_4_method_1_code, prog_4_method_2_code, prog_4_method_3_code, prog_4_method_4_code, prog_4_method_5_code, prog_4_method_6_code, prog_4_method_7_code, prog_4_method_8_code, prog_4_method_9_code, prog_5_method_1_code, prog_5_method_2_code, prog_5_method_3_code, prog_5_method_4_code, prog_5_method_5_code, prog_5_method_6_code, prog_5_method_7_code, prog_5_method_8_code, prog_6_method_1_code, prog_6_method_2_code, prog_6_method_3_code, prog_6_method_4_code, prog_6_method_5_code, prog_7_method_1_code, prog_7_method_2_code, prog_7_method_3_code, prog_7_method_4_code, prog_1_method_1_code, prog_1_method_2_code, prog_1_method_3_code, prog_1_method_4_code, prog_1_method_5_code, prog_1_method_6_code, prog_1_method_7_code, prog_1_method_8_code, prog_1_method_9_code, prog_1_method_10_code, prog_1_method_11_code, prog_1_method_12_code, prog_1_method_13_code, prog_1_method_14_code, prog_1_method_15_code, prog_1_method_16_code, prog_1_method_17_code, prog_1_method_18_code, prog_1_method_19_code, prog_1_method_20_code, prog_1_method_21_code, prog_1_method_22_code, prog_1_method_23_code, prog_1_method_24_code, prog_1_method_25_code, prog_1_method_26_code, prog_1_method_27_code, prog_1_method_28_code, prog_1_method_29_code, prog_1_method_30_code, prog_1_method_31_code, prog_1_method_32_code, prog_1_method_33_code, prog_1_method_34_code, prog_1_method_35_code, prog_1_method_36_code, prog_1_method_37_code, prog_1_method_38_code, prog_1_method_39_code, prog_1_method_40_code, prog_1_method_41_code, prog_1_method_42_code, prog_1_method_43_code, prog_1_method_44_code, prog_1_method_45_code, prog_1_method_46_code, prog_1_method_47_code, prog_1_method_48_code, prog_1_method_49_code, prog_1_method_50_code, prog_1_method_51_code, prog_1_method_52_code, prog_1_method_53_code, prog_1_method_54_code, prog_1_method_55_code, prog_1_method_56_code, prog_1_method_57_code, prog_1_method_58_code, prog_9_method_1_code, prog_9_method_2_code, prog_9_method_3_code, prog_9_method_4_code, prog_9_method_5_code, prog_9_method_6_code, prog_9_method_7_code, prog_9_method_8_code, prog_9_method_9_code, prog_9_method_10_code, prog_9_method_11_code, prog_9_method_12_code, prog_9_method_13_code, prog_9_method_14_code, prog_9_method_15_code, prog_9_method_16_code, prog_9_method_17_code, prog_9_method_18_code, prog_9_method_19_code, prog_9_method_20_code, prog_9_method_21_code, prog_9_method_22_code, prog_9_method_23_code, prog_9_method_24_code, prog_9_method_25_code, prog_9_method_26_code, prog_9_method_27_code, prog_9_method_28_code, prog_9_method_29_code, prog_9_method_30_code, prog_9_method_31_code, prog_9_method_32_code, prog_9_method_33_code, prog_9_method_34_code, prog_9_method_35_code, prog_9_method_36_code, prog_9_method_37_code, prog_9_method_38_code, prog_9_method_39_code, prog_9_method_40_code, prog_9_method_41_code, prog_9_method_42_code, prog_9_method_43_code, prog_9_method_44_code, prog_9_method_45_code, prog_9_method_46_code, prog_9_method_47_code, prog_9_method_48_code, prog_9_method_49_code, prog_9_method_50_code, prog_9_method_51_code, prog_9_method_52_code, prog_9_method_53_code, prog_9_method_54_code, prog_9_method_55_code, prog_9_method_56_code, prog_9_method_57_code, prog_9_method_58_code, prog_9_method_59_code, prog_9_method_60_code, prog_9_method_61_code, prog_9_method_62_code, prog_9_method_63_code, prog_9_method_64_code, prog_9_method_65_code, prog_9_method_66_code, prog_9_method_67_code, prog_9_method_68_code, prog_9_method_69_code, prog_9_method_70_code, prog_9_method_71_code, prog_9_method_72_code, prog_9_method_73_code, prog_9_method_74_code, prog_9_method_75_code, prog_9_method_76_code, prog_9_method_77_code, prog_9_method_78_code, prog_9_method_79_code, prog_9_method_80_code, prog_9_method_81_code, prog_9_method_82_code, prog_9_method_83_code, prog_9_method_84_code, prog_9_method_85_code, prog_9_method_86_code, prog_9_method_87_code, prog_9_method_88_code, prog_9_method_89_code, prog_9_method_90_code, prog_9_method_91_code, prog_9_method_92_code, prog_9_method_93_code, prog_9_method_94_code, prog_9_method_95_code, prog_9_method_96_code, prog_9_method_97_code, prog_9_method_98_code, prog_9_method_99_code, prog_9_method_100_code, prog_9_method_101_code, prog_9_method_102_code, prog_9_method_103_code, prog_9_method_104_code, prog_9_method_105_code, prog_9_method_106_code, prog_9_method_107_code, prog_9_method_108_code, prog_10_method_49_code, prog_13_method_103_code, code]
def j_mL : List Nat := [1, 1, 3, 3, 1, 2, 2, 2, 3, 3, 2, 2, 3, 1, 3, 3, 5, 3, 3, 4, 3, 2, 5, 4, 3, 5, 8, 16, 4, 3, 8, 4, 1, 5, 2, 2, 2, 3, 5, 4, 7, 6, 1, 3, 3, 3, 2, 5, 1, 1, 4, 1, 1, 2, 5, 4, 3, 6, 6, 2, 2, 4, 6, 7, 1, 5, 6, 6, 1, 3, 5, 4, 3, 6, 7, 3, 6, 3, 3, 2, 4, 3, 3, 1, 4, 4, 2, 3, 3, 1, 2, 2, 2, 2, 6, 7, 6, 2, 5, 3, 5, 4, 4, 4, 2, 1, 1, 1, 2, 1, 2, 5, 2, 5, 3, 5, 5, 3, 1, 2, 2, 2, 4, 2, 4, 3, 2, 3, 2, 3, 1, 2, 1, 2, 3, 1, 12, 1, 1, 1, 3, 4, 5, 3, 2, 7, 5, 1, 4, 5, 3, 1, 1, 5, 3, 3, 7, 2, 2, 3, 2, 2, 3, 4, 4, 3, 4, 5, 3, 2, 4, 3, 3, 2, 2, 3, 4, 3, 3, 1, 4, 6, 4, 4, 1, 13, 6, 5, 5, 3, 3, 4, 2, 5, 3, 3, 5, 1, 2, 2, 4, 1, 3, 5, 4, 6, 5, 4, 2, 2, 5, 8, 4, 4, 7, 4, 3, 10, 3, 5, 4, 8, 5, 7, 4, 4, 4, 4, 4, 4, 2, 3, 3, 3, 1, 4, 4]
def j_mR : List (Option FieldType) := [none, none, none, none, none, some .boolean, some .boolean, some .boolean, some .int, some .boolean, some .boolean, some .boolean, some .int, some .int, some .int, some .int, some .int, some .boolean, some .boolean, some .long, some .long, some .int, some .boolean, none, none, some .int, some .int, some .int, some .boolean, some .boolean, some .int, some .int, none, none, none, some .boolean, some .boolean, some .int, some .int, some .int, some .int, some .int, none, some .int, some .boolean, some .boolean, some .boolean, some .boolean, none, some .int, some .int, none, none, none, some .int, none, none, none, none, none, some .boolean, none, some .int, some .long, none, some .boolean, some .boolean, some .boolean, none, some .int, some .int, some .int, some .int, some .int, some .int, some .int, some .int, some .int, some .int, some .int, some .int, some .int, some .int, some .int, some .int, some .int, some .int, some .int, some .int, some .int, some .int, some .int, some .int, some .int, some .int, some .int, some .int, some .int, some .int, some .int, some .int, some .int, some .int, some .int, some .int, some .int, some .long, some .long, some .int, some .int, some .int, some .long, some .int, some .int, some .int, some .int, some .int, some .boolean, some .boolean, some .boolean, some .boolean, some .int, some .int, some .boolean, none, some .int, none, some .boolean, some .boolean, some .int, some .int, some .int, some .int, some .int, some .int, some .int, some .int, some .long, some .long, some .boolean, some .int, some .int, some .int, some .int, some .int, some .int, some .int, some .boolean, some .int, some .int, some .int, some .int, some .int, some .boolean, some .boolean, some .boolean, some .boolean, some .int, some .int, some .int, some .boolean, some .boolean, some .int, none, none, some .boolean, some .int, some .int, some .int, some .int, some .int, some .int, some .int, some .boolean, some .boolean, some .int, some .int, some .int, some .int, some .int, some .boolean, some .int, some .boolean, none, some .int, some .boolean, some .int, some .int, some .boolean, some .boolean, some .int, some .int, some .int, some .long, some .int, some .int, some .int, some .int, some .int, some .int, some .boolean, some .int, some .boolean, some .boolean, none, none, none, some .int, some .int, some .int, some .int, some .int, some .int, some .int, some .int, some .int, some .boolean, some .int, some .int, some .int, some .int, some .boolean, some .boolean, some .boolean, some .int, some .int, some .int, some .int, some .int, some .int, some .int, none, none, some .long, some .int, none, some .boolean]
end
section
/-! ===== THE LITTLE MACHINE: frames, instructions and calls as one computable function over named cells; that the JVM follows it is part 06 ===== -/
/-- the read-only cells (static tables, the script) have names from here on -/
def j_b : Nat := 1000000
/-- what a named cell is: an object of a class, or an array of a type with so many places -/
abbrev j_Sh : Type := Nat ⊕ (FieldType × Nat)
/-- a store: shapes, references, ints, longs (by cell and place), how many cells and slots were made -/
abbrev Sto : Type := (Nat → Option j_Sh) × (Nat → Nat → Option Nat) × (Nat → Nat → Int32) × (Nat → Nat → Int64) × Nat × Nat
abbrev Rr : Type := Option Value × Sto
abbrev s_sh (σ : Sto) : Nat → Option j_Sh := σ.1
abbrev s_P (σ : Sto) : Nat → Nat → Option Nat := σ.2.1
abbrev s_I (σ : Sto) : Nat → Nat → Int32 := σ.2.2.1
abbrev s_J (σ : Sto) : Nat → Nat → Int64 := σ.2.2.2.1
abbrev s_n (σ : Sto) : Nat := σ.2.2.2.2.1
abbrev s_l (σ : Sto) : Nat := σ.2.2.2.2.2
def u1 {α : Type} (f : Nat → α) (k : Nat) (v : α) : Nat → α := fun k' => if k' = k then v else f k'
def u2 {α : Type} (f : Nat → Nat → α) (r k : Nat) (v : α) : Nat → Nat → α := u1 f r (u1 (f r) k v)
abbrev s_uP (σ : Sto) (r k : Nat) (v : Option Nat) : Sto := (σ.1, u2 σ.2.1 r k v, σ.2.2)
abbrev s_uI (σ : Sto) (r k : Nat) (v : Int32) : Sto := (σ.1, σ.2.1, u2 σ.2.2.1 r k v, σ.2.2.2)
abbrev s_uJ (σ : Sto) (r k : Nat) (v : Int64) : Sto := (σ.1, σ.2.1, σ.2.2.1, u2 σ.2.2.2.1 r k v, σ.2.2.2.2)
/-- the row of ints of a cell anew -/
abbrev s_rI (σ : Sto) (r : Nat) (f : Nat → Int32) : Sto := (σ.1, σ.2.1, u1 σ.2.2.1 r f, σ.2.2.2)
/-- a new cell -/
abbrev s_al (σ : Sto) (h : j_Sh) (n : Nat) : Sto := (u1 σ.1 σ.2.2.2.2.1 (some h), u1 σ.2.1 σ.2.2.2.2.1 (fun _ => none), u1 σ.2.2.1 σ.2.2.2.2.1 (fun _ => 0), u1 σ.2.2.2.1 σ.2.2.2.2.1 (fun _ => 0), σ.2.2.2.2.1 + 1, σ.2.2.2.2.2 + n)
/-- new int[n][k]: the outer cell, then the rows -/
def s_mn (σ : Sto) (n k : Nat) : Sto := (fun r => if r < σ.2.2.2.2.1 then σ.1 r else if r = σ.2.2.2.2.1 then some (.inr (.array .int, n)) else if r < σ.2.2.2.2.1 + 1 + n then some (.inr (.int, k)) else σ.1 r, fun r i => if r = σ.2.2.2.2.1 then (if i < n then some (r + 1 + i) else none) else if σ.2.2.2.2.1 < r ∧ r < σ.2.2.2.2.1 + 1 + n then none else σ.2.1 r i, fun r i => if σ.2.2.2.2.1 ≤ r ∧ r < σ.2.2.2.2.1 + 1 + n then 0 else σ.2.2.1 r i, fun r i => if σ.2.2.2.2.1 ≤ r ∧ r < σ.2.2.2.2.1 + 1 + n then 0 else σ.2.2.2.1 r i, σ.2.2.2.2.1 + 1 + n, σ.2.2.2.2.2 + n + n * k)
/-- an index within -/
abbrev j_in (i : Int32) (n : Nat) : Prop := ¬ i < 0 ∧ i.toNatClampNeg < n
/-- a cell that is an object of the class ci -/
def j_oc (σ : Sto) (ci r : Nat) (K : Option Rr) : Option Rr := if σ.1 r = some (.inl ci) then K else none
/-- places of arrays: ints, bytes, booleans, longs, references -/
def j_ia (σ : Sto) (r : Nat) (i : Int32) (K : Option Rr) : Option Rr := match σ.1 r with
  | some (.inr (.int, n)) => if j_in i n then K else none
  | _ => none
def j_ba (σ : Sto) (r : Nat) (i : Int32) (K : Option Rr) : Option Rr := match σ.1 r with
  | some (.inr (.byte, n)) => if j_in i n then K else none
  | some (.inr (.boolean, n)) => if j_in i n then K else none
  | _ => none
def j_la (σ : Sto) (r : Nat) (i : Int32) (K : Option Rr) : Option Rr := match σ.1 r with
  | some (.inr (.long, n)) => if j_in i n then K else none
  | _ => none
def j_qa (σ : Sto) (r : Nat) (i : Int32) (K : Nat → Option Rr) : Option Rr := match σ.1 r with
  | some (.inr (.object C, n)) => if C = RX0 ∧ j_in i n then (match σ.2.1 r i.toNatClampNeg with | some q => K q | none => none) else none
  | some (.inr (.array .int, n)) => if j_in i n then (match σ.2.1 r i.toNatClampNeg with | some q => K q | none => none) else none
  | _ => none
def j_gP (σ : Sto) (ci r k : Nat) (K : Nat → Option Rr) : Option Rr := if σ.1 r = some (.inl ci) then (match σ.2.1 r k with | some q => K q | none => none) else none
def j_len (σ : Sto) (r : Nat) (K : Int32 → Option Rr) : Option Rr := match σ.1 r with
  | some (.inr (.int, n)) => K (Int32.ofNat n)
  | some (.inr (.object C, n)) => if C = RX0 then K (Int32.ofNat n) else none
  | some (.inr (.array .int, n)) => K (Int32.ofNat n)
  | _ => none
/-- a byte or a boolean that is stored in an array -/
def j_bs (σ : Sto) (r : Nat) (i v : Int32) (K : Sto → Option Rr) : Option Rr := match σ.1 r with
  | some (.inr (.byte, n)) => if r < j_b ∧ j_in i n then K (s_uI σ r i.toNatClampNeg v.toInt8.toInt32) else none
  | some (.inr (.boolean, n)) => if r < j_b ∧ j_in i n ∧ (v = 0 ∨ v = 1) then K (s_uI σ r i.toNatClampNeg v) else none
  | _ => none
def j_is (σ : Sto) (r : Nat) (i : Int32) (K : Option Rr) : Option Rr := match σ.1 r with
  | some (.inr (.int, n)) => if r < j_b ∧ j_in i n then K else none
  | _ => none
/-- an object put into an array of its class -/
def j_qs (σ : Sto) (r : Nat) (i : Int32) (v : Nat) (K : Option Rr) : Option Rr := match σ.1 r with
  | some (.inr (.object C, n)) => if r < j_b ∧ j_in i n ∧ v < j_b ∧ C = RX0 ∧ σ.1 v = some (.inl 0) then K else none
  | _ => none
/-- System.arraycopy of ints -/
def j_ac (σ : Sto) (r : Nat) (sp : Int32) (d : Nat) (dp n : Int32) (K : Sto → Option Rr) : Option Rr := match σ.1 r, σ.1 d with
  | some (.inr (.int, n0)), some (.inr (.int, n1)) => if r < j_b ∧ d < j_b ∧ ¬ sp < 0 ∧ ¬ dp < 0 ∧ ¬ n < 0 ∧ sp.toNatClampNeg + n.toNatClampNeg ≤ n0 ∧ dp.toNatClampNeg + n.toNatClampNeg ≤ n1 then K (s_rI σ d (va_cpy (σ.2.2.1 r) (σ.2.2.1 d) sp.toNatClampNeg dp.toNatClampNeg n.toNatClampNeg)) else none
  | _, _ => none
/-- a call: of a method that answers nothing, an int, a long -/
def j_c0 (call : Nat → List Value → Sto → Option Rr) (m : Nat) (as : List Value) (σ : Sto) (K : Sto → Option Rr) : Option Rr := match call m as σ with
  | some (none, τ) => K τ
  | _ => none
def j_c1 (call : Nat → List Value → Sto → Option Rr) (m : Nat) (as : List Value) (σ : Sto) (K : Int32 → Sto → Option Rr) : Option Rr := match call m as σ with
  | some (some (.int x), τ) => K x τ
  | _ => none
def j_c2 (call : Nat → List Value → Sto → Option Rr) (m : Nat) (as : List Value) (σ : Sto) (K : Int64 → Sto → Option Rr) : Option Rr := match call m as σ with
  | some (some (.long x), τ) => K x τ
  | _ => none
def j_cl (call : Nat → List Value → Sto → Option Rr) (m rt : Nat) (as : List Value) (σ : Sto) (st : List Value) (K : List Value → Sto → Option Rr) : Option Rr := match rt with
  | 0 => j_c0 call m as σ (fun τ => K st τ)
  | 1 => j_c1 call m as σ (fun x τ => K (.int x :: st) τ)
  | _ => j_c2 call m as σ (fun x τ => K (.long x :: st) τ)
/-- locals: a place a slot -/
abbrev j_L : Type := List (Option Value)
def j_ldI (L : j_L) (k : Nat) (K : Int32 → Option Rr) : Option Rr := match L[k]? with
  | some (some (.int x)) => K x
  | _ => none
def j_ldJ (L : j_L) (k : Nat) (K : Int64 → Option Rr) : Option Rr := match L[k]? with
  | some (some (.long x)) => K x
  | _ => none
def j_ldA (L : j_L) (k : Nat) (K : Nat → Option Rr) : Option Rr := match L[k]? with
  | some (some (.ref x)) => K x
  | _ => none
def j_kill (L : j_L) (k : Nat) : j_L := match k with
  | 0 => L
  | q + 1 => match L[q]? with
    | some (some v) => if v.category = 2 then L.set q none else L
    | _ => L
def j_st1 (L : j_L) (k : Nat) (v : Value) : j_L := (j_kill L k).set k (some v)
def j_st2 (L : j_L) (k : Nat) (v : Value) : j_L := ((j_kill L k).set k (some v)).set (k + 1) none
def j_cut (w : Nat) (L : j_L) : j_L := L.take w ++ List.replicate (L.length - w) none
def j_ent0 : List Value → j_L
  | [] => []
  | v :: vs => if v.category = 2 then some v :: none :: j_ent0 vs else some v :: j_ent0 vs
def j_ent (n : Nat) (as : List Value) : j_L := j_ent0 as ++ List.replicate (n - (j_ent0 as).length) none
/-- a switch: its matches one by one -/
def j_sw (x : Int32) (d : Nat) (K : Nat → Option Rr) : List (Int32 × Nat) → Option Rr
  | [] => K d
  | (c, t) :: r => if x = c then K t else j_sw x d K r
/-- numbers that stand in the code, in the pool -/
def j_k (n : Int) : Int32 := Int32.ofInt n
def j_ci : Nat → Int32 := fun k => match k with
  | 0 => 1431655765
  | 1 => 858993459
  | _ => 252645135
def j_cJ : Nat → Int64 := fun k => ([32, 17, 31, 31, 40, 9, 17, 31, -1] : List Int64).getD k 0
/-- a table's matches, and where they go -/
def j_tps (lo : Int) : List Nat → List (Int32 × Nat)
  | [] => []
  | t :: ts => (j_k lo, t) :: j_tps (lo + 1) ts
def j_lps : List (Int × Int) → List Nat → List (Int32 × Nat)
  | (c, _) :: ps, t :: ts => (j_k c, t) :: j_lps ps ts
  | _, _ => []
def j_tst (c : ClassFile.Cond) (x y : Int32) (a b : Option Rr) : Option Rr := match c with
  | .eq => if x = y then a else b
  | .ne => if x = y then b else a
  | .lt => if x < y then a else b
  | .ge => if x < y then b else a
  | .gt => if y < x then a else b
  | .le => if y < x then b else a
/-- Math.abs, Math.min of ints -/
def j_abs (x : Int32) : Int32 := if 0 ≤ x then x else 0 - x
def j_min (x y : Int32) : Int32 := if y < x then y else x
/-- what an instruction does; K: what comes behind it. q: what the pool numbers of it mean (program 'gen') -/
def j_stp (call : Nat → List Value → Sto → Option Rr) (i : Instr) (q : List Nat) (pc : Nat) (L : j_L) (st : List Value) (σ : Sto) (K : Nat → j_L → List Value → Sto → Option Rr) : Option Rr :=
  match i with
  | .iconst n => K (pc + 1) L (.int (j_k n) :: st) σ
  | .bipush n => K (pc + 2) L (.int (j_k n) :: st) σ
  | .sipush n => K (pc + 3) L (.int (j_k n) :: st) σ
  | .lconst n => K (pc + 1) L (.long (Int64.ofNat (n : Nat)) :: st) σ
  | .ldc_w _ => match q with
    | [c, _] => K (pc + 3) L (.int (j_ci c) :: st) σ
    | _ => none
  | .ldc2_w _ => match q with
    | [c, _] => K (pc + 3) L (.long (j_cJ c) :: st) σ
    | _ => none
  | .iload k => j_ldI L k fun x => K (pc + 2) L (.int x :: st) σ
  | .iload_n k => j_ldI L k.val fun x => K (pc + 1) L (.int x :: st) σ
  | .lload k => j_ldJ L k fun x => K (pc + 2) L (.long x :: st) σ
  | .lload_n k => j_ldJ L k.val fun x => K (pc + 1) L (.long x :: st) σ
  | .aload k => j_ldA L k fun x => K (pc + 2) L (.ref x :: st) σ
  | .aload_n k => j_ldA L k.val fun x => K (pc + 1) L (.ref x :: st) σ
  | .istore k => match st with
    | .int x :: st => if k < L.length then K (pc + 2) (j_st1 L k (.int x)) st σ else none
    | _ => none
  | .istore_n k => match st with
    | .int x :: st => if k.val < L.length then K (pc + 1) (j_st1 L k.val (.int x)) st σ else none
    | _ => none
  | .lstore k => match st with
    | .long x :: st => if k + 1 < L.length then K (pc + 2) (j_st2 L k (.long x)) st σ else none
    | _ => none
  | .lstore_n k => match st with
    | .long x :: st => if k.val + 1 < L.length then K (pc + 1) (j_st2 L k.val (.long x)) st σ else none
    | _ => none
  | .astore k => match st with
    | .ref x :: st => if k < L.length then K (pc + 2) (j_st1 L k (.ref x)) st σ else none
    | _ => none
  | .astore_n k => match st with
    | .ref x :: st => if k.val < L.length then K (pc + 1) (j_st1 L k.val (.ref x)) st σ else none
    | _ => none
  | .iinc k c => j_ldI L k fun x => K (pc + 3) (j_st1 L k (.int (x + j_k c))) st σ
  | .iadd => match st with
    | .int y :: .int x :: st => K (pc + 1) L (.int (x + y) :: st) σ
    | _ => none
  | .isub => match st with
    | .int y :: .int x :: st => K (pc + 1) L (.int (x - y) :: st) σ
    | _ => none
  | .imul => match st with
    | .int y :: .int x :: st => K (pc + 1) L (.int (x * y) :: st) σ
    | _ => none
  | .iand => match st with
    | .int y :: .int x :: st => K (pc + 1) L (.int (x &&& y) :: st) σ
    | _ => none
  | .ior => match st with
    | .int y :: .int x :: st => K (pc + 1) L (.int (x ||| y) :: st) σ
    | _ => none
  | .ixor => match st with
    | .int y :: .int x :: st => K (pc + 1) L (.int (x ^^^ y) :: st) σ
    | _ => none
  | .idiv => match st with
    | .int y :: .int x :: st => if y = 0 then none else K (pc + 1) L (.int (x / y) :: st) σ
    | _ => none
  | .irem => match st with
    | .int y :: .int x :: st => if y = 0 then none else K (pc + 1) L (.int (x - x / y * y) :: st) σ
    | _ => none
  | .ineg => match st with
    | .int x :: st => K (pc + 1) L (.int (-x) :: st) σ
    | _ => none
  | .ishl => match st with
    | .int y :: .int x :: st => K (pc + 1) L (.int (x <<< (y &&& 31)) :: st) σ
    | _ => none
  | .ishr => match st with
    | .int y :: .int x :: st => K (pc + 1) L (.int (x >>> (y &&& 31)) :: st) σ
    | _ => none
  | .iushr => match st with
    | .int y :: .int x :: st => K (pc + 1) L (.int (x.toUInt32 >>> (y.toUInt32 &&& Int32.toUInt32 31)).toInt32 :: st) σ
    | _ => none
  | .i2l => match st with
    | .int x :: st => K (pc + 1) L (.long x.toInt64 :: st) σ
    | _ => none
  | .l2i => match st with
    | .long x :: st => K (pc + 1) L (.int x.toInt32 :: st) σ
    | _ => none
  | .i2b => match st with
    | .int x :: st => K (pc + 1) L (.int x.toInt8.toInt32 :: st) σ
    | _ => none
  | .ladd => match st with
    | .long y :: .long x :: st => K (pc + 1) L (.long (x + y) :: st) σ
    | _ => none
  | .lmul => match st with
    | .long y :: .long x :: st => K (pc + 1) L (.long (x * y) :: st) σ
    | _ => none
  | .ldiv => match st with
    | .long y :: .long x :: st => if y = 0 then none else K (pc + 1) L (.long (x / y) :: st) σ
    | _ => none
  | .lrem => match st with
    | .long y :: .long x :: st => if y = 0 then none else K (pc + 1) L (.long (x - x / y * y) :: st) σ
    | _ => none
  | .lcmp => match st with
    | .long y :: .long x :: st => K (pc + 1) L (.int (lg_cmp x y) :: st) σ
    | _ => none
  | .dup => match st with
    | .int x :: st => K (pc + 1) L (.int x :: .int x :: st) σ
    | .ref x :: st => K (pc + 1) L (.ref x :: .ref x :: st) σ
    | _ => none
  | .dup2 => match st with
    | .int y :: .ref x :: st => K (pc + 1) L (.int y :: .ref x :: .int y :: .ref x :: st) σ
    | _ => none
  | .pop => match st with
    | .int _ :: st => K (pc + 1) L st σ
    | _ => none
  | .ifCond c _ => match q, st with
    | [t], .int x :: st => j_tst c x 0 (K t L st σ) (K (pc + 3) L st σ)
    | _, _ => none
  | .if_icmp c _ => match q, st with
    | [t], .int y :: .int x :: st => j_tst c x y (K t L st σ) (K (pc + 3) L st σ)
    | _, _ => none
  | .goto _ => match q with
    | [t] => K t L st σ
    | _ => none
  | .tableswitch _ lo _ _ => match q, st with
    | d :: ts, .int x :: st => j_sw x d (fun t => K t L st σ) (j_tps lo ts)
    | _, _ => none
  | .lookupswitch _ ps => match q, st with
    | d :: ts, .int x :: st => j_sw x d (fun t => K t L st σ) (j_lps ps.toList ts)
    | _, _ => none
  | .getfield _ => match q, st with
    | [ci, k, kd, _], .ref r :: st => if kd = 1 then j_oc σ ci r (K (pc + 3) L (.long (σ.2.2.2.1 r k) :: st) σ) else if kd = 2 then j_gP σ ci r k (fun v => K (pc + 3) L (.ref v :: st) σ) else j_oc σ ci r (K (pc + 3) L (.int (σ.2.2.1 r k) :: st) σ)
    | _, _ => none
  | .putfield _ => match q, st with
    | [ci, k, kd, _], .int v :: .ref r :: st => if kd = 0 ∨ (kd = 3 ∧ (v = 0 ∨ v = 1)) then (if r < j_b then j_oc σ ci r (K (pc + 3) L st (s_uI σ r k v)) else none) else none
    | [ci, k, kd, _], .long v :: .ref r :: st => if kd = 1 then (if r < j_b then j_oc σ ci r (K (pc + 3) L st (s_uJ σ r k v)) else none) else none
    | [ci, k, kd, _], .ref v :: .ref r :: st => if kd = 2 then (if r < j_b then j_oc σ ci r (K (pc + 3) L st (s_uP σ r k (some v))) else none) else none
    | _, _ => none
  | .getstatic _ => match q with
    | [k, _] => K (pc + 3) L (.ref (j_b + k) :: st) σ
    | _ => none
  | .iaload => match st with
    | .int i :: .ref r :: st => j_ia σ r i (K (pc + 1) L (.int (σ.2.2.1 r i.toNatClampNeg) :: st) σ)
    | _ => none
  | .baload => match st with
    | .int i :: .ref r :: st => j_ba σ r i (K (pc + 1) L (.int (σ.2.2.1 r i.toNatClampNeg) :: st) σ)
    | _ => none
  | .laload => match st with
    | .int i :: .ref r :: st => j_la σ r i (K (pc + 1) L (.long (σ.2.2.2.1 r i.toNatClampNeg) :: st) σ)
    | _ => none
  | .aaload => match st with
    | .int i :: .ref r :: st => j_qa σ r i (fun v => K (pc + 1) L (.ref v :: st) σ)
    | _ => none
  | .iastore => match st with
    | .int v :: .int i :: .ref r :: st => j_is σ r i (K (pc + 1) L st (s_uI σ r i.toNatClampNeg v))
    | _ => none
  | .bastore => match st with
    | .int v :: .int i :: .ref r :: st => j_bs σ r i v (fun τ => K (pc + 1) L st τ)
    | _ => none
  | .lastore => match st with
    | .long v :: .int i :: .ref r :: st => if r < j_b then j_la σ r i (K (pc + 1) L st (s_uJ σ r i.toNatClampNeg v)) else none
    | _ => none
  | .aastore => match st with
    | .ref v :: .int i :: .ref r :: st => j_qs σ r i v (K (pc + 1) L st (s_uP σ r i.toNatClampNeg (some v)))
    | _ => none
  | .arraylength => match st with
    | .ref r :: st => j_len σ r (fun n => K (pc + 1) L (.int n :: st) σ)
    | _ => none
  | .new _ => match q with
    | [ci, n, _] => K (pc + 3) L (.ref σ.2.2.2.2.1 :: st) (s_al σ (.inl ci) n)
    | _ => none
  | .newarray ty => match st with
    | .int n :: st => if n < 0 ∨ 100000 < n.toNatClampNeg then none else K (pc + 2) L (.ref σ.2.2.2.2.1 :: st) (s_al σ (.inr (newarray.typeOf ty, n.toNatClampNeg)) n.toNatClampNeg)
    | _ => none
  | .anewarray _ => match st with
    | .int n :: st => if n < 0 ∨ 100000 < n.toNatClampNeg then none else K (pc + 3) L (.ref σ.2.2.2.2.1 :: st) (s_al σ (.inr (.object RX0, n.toNatClampNeg)) n.toNatClampNeg)
    | _ => none
  | .multianewarray _ _ => match st with
    | .int k :: .int n :: st => if n < 0 ∨ k < 0 ∨ 1000 < n.toNatClampNeg ∨ 1000 < k.toNatClampNeg then none else K (pc + 4) L (.ref σ.2.2.2.2.1 :: st) (s_mn σ n.toNatClampNeg k.toNatClampNeg)
    | _ => none
  | .invokevirtual _ => match q with
    | [m, na, rt, ci, _] => match st.drop na with
      | .ref r :: st' => if na ≤ st.length ∧ (st'.map fun v => v.category).sum ≤ 8 then j_oc σ ci r (j_cl call m rt (.ref r :: (st.take na).reverse) σ st' fun st τ => K (pc + 3) L st τ) else none
      | _ => none
    | _ => none
  | .invokestatic _ => match q with
    | [m, na, rt, _] => if na ≤ st.length ∧ ((st.drop na).map fun v => v.category).sum ≤ 8 then j_cl call m rt (st.take na).reverse σ (st.drop na) fun st τ => K (pc + 3) L st τ else none
    | [_] => match st with
      | .int n :: .int dp :: .ref d :: .int sp :: .ref r :: st => if (st.map fun v => v.category).sum ≤ 8 then j_ac σ r sp d dp n (fun τ => K (pc + 3) L st τ) else none
      | _ => none
    | [_, _] => match st with
      | .int x :: st => if (st.map fun v => v.category).sum ≤ 8 then K (pc + 3) L (.int (j_abs x) :: st) σ else none
      | _ => none
    | [_, _, _] => match st with
      | .int y :: .int x :: st => if (st.map fun v => v.category).sum ≤ 8 then K (pc + 3) L (.int (j_min x y) :: st) σ else none
      | _ => none
    | _ => none
  | .invokespecial _ => match q with
    | [m, na, rt, _] => match st.drop na with
      | .ref r :: st' => if na ≤ st.length ∧ (st'.map fun v => v.category).sum ≤ 8 then j_cl call m rt (.ref r :: (st.take na).reverse) σ st' fun st τ => K (pc + 3) L st τ else none
      | _ => none
    | [_] => match st with
      | .ref _ :: st => if (st.map fun v => v.category).sum ≤ 8 then K (pc + 3) L st σ else none
      | _ => none
    | _ => none
  | .return_ => match st with
    | [] => some (none, σ)
    | _ => none
  | .ireturn => match q, st with
    | [0], [.int v] => some (some (.int v), σ)
    | [_], [.int v] => if v = 0 ∨ v = 1 then some (some (.int v), σ) else none
    | _, _ => none
  | .lreturn => match st with
    | [.long v] => some (some (.long v), σ)
    | _ => none
  | _ => none
def j_look : List (Nat × Instr × List Nat) → Nat → Option (Instr × List Nat)
  | [], _ => none
  | (p, x) :: r, pc => cond (Nat.beq p pc) (some x) (j_look r pc)
def j_hd : List (Nat × Nat) → Nat → Option Nat
  | [], _ => none
  | (p, x) :: r, pc => cond (Nat.beq p pc) (some x) (j_hd r pc)
/-- a stretch up to a head (where 'again' goes on), a return -/
def j_seg (cd : List (Nat × Instr × List Nat)) (hd : List (Nat × Nat)) (call : Nat → List Value → Sto → Option Rr) (again : Nat → j_L → List Value → Sto → Option Rr) : Nat → Nat → j_L → List Value → Sto → Option Rr
  | 0, _, _, _, _ => none
  | n + 1, pc, L, st, σ => match j_look cd pc with
    | none => none
    | some (i, q) => j_stp call i q pc L st σ (fun pc' L' st' τ => match j_hd hd pc' with
      | some w => again pc' (j_cut w L') st' τ
      | none => j_seg cd hd call again n pc' L' st' τ)
def j_exec (cd : List (Nat × Instr × List Nat)) (hd : List (Nat × Nat)) (call : Nat → List Value → Sto → Option Rr) : Nat → Nat → j_L → List Value → Sto → Option Rr
  | 0, _, _, _, _ => none
  | n + 1, pc, L, st, σ => j_seg cd hd call (j_exec cd hd call n) 2000 pc L st σ
end
section
/-! ===== the code of all methods, decoded, its numbers resolved (by program wip/gen) ===== -/
/-- LastStirred$Flock.<init>()V -/
def k_0 : List (Nat × Instr × List Nat) := [(0, .aload_n 0, []), (1, .invokespecial 3, [0]), (4, .aload_n 0, []), (5, .iconst 4, []), (6, .newarray .int, []), (8, .putfield 9, [0, 0, 2, 19]), (11, .aload_n 0, []), (12, .iconst 4, []), (13, .newarray .int, []), (15, .putfield 15, [0, 1, 2, 21]), (18, .aload_n 0, []), (19, .iconst 4, []), (20, .newarray .int, []), (22, .putfield 18, [0, 2, 2, 23]), (25, .aload_n 0, []), (26, .bipush (-9), []), (28, .putfield 21, [0, 4, 0, 27]), (31, .aload_n 0, []), (32, .bipush (-9), []), (34, .putfield 25, [0, 5, 0, 29]), (37, .aload_n 0, []), (38, .bipush (-9), []), (40, .putfield 28, [0, 6, 0, 31]), (43, .aload_n 0, []), (44, .bipush (-9), []), (46, .putfield 31, [0, 7, 0, 33]), (49, .return_, [])]
def h_0 : List (Nat × Nat) := []
/-- LastStirred$Flock.clear()V -/
def k_1 : List (Nat × Instr × List Nat) := [(0, .aload_n 0, []), (1, .iconst 0, []), (2, .putfield 34, [0, 3, 0, 25]), (5, .aload_n 0, []), (6, .bipush (-9), []), (8, .putfield 21, [0, 4, 0, 27]), (11, .aload_n 0, []), (12, .bipush (-9), []), (14, .putfield 25, [0, 5, 0, 29]), (17, .aload_n 0, []), (18, .bipush (-9), []), (20, .putfield 28, [0, 6, 0, 31]), (23, .aload_n 0, []), (24, .bipush (-9), []), (26, .putfield 31, [0, 7, 0, 33]), (29, .aload_n 0, []), (30, .iconst 0, []), (31, .putfield 37, [0, 8, 0, 35]), (34, .aload_n 0, []), (35, .iconst 0, []), (36, .putfield 40, [0, 9, 0, 37]), (39, .return_, [])]
def h_1 : List (Nat × Nat) := []
/-- LastStirred$Flock.add(II)V -/
def k_2 : List (Nat × Instr × List Nat) := [(0, .aload_n 0, []), (1, .getfield 34, [0, 3, 0, 25]), (4, .iconst 4, []), (5, .if_icmp .lt 4, [9]), (8, .return_, []), (9, .aload_n 0, []), (10, .getfield 9, [0, 0, 2, 19]), (13, .aload_n 0, []), (14, .getfield 34, [0, 3, 0, 25]), (17, .iload_n 1, []), (18, .iastore, []), (19, .aload_n 0, []), (20, .getfield 15, [0, 1, 2, 21]), (23, .aload_n 0, []), (24, .getfield 34, [0, 3, 0, 25]), (27, .iload_n 2, []), (28, .iastore, []), (29, .aload_n 0, []), (30, .getfield 18, [0, 2, 2, 23]), (33, .aload_n 0, []), (34, .getfield 34, [0, 3, 0, 25]), (37, .iconst 0, []), (38, .iastore, []), (39, .aload_n 0, []), (40, .dup, []), (41, .getfield 40, [0, 9, 0, 37]), (44, .iconst 1, []), (45, .iload_n 2, []), (46, .ishl, []), (47, .ior, []), (48, .putfield 40, [0, 9, 0, 37]), (51, .aload_n 0, []), (52, .dup, []), (53, .getfield 34, [0, 3, 0, 25]), (56, .iconst 1, []), (57, .iadd, []), (58, .putfield 34, [0, 3, 0, 25]), (61, .return_, [])]
def h_2 : List (Nat × Nat) := []
/-- LastStirred$Flock.take(LLastStirred$Flock;)V -/
def k_3 : List (Nat × Instr × List Nat) := [(0, .aload_n 0, []), (1, .aload_n 1, []), (2, .getfield 34, [0, 3, 0, 25]), (5, .putfield 34, [0, 3, 0, 25]), (8, .iconst 0, []), (9, .istore_n 2, []), (10, .iload_n 2, []), (11, .aload_n 0, []), (12, .getfield 34, [0, 3, 0, 25]), (15, .if_icmp .ge 45, [60]), (18, .aload_n 0, []), (19, .getfield 9, [0, 0, 2, 19]), (22, .iload_n 2, []), (23, .aload_n 1, []), (24, .getfield 9, [0, 0, 2, 19]), (27, .iload_n 2, []), (28, .iaload, []), (29, .iastore, []), (30, .aload_n 0, []), (31, .getfield 15, [0, 1, 2, 21]), (34, .iload_n 2, []), (35, .aload_n 1, []), (36, .getfield 15, [0, 1, 2, 21]), (39, .iload_n 2, []), (40, .iaload, []), (41, .iastore, []), (42, .aload_n 0, []), (43, .getfield 18, [0, 2, 2, 23]), (46, .iload_n 2, []), (47, .aload_n 1, []), (48, .getfield 18, [0, 2, 2, 23]), (51, .iload_n 2, []), (52, .iaload, []), (53, .iastore, []), (54, .iinc 2 1, []), (57, .goto (-47), [10]), (60, .aload_n 0, []), (61, .aload_n 1, []), (62, .getfield 21, [0, 4, 0, 27]), (65, .putfield 21, [0, 4, 0, 27]), (68, .aload_n 0, []), (69, .aload_n 1, []), (70, .getfield 25, [0, 5, 0, 29]), (73, .putfield 25, [0, 5, 0, 29]), (76, .aload_n 0, []), (77, .aload_n 1, []), (78, .getfield 28, [0, 6, 0, 31]), (81, .putfield 28, [0, 6, 0, 31]), (84, .aload_n 0, []), (85, .aload_n 1, []), (86, .getfield 31, [0, 7, 0, 33]), (89, .putfield 31, [0, 7, 0, 33]), (92, .aload_n 0, []), (93, .aload_n 1, []), (94, .getfield 37, [0, 8, 0, 35]), (97, .putfield 37, [0, 8, 0, 35]), (100, .aload_n 0, []), (101, .aload_n 1, []), (102, .getfield 40, [0, 9, 0, 37]), (105, .putfield 40, [0, 9, 0, 37]), (108, .return_, [])]
def h_3 : List (Nat × Nat) := [(10, 3)]
/-- LastStirred$Flock.forgetGone()V -/
def k_4 : List (Nat × Instr × List Nat) := [(0, .aload_n 0, []), (1, .getfield 18, [0, 2, 2, 23]), (4, .iconst 0, []), (5, .invokestatic 43, [235, 2, 0, 1]), (8, .return_, [])]
def h_4 : List (Nat × Nat) := []
/-- LastStirred$Flock.has(I)Z -/
def k_5 : List (Nat × Instr × List Nat) := [(0, .iload_n 1, []), (1, .ifCond .lt 15, [16]), (4, .iload_n 1, []), (5, .aload_n 0, []), (6, .getfield 34, [0, 3, 0, 25]), (9, .if_icmp .ge 7, [16]), (12, .iconst 1, []), (13, .goto 4, [17]), (16, .iconst 0, []), (17, .ireturn, [1])]
def h_5 : List (Nat × Nat) := []
/-- LastStirred$Flock.isLost(I)Z -/
def k_6 : List (Nat × Instr × List Nat) := [(0, .aload_n 0, []), (1, .getfield 15, [0, 1, 2, 21]), (4, .iload_n 1, []), (5, .iaload, []), (6, .bipush (-9), []), (8, .if_icmp .ne 7, [15]), (11, .iconst 1, []), (12, .goto 4, [16]), (15, .iconst 0, []), (16, .ireturn, [1])]
def h_6 : List (Nat × Nat) := []
/-- LastStirred$Flock.isIn(I)Z -/
def k_7 : List (Nat × Instr × List Nat) := [(0, .aload_n 0, []), (1, .getfield 40, [0, 9, 0, 37]), (4, .iload_n 1, []), (5, .ishr, []), (6, .iconst 1, []), (7, .iand, []), (8, .iconst 1, []), (9, .if_icmp .ne 7, [16]), (12, .iconst 1, []), (13, .goto 4, [17]), (16, .iconst 0, []), (17, .ireturn, [1])]
def h_7 : List (Nat × Nat) := []
/-- LastStirred$Flock.whoIsIn(I)I -/
def k_8 : List (Nat × Instr × List Nat) := [(0, .iconst 0, []), (1, .istore_n 2, []), (2, .iload_n 2, []), (3, .aload_n 0, []), (4, .getfield 34, [0, 3, 0, 25]), (7, .if_icmp .ge 21, [28]), (10, .aload_n 0, []), (11, .getfield 15, [0, 1, 2, 21]), (14, .iload_n 2, []), (15, .iaload, []), (16, .iload_n 1, []), (17, .if_icmp .ne 5, [22]), (20, .iload_n 2, []), (21, .ireturn, [0]), (22, .iinc 2 1, []), (25, .goto (-23), [2]), (28, .bipush (-9), []), (30, .ireturn, [0])]
def h_8 : List (Nat × Nat) := [(2, 3)]
/-- LastStirred$Flock.isOf(II)Z -/
def k_9 : List (Nat × Instr × List Nat) := [(0, .aload_n 0, []), (1, .getfield 9, [0, 0, 2, 19]), (4, .iload_n 1, []), (5, .iaload, []), (6, .iload_n 2, []), (7, .if_icmp .eq 29, [36]), (10, .iload_n 2, []), (11, .iconst 1, []), (12, .if_icmp .ne 11, [23]), (15, .aload_n 0, []), (16, .iload_n 1, []), (17, .invokevirtual 49, [10, 1, 1, 0, 2]), (20, .ifCond .ne 16, [36]), (23, .iload_n 2, []), (24, .iconst 2, []), (25, .if_icmp .ne 15, [40]), (28, .aload_n 0, []), (29, .iload_n 1, []), (30, .invokevirtual 53, [11, 1, 1, 0, 3]), (33, .ifCond .eq 7, [40]), (36, .iconst 1, []), (37, .goto 4, [41]), (40, .iconst 0, []), (41, .ireturn, [1])]
def h_9 : List (Nat × Nat) := []
/-- LastStirred$Flock.isShy(I)Z -/
def k_10 : List (Nat × Instr × List Nat) := [(0, .aload_n 0, []), (1, .getfield 9, [0, 0, 2, 19]), (4, .iload_n 1, []), (5, .iaload, []), (6, .iconst 1, []), (7, .if_icmp .eq 13, [20]), (10, .aload_n 0, []), (11, .getfield 9, [0, 0, 2, 19]), (14, .iload_n 1, []), (15, .iaload, []), (16, .iconst 5, []), (17, .if_icmp .ne 7, [24]), (20, .iconst 1, []), (21, .goto 4, [25]), (24, .iconst 0, []), (25, .ireturn, [1])]
def h_10 : List (Nat × Nat) := []
/-- LastStirred$Flock.isSlow(I)Z -/
def k_11 : List (Nat × Instr × List Nat) := [(0, .aload_n 0, []), (1, .getfield 9, [0, 0, 2, 19]), (4, .iload_n 1, []), (5, .iaload, []), (6, .iconst 2, []), (7, .if_icmp .eq 13, [20]), (10, .aload_n 0, []), (11, .getfield 9, [0, 0, 2, 19]), (14, .iload_n 1, []), (15, .iaload, []), (16, .iconst 4, []), (17, .if_icmp .ne 7, [24]), (20, .iconst 1, []), (21, .goto 4, [25]), (24, .iconst 0, []), (25, .ireturn, [1])]
def h_11 : List (Nat × Nat) := []
/-- LastStirred$Flock.tells(II)I -/
def k_12 : List (Nat × Instr × List Nat) := [(0, .iload_n 2, []), (1, .lookupswitch 41 #[(0, 27), (1, 34)], [42, 28, 35]), (28, .aload_n 0, []), (29, .getfield 9, [0, 0, 2, 19]), (32, .iload_n 1, []), (33, .iaload, []), (34, .ireturn, [0]), (35, .aload_n 0, []), (36, .getfield 15, [0, 1, 2, 21]), (39, .iload_n 1, []), (40, .iaload, []), (41, .ireturn, [0]), (42, .aload_n 0, []), (43, .getfield 18, [0, 2, 2, 23]), (46, .iload_n 1, []), (47, .iaload, []), (48, .ireturn, [0])]
def h_12 : List (Nat × Nat) := []
/-- LastStirred$Flock.drives()I -/
def k_13 : List (Nat × Instr × List Nat) := [(0, .iconst 4, []), (1, .aload_n 0, []), (2, .getfield 34, [0, 3, 0, 25]), (5, .imul, []), (6, .ireturn, [0])]
def h_13 : List (Nat × Nat) := []
/-- LastStirred$Flock.lostOnes()I -/
def k_14 : List (Nat × Instr × List Nat) := [(0, .iconst 0, []), (1, .istore_n 1, []), (2, .iconst 0, []), (3, .istore_n 2, []), (4, .iload_n 2, []), (5, .aload_n 0, []), (6, .getfield 34, [0, 3, 0, 25]), (9, .if_icmp .ge 23, [32]), (12, .aload_n 0, []), (13, .getfield 15, [0, 1, 2, 21]), (16, .iload_n 2, []), (17, .iaload, []), (18, .bipush (-9), []), (20, .if_icmp .ne 6, [26]), (23, .iinc 1 1, []), (26, .iinc 2 1, []), (29, .goto (-25), [4]), (32, .iload_n 1, []), (33, .ireturn, [0])]
def h_14 : List (Nat × Nat) := [(4, 3)]
/-- LastStirred$Flock.shyOnes()I -/
def k_15 : List (Nat × Instr × List Nat) := [(0, .iconst 0, []), (1, .istore_n 1, []), (2, .iconst 0, []), (3, .istore_n 2, []), (4, .iload_n 2, []), (5, .aload_n 0, []), (6, .getfield 34, [0, 3, 0, 25]), (9, .if_icmp .ge 20, [29]), (12, .aload_n 0, []), (13, .iload_n 2, []), (14, .invokevirtual 49, [10, 1, 1, 0, 2]), (17, .ifCond .eq 6, [23]), (20, .iinc 1 1, []), (23, .iinc 2 1, []), (26, .goto (-22), [4]), (29, .iload_n 1, []), (30, .ireturn, [0])]
def h_15 : List (Nat × Nat) := [(4, 3)]
/-- LastStirred$Flock.allOff(LLastStirred$Ground;)I -/
def k_16 : List (Nat × Instr × List Nat) := [(0, .iconst 0, []), (1, .istore_n 2, []), (2, .iconst 0, []), (3, .istore_n 3, []), (4, .iload_n 3, []), (5, .aload_n 0, []), (6, .getfield 34, [0, 3, 0, 25]), (9, .if_icmp .ge 72, [81]), (12, .iload_n 3, []), (13, .iconst 1, []), (14, .iadd, []), (15, .istore 4, []), (17, .iload 4, []), (19, .aload_n 0, []), (20, .getfield 34, [0, 3, 0, 25]), (23, .if_icmp .ge 52, [75]), (26, .aload_n 0, []), (27, .getfield 15, [0, 1, 2, 21]), (30, .iload_n 3, []), (31, .iaload, []), (32, .bipush (-9), []), (34, .if_icmp .eq 35, [69]), (37, .aload_n 0, []), (38, .getfield 15, [0, 1, 2, 21]), (41, .iload 4, []), (43, .iaload, []), (44, .bipush (-9), []), (46, .if_icmp .eq 23, [69]), (49, .iload_n 2, []), (50, .aload_n 1, []), (51, .aload_n 0, []), (52, .getfield 15, [0, 1, 2, 21]), (55, .iload_n 3, []), (56, .iaload, []), (57, .aload_n 0, []), (58, .getfield 15, [0, 1, 2, 21]), (61, .iload 4, []), (63, .iaload, []), (64, .invokevirtual 56, [37, 2, 1, 1, 4]), (67, .iadd, []), (68, .istore_n 2, []), (69, .iinc 4 1, []), (72, .goto (-55), [17]), (75, .iinc 3 1, []), (78, .goto (-74), [4]), (81, .iload_n 2, []), (82, .ireturn, [0])]
def h_16 : List (Nat × Nat) := [(4, 4), (17, 5)]
/-- LastStirred$Flock.areSafe(LLastStirred$Ground;)Z -/
def k_17 : List (Nat × Instr × List Nat) := [(0, .iconst 0, []), (1, .istore_n 2, []), (2, .iload_n 2, []), (3, .aload_n 0, []), (4, .getfield 34, [0, 3, 0, 25]), (7, .if_icmp .ge 37, [44]), (10, .aload_n 0, []), (11, .getfield 15, [0, 1, 2, 21]), (14, .iload_n 2, []), (15, .iaload, []), (16, .bipush (-9), []), (18, .if_icmp .eq 18, [36]), (21, .aload_n 1, []), (22, .getfield 62, [1, 0, 2, 7]), (25, .aload_n 0, []), (26, .getfield 15, [0, 1, 2, 21]), (29, .iload_n 2, []), (30, .iaload, []), (31, .iaload, []), (32, .iconst 3, []), (33, .if_icmp .eq 5, [38]), (36, .iconst 0, []), (37, .ireturn, [1]), (38, .iinc 2 1, []), (41, .goto (-39), [2]), (44, .aload_n 0, []), (45, .getfield 34, [0, 3, 0, 25]), (48, .ifCond .le 7, [55]), (51, .iconst 1, []), (52, .goto 4, [56]), (55, .iconst 0, []), (56, .ireturn, [1])]
def h_17 : List (Nat × Nat) := [(2, 3)]
/-- LastStirred$Flock.areAt([I)Z -/
def k_18 : List (Nat × Instr × List Nat) := [(0, .iconst 0, []), (1, .istore_n 2, []), (2, .iload_n 2, []), (3, .aload_n 0, []), (4, .getfield 34, [0, 3, 0, 25]), (7, .if_icmp .ge 23, [30]), (10, .aload_n 0, []), (11, .getfield 15, [0, 1, 2, 21]), (14, .iload_n 2, []), (15, .iaload, []), (16, .aload_n 1, []), (17, .iload_n 2, []), (18, .iaload, []), (19, .if_icmp .eq 5, [24]), (22, .iconst 0, []), (23, .ireturn, [1]), (24, .iinc 2 1, []), (27, .goto (-25), [2]), (30, .iconst 1, []), (31, .ireturn, [1])]
def h_18 : List (Nat × Nat) := [(2, 3)]
/-- LastStirred$Flock.inOneNumber()J -/
def k_19 : List (Nat × Instr × List Nat) := [(0, .aload_n 0, []), (1, .getfield 37, [0, 8, 0, 35]), (4, .iconst 1, []), (5, .iand, []), (6, .i2l, []), (7, .lstore_n 1, []), (8, .iconst 0, []), (9, .istore_n 3, []), (10, .iload_n 3, []), (11, .aload_n 0, []), (12, .getfield 34, [0, 3, 0, 25]), (15, .if_icmp .ge 20, [35]), (18, .lload_n 1, []), (19, .aload_n 0, []), (20, .getfield 15, [0, 1, 2, 21]), (23, .iload_n 3, []), (24, .iaload, []), (25, .invokestatic 65, [20, 2, 2, 5]), (28, .lstore_n 1, []), (29, .iinc 3 1, []), (32, .goto (-22), [10]), (35, .lload_n 1, []), (36, .aload_n 0, []), (37, .getfield 21, [0, 4, 0, 27]), (40, .invokestatic 65, [20, 2, 2, 5]), (43, .aload_n 0, []), (44, .getfield 25, [0, 5, 0, 29]), (47, .invokestatic 65, [20, 2, 2, 5]), (50, .lstore_n 1, []), (51, .lload_n 1, []), (52, .aload_n 0, []), (53, .getfield 28, [0, 6, 0, 31]), (56, .invokestatic 65, [20, 2, 2, 5]), (59, .aload_n 0, []), (60, .getfield 31, [0, 7, 0, 33]), (63, .invokestatic 65, [20, 2, 2, 5]), (66, .lreturn, [])]
def h_19 : List (Nat × Nat) := [(10, 4)]
/-- LastStirred$Flock.joined(JI)J -/
def k_20 : List (Nat × Instr × List Nat) := [(0, .ldc2_w 69, [0, 628]), (3, .lload_n 0, []), (4, .lmul, []), (5, .iload_n 2, []), (6, .bipush (-9), []), (8, .if_icmp .ne 8, [16]), (11, .bipush 31, []), (13, .goto 4, [17]), (16, .iload_n 2, []), (17, .i2l, []), (18, .ladd, []), (19, .lreturn, [])]
def h_20 : List (Nat × Nat) := []
/-- LastStirred$Flock.aimOf(I)I -/
def k_21 : List (Nat × Instr × List Nat) := [(0, .aload_n 0, []), (1, .getfield 9, [0, 0, 2, 19]), (4, .iload_n 1, []), (5, .iaload, []), (6, .iconst 3, []), (7, .if_icmp .ne 19, [26]), (10, .aload_n 0, []), (11, .getfield 28, [0, 6, 0, 31]), (14, .bipush (-9), []), (16, .if_icmp .eq 10, [26]), (19, .aload_n 0, []), (20, .getfield 31, [0, 7, 0, 33]), (23, .goto 7, [30]), (26, .aload_n 0, []), (27, .getfield 25, [0, 5, 0, 29]), (30, .ireturn, [0])]
def h_21 : List (Nat × Nat) := []
/-- LastStirred$Flock.can(LLastStirred$Ground;IIZ)Z -/
def k_22 : List (Nat × Instr × List Nat) := [(0, .iload_n 3, []), (1, .bipush (-9), []), (3, .if_icmp .eq 25, [28]), (6, .aload_n 1, []), (7, .getfield 62, [1, 0, 2, 7]), (10, .iload_n 3, []), (11, .iaload, []), (12, .iconst 1, []), (13, .if_icmp .eq 15, [28]), (16, .aload_n 0, []), (17, .getfield 40, [0, 9, 0, 37]), (20, .iload_n 3, []), (21, .ishr, []), (22, .iconst 1, []), (23, .iand, []), (24, .iconst 1, []), (25, .if_icmp .ne 5, [30]), (28, .iconst 0, []), (29, .ireturn, [1]), (30, .aload_n 1, []), (31, .getfield 62, [1, 0, 2, 7]), (34, .iload_n 3, []), (35, .iaload, []), (36, .iconst 4, []), (37, .if_icmp .ne 18, [55]), (40, .aload_n 0, []), (41, .getfield 9, [0, 0, 2, 19]), (44, .iload_n 2, []), (45, .iaload, []), (46, .iconst 4, []), (47, .if_icmp .eq 12, [59]), (50, .iload 4, []), (52, .ifCond .ne 7, [59]), (55, .iconst 1, []), (56, .goto 4, [60]), (59, .iconst 0, []), (60, .ireturn, [1])]
def h_22 : List (Nat × Nat) := []
/-- LastStirred$Flock.move(LLastStirred$Ground;II)V -/
def k_23 : List (Nat × Instr × List Nat) := [(0, .aload_n 0, []), (1, .dup, []), (2, .getfield 40, [0, 9, 0, 37]), (5, .iconst 1, []), (6, .aload_n 0, []), (7, .getfield 15, [0, 1, 2, 21]), (10, .iload_n 2, []), (11, .iaload, []), (12, .ishl, []), (13, .iconst (-1), []), (14, .ixor, []), (15, .iand, []), (16, .putfield 40, [0, 9, 0, 37]), (19, .aload_n 1, []), (20, .getfield 62, [1, 0, 2, 7]), (23, .iload_n 3, []), (24, .iaload, []), (25, .iconst 2, []), (26, .if_icmp .ne 14, [40]), (29, .aload_n 0, []), (30, .getfield 15, [0, 1, 2, 21]), (33, .iload_n 2, []), (34, .bipush (-9), []), (36, .iastore, []), (37, .goto 22, [59]), (40, .aload_n 0, []), (41, .getfield 15, [0, 1, 2, 21]), (44, .iload_n 2, []), (45, .iload_n 3, []), (46, .iastore, []), (47, .aload_n 0, []), (48, .dup, []), (49, .getfield 40, [0, 9, 0, 37]), (52, .iconst 1, []), (53, .iload_n 3, []), (54, .ishl, []), (55, .ior, []), (56, .putfield 40, [0, 9, 0, 37]), (59, .aload_n 0, []), (60, .getfield 18, [0, 2, 2, 23]), (63, .iload_n 2, []), (64, .dup2, []), (65, .iaload, []), (66, .iconst 1, []), (67, .iadd, []), (68, .iastore, []), (69, .return_, [])]
def h_23 : List (Nat × Nat) := []
/-- LastStirred$Flock.becomesLast(II)V -/
def k_24 : List (Nat × Instr × List Nat) := [(0, .aload_n 0, []), (1, .aload_n 0, []), (2, .getfield 21, [0, 4, 0, 27]), (5, .putfield 28, [0, 6, 0, 31]), (8, .aload_n 0, []), (9, .aload_n 0, []), (10, .getfield 25, [0, 5, 0, 29]), (13, .putfield 31, [0, 7, 0, 33]), (16, .aload_n 0, []), (17, .iload_n 1, []), (18, .putfield 21, [0, 4, 0, 27]), (21, .aload_n 0, []), (22, .iload_n 2, []), (23, .putfield 25, [0, 5, 0, 29]), (26, .return_, [])]
def h_24 : List (Nat × Nat) := []
/-- LastStirred$Flock.stirBy(LLastStirred$Ground;II)I -/
def k_25 : List (Nat × Instr × List Nat) := [(0, .aload_n 0, []), (1, .iload_n 2, []), (2, .invokevirtual 71, [5, 1, 1, 0, 6]), (5, .ifCond .eq 14, [19]), (8, .aload_n 0, []), (9, .getfield 15, [0, 1, 2, 21]), (12, .iload_n 2, []), (13, .iaload, []), (14, .bipush (-9), []), (16, .if_icmp .ne 6, [22]), (19, .bipush (-9), []), (21, .ireturn, [0]), (22, .aload_n 1, []), (23, .aload_n 0, []), (24, .getfield 15, [0, 1, 2, 21]), (27, .iload_n 2, []), (28, .iaload, []), (29, .iload_n 3, []), (30, .invokevirtual 74, [38, 2, 1, 1, 7]), (33, .istore 4, []), (35, .aload_n 0, []), (36, .aload_n 1, []), (37, .iload_n 2, []), (38, .iload 4, []), (40, .iconst 0, []), (41, .invokevirtual 77, [22, 4, 1, 0, 8]), (44, .ifCond .ne 6, [50]), (47, .bipush (-9), []), (49, .ireturn, [0]), (50, .aload_n 0, []), (51, .aload_n 1, []), (52, .iload_n 2, []), (53, .iload 4, []), (55, .invokevirtual 81, [23, 3, 0, 0, 9]), (58, .aload_n 0, []), (59, .iload_n 2, []), (60, .iload 4, []), (62, .invokevirtual 85, [24, 2, 0, 0, 10]), (65, .iload 4, []), (67, .ireturn, [0])]
def h_25 : List (Nat × Nat) := []
/-- LastStirred$Flock.takeStep(LLastStirred$Ground;)I -/
def k_26 : List (Nat × Instr × List Nat) := [(0, .iconst 0, []), (1, .istore_n 2, []), (2, .bipush (-9), []), (4, .istore_n 3, []), (5, .bipush (-9), []), (7, .istore 4, []), (9, .iconst 0, []), (10, .istore 5, []), (12, .iconst 0, []), (13, .istore 6, []), (15, .iload 6, []), (17, .aload_n 0, []), (18, .getfield 34, [0, 3, 0, 25]), (21, .if_icmp .ge 110, [131]), (24, .iload 6, []), (26, .aload_n 0, []), (27, .getfield 21, [0, 4, 0, 27]), (30, .if_icmp .eq 95, [125]), (33, .aload_n 0, []), (34, .getfield 15, [0, 1, 2, 21]), (37, .iload 6, []), (39, .iaload, []), (40, .bipush (-9), []), (42, .if_icmp .eq 83, [125]), (45, .aload_n 0, []), (46, .getfield 37, [0, 8, 0, 35]), (49, .iconst 1, []), (50, .iand, []), (51, .iconst 1, []), (52, .if_icmp .ne 15, [67]), (55, .aload_n 0, []), (56, .iload 6, []), (58, .invokevirtual 53, [11, 1, 1, 0, 3]), (61, .ifCond .eq 6, [67]), (64, .goto 61, [125]), (67, .aload_n 0, []), (68, .aload_n 1, []), (69, .iload 6, []), (71, .iload 5, []), (73, .invokevirtual 89, [27, 3, 1, 0, 11]), (76, .istore 7, []), (78, .iload 7, []), (80, .bipush (-9), []), (82, .if_icmp .ne 6, [88]), (85, .goto 40, [125]), (88, .aload_n 0, []), (89, .aload_n 1, []), (90, .iload 6, []), (92, .iload 7, []), (94, .invokevirtual 81, [23, 3, 0, 0, 9]), (97, .aload_n 1, []), (98, .getfield 62, [1, 0, 2, 7]), (101, .iload 7, []), (103, .iaload, []), (104, .iconst 4, []), (105, .if_icmp .ne 6, [111]), (108, .iconst 1, []), (109, .istore 5, []), (111, .iload_n 2, []), (112, .iconst 1, []), (113, .iload 6, []), (115, .ishl, []), (116, .ior, []), (117, .istore_n 2, []), (118, .iload 6, []), (120, .istore_n 3, []), (121, .iload 7, []), (123, .istore 4, []), (125, .iinc 6 1, []), (128, .goto (-113), [15]), (131, .aload_n 0, []), (132, .dup, []), (133, .getfield 37, [0, 8, 0, 35]), (136, .iconst 1, []), (137, .iadd, []), (138, .putfield 37, [0, 8, 0, 35]), (141, .iload_n 3, []), (142, .bipush (-9), []), (144, .if_icmp .eq 10, [154]), (147, .aload_n 0, []), (148, .iload_n 3, []), (149, .iload 4, []), (151, .invokevirtual 85, [24, 2, 0, 0, 10]), (154, .iload_n 2, []), (155, .ireturn, [0])]
def h_26 : List (Nat × Nat) := [(15, 7)]
/-- LastStirred$Flock.nextCell(LLastStirred$Ground;IZ)I -/
def k_27 : List (Nat × Instr × List Nat) := [(0, .aload_n 0, []), (1, .iload_n 2, []), (2, .invokevirtual 93, [21, 1, 1, 0, 12]), (5, .istore 4, []), (7, .iload 4, []), (9, .bipush (-9), []), (11, .if_icmp .ne 6, [17]), (14, .bipush (-9), []), (16, .ireturn, [0]), (17, .aload_n 0, []), (18, .getfield 15, [0, 1, 2, 21]), (21, .iload_n 2, []), (22, .iaload, []), (23, .istore 5, []), (25, .aload_n 1, []), (26, .getfield 97, [1, 1, 2, 9]), (29, .iload 4, []), (31, .iaload, []), (32, .aload_n 1, []), (33, .getfield 97, [1, 1, 2, 9]), (36, .iload 5, []), (38, .iaload, []), (39, .isub, []), (40, .istore 6, []), (42, .aload_n 1, []), (43, .getfield 100, [1, 2, 2, 11]), (46, .iload 4, []), (48, .iaload, []), (49, .aload_n 1, []), (50, .getfield 100, [1, 2, 2, 11]), (53, .iload 5, []), (55, .iaload, []), (56, .isub, []), (57, .istore 7, []), (59, .iload 6, []), (61, .invokestatic 103, [13, 0]), (64, .iload 7, []), (66, .invokestatic 103, [13, 0]), (69, .iadd, []), (70, .istore 8, []), (72, .aload_n 0, []), (73, .iload_n 2, []), (74, .invokevirtual 49, [10, 1, 1, 0, 2]), (77, .istore 9, []), (79, .iload 9, []), (81, .ifCond .eq 22, [103]), (84, .aload_n 0, []), (85, .getfield 9, [0, 0, 2, 19]), (88, .iload_n 2, []), (89, .iaload, []), (90, .iconst 5, []), (91, .if_icmp .ne 21, [112]), (94, .iload 8, []), (96, .iconst 3, []), (97, .if_icmp .lt 15, [112]), (100, .goto 9, [109]), (103, .iload 8, []), (105, .iconst 1, []), (106, .if_icmp .gt 6, [112]), (109, .bipush (-9), []), (111, .ireturn, [0]), (112, .iload 6, []), (114, .invokestatic 103, [13, 0]), (117, .iload 7, []), (119, .invokestatic 103, [13, 0]), (122, .if_icmp .lt 7, [129]), (125, .iconst 1, []), (126, .goto 4, [130]), (129, .iconst 0, []), (130, .istore 10, []), (132, .iconst 0, []), (133, .istore 11, []), (135, .iload 11, []), (137, .iconst 2, []), (138, .if_icmp .ge 117, [255]), (141, .iload 10, []), (143, .ifCond .eq 8, [151]), (146, .iload 6, []), (148, .goto 5, [153]), (151, .iload 7, []), (153, .istore 12, []), (155, .iload 12, []), (157, .ifCond .eq 80, [237]), (160, .iload 12, []), (162, .ifCond .le 7, [169]), (165, .iconst 1, []), (166, .goto 4, [170]), (169, .iconst 0, []), (170, .iload 9, []), (172, .if_icmp .eq 7, [179]), (175, .iconst 1, []), (176, .goto 4, [180]), (179, .iconst 0, []), (180, .istore 13, []), (182, .iload 10, []), (184, .ifCond .eq 16, [200]), (187, .iload 13, []), (189, .ifCond .eq 7, [196]), (192, .iconst 1, []), (193, .goto 17, [210]), (196, .iconst 3, []), (197, .goto 13, [210]), (200, .iload 13, []), (202, .ifCond .eq 7, [209]), (205, .iconst 2, []), (206, .goto 4, [210]), (209, .iconst 0, []), (210, .istore 14, []), (212, .aload_n 1, []), (213, .iload 5, []), (215, .iload 14, []), (217, .invokevirtual 74, [38, 2, 1, 1, 7]), (220, .istore 15, []), (222, .aload_n 0, []), (223, .aload_n 1, []), (224, .iload_n 2, []), (225, .iload 15, []), (227, .iload_n 3, []), (228, .invokevirtual 77, [22, 4, 1, 0, 8]), (231, .ifCond .eq 6, [237]), (234, .iload 15, []), (236, .ireturn, [0]), (237, .iload 10, []), (239, .ifCond .ne 7, [246]), (242, .iconst 1, []), (243, .goto 4, [247]), (246, .iconst 0, []), (247, .istore 10, []), (249, .iinc 11 1, []), (252, .goto (-117), [135]), (255, .bipush (-9), []), (257, .ireturn, [0])]
def h_27 : List (Nat × Nat) := [(112, 10), (132, 11), (135, 12), (155, 13), (182, 14), (212, 15), (237, 13)]
/-- LastStirred$Flock.runOut(LLastStirred$Ground;)Z -/
def k_28 : List (Nat × Instr × List Nat) := [(0, .iconst 0, []), (1, .istore_n 2, []), (2, .iconst 0, []), (3, .istore_n 3, []), (4, .iload_n 3, []), (5, .bipush 40, []), (7, .if_icmp .ge 30, [37]), (10, .iload_n 2, []), (11, .iconst 2, []), (12, .if_icmp .ge 25, [37]), (15, .aload_n 0, []), (16, .aload_n 1, []), (17, .invokevirtual 108, [26, 1, 1, 0, 14]), (20, .ifCond .ne 9, [29]), (23, .iload_n 2, []), (24, .iconst 1, []), (25, .iadd, []), (26, .goto 4, [30]), (29, .iconst 0, []), (30, .istore_n 2, []), (31, .iinc 3 1, []), (34, .goto (-30), [4]), (37, .iload_n 2, []), (38, .iconst 2, []), (39, .if_icmp .ne 7, [46]), (42, .iconst 1, []), (43, .goto 4, [47]), (46, .iconst 0, []), (47, .ireturn, [1])]
def h_28 : List (Nat × Nat) := [(4, 4)]
/-- LastStirred$Flock.driveBy(LLastStirred$Ground;I)Z -/
def k_29 : List (Nat × Instr × List Nat) := [(0, .aload_n 0, []), (1, .aload_n 1, []), (2, .iload_n 2, []), (3, .iconst 4, []), (4, .idiv, []), (5, .iload_n 2, []), (6, .iconst 4, []), (7, .irem, []), (8, .invokevirtual 112, [25, 3, 1, 0, 15]), (11, .bipush (-9), []), (13, .if_icmp .ne 5, [18]), (16, .iconst 0, []), (17, .ireturn, [1]), (18, .aload_n 0, []), (19, .aload_n 1, []), (20, .invokevirtual 116, [28, 1, 1, 0, 16]), (23, .pop, []), (24, .iconst 1, []), (25, .ireturn, [1])]
def h_29 : List (Nat × Nat) := []
/-- LastStirred$Flock.fleeFrom(LLastStirred$Ground;I)I -/
def k_30 : List (Nat × Instr × List Nat) := [(0, .iconst 0, []), (1, .istore_n 3, []), (2, .bipush (-9), []), (4, .istore 4, []), (6, .bipush (-9), []), (8, .istore 5, []), (10, .iconst 0, []), (11, .istore 6, []), (13, .iload 6, []), (15, .aload_n 0, []), (16, .getfield 34, [0, 3, 0, 25]), (19, .if_icmp .ge 101, [120]), (22, .aload_n 0, []), (23, .getfield 15, [0, 1, 2, 21]), (26, .iload 6, []), (28, .iaload, []), (29, .bipush (-9), []), (31, .if_icmp .eq 83, [114]), (34, .aload_n 1, []), (35, .aload_n 0, []), (36, .getfield 15, [0, 1, 2, 21]), (39, .iload 6, []), (41, .iaload, []), (42, .iload_n 2, []), (43, .invokevirtual 56, [37, 2, 1, 1, 4]), (46, .iconst 1, []), (47, .if_icmp .eq 6, [53]), (50, .goto 64, [114]), (53, .aload_n 1, []), (54, .aload_n 0, []), (55, .getfield 15, [0, 1, 2, 21]), (58, .iload 6, []), (60, .iaload, []), (61, .aload_n 1, []), (62, .iload_n 2, []), (63, .aload_n 0, []), (64, .getfield 15, [0, 1, 2, 21]), (67, .iload 6, []), (69, .iaload, []), (70, .invokestatic 120, [31, 3, 1, 17]), (73, .invokevirtual 74, [38, 2, 1, 1, 7]), (76, .istore 7, []), (78, .aload_n 0, []), (79, .aload_n 1, []), (80, .iload 6, []), (82, .iload 7, []), (84, .iconst 0, []), (85, .invokevirtual 77, [22, 4, 1, 0, 8]), (88, .ifCond .ne 6, [94]), (91, .goto 23, [114]), (94, .aload_n 0, []), (95, .aload_n 1, []), (96, .iload 6, []), (98, .iload 7, []), (100, .invokevirtual 81, [23, 3, 0, 0, 9]), (103, .iinc 3 1, []), (106, .iload 6, []), (108, .istore 4, []), (110, .iload 7, []), (112, .istore 5, []), (114, .iinc 6 1, []), (117, .goto (-104), [13]), (120, .iload 4, []), (122, .bipush (-9), []), (124, .if_icmp .eq 11, [135]), (127, .aload_n 0, []), (128, .iload 4, []), (130, .iload 5, []), (132, .invokevirtual 85, [24, 2, 0, 0, 10]), (135, .iload_n 3, []), (136, .ireturn, [0])]
def h_30 : List (Nat × Nat) := [(13, 7)]
/-- LastStirred$Flock.wayTo(LLastStirred$Ground;II)I -/
def k_31 : List (Nat × Instr × List Nat) := [(0, .iconst 0, []), (1, .istore_n 3, []), (2, .iload_n 3, []), (3, .iconst 3, []), (4, .if_icmp .ge 21, [25]), (7, .aload_n 0, []), (8, .iload_n 1, []), (9, .iload_n 3, []), (10, .invokevirtual 74, [38, 2, 1, 1, 7]), (13, .iload_n 2, []), (14, .if_icmp .ne 5, [19]), (17, .iload_n 3, []), (18, .ireturn, [0]), (19, .iinc 3 1, []), (22, .goto (-20), [2]), (25, .iconst 3, []), (26, .ireturn, [0])]
def h_31 : List (Nat × Nat) := [(2, 4)]
/-- LastStirred$Ground.<init>()V -/
def k_32 : List (Nat × Instr × List Nat) := [(0, .aload_n 0, []), (1, .invokespecial 3, [18]), (4, .aload_n 0, []), (5, .bipush 30, []), (7, .newarray .int, []), (9, .putfield 11, [1, 0, 2, 4]), (12, .aload_n 0, []), (13, .bipush 30, []), (15, .newarray .int, []), (17, .putfield 15, [1, 1, 2, 8]), (20, .aload_n 0, []), (21, .bipush 30, []), (23, .newarray .int, []), (25, .putfield 18, [1, 2, 2, 10]), (28, .return_, [])]
def h_32 : List (Nat × Nat) := []
/-- LastStirred$Ground.spread(II)V -/
def k_33 : List (Nat × Instr × List Nat) := [(0, .aload_n 0, []), (1, .iload_n 1, []), (2, .putfield 21, [1, 3, 0, 12]), (5, .aload_n 0, []), (6, .iload_n 2, []), (7, .putfield 25, [1, 4, 0, 14]), (10, .aload_n 0, []), (11, .iconst 0, []), (12, .putfield 28, [1, 5, 0, 16]), (15, .iconst 0, []), (16, .istore_n 3, []), (17, .iload_n 3, []), (18, .iload_n 2, []), (19, .if_icmp .ge 64, [83]), (22, .iconst 0, []), (23, .istore 4, []), (25, .iload 4, []), (27, .iload_n 1, []), (28, .if_icmp .ge 49, [77]), (31, .aload_n 0, []), (32, .getfield 28, [1, 5, 0, 16]), (35, .bipush 30, []), (37, .if_icmp .ge 40, [77]), (40, .aload_n 0, []), (41, .getfield 15, [1, 1, 2, 8]), (44, .aload_n 0, []), (45, .getfield 28, [1, 5, 0, 16]), (48, .iload 4, []), (50, .iastore, []), (51, .aload_n 0, []), (52, .getfield 18, [1, 2, 2, 10]), (55, .aload_n 0, []), (56, .getfield 28, [1, 5, 0, 16]), (59, .iload_n 3, []), (60, .iastore, []), (61, .aload_n 0, []), (62, .dup, []), (63, .getfield 28, [1, 5, 0, 16]), (66, .iconst 1, []), (67, .iadd, []), (68, .putfield 28, [1, 5, 0, 16]), (71, .iinc 4 1, []), (74, .goto (-49), [25]), (77, .iinc 3 1, []), (80, .goto (-63), [17]), (83, .return_, [])]
def h_33 : List (Nat × Nat) := [(17, 4), (25, 5)]
/-- LastStirred$Ground.take(LLastStirred$Ground;)V -/
def k_34 : List (Nat × Instr × List Nat) := [(0, .aload_n 0, []), (1, .aload_n 1, []), (2, .getfield 21, [1, 3, 0, 12]), (5, .aload_n 1, []), (6, .getfield 25, [1, 4, 0, 14]), (9, .invokevirtual 31, [33, 2, 0, 1, 19]), (12, .aload_n 1, []), (13, .getfield 11, [1, 0, 2, 4]), (16, .iconst 0, []), (17, .aload_n 0, []), (18, .getfield 11, [1, 0, 2, 4]), (21, .iconst 0, []), (22, .bipush 30, []), (24, .invokestatic 35, [20]), (27, .return_, [])]
def h_34 : List (Nat × Nat) := []
/-- LastStirred$Ground.has(I)Z -/
def k_35 : List (Nat × Instr × List Nat) := [(0, .iload_n 1, []), (1, .ifCond .lt 15, [16]), (4, .iload_n 1, []), (5, .aload_n 0, []), (6, .getfield 28, [1, 5, 0, 16]), (9, .if_icmp .ge 7, [16]), (12, .iconst 1, []), (13, .goto 4, [17]), (16, .iconst 0, []), (17, .ireturn, [1])]
def h_35 : List (Nat × Nat) := []
/-- LastStirred$Ground.isOpen(I)Z -/
def k_36 : List (Nat × Instr × List Nat) := [(0, .aload_n 0, []), (1, .getfield 11, [1, 0, 2, 4]), (4, .iload_n 1, []), (5, .iaload, []), (6, .iconst 1, []), (7, .if_icmp .eq 17, [24]), (10, .aload_n 0, []), (11, .getfield 11, [1, 0, 2, 4]), (14, .iload_n 1, []), (15, .iaload, []), (16, .iconst 2, []), (17, .if_icmp .eq 7, [24]), (20, .iconst 1, []), (21, .goto 4, [25]), (24, .iconst 0, []), (25, .ireturn, [1])]
def h_36 : List (Nat × Nat) := []
/-- LastStirred$Ground.off(II)I -/
def k_37 : List (Nat × Instr × List Nat) := [(0, .aload_n 0, []), (1, .getfield 15, [1, 1, 2, 8]), (4, .iload_n 1, []), (5, .iaload, []), (6, .aload_n 0, []), (7, .getfield 15, [1, 1, 2, 8]), (10, .iload_n 2, []), (11, .iaload, []), (12, .isub, []), (13, .invokestatic 41, [21, 0]), (16, .aload_n 0, []), (17, .getfield 18, [1, 2, 2, 10]), (20, .iload_n 1, []), (21, .iaload, []), (22, .aload_n 0, []), (23, .getfield 18, [1, 2, 2, 10]), (26, .iload_n 2, []), (27, .iaload, []), (28, .isub, []), (29, .invokestatic 41, [21, 0]), (32, .iadd, []), (33, .ireturn, [0])]
def h_37 : List (Nat × Nat) := []
/-- LastStirred$Ground.beside(II)I -/
def k_38 : List (Nat × Instr × List Nat) := [(0, .aload_n 0, []), (1, .getfield 15, [1, 1, 2, 8]), (4, .iload_n 1, []), (5, .iaload, []), (6, .getstatic 47, [2, 578]), (9, .iload_n 2, []), (10, .iaload, []), (11, .iadd, []), (12, .istore_n 3, []), (13, .aload_n 0, []), (14, .getfield 18, [1, 2, 2, 10]), (17, .iload_n 1, []), (18, .iaload, []), (19, .getstatic 50, [3, 580]), (22, .iload_n 2, []), (23, .iaload, []), (24, .iadd, []), (25, .istore 4, []), (27, .iload_n 3, []), (28, .ifCond .lt 25, [53]), (31, .iload_n 3, []), (32, .aload_n 0, []), (33, .getfield 21, [1, 3, 0, 12]), (36, .if_icmp .ge 17, [53]), (39, .iload 4, []), (41, .ifCond .lt 12, [53]), (44, .iload 4, []), (46, .aload_n 0, []), (47, .getfield 25, [1, 4, 0, 14]), (50, .if_icmp .lt 8, [58]), (53, .bipush (-9), []), (55, .goto 12, [67]), (58, .iload 4, []), (60, .aload_n 0, []), (61, .getfield 21, [1, 3, 0, 12]), (64, .imul, []), (65, .iload_n 3, []), (66, .iadd, []), (67, .ireturn, [0])]
def h_38 : List (Nat × Nat) := []
/-- LastStirred$Ground.howMany(I)I -/
def k_39 : List (Nat × Instr × List Nat) := [(0, .iconst 0, []), (1, .istore_n 2, []), (2, .iconst 0, []), (3, .istore_n 3, []), (4, .iload_n 3, []), (5, .aload_n 0, []), (6, .getfield 28, [1, 5, 0, 16]), (9, .if_icmp .ge 22, [31]), (12, .aload_n 0, []), (13, .getfield 11, [1, 0, 2, 4]), (16, .iload_n 3, []), (17, .iaload, []), (18, .iload_n 1, []), (19, .if_icmp .ne 6, [25]), (22, .iinc 2 1, []), (25, .iinc 3 1, []), (28, .goto (-24), [4]), (31, .iload_n 2, []), (32, .ireturn, [0])]
def h_39 : List (Nat × Nat) := [(4, 4)]
/-- LastStirred$Ground.reachFrom(IZ)I -/
def k_40 : List (Nat × Instr × List Nat) := [(0, .aload_n 0, []), (1, .iload_n 1, []), (2, .invokevirtual 53, [36, 1, 1, 1, 22]), (5, .ifCond .ne 5, [10]), (8, .iconst 0, []), (9, .ireturn, [0]), (10, .iconst 1, []), (11, .iload_n 1, []), (12, .ishl, []), (13, .istore_n 3, []), (14, .iconst 0, []), (15, .istore 4, []), (17, .iconst 0, []), (18, .istore 5, []), (20, .iload 5, []), (22, .aload_n 0, []), (23, .getfield 28, [1, 5, 0, 16]), (26, .if_icmp .ge 56, [82]), (29, .iload_n 3, []), (30, .iload 4, []), (32, .if_icmp .eq 50, [82]), (35, .iload_n 3, []), (36, .istore 4, []), (38, .iconst 0, []), (39, .istore 6, []), (41, .iload 6, []), (43, .aload_n 0, []), (44, .getfield 28, [1, 5, 0, 16]), (47, .if_icmp .ge 29, [76]), (50, .iload_n 3, []), (51, .iload 6, []), (53, .ishr, []), (54, .iconst 1, []), (55, .iand, []), (56, .iconst 1, []), (57, .if_icmp .ne 13, [70]), (60, .iload_n 3, []), (61, .aload_n 0, []), (62, .iload 6, []), (64, .iload_n 2, []), (65, .invokevirtual 57, [41, 2, 1, 1, 23]), (68, .ior, []), (69, .istore_n 3, []), (70, .iinc 6 1, []), (73, .goto (-32), [41]), (76, .iinc 5 1, []), (79, .goto (-59), [20]), (82, .iload_n 3, []), (83, .ireturn, [0])]
def h_40 : List (Nat × Nat) := [(20, 6), (41, 7)]
/-- LastStirred$Ground.openBeside(IZ)I -/
def k_41 : List (Nat × Instr × List Nat) := [(0, .iconst 0, []), (1, .istore_n 3, []), (2, .iconst 0, []), (3, .istore 4, []), (5, .iload 4, []), (7, .iconst 4, []), (8, .if_icmp .ge 56, [64]), (11, .aload_n 0, []), (12, .iload_n 1, []), (13, .iload 4, []), (15, .invokevirtual 61, [38, 2, 1, 1, 24]), (18, .istore 5, []), (20, .iload 5, []), (22, .bipush (-9), []), (24, .if_icmp .eq 34, [58]), (27, .aload_n 0, []), (28, .iload 5, []), (30, .invokevirtual 53, [36, 1, 1, 1, 22]), (33, .ifCond .eq 25, [58]), (36, .iload_n 2, []), (37, .ifCond .ne 14, [51]), (40, .aload_n 0, []), (41, .getfield 11, [1, 0, 2, 4]), (44, .iload 5, []), (46, .iaload, []), (47, .iconst 4, []), (48, .if_icmp .eq 10, [58]), (51, .iload_n 3, []), (52, .iconst 1, []), (53, .iload 5, []), (55, .ishl, []), (56, .ior, []), (57, .istore_n 3, []), (58, .iinc 4 1, []), (61, .goto (-56), [5]), (64, .iload_n 3, []), (65, .ireturn, [0])]
def h_41 : List (Nat × Nat) := [(5, 5)]
/-- LastStirred$Reader.<init>()V -/
def k_42 : List (Nat × Instr × List Nat) := [(0, .aload_n 0, []), (1, .invokespecial 3, [25]), (4, .aload_n 0, []), (5, .new 9, [1, 6, 131]), (8, .dup, []), (9, .invokespecial 11, [32, 0, 0, 26]), (12, .putfield 12, [2, 0, 2, 38]), (15, .aload_n 0, []), (16, .new 18, [0, 10, 165]), (19, .dup, []), (20, .invokespecial 20, [0, 0, 0, 27]), (23, .putfield 21, [2, 1, 2, 40]), (26, .aload_n 0, []), (27, .iconst 0, []), (28, .newarray .int, []), (30, .putfield 25, [2, 2, 2, 42]), (33, .return_, [])]
def h_42 : List (Nat × Nat) := []
/-- LastStirred$Reader.readAll([II)I -/
def k_43 : List (Nat × Instr × List Nat) := [(0, .aload_n 0, []), (1, .aload_n 1, []), (2, .putfield 25, [2, 2, 2, 42]), (5, .aload_n 0, []), (6, .iload_n 2, []), (7, .putfield 29, [2, 3, 0, 43]), (10, .aload_n 0, []), (11, .iconst 0, []), (12, .putfield 33, [2, 4, 0, 44]), (15, .aload_n 0, []), (16, .invokevirtual 36, [44, 0, 1, 2, 28]), (19, .ifCond .eq 22, [41]), (22, .aload_n 0, []), (23, .invokevirtual 40, [45, 0, 1, 2, 29]), (26, .ifCond .eq 15, [41]), (29, .aload_n 0, []), (30, .invokevirtual 43, [46, 0, 1, 2, 30]), (33, .ifCond .eq 8, [41]), (36, .bipush (-9), []), (38, .goto 7, [45]), (41, .aload_n 0, []), (42, .getfield 33, [2, 4, 0, 44]), (45, .ireturn, [0])]
def h_43 : List (Nat × Nat) := []
/-- LastStirred$Reader.readSize()Z -/
def k_44 : List (Nat × Instr × List Nat) := [(0, .aload_n 0, []), (1, .invokevirtual 46, [48, 0, 0, 2, 31]), (4, .aload_n 0, []), (5, .invokevirtual 49, [49, 0, 1, 2, 32]), (8, .bipush 103, []), (10, .if_icmp .eq 5, [15]), (13, .iconst 0, []), (14, .ireturn, [1]), (15, .aload_n 0, []), (16, .dup, []), (17, .getfield 33, [2, 4, 0, 44]), (20, .iconst 1, []), (21, .iadd, []), (22, .putfield 33, [2, 4, 0, 44]), (25, .aload_n 0, []), (26, .iconst 2, []), (27, .bipush 6, []), (29, .invokevirtual 53, [50, 2, 1, 2, 33]), (32, .istore_n 1, []), (33, .iload_n 1, []), (34, .bipush (-9), []), (36, .if_icmp .ne 5, [41]), (39, .iconst 0, []), (40, .ireturn, [1]), (41, .aload_n 0, []), (42, .iconst 1, []), (43, .iconst 5, []), (44, .invokevirtual 53, [50, 2, 1, 2, 33]), (47, .istore_n 2, []), (48, .iload_n 2, []), (49, .bipush (-9), []), (51, .if_icmp .ne 5, [56]), (54, .iconst 0, []), (55, .ireturn, [1]), (56, .aload_n 0, []), (57, .getfield 12, [2, 0, 2, 38]), (60, .iload_n 1, []), (61, .iload_n 2, []), (62, .invokevirtual 57, [33, 2, 0, 1, 34]), (65, .iconst 1, []), (66, .ireturn, [1])]
def h_44 : List (Nat × Nat) := []
/-- LastStirred$Reader.readCells()Z -/
def k_45 : List (Nat × Instr × List Nat) := [(0, .iconst 0, []), (1, .istore_n 1, []), (2, .iload_n 1, []), (3, .aload_n 0, []), (4, .getfield 12, [2, 0, 2, 38]), (7, .getfield 61, [1, 5, 0, 17]), (10, .if_icmp .ge 52, [62]), (13, .aload_n 0, []), (14, .invokevirtual 46, [48, 0, 0, 2, 31]), (17, .getstatic 62, [0, 441]), (20, .aload_n 0, []), (21, .invokevirtual 49, [49, 0, 1, 2, 32]), (24, .invokestatic 65, [125, 2, 1, 35]), (27, .istore_n 2, []), (28, .iload_n 2, []), (29, .bipush (-9), []), (31, .if_icmp .ne 5, [36]), (34, .iconst 0, []), (35, .ireturn, [1]), (36, .aload_n 0, []), (37, .getfield 12, [2, 0, 2, 38]), (40, .getfield 69, [1, 0, 2, 5]), (43, .iload_n 1, []), (44, .iload_n 2, []), (45, .iastore, []), (46, .aload_n 0, []), (47, .dup, []), (48, .getfield 33, [2, 4, 0, 44]), (51, .iconst 1, []), (52, .iadd, []), (53, .putfield 33, [2, 4, 0, 44]), (56, .iinc 1 1, []), (59, .goto (-57), [2]), (62, .iconst 1, []), (63, .ireturn, [1])]
def h_45 : List (Nat × Nat) := [(2, 2)]
/-- LastStirred$Reader.readBeasts()Z -/
def k_46 : List (Nat × Instr × List Nat) := [(0, .aload_n 0, []), (1, .getfield 21, [2, 1, 2, 40]), (4, .invokevirtual 72, [1, 0, 0, 0, 36]), (7, .iconst 0, []), (8, .istore_n 1, []), (9, .iload_n 1, []), (10, .iconst 4, []), (11, .if_icmp .ge 35, [46]), (14, .aload_n 0, []), (15, .invokevirtual 46, [48, 0, 0, 2, 31]), (18, .aload_n 0, []), (19, .getfield 33, [2, 4, 0, 44]), (22, .aload_n 0, []), (23, .getfield 29, [2, 3, 0, 43]), (26, .if_icmp .ne 5, [31]), (29, .iconst 1, []), (30, .ireturn, [1]), (31, .aload_n 0, []), (32, .invokevirtual 75, [47, 0, 1, 2, 37]), (35, .ifCond .ne 5, [40]), (38, .iconst 0, []), (39, .ireturn, [1]), (40, .iinc 1 1, []), (43, .goto (-34), [9]), (46, .aload_n 0, []), (47, .invokevirtual 46, [48, 0, 0, 2, 31]), (50, .aload_n 0, []), (51, .getfield 33, [2, 4, 0, 44]), (54, .aload_n 0, []), (55, .getfield 29, [2, 3, 0, 43]), (58, .if_icmp .ne 7, [65]), (61, .iconst 1, []), (62, .goto 4, [66]), (65, .iconst 0, []), (66, .ireturn, [1])]
def h_46 : List (Nat × Nat) := [(9, 2)]
/-- LastStirred$Reader.readBeast()Z -/
def k_47 : List (Nat × Instr × List Nat) := [(0, .getstatic 78, [1, 458]), (3, .aload_n 0, []), (4, .invokevirtual 49, [49, 0, 1, 2, 32]), (7, .invokestatic 65, [125, 2, 1, 35]), (10, .istore_n 1, []), (11, .iload_n 1, []), (12, .bipush (-9), []), (14, .if_icmp .ne 5, [19]), (17, .iconst 0, []), (18, .ireturn, [1]), (19, .aload_n 0, []), (20, .dup, []), (21, .getfield 33, [2, 4, 0, 44]), (24, .iconst 1, []), (25, .iadd, []), (26, .putfield 33, [2, 4, 0, 44]), (29, .aload_n 0, []), (30, .iconst 0, []), (31, .aload_n 0, []), (32, .getfield 12, [2, 0, 2, 38]), (35, .getfield 81, [1, 3, 0, 13]), (38, .iconst 1, []), (39, .isub, []), (40, .invokevirtual 53, [50, 2, 1, 2, 33]), (43, .istore_n 2, []), (44, .iload_n 2, []), (45, .bipush (-9), []), (47, .if_icmp .ne 5, [52]), (50, .iconst 0, []), (51, .ireturn, [1]), (52, .aload_n 0, []), (53, .iconst 0, []), (54, .aload_n 0, []), (55, .getfield 12, [2, 0, 2, 38]), (58, .getfield 84, [1, 4, 0, 15]), (61, .iconst 1, []), (62, .isub, []), (63, .invokevirtual 53, [50, 2, 1, 2, 33]), (66, .istore_n 3, []), (67, .iload_n 3, []), (68, .bipush (-9), []), (70, .if_icmp .ne 5, [75]), (73, .iconst 0, []), (74, .ireturn, [1]), (75, .iload_n 3, []), (76, .aload_n 0, []), (77, .getfield 12, [2, 0, 2, 38]), (80, .getfield 81, [1, 3, 0, 13]), (83, .imul, []), (84, .iload_n 2, []), (85, .iadd, []), (86, .istore 4, []), (88, .aload_n 0, []), (89, .getfield 12, [2, 0, 2, 38]), (92, .iload 4, []), (94, .invokevirtual 87, [36, 1, 1, 1, 38]), (97, .ifCond .eq 15, [112]), (100, .aload_n 0, []), (101, .getfield 21, [2, 1, 2, 40]), (104, .iload 4, []), (106, .invokevirtual 91, [7, 1, 1, 0, 39]), (109, .ifCond .eq 15, [124]), (112, .aload_n 0, []), (113, .dup, []), (114, .getfield 33, [2, 4, 0, 44]), (117, .iconst 1, []), (118, .isub, []), (119, .putfield 33, [2, 4, 0, 44]), (122, .iconst 0, []), (123, .ireturn, [1]), (124, .aload_n 0, []), (125, .getfield 21, [2, 1, 2, 40]), (128, .iload_n 1, []), (129, .iload 4, []), (131, .invokevirtual 94, [2, 2, 0, 0, 40]), (134, .iconst 1, []), (135, .ireturn, [1])]
def h_47 : List (Nat × Nat) := []
/-- LastStirred$Reader.skipBlanks()V -/
def k_48 : List (Nat × Instr × List Nat) := [(0, .aload_n 0, []), (1, .getfield 33, [2, 4, 0, 44]), (4, .aload_n 0, []), (5, .getfield 29, [2, 3, 0, 43]), (8, .if_icmp .ge 30, [38]), (11, .aload_n 0, []), (12, .getfield 25, [2, 2, 2, 42]), (15, .aload_n 0, []), (16, .getfield 33, [2, 4, 0, 44]), (19, .iaload, []), (20, .bipush 32, []), (22, .if_icmp .ne 16, [38]), (25, .aload_n 0, []), (26, .dup, []), (27, .getfield 33, [2, 4, 0, 44]), (30, .iconst 1, []), (31, .iadd, []), (32, .putfield 33, [2, 4, 0, 44]), (35, .goto (-35), [0]), (38, .return_, [])]
def h_48 : List (Nat × Nat) := [(0, 1)]
/-- LastStirred$Reader.sign()I -/
def k_49 : List (Nat × Instr × List Nat) := [(0, .aload_n 0, []), (1, .getfield 33, [2, 4, 0, 44]), (4, .aload_n 0, []), (5, .getfield 29, [2, 3, 0, 43]), (8, .if_icmp .ge 15, [23]), (11, .aload_n 0, []), (12, .getfield 25, [2, 2, 2, 42]), (15, .aload_n 0, []), (16, .getfield 33, [2, 4, 0, 44]), (19, .iaload, []), (20, .goto 6, [26]), (23, .sipush 1000, []), (26, .ireturn, [0])]
def h_49 : List (Nat × Nat) := []
/-- LastStirred$Reader.figure(II)I -/
def k_50 : List (Nat × Instr × List Nat) := [(0, .aload_n 0, []), (1, .invokevirtual 49, [49, 0, 1, 2, 32]), (4, .bipush 48, []), (6, .isub, []), (7, .istore_n 3, []), (8, .iload_n 3, []), (9, .iload_n 1, []), (10, .if_icmp .lt 8, [18]), (13, .iload_n 3, []), (14, .iload_n 2, []), (15, .if_icmp .le 6, [21]), (18, .bipush (-9), []), (20, .ireturn, [0]), (21, .aload_n 0, []), (22, .dup, []), (23, .getfield 33, [2, 4, 0, 44]), (26, .iconst 1, []), (27, .iadd, []), (28, .putfield 33, [2, 4, 0, 44]), (31, .iload_n 3, []), (32, .ireturn, [0])]
def h_50 : List (Nat × Nat) := []
/-- LastStirred$Search.<init>()V -/
def k_51 : List (Nat × Instr × List Nat) := [(0, .aload_n 0, []), (1, .invokespecial 3, [41]), (4, .aload_n 0, []), (5, .iconst 4, []), (6, .anewarray 9, [240]), (9, .dup, []), (10, .iconst 0, []), (11, .new 9, [0, 10, 240]), (14, .dup, []), (15, .invokespecial 11, [0, 0, 0, 42]), (18, .aastore, []), (19, .dup, []), (20, .iconst 1, []), (21, .new 9, [0, 10, 240]), (24, .dup, []), (25, .invokespecial 11, [0, 0, 0, 42]), (28, .aastore, []), (29, .dup, []), (30, .iconst 2, []), (31, .new 9, [0, 10, 240]), (34, .dup, []), (35, .invokespecial 11, [0, 0, 0, 42]), (38, .aastore, []), (39, .dup, []), (40, .iconst 3, []), (41, .new 9, [0, 10, 240]), (44, .dup, []), (45, .invokespecial 11, [0, 0, 0, 42]), (48, .aastore, []), (49, .putfield 12, [3, 0, 2, 45]), (52, .aload_n 0, []), (53, .iconst 4, []), (54, .newarray .int, []), (56, .putfield 18, [3, 1, 2, 46]), (59, .return_, [])]
def h_51 : List (Nat × Nat) := []
/-- LastStirred$Search.seekSafe()V -/
def k_52 : List (Nat × Instr × List Nat) := [(0, .aload_n 0, []), (1, .iconst 1, []), (2, .putfield 22, [3, 2, 3, 47]), (5, .return_, [])]
def h_52 : List (Nat × Nat) := []
/-- LastStirred$Search.seekDawn([I)V -/
def k_53 : List (Nat × Instr × List Nat) := [(0, .aload_n 0, []), (1, .iconst 0, []), (2, .putfield 22, [3, 2, 3, 47]), (5, .aload_n 1, []), (6, .iconst 0, []), (7, .aload_n 0, []), (8, .getfield 18, [3, 1, 2, 46]), (11, .iconst 0, []), (12, .iconst 4, []), (13, .invokestatic 26, [43]), (16, .return_, [])]
def h_53 : List (Nat × Nat) := []
/-- LastStirred$Search.fewFrom(LLastStirred$Ground;LLastStirred$Flock;I)I -/
def k_54 : List (Nat × Instr × List Nat) := [(0, .iconst 0, []), (1, .istore 4, []), (3, .iload 4, []), (5, .iload_n 3, []), (6, .if_icmp .gt 33, [39]), (9, .aload_n 0, []), (10, .aload_n 2, []), (11, .iload 4, []), (13, .invokevirtual 32, [56, 2, 0, 3, 44]), (16, .aload_n 0, []), (17, .aload_n 1, []), (18, .iconst 0, []), (19, .iconst 0, []), (20, .invokestatic 36, [57, 4, 0, 45]), (23, .aload_n 0, []), (24, .getfield 40, [3, 5, 0, 51]), (27, .ifCond .le 6, [33]), (30, .iload 4, []), (32, .ireturn, [0]), (33, .iinc 4 1, []), (36, .goto (-33), [3]), (39, .bipush (-9), []), (41, .ireturn, [0])]
def h_54 : List (Nat × Nat) := [(3, 5)]
/-- LastStirred$Search.allFrom(LLastStirred$Ground;LLastStirred$Flock;I)V -/
def k_55 : List (Nat × Instr × List Nat) := [(0, .aload_n 0, []), (1, .aload_n 2, []), (2, .iload_n 3, []), (3, .invokevirtual 32, [56, 2, 0, 3, 44]), (6, .aload_n 0, []), (7, .aload_n 1, []), (8, .iconst 0, []), (9, .iconst 0, []), (10, .invokestatic 36, [57, 4, 0, 45]), (13, .return_, [])]
def h_55 : List (Nat × Nat) := []
/-- LastStirred$Search.begin(LLastStirred$Flock;I)V -/
def k_56 : List (Nat × Instr × List Nat) := [(0, .aload_n 0, []), (1, .getfield 12, [3, 0, 2, 45]), (4, .iconst 0, []), (5, .aaload, []), (6, .aload_n 1, []), (7, .invokevirtual 44, [3, 1, 0, 0, 46]), (10, .aload_n 0, []), (11, .iload_n 2, []), (12, .putfield 48, [3, 3, 0, 48]), (15, .aload_n 0, []), (16, .iconst 0, []), (17, .putfield 51, [3, 4, 0, 49]), (20, .aload_n 0, []), (21, .iconst 0, []), (22, .putfield 40, [3, 5, 0, 51]), (25, .aload_n 0, []), (26, .iconst 0, []), (27, .putfield 54, [3, 6, 0, 53]), (30, .aload_n 0, []), (31, .iconst 0, []), (32, .putfield 57, [3, 7, 0, 55]), (35, .aload_n 0, []), (36, .iconst 0, []), (37, .putfield 60, [3, 8, 0, 57]), (40, .return_, [])]
def h_56 : List (Nat × Nat) := []
/-- LastStirred$Search.follow(LLastStirred$Search;LLastStirred$Ground;II)V -/
def k_57 : List (Nat × Instr × List Nat) := [(0, .iload_n 2, []), (1, .aload_n 0, []), (2, .getfield 48, [3, 3, 0, 48]), (5, .if_icmp .ge 8, [13]), (8, .iload_n 2, []), (9, .iconst 3, []), (10, .if_icmp .lt 11, [21]), (13, .aload_n 0, []), (14, .aload_n 1, []), (15, .iload_n 2, []), (16, .iload_n 3, []), (17, .invokevirtual 63, [58, 3, 0, 3, 47]), (20, .return_, []), (21, .aload_n 0, []), (22, .getfield 12, [3, 0, 2, 45]), (25, .iload_n 2, []), (26, .iconst 1, []), (27, .iadd, []), (28, .aaload, []), (29, .astore 4, []), (31, .iconst 0, []), (32, .istore 5, []), (34, .iload 5, []), (36, .aload_n 0, []), (37, .getfield 12, [3, 0, 2, 45]), (40, .iload_n 2, []), (41, .aaload, []), (42, .invokevirtual 67, [13, 0, 1, 0, 48]), (45, .if_icmp .ge 45, [90]), (48, .aload 4, []), (50, .aload_n 0, []), (51, .getfield 12, [3, 0, 2, 45]), (54, .iload_n 2, []), (55, .aaload, []), (56, .invokevirtual 44, [3, 1, 0, 0, 46]), (59, .aload 4, []), (61, .aload_n 1, []), (62, .iload 5, []), (64, .invokevirtual 71, [29, 2, 1, 0, 49]), (67, .ifCond .eq 17, [84]), (70, .aload_n 0, []), (71, .aload_n 1, []), (72, .iload_n 2, []), (73, .iconst 1, []), (74, .iadd, []), (75, .iload_n 3, []), (76, .iconst 4, []), (77, .ishl, []), (78, .iload 5, []), (80, .ior, []), (81, .invokestatic 36, [57, 4, 0, 45]), (84, .iinc 5 1, []), (87, .goto (-53), [34]), (90, .return_, [])]
def h_57 : List (Nat × Nat) := [(34, 6)]
/-- LastStirred$Search.note(LLastStirred$Ground;II)V -/
def k_58 : List (Nat × Instr × List Nat) := [(0, .aload_n 0, []), (1, .dup, []), (2, .getfield 51, [3, 4, 0, 49]), (5, .iconst 1, []), (6, .iadd, []), (7, .putfield 51, [3, 4, 0, 49]), (10, .aload_n 0, []), (11, .getfield 22, [3, 2, 3, 47]), (14, .ifCond .eq 16, [30]), (17, .aload_n 0, []), (18, .getfield 12, [3, 0, 2, 45]), (21, .iload_n 2, []), (22, .aaload, []), (23, .aload_n 1, []), (24, .invokevirtual 75, [17, 1, 1, 0, 50]), (27, .goto 16, [43]), (30, .aload_n 0, []), (31, .getfield 12, [3, 0, 2, 45]), (34, .iload_n 2, []), (35, .aaload, []), (36, .aload_n 0, []), (37, .getfield 18, [3, 1, 2, 46]), (40, .invokevirtual 79, [18, 1, 1, 0, 51]), (43, .istore 4, []), (45, .iload 4, []), (47, .ifCond .ne 4, [51]), (50, .return_, []), (51, .aload_n 0, []), (52, .getfield 40, [3, 5, 0, 51]), (55, .ifCond .ne 8, [63]), (58, .aload_n 0, []), (59, .iload_n 3, []), (60, .putfield 54, [3, 6, 0, 53]), (63, .aload_n 0, []), (64, .dup, []), (65, .getfield 40, [3, 5, 0, 51]), (68, .iconst 1, []), (69, .iadd, []), (70, .putfield 40, [3, 5, 0, 51]), (73, .iload_n 2, []), (74, .ifCond .ne 4, [78]), (77, .return_, []), (78, .iload_n 3, []), (79, .iconst 4, []), (80, .iload_n 2, []), (81, .iconst 1, []), (82, .isub, []), (83, .imul, []), (84, .ishr, []), (85, .istore 5, []), (87, .aload_n 0, []), (88, .dup, []), (89, .getfield 57, [3, 7, 0, 55]), (92, .iconst 1, []), (93, .iload 5, []), (95, .iconst 4, []), (96, .idiv, []), (97, .ishl, []), (98, .ior, []), (99, .putfield 57, [3, 7, 0, 55]), (102, .aload_n 0, []), (103, .dup, []), (104, .getfield 60, [3, 8, 0, 57]), (107, .iconst 1, []), (108, .iload 5, []), (110, .iconst 4, []), (111, .irem, []), (112, .ishl, []), (113, .ior, []), (114, .putfield 60, [3, 8, 0, 57]), (117, .return_, [])]
def h_58 : List (Nat × Nat) := []
/-- LastStirred$Shelf.<init>([[I)V -/
def k_59 : List (Nat × Instr × List Nat) := [(0, .aload_n 0, []), (1, .invokespecial 3, [52]), (4, .aload_n 0, []), (5, .aload_n 1, []), (6, .putfield 9, [4, 0, 2, 0]), (9, .aload_n 0, []), (10, .aload_n 1, []), (11, .arraylength, []), (12, .newarray .int, []), (14, .putfield 15, [4, 1, 2, 2]), (17, .aload_n 0, []), (18, .getfield 15, [4, 1, 2, 2]), (21, .iconst (-1), []), (22, .invokestatic 19, [235, 2, 0, 53]), (25, .return_, [])]
def h_59 : List (Nat × Nat) := []
/-- LastStirred$Shelf.has(I)Z -/
def k_60 : List (Nat × Instr × List Nat) := [(0, .iload_n 1, []), (1, .ifCond .lt 16, [17]), (4, .iload_n 1, []), (5, .aload_n 0, []), (6, .getfield 15, [4, 1, 2, 2]), (9, .arraylength, []), (10, .if_icmp .ge 7, [17]), (13, .iconst 1, []), (14, .goto 4, [18]), (17, .iconst 0, []), (18, .ireturn, [1])]
def h_60 : List (Nat × Nat) := []
/-- LastStirred$Shelf.make(III)V -/
def k_61 : List (Nat × Instr × List Nat) := [(0, .aload_n 0, []), (1, .getfield 9, [4, 0, 2, 0]), (4, .iload_n 1, []), (5, .aaload, []), (6, .iload_n 3, []), (7, .invokestatic 19, [235, 2, 0, 53]), (10, .aload_n 0, []), (11, .getfield 15, [4, 1, 2, 2]), (14, .iload_n 1, []), (15, .iload_n 2, []), (16, .iastore, []), (17, .return_, [])]
def h_61 : List (Nat × Nat) := []
/-- LastStirred$Shelf.thereAre()I -/
def k_62 : List (Nat × Instr × List Nat) := [(0, .iconst 0, []), (1, .istore_n 1, []), (2, .aload_n 0, []), (3, .getfield 15, [4, 1, 2, 2]), (6, .astore_n 2, []), (7, .aload_n 2, []), (8, .arraylength, []), (9, .istore_n 3, []), (10, .iconst 0, []), (11, .istore 4, []), (13, .iload 4, []), (15, .iload_n 3, []), (16, .if_icmp .ge 24, [40]), (19, .aload_n 2, []), (20, .iload 4, []), (22, .iaload, []), (23, .istore 5, []), (25, .iload 5, []), (27, .iconst (-1), []), (28, .if_icmp .eq 6, [34]), (31, .iinc 1 1, []), (34, .iinc 4 1, []), (37, .goto (-24), [13]), (40, .iload_n 1, []), (41, .ireturn, [0])]
def h_62 : List (Nat × Nat) := [(13, 5)]
/-- LastStirred$Shelf.addTo(J)J -/
def k_63 : List (Nat × Instr × List Nat) := [(0, .lload_n 1, []), (1, .lstore_n 3, []), (2, .iconst 0, []), (3, .istore 5, []), (5, .iload 5, []), (7, .aload_n 0, []), (8, .getfield 15, [4, 1, 2, 2]), (11, .arraylength, []), (12, .if_icmp .ge 63, [75]), (15, .ldc2_w 25, [3, 870]), (18, .lload_n 3, []), (19, .lmul, []), (20, .aload_n 0, []), (21, .getfield 15, [4, 1, 2, 2]), (24, .iload 5, []), (26, .iaload, []), (27, .i2l, []), (28, .ladd, []), (29, .lstore_n 3, []), (30, .iconst 0, []), (31, .istore 6, []), (33, .iload 6, []), (35, .aload_n 0, []), (36, .getfield 15, [4, 1, 2, 2]), (39, .iload 5, []), (41, .iaload, []), (42, .if_icmp .ge 27, [69]), (45, .ldc2_w 25, [3, 870]), (48, .lload_n 3, []), (49, .lmul, []), (50, .aload_n 0, []), (51, .getfield 9, [4, 0, 2, 0]), (54, .iload 5, []), (56, .aaload, []), (57, .iload 6, []), (59, .iaload, []), (60, .i2l, []), (61, .ladd, []), (62, .lstore_n 3, []), (63, .iinc 6 1, []), (66, .goto (-33), [33]), (69, .iinc 5 1, []), (72, .goto (-67), [5]), (75, .lload_n 3, []), (76, .lreturn, [])]
def h_63 : List (Nat × Nat) := [(5, 6), (33, 7)]
/-- LastStirred$Watch.<init>()V -/
def k_64 : List (Nat × Instr × List Nat) := [(0, .aload_n 0, []), (1, .invokespecial 3, [54]), (4, .aload_n 0, []), (5, .iconst 3, []), (6, .anewarray 9, [282]), (9, .dup, []), (10, .iconst 0, []), (11, .new 9, [0, 10, 282]), (14, .dup, []), (15, .invokespecial 11, [0, 0, 0, 55]), (18, .aastore, []), (19, .dup, []), (20, .iconst 1, []), (21, .new 9, [0, 10, 282]), (24, .dup, []), (25, .invokespecial 11, [0, 0, 0, 55]), (28, .aastore, []), (29, .dup, []), (30, .iconst 2, []), (31, .new 9, [0, 10, 282]), (34, .dup, []), (35, .invokespecial 11, [0, 0, 0, 55]), (38, .aastore, []), (39, .putfield 12, [5, 0, 2, 59]), (42, .return_, [])]
def h_64 : List (Nat × Nat) := []
/-- LastStirred$Watch.keepsAll(LLastStirred$Ground;LLastStirred$Flock;II)Z -/
def k_65 : List (Nat × Instr × List Nat) := [(0, .aload_n 0, []), (1, .getfield 12, [5, 0, 2, 59]), (4, .iconst 0, []), (5, .aaload, []), (6, .aload_n 2, []), (7, .invokevirtual 18, [3, 1, 0, 0, 56]), (10, .aload_n 0, []), (11, .iload 4, []), (13, .aload_n 0, []), (14, .getfield 12, [5, 0, 2, 59]), (17, .arraylength, []), (18, .iconst 1, []), (19, .isub, []), (20, .invokestatic 22, [57, 0, 0]), (23, .putfield 28, [5, 1, 0, 60]), (26, .aload_n 0, []), (27, .aload_n 2, []), (28, .invokevirtual 32, [14, 0, 1, 0, 58]), (31, .putfield 36, [5, 2, 0, 61]), (34, .aload_n 0, []), (35, .aload_n 1, []), (36, .iload_n 3, []), (37, .iconst 0, []), (38, .invokevirtual 39, [66, 3, 1, 5, 59]), (41, .ireturn, [1])]
def h_65 : List (Nat × Nat) := []
/-- LastStirred$Watch.shepherdKeeps(LLastStirred$Ground;II)Z -/
def k_66 : List (Nat × Instr × List Nat) := [(0, .iload_n 3, []), (1, .aload_n 0, []), (2, .getfield 28, [5, 1, 0, 60]), (5, .if_icmp .lt 5, [10]), (8, .iconst 1, []), (9, .ireturn, [1]), (10, .aload_n 0, []), (11, .getfield 12, [5, 0, 2, 59]), (14, .iload_n 3, []), (15, .iconst 1, []), (16, .iadd, []), (17, .aaload, []), (18, .astore 4, []), (20, .iconst (-1), []), (21, .istore 5, []), (23, .iload 5, []), (25, .aload_n 0, []), (26, .getfield 12, [5, 0, 2, 59]), (29, .iload_n 3, []), (30, .aaload, []), (31, .invokevirtual 43, [13, 0, 1, 0, 60]), (34, .if_icmp .ge 88, [122]), (37, .aload 4, []), (39, .aload_n 0, []), (40, .getfield 12, [5, 0, 2, 59]), (43, .iload_n 3, []), (44, .aaload, []), (45, .invokevirtual 18, [3, 1, 0, 0, 56]), (48, .iload 5, []), (50, .ifCond .lt 17, [67]), (53, .aload 4, []), (55, .aload_n 1, []), (56, .iload 5, []), (58, .invokevirtual 46, [29, 2, 1, 0, 61]), (61, .ifCond .ne 6, [67]), (64, .goto 52, [116]), (67, .aload 4, []), (69, .invokevirtual 32, [14, 0, 1, 0, 58]), (72, .aload_n 0, []), (73, .getfield 36, [5, 2, 0, 61]), (76, .if_icmp .gt 40, [116]), (79, .aload_n 0, []), (80, .aload_n 1, []), (81, .iload_n 2, []), (82, .iload_n 3, []), (83, .iconst 1, []), (84, .iadd, []), (85, .invokevirtual 50, [67, 3, 1, 5, 62]), (88, .ifCond .ne 6, [94]), (91, .goto 25, [116]), (94, .iload_n 3, []), (95, .ifCond .ne 19, [114]), (98, .aload_n 0, []), (99, .iload 5, []), (101, .ifCond .ge 8, [109]), (104, .bipush (-9), []), (106, .goto 5, [111]), (109, .iload 5, []), (111, .putfield 53, [5, 3, 0, 62]), (114, .iconst 1, []), (115, .ireturn, [1]), (116, .iinc 5 1, []), (119, .goto (-96), [23]), (122, .iconst 0, []), (123, .ireturn, [1])]
def h_66 : List (Nat × Nat) := [(23, 6)]
/-- LastStirred$Watch.wolfFails(LLastStirred$Ground;II)Z -/
def k_67 : List (Nat × Instr × List Nat) := [(0, .iconst (-1), []), (1, .istore 4, []), (3, .iload 4, []), (5, .iconst 4, []), (6, .if_icmp .ge 73, [79]), (9, .iload 4, []), (11, .ifCond .ge 7, [18]), (14, .iload_n 2, []), (15, .goto 10, [25]), (18, .aload_n 1, []), (19, .iload_n 2, []), (20, .iload 4, []), (22, .invokevirtual 56, [38, 2, 1, 1, 63]), (25, .istore 5, []), (27, .iload 5, []), (29, .bipush (-9), []), (31, .if_icmp .eq 42, [73]), (34, .aload_n 1, []), (35, .iload 5, []), (37, .invokevirtual 61, [36, 1, 1, 1, 64]), (40, .ifCond .ne 6, [46]), (43, .goto 30, [73]), (46, .aload_n 0, []), (47, .getfield 12, [5, 0, 2, 59]), (50, .iload_n 3, []), (51, .aaload, []), (52, .iload 5, []), (54, .invokevirtual 65, [7, 1, 1, 0, 65]), (57, .ifCond .ne 14, [71]), (60, .aload_n 0, []), (61, .aload_n 1, []), (62, .iload 5, []), (64, .iload_n 3, []), (65, .invokevirtual 39, [66, 3, 1, 5, 59]), (68, .ifCond .ne 5, [73]), (71, .iconst 0, []), (72, .ireturn, [1]), (73, .iinc 4 1, []), (76, .goto (-73), [3]), (79, .iconst 1, []), (80, .ireturn, [1])]
def h_67 : List (Nat × Nat) := [(3, 5)]
/-- LastStirred.<init>()V -/
def k_68 : List (Nat × Instr × List Nat) := [(0, .aload_n 0, []), (1, .invokespecial 1, [66]), (4, .aload_n 0, []), (5, .new 7, [4, 2, 104]), (8, .dup, []), (9, .bipush 6, []), (11, .bipush 60, []), (13, .multianewarray 9 2, [106]), (17, .invokespecial 11, [59, 1, 0, 67]), (20, .putfield 14, [6, 0, 2, 64]), (23, .aload_n 0, []), (24, .new 7, [4, 2, 104]), (27, .dup, []), (28, .iconst 4, []), (29, .bipush 80, []), (31, .multianewarray 9 2, [106]), (35, .invokespecial 11, [59, 1, 0, 67]), (38, .putfield 20, [6, 1, 2, 65]), (41, .aload_n 0, []), (42, .new 23, [2, 5, 125]), (45, .dup, []), (46, .invokespecial 25, [42, 0, 0, 68]), (49, .putfield 26, [6, 2, 2, 66]), (52, .aload_n 0, []), (53, .new 30, [1, 6, 229]), (56, .dup, []), (57, .invokespecial 32, [32, 0, 0, 69]), (60, .putfield 33, [6, 3, 2, 67]), (63, .aload_n 0, []), (64, .new 37, [0, 10, 231]), (67, .dup, []), (68, .invokespecial 39, [0, 0, 0, 70]), (71, .putfield 40, [6, 4, 2, 68]), (74, .aload_n 0, []), (75, .iconst 3, []), (76, .anewarray 37, [231]), (79, .dup, []), (80, .iconst 0, []), (81, .new 37, [0, 10, 231]), (84, .dup, []), (85, .invokespecial 39, [0, 0, 0, 70]), (88, .aastore, []), (89, .dup, []), (90, .iconst 1, []), (91, .new 37, [0, 10, 231]), (94, .dup, []), (95, .invokespecial 39, [0, 0, 0, 70]), (98, .aastore, []), (99, .dup, []), (100, .iconst 2, []), (101, .new 37, [0, 10, 231]), (104, .dup, []), (105, .invokespecial 39, [0, 0, 0, 70]), (108, .aastore, []), (109, .putfield 44, [6, 5, 2, 69]), (112, .aload_n 0, []), (113, .new 37, [0, 10, 231]), (116, .dup, []), (117, .invokespecial 39, [0, 0, 0, 70]), (120, .putfield 48, [6, 6, 2, 70]), (123, .aload_n 0, []), (124, .sipush 201, []), (127, .newarray .long, []), (129, .putfield 51, [6, 7, 2, 71]), (132, .aload_n 0, []), (133, .new 55, [3, 9, 234]), (136, .dup, []), (137, .invokespecial 57, [51, 0, 0, 71]), (140, .putfield 58, [6, 8, 2, 72]), (143, .aload_n 0, []), (144, .new 62, [5, 4, 276]), (147, .dup, []), (148, .invokespecial 64, [64, 0, 0, 72]), (151, .putfield 65, [6, 9, 2, 73]), (154, .aload_n 0, []), (155, .bipush 6, []), (157, .newarray .int, []), (159, .putfield 69, [6, 10, 2, 74]), (162, .aload_n 0, []), (163, .lconst 1, []), (164, .putfield 73, [6, 15, 1, 79]), (167, .return_, [])]
def h_68 : List (Nat × Nat) := []
/-- LastStirred.row(II)I -/
def k_69 : List (Nat × Instr × List Nat) := [(0, .aload_n 0, []), (1, .aload_n 0, []), (2, .getfield 14, [6, 0, 2, 64]), (5, .iload_n 1, []), (6, .iload_n 2, []), (7, .iconst 0, []), (8, .invokevirtual 77, [113, 4, 1, 6, 73]), (11, .ireturn, [0])]
def h_69 : List (Nat × Nat) := []
/-- LastStirred.lay(III)I -/
def k_70 : List (Nat × Instr × List Nat) := [(0, .aload_n 0, []), (1, .aload_n 0, []), (2, .getfield 14, [6, 0, 2, 64]), (5, .iload_n 1, []), (6, .iload_n 2, []), (7, .invokevirtual 81, [115, 3, 1, 6, 74]), (10, .istore 4, []), (12, .iload 4, []), (14, .ifCond .eq 6, [20]), (17, .iload 4, []), (19, .ireturn, [0]), (20, .aload_n 0, []), (21, .aload_n 0, []), (22, .getfield 14, [6, 0, 2, 64]), (25, .getfield 85, [4, 0, 2, 1]), (28, .iload_n 1, []), (29, .aaload, []), (30, .iload_n 2, []), (31, .iaload, []), (32, .putfield 88, [6, 13, 0, 77]), (35, .aload_n 0, []), (36, .getfield 14, [6, 0, 2, 64]), (39, .getfield 85, [4, 0, 2, 1]), (42, .iload_n 1, []), (43, .aaload, []), (44, .iload_n 2, []), (45, .iload_n 3, []), (46, .iastore, []), (47, .iconst 1, []), (48, .ireturn, [0])]
def h_70 : List (Nat × Nat) := []
/-- LastStirred.at(II)I -/
def k_71 : List (Nat × Instr × List Nat) := [(0, .aload_n 0, []), (1, .aload_n 0, []), (2, .getfield 14, [6, 0, 2, 64]), (5, .iload_n 1, []), (6, .iload_n 2, []), (7, .invokevirtual 81, [115, 3, 1, 6, 74]), (10, .istore_n 3, []), (11, .iload_n 3, []), (12, .ifCond .eq 5, [17]), (15, .iload_n 3, []), (16, .ireturn, [0]), (17, .aload_n 0, []), (18, .aload_n 0, []), (19, .getfield 14, [6, 0, 2, 64]), (22, .getfield 85, [4, 0, 2, 1]), (25, .iload_n 1, []), (26, .aaload, []), (27, .iload_n 2, []), (28, .iaload, []), (29, .putfield 88, [6, 13, 0, 77]), (32, .iconst 1, []), (33, .ireturn, [0])]
def h_71 : List (Nat × Nat) := []
/-- LastStirred.tear(I)I -/
def k_72 : List (Nat × Instr × List Nat) := [(0, .aload_n 0, []), (1, .aload_n 0, []), (2, .getfield 14, [6, 0, 2, 64]), (5, .iload_n 1, []), (6, .invokevirtual 92, [114, 2, 1, 6, 75]), (9, .istore_n 2, []), (10, .iload_n 2, []), (11, .ifCond .eq 5, [16]), (14, .iload_n 2, []), (15, .ireturn, [0]), (16, .aload_n 0, []), (17, .getfield 14, [6, 0, 2, 64]), (20, .getfield 96, [4, 1, 2, 3]), (23, .iload_n 1, []), (24, .iconst (-1), []), (25, .iastore, []), (26, .iconst 1, []), (27, .ireturn, [0])]
def h_72 : List (Nat × Nat) := []
/-- LastStirred.copy(IIIII)I -/
def k_73 : List (Nat × Instr × List Nat) := [(0, .aload_n 0, []), (1, .getfield 14, [6, 0, 2, 64]), (4, .iload_n 1, []), (5, .invokevirtual 99, [60, 1, 1, 4, 76]), (8, .ifCond .eq 14, [22]), (11, .aload_n 0, []), (12, .getfield 14, [6, 0, 2, 64]), (15, .iload_n 3, []), (16, .invokevirtual 99, [60, 1, 1, 4, 76]), (19, .ifCond .ne 5, [24]), (22, .iconst (-1), []), (23, .ireturn, [0]), (24, .iload 5, []), (26, .ifCond .ge 9, [35]), (29, .aload_n 0, []), (30, .iconst 5, []), (31, .invokevirtual 103, [112, 1, 1, 6, 77]), (34, .ireturn, [0]), (35, .aload_n 0, []), (36, .getfield 14, [6, 0, 2, 64]), (39, .getfield 96, [4, 1, 2, 3]), (42, .iload_n 1, []), (43, .iaload, []), (44, .iconst (-1), []), (45, .if_icmp .eq 16, [61]), (48, .aload_n 0, []), (49, .getfield 14, [6, 0, 2, 64]), (52, .getfield 96, [4, 1, 2, 3]), (55, .iload_n 3, []), (56, .iaload, []), (57, .iconst (-1), []), (58, .if_icmp .ne 9, [67]), (61, .aload_n 0, []), (62, .iconst 1, []), (63, .invokevirtual 103, [112, 1, 1, 6, 77]), (66, .ireturn, [0]), (67, .iload_n 2, []), (68, .iload 5, []), (70, .aload_n 0, []), (71, .getfield 14, [6, 0, 2, 64]), (74, .getfield 96, [4, 1, 2, 3]), (77, .iload_n 1, []), (78, .iaload, []), (79, .invokestatic 107, [117, 3, 1, 78]), (82, .ifCond .eq 22, [104]), (85, .iload 4, []), (87, .iload 5, []), (89, .aload_n 0, []), (90, .getfield 14, [6, 0, 2, 64]), (93, .getfield 96, [4, 1, 2, 3]), (96, .iload_n 3, []), (97, .iaload, []), (98, .invokestatic 107, [117, 3, 1, 78]), (101, .ifCond .ne 9, [110]), (104, .aload_n 0, []), (105, .iconst 2, []), (106, .invokevirtual 103, [112, 1, 1, 6, 77]), (109, .ireturn, [0]), (110, .aload_n 0, []), (111, .getfield 14, [6, 0, 2, 64]), (114, .getfield 85, [4, 0, 2, 1]), (117, .iload_n 1, []), (118, .aaload, []), (119, .iload_n 2, []), (120, .aload_n 0, []), (121, .getfield 14, [6, 0, 2, 64]), (124, .getfield 85, [4, 0, 2, 1]), (127, .iload_n 3, []), (128, .aaload, []), (129, .iload 4, []), (131, .iload 5, []), (133, .invokestatic 111, [79]), (136, .iconst 1, []), (137, .ireturn, [0])]
def h_73 : List (Nat × Nat) := []
/-- LastStirred.mean(I)I -/
def k_74 : List (Nat × Instr × List Nat) := [(0, .aload_n 0, []), (1, .aload_n 0, []), (2, .getfield 14, [6, 0, 2, 64]), (5, .iload_n 1, []), (6, .invokevirtual 92, [114, 2, 1, 6, 75]), (9, .istore_n 2, []), (10, .iload_n 2, []), (11, .ifCond .eq 5, [16]), (14, .iload_n 2, []), (15, .ireturn, [0]), (16, .aload_n 0, []), (17, .getfield 14, [6, 0, 2, 64]), (20, .getfield 96, [4, 1, 2, 3]), (23, .iload_n 1, []), (24, .iaload, []), (25, .istore_n 3, []), (26, .iload_n 3, []), (27, .ifCond .ne 9, [36]), (30, .aload_n 0, []), (31, .iconst 4, []), (32, .invokevirtual 103, [112, 1, 1, 6, 77]), (35, .ireturn, [0]), (36, .lconst 0, []), (37, .lstore 4, []), (39, .iconst 0, []), (40, .istore 6, []), (42, .iload 6, []), (44, .iload_n 3, []), (45, .if_icmp .ge 27, [72]), (48, .lload 4, []), (50, .aload_n 0, []), (51, .getfield 14, [6, 0, 2, 64]), (54, .getfield 85, [4, 0, 2, 1]), (57, .iload_n 1, []), (58, .aaload, []), (59, .iload 6, []), (61, .iaload, []), (62, .i2l, []), (63, .ladd, []), (64, .lstore 4, []), (66, .iinc 6 1, []), (69, .goto (-27), [42]), (72, .aload_n 0, []), (73, .lload 4, []), (75, .iload_n 3, []), (76, .i2l, []), (77, .ldiv, []), (78, .l2i, []), (79, .putfield 88, [6, 13, 0, 77]), (82, .iconst 1, []), (83, .ireturn, [0])]
def h_74 : List (Nat × Nat) := [(42, 7)]
/-- LastStirred.text(II)I -/
def k_75 : List (Nat × Instr × List Nat) := [(0, .aload_n 0, []), (1, .aload_n 0, []), (2, .getfield 20, [6, 1, 2, 65]), (5, .iload_n 1, []), (6, .iload_n 2, []), (7, .bipush 32, []), (9, .invokevirtual 77, [113, 4, 1, 6, 73]), (12, .ireturn, [0])]
def h_75 : List (Nat × Nat) := []
/-- LastStirred.put(III)I -/
def k_76 : List (Nat × Instr × List Nat) := [(0, .aload_n 0, []), (1, .aload_n 0, []), (2, .getfield 20, [6, 1, 2, 65]), (5, .iload_n 1, []), (6, .iload_n 2, []), (7, .invokevirtual 81, [115, 3, 1, 6, 74]), (10, .istore 4, []), (12, .iload 4, []), (14, .ifCond .eq 6, [20]), (17, .iload 4, []), (19, .ireturn, [0]), (20, .aload_n 0, []), (21, .getfield 20, [6, 1, 2, 65]), (24, .getfield 85, [4, 0, 2, 1]), (27, .iload_n 1, []), (28, .aaload, []), (29, .iload_n 2, []), (30, .iaload, []), (31, .istore 5, []), (33, .aload_n 0, []), (34, .getfield 20, [6, 1, 2, 65]), (37, .getfield 85, [4, 0, 2, 1]), (40, .iload_n 1, []), (41, .aaload, []), (42, .iload_n 2, []), (43, .iload_n 3, []), (44, .i2b, []), (45, .iastore, []), (46, .iload 5, []), (48, .sipush 1000, []), (51, .iadd, []), (52, .ireturn, [0])]
def h_76 : List (Nat × Nat) := []
/-- LastStirred.fault(I)I -/
def k_77 : List (Nat × Instr × List Nat) := [(0, .aload_n 0, []), (1, .aload_n 0, []), (2, .getfield 20, [6, 1, 2, 65]), (5, .iload_n 1, []), (6, .invokevirtual 92, [114, 2, 1, 6, 75]), (9, .istore_n 2, []), (10, .iload_n 2, []), (11, .ifCond .eq 5, [16]), (14, .iload_n 2, []), (15, .ireturn, [0]), (16, .aload_n 0, []), (17, .getfield 26, [6, 2, 2, 66]), (20, .aload_n 0, []), (21, .getfield 20, [6, 1, 2, 65]), (24, .getfield 85, [4, 0, 2, 1]), (27, .iload_n 1, []), (28, .aaload, []), (29, .aload_n 0, []), (30, .getfield 20, [6, 1, 2, 65]), (33, .getfield 96, [4, 1, 2, 3]), (36, .iload_n 1, []), (37, .iaload, []), (38, .invokevirtual 117, [43, 2, 1, 2, 80]), (41, .ireturn, [0])]
def h_77 : List (Nat × Nat) := []
/-- LastStirred.ground(I)I -/
def k_78 : List (Nat × Instr × List Nat) := [(0, .aload_n 0, []), (1, .aload_n 0, []), (2, .getfield 20, [6, 1, 2, 65]), (5, .iload_n 1, []), (6, .invokevirtual 92, [114, 2, 1, 6, 75]), (9, .istore_n 2, []), (10, .iload_n 2, []), (11, .ifCond .eq 5, [16]), (14, .iload_n 2, []), (15, .ireturn, [0]), (16, .aload_n 0, []), (17, .getfield 26, [6, 2, 2, 66]), (20, .aload_n 0, []), (21, .getfield 20, [6, 1, 2, 65]), (24, .getfield 85, [4, 0, 2, 1]), (27, .iload_n 1, []), (28, .aaload, []), (29, .aload_n 0, []), (30, .getfield 20, [6, 1, 2, 65]), (33, .getfield 96, [4, 1, 2, 3]), (36, .iload_n 1, []), (37, .iaload, []), (38, .invokevirtual 117, [43, 2, 1, 2, 80]), (41, .bipush (-9), []), (43, .if_icmp .eq 6, [49]), (46, .bipush (-4), []), (48, .ireturn, [0]), (49, .aload_n 0, []), (50, .getfield 33, [6, 3, 2, 67]), (53, .aload_n 0, []), (54, .getfield 26, [6, 2, 2, 66]), (57, .getfield 121, [2, 0, 2, 39]), (60, .invokevirtual 122, [34, 1, 0, 1, 81]), (63, .aload_n 0, []), (64, .getfield 40, [6, 4, 2, 68]), (67, .aload_n 0, []), (68, .getfield 26, [6, 2, 2, 66]), (71, .getfield 126, [2, 1, 2, 41]), (74, .invokevirtual 127, [3, 1, 0, 0, 82]), (77, .aload_n 0, []), (78, .iconst 0, []), (79, .putfield 130, [6, 11, 0, 75]), (82, .aload_n 0, []), (83, .getfield 40, [6, 4, 2, 68]), (86, .getfield 133, [0, 3, 0, 26]), (89, .ireturn, [0])]
def h_78 : List (Nat × Nat) := []
/-- LastStirred.cell(I)I -/
def k_79 : List (Nat × Instr × List Nat) := [(0, .aload_n 0, []), (1, .getfield 33, [6, 3, 2, 67]), (4, .iload_n 1, []), (5, .invokevirtual 135, [35, 1, 1, 1, 83]), (8, .ifCond .ne 5, [13]), (11, .iconst (-1), []), (12, .ireturn, [0]), (13, .aload_n 0, []), (14, .aload_n 0, []), (15, .getfield 40, [6, 4, 2, 68]), (18, .iload_n 1, []), (19, .invokevirtual 136, [8, 1, 1, 0, 84]), (22, .putfield 88, [6, 13, 0, 77]), (25, .aload_n 0, []), (26, .getfield 33, [6, 3, 2, 67]), (29, .getfield 139, [1, 0, 2, 6]), (32, .iload_n 1, []), (33, .iaload, []), (34, .ireturn, [0])]
def h_79 : List (Nat × Nat) := []
/-- LastStirred.build(II)I -/
def k_80 : List (Nat × Instr × List Nat) := [(0, .aload_n 0, []), (1, .getfield 33, [6, 3, 2, 67]), (4, .iload_n 1, []), (5, .invokevirtual 135, [35, 1, 1, 1, 83]), (8, .ifCond .eq 12, [20]), (11, .iload_n 2, []), (12, .ifCond .lt 8, [20]), (15, .iload_n 2, []), (16, .iconst 4, []), (17, .if_icmp .le 5, [22]), (20, .iconst (-1), []), (21, .ireturn, [0]), (22, .aload_n 0, []), (23, .getfield 40, [6, 4, 2, 68]), (26, .iload_n 1, []), (27, .invokevirtual 142, [7, 1, 1, 0, 85]), (30, .ifCond .eq 16, [46]), (33, .iload_n 2, []), (34, .iconst 1, []), (35, .if_icmp .eq 8, [43]), (38, .iload_n 2, []), (39, .iconst 2, []), (40, .if_icmp .ne 6, [46]), (43, .bipush (-4), []), (45, .ireturn, [0]), (46, .aload_n 0, []), (47, .getfield 33, [6, 3, 2, 67]), (50, .getfield 139, [1, 0, 2, 6]), (53, .iload_n 1, []), (54, .iaload, []), (55, .istore_n 3, []), (56, .aload_n 0, []), (57, .getfield 33, [6, 3, 2, 67]), (60, .getfield 139, [1, 0, 2, 6]), (63, .iload_n 1, []), (64, .iload_n 2, []), (65, .iastore, []), (66, .iload_n 3, []), (67, .ireturn, [0])]
def h_80 : List (Nat × Nat) := []
/-- LastStirred.beast(II)I -/
def k_81 : List (Nat × Instr × List Nat) := [(0, .aload_n 0, []), (1, .getfield 40, [6, 4, 2, 68]), (4, .iload_n 1, []), (5, .invokevirtual 145, [5, 1, 1, 0, 86]), (8, .ifCond .eq 12, [20]), (11, .iload_n 2, []), (12, .ifCond .lt 8, [20]), (15, .iload_n 2, []), (16, .iconst 2, []), (17, .if_icmp .le 5, [22]), (20, .iconst (-1), []), (21, .ireturn, [0]), (22, .aload_n 0, []), (23, .aload_n 0, []), (24, .getfield 40, [6, 4, 2, 68]), (27, .iload_n 1, []), (28, .iload_n 2, []), (29, .invokevirtual 146, [12, 2, 1, 0, 87]), (32, .putfield 88, [6, 13, 0, 77]), (35, .iconst 1, []), (36, .ireturn, [0])]
def h_81 : List (Nat × Nat) := []
/-- LastStirred.mark(II)I -/
def k_82 : List (Nat × Instr × List Nat) := [(0, .aload_n 0, []), (1, .getfield 40, [6, 4, 2, 68]), (4, .iload_n 1, []), (5, .invokevirtual 145, [5, 1, 1, 0, 86]), (8, .ifCond .eq 13, [21]), (11, .iload_n 2, []), (12, .iconst 1, []), (13, .if_icmp .lt 8, [21]), (16, .iload_n 2, []), (17, .iconst 5, []), (18, .if_icmp .le 5, [23]), (21, .iconst (-1), []), (22, .ireturn, [0]), (23, .aload_n 0, []), (24, .getfield 40, [6, 4, 2, 68]), (27, .iload_n 1, []), (28, .iload_n 2, []), (29, .invokevirtual 150, [9, 2, 1, 0, 88]), (32, .ifCond .ne 9, [41]), (35, .aload_n 0, []), (36, .iconst 3, []), (37, .invokevirtual 103, [112, 1, 1, 6, 77]), (40, .ireturn, [0]), (41, .iload_n 2, []), (42, .tableswitch 64 1 4 #[30, 36, 46, 55], [106, 72, 78, 88, 97]), (72, .aload_n 0, []), (73, .iload_n 1, []), (74, .invokevirtual 154, [121, 1, 1, 6, 89]), (77, .ireturn, [0]), (78, .aload_n 0, []), (79, .getfield 40, [6, 4, 2, 68]), (82, .getfield 157, [0, 8, 0, 36]), (85, .iconst 1, []), (86, .iand, []), (87, .ireturn, [0]), (88, .aload_n 0, []), (89, .getfield 40, [6, 4, 2, 68]), (92, .iload_n 1, []), (93, .invokevirtual 160, [21, 1, 1, 0, 90]), (96, .ireturn, [0]), (97, .aload_n 0, []), (98, .getfield 33, [6, 3, 2, 67]), (101, .iconst 4, []), (102, .invokevirtual 163, [39, 1, 1, 1, 91]), (105, .ireturn, [0]), (106, .aload_n 0, []), (107, .iload_n 1, []), (108, .invokevirtual 166, [122, 1, 1, 6, 92]), (111, .ireturn, [0])]
def h_82 : List (Nat × Nat) := []
/-- LastStirred.last()I -/
def k_83 : List (Nat × Instr × List Nat) := [(0, .aload_n 0, []), (1, .aload_n 0, []), (2, .getfield 40, [6, 4, 2, 68]), (5, .getfield 169, [0, 5, 0, 30]), (8, .putfield 88, [6, 13, 0, 77]), (11, .aload_n 0, []), (12, .getfield 40, [6, 4, 2, 68]), (15, .getfield 172, [0, 4, 0, 28]), (18, .ireturn, [0])]
def h_83 : List (Nat × Nat) := []
/-- LastStirred.stir(II)I -/
def k_84 : List (Nat × Instr × List Nat) := [(0, .aload_n 0, []), (1, .getfield 40, [6, 4, 2, 68]), (4, .iload_n 1, []), (5, .invokevirtual 145, [5, 1, 1, 0, 86]), (8, .ifCond .eq 10, [18]), (11, .iload_n 2, []), (12, .invokestatic 175, [118, 1, 1, 93]), (15, .ifCond .ne 5, [20]), (18, .iconst (-1), []), (19, .ireturn, [0]), (20, .aload_n 0, []), (21, .getfield 40, [6, 4, 2, 68]), (24, .aload_n 0, []), (25, .getfield 33, [6, 3, 2, 67]), (28, .iload_n 1, []), (29, .iload_n 2, []), (30, .invokevirtual 178, [25, 3, 1, 0, 94]), (33, .istore_n 3, []), (34, .iload_n 3, []), (35, .bipush (-9), []), (37, .if_icmp .ne 8, [45]), (40, .bipush (-4), []), (42, .goto 4, [46]), (45, .iload_n 3, []), (46, .ireturn, [0])]
def h_84 : List (Nat × Nat) := []
/-- LastStirred.go(I)I -/
def k_85 : List (Nat × Instr × List Nat) := [(0, .iload_n 1, []), (1, .ifCond .lt 9, [10]), (4, .iload_n 1, []), (5, .bipush 40, []), (7, .if_icmp .le 5, [12]), (10, .iconst (-1), []), (11, .ireturn, [0]), (12, .aload_n 0, []), (13, .getfield 33, [6, 3, 2, 67]), (16, .getfield 182, [1, 5, 0, 18]), (19, .ifCond .ne 6, [25]), (22, .bipush (-4), []), (24, .ireturn, [0]), (25, .aload_n 0, []), (26, .getfield 40, [6, 4, 2, 68]), (29, .getfield 157, [0, 8, 0, 36]), (32, .iload_n 1, []), (33, .iadd, []), (34, .sipush 10000, []), (37, .if_icmp .le 6, [43]), (40, .bipush (-6), []), (42, .ireturn, [0]), (43, .iconst 0, []), (44, .istore_n 2, []), (45, .iconst 0, []), (46, .istore_n 3, []), (47, .iload_n 3, []), (48, .iload_n 1, []), (49, .if_icmp .ge 21, [70]), (52, .aload_n 0, []), (53, .getfield 40, [6, 4, 2, 68]), (56, .aload_n 0, []), (57, .getfield 33, [6, 3, 2, 67]), (60, .invokevirtual 183, [26, 1, 1, 0, 95]), (63, .istore_n 2, []), (64, .iinc 3 1, []), (67, .goto (-20), [47]), (70, .iload_n 2, []), (71, .ireturn, [0])]
def h_85 : List (Nat × Nat) := [(47, 4)]
/-- LastStirred.run()I -/
def k_86 : List (Nat × Instr × List Nat) := [(0, .aload_n 0, []), (1, .getfield 33, [6, 3, 2, 67]), (4, .getfield 182, [1, 5, 0, 18]), (7, .ifCond .ne 6, [13]), (10, .bipush (-4), []), (12, .ireturn, [0]), (13, .aload_n 0, []), (14, .getfield 40, [6, 4, 2, 68]), (17, .getfield 157, [0, 8, 0, 36]), (20, .sipush 9960, []), (23, .if_icmp .le 6, [29]), (26, .bipush (-6), []), (28, .ireturn, [0]), (29, .aload_n 0, []), (30, .getfield 40, [6, 4, 2, 68]), (33, .getfield 157, [0, 8, 0, 36]), (36, .istore_n 1, []), (37, .aload_n 0, []), (38, .aload_n 0, []), (39, .getfield 40, [6, 4, 2, 68]), (42, .aload_n 0, []), (43, .getfield 33, [6, 3, 2, 67]), (46, .invokevirtual 187, [28, 1, 1, 0, 96]), (49, .ifCond .eq 7, [56]), (52, .iconst 1, []), (53, .goto 4, [57]), (56, .iconst 0, []), (57, .putfield 88, [6, 13, 0, 77]), (60, .aload_n 0, []), (61, .getfield 40, [6, 4, 2, 68]), (64, .getfield 157, [0, 8, 0, 36]), (67, .iload_n 1, []), (68, .isub, []), (69, .ireturn, [0])]
def h_86 : List (Nat × Nat) := []
/-- LastStirred.ring()I -/
def k_87 : List (Nat × Instr × List Nat) := [(0, .aload_n 0, []), (1, .getfield 33, [6, 3, 2, 67]), (4, .getfield 182, [1, 5, 0, 18]), (7, .ifCond .ne 6, [13]), (10, .bipush (-4), []), (12, .ireturn, [0]), (13, .aload_n 0, []), (14, .getfield 48, [6, 6, 2, 70]), (17, .aload_n 0, []), (18, .getfield 40, [6, 4, 2, 68]), (21, .invokevirtual 127, [3, 1, 0, 0, 82]), (24, .iconst 0, []), (25, .istore_n 1, []), (26, .iload_n 1, []), (27, .sipush 200, []), (30, .if_icmp .gt 72, [102]), (33, .aload_n 0, []), (34, .getfield 51, [6, 7, 2, 71]), (37, .iload_n 1, []), (38, .aload_n 0, []), (39, .getfield 48, [6, 6, 2, 70]), (42, .invokevirtual 191, [19, 0, 2, 0, 97]), (45, .lastore, []), (46, .iconst 0, []), (47, .istore_n 2, []), (48, .iload_n 2, []), (49, .iload_n 1, []), (50, .if_icmp .ge 34, [84]), (53, .aload_n 0, []), (54, .getfield 51, [6, 7, 2, 71]), (57, .iload_n 2, []), (58, .laload, []), (59, .aload_n 0, []), (60, .getfield 51, [6, 7, 2, 71]), (63, .iload_n 1, []), (64, .laload, []), (65, .lcmp, []), (66, .ifCond .ne 12, [78]), (69, .aload_n 0, []), (70, .iload_n 1, []), (71, .iload_n 2, []), (72, .isub, []), (73, .putfield 88, [6, 13, 0, 77]), (76, .iload_n 1, []), (77, .ireturn, [0]), (78, .iinc 2 1, []), (81, .goto (-33), [48]), (84, .aload_n 0, []), (85, .getfield 48, [6, 6, 2, 70]), (88, .aload_n 0, []), (89, .getfield 33, [6, 3, 2, 67]), (92, .invokevirtual 183, [26, 1, 1, 0, 95]), (95, .pop, []), (96, .iinc 1 1, []), (99, .goto (-73), [26]), (102, .bipush (-9), []), (104, .ireturn, [0])]
def h_87 : List (Nat × Nat) := [(26, 2), (48, 3)]
/-- LastStirred.where(I)I -/
def k_88 : List (Nat × Instr × List Nat) := [(0, .aload_n 0, []), (1, .getfield 14, [6, 0, 2, 64]), (4, .iload_n 1, []), (5, .invokevirtual 99, [60, 1, 1, 4, 76]), (8, .ifCond .ne 5, [13]), (11, .iconst (-1), []), (12, .ireturn, [0]), (13, .aload_n 0, []), (14, .getfield 14, [6, 0, 2, 64]), (17, .iload_n 1, []), (18, .aload_n 0, []), (19, .getfield 40, [6, 4, 2, 68]), (22, .getfield 133, [0, 3, 0, 26]), (25, .iconst 0, []), (26, .invokevirtual 195, [61, 3, 0, 4, 98]), (29, .iconst 0, []), (30, .istore_n 2, []), (31, .iload_n 2, []), (32, .aload_n 0, []), (33, .getfield 40, [6, 4, 2, 68]), (36, .getfield 133, [0, 3, 0, 26]), (39, .if_icmp .ge 29, [68]), (42, .aload_n 0, []), (43, .getfield 14, [6, 0, 2, 64]), (46, .getfield 85, [4, 0, 2, 1]), (49, .iload_n 1, []), (50, .aaload, []), (51, .iload_n 2, []), (52, .aload_n 0, []), (53, .getfield 40, [6, 4, 2, 68]), (56, .getfield 199, [0, 1, 2, 22]), (59, .iload_n 2, []), (60, .iaload, []), (61, .iastore, []), (62, .iinc 2 1, []), (65, .goto (-34), [31]), (68, .aload_n 0, []), (69, .getfield 40, [6, 4, 2, 68]), (72, .invokevirtual 202, [14, 0, 1, 0, 99]), (75, .ireturn, [0])]
def h_88 : List (Nat × Nat) := [(31, 3)]
/-- LastStirred.apart()I -/
def k_89 : List (Nat × Instr × List Nat) := [(0, .aload_n 0, []), (1, .getfield 40, [6, 4, 2, 68]), (4, .aload_n 0, []), (5, .getfield 33, [6, 3, 2, 67]), (8, .invokevirtual 206, [16, 1, 1, 0, 100]), (11, .ireturn, [0])]
def h_89 : List (Nat × Nat) := []
/-- LastStirred.keep(I)I -/
def k_90 : List (Nat × Instr × List Nat) := [(0, .aload_n 0, []), (1, .iload_n 1, []), (2, .invokevirtual 209, [119, 1, 1, 6, 101]), (5, .ifCond .ne 5, [10]), (8, .iconst (-1), []), (9, .ireturn, [0]), (10, .aload_n 0, []), (11, .getfield 33, [6, 3, 2, 67]), (14, .getfield 182, [1, 5, 0, 18]), (17, .ifCond .ne 6, [23]), (20, .bipush (-4), []), (22, .ireturn, [0]), (23, .aload_n 0, []), (24, .getfield 44, [6, 5, 2, 69]), (27, .iload_n 1, []), (28, .aaload, []), (29, .aload_n 0, []), (30, .getfield 40, [6, 4, 2, 68]), (33, .invokevirtual 127, [3, 1, 0, 0, 82]), (36, .aload_n 0, []), (37, .dup, []), (38, .getfield 130, [6, 11, 0, 75]), (41, .iconst 1, []), (42, .iload_n 1, []), (43, .ishl, []), (44, .ior, []), (45, .putfield 130, [6, 11, 0, 75]), (48, .aload_n 0, []), (49, .getfield 40, [6, 4, 2, 68]), (52, .getfield 157, [0, 8, 0, 36]), (55, .ireturn, [0])]
def h_90 : List (Nat × Nat) := []
/-- LastStirred.on(I)I -/
def k_91 : List (Nat × Instr × List Nat) := [(0, .aload_n 0, []), (1, .iload_n 1, []), (2, .invokevirtual 209, [119, 1, 1, 6, 101]), (5, .ifCond .ne 5, [10]), (8, .iconst (-1), []), (9, .ireturn, [0]), (10, .aload_n 0, []), (11, .iload_n 1, []), (12, .invokevirtual 212, [120, 1, 1, 6, 102]), (15, .ifCond .ne 9, [24]), (18, .aload_n 0, []), (19, .iconst 1, []), (20, .invokevirtual 103, [112, 1, 1, 6, 77]), (23, .ireturn, [0]), (24, .aload_n 0, []), (25, .getfield 40, [6, 4, 2, 68]), (28, .aload_n 0, []), (29, .getfield 44, [6, 5, 2, 69]), (32, .iload_n 1, []), (33, .aaload, []), (34, .invokevirtual 127, [3, 1, 0, 0, 82]), (37, .aload_n 0, []), (38, .getfield 40, [6, 4, 2, 68]), (41, .getfield 157, [0, 8, 0, 36]), (44, .ireturn, [0])]
def h_91 : List (Nat × Nat) := []
/-- LastStirred.fewest()I -/
def k_92 : List (Nat × Instr × List Nat) := [(0, .aload_n 0, []), (1, .getfield 33, [6, 3, 2, 67]), (4, .getfield 182, [1, 5, 0, 18]), (7, .ifCond .ne 6, [13]), (10, .bipush (-4), []), (12, .ireturn, [0]), (13, .aload_n 0, []), (14, .getfield 58, [6, 8, 2, 72]), (17, .invokevirtual 215, [52, 0, 0, 3, 103]), (20, .aload_n 0, []), (21, .getfield 58, [6, 8, 2, 72]), (24, .aload_n 0, []), (25, .getfield 33, [6, 3, 2, 67]), (28, .aload_n 0, []), (29, .getfield 40, [6, 4, 2, 68]), (32, .iconst 3, []), (33, .invokevirtual 218, [54, 3, 1, 3, 104]), (36, .istore_n 1, []), (37, .iload_n 1, []), (38, .bipush (-9), []), (40, .if_icmp .eq 14, [54]), (43, .aload_n 0, []), (44, .aload_n 0, []), (45, .getfield 58, [6, 8, 2, 72]), (48, .getfield 222, [3, 6, 0, 54]), (51, .putfield 88, [6, 13, 0, 77]), (54, .iload_n 1, []), (55, .ireturn, [0])]
def h_92 : List (Nat × Nat) := []
/-- LastStirred.ways(I)I -/
def k_93 : List (Nat × Instr × List Nat) := [(0, .iload_n 1, []), (1, .iconst 1, []), (2, .if_icmp .lt 8, [10]), (5, .iload_n 1, []), (6, .iconst 2, []), (7, .if_icmp .le 5, [12]), (10, .iconst (-1), []), (11, .ireturn, [0]), (12, .aload_n 0, []), (13, .getfield 58, [6, 8, 2, 72]), (16, .invokevirtual 215, [52, 0, 0, 3, 103]), (19, .aload_n 0, []), (20, .getfield 58, [6, 8, 2, 72]), (23, .aload_n 0, []), (24, .getfield 33, [6, 3, 2, 67]), (27, .aload_n 0, []), (28, .getfield 40, [6, 4, 2, 68]), (31, .iload_n 1, []), (32, .invokevirtual 225, [55, 3, 0, 3, 105]), (35, .aload_n 0, []), (36, .getfield 58, [6, 8, 2, 72]), (39, .getfield 229, [3, 4, 0, 50]), (42, .ifCond .ne 9, [51]), (45, .aload_n 0, []), (46, .iconst 4, []), (47, .invokevirtual 103, [112, 1, 1, 6, 77]), (50, .ireturn, [0]), (51, .aload_n 0, []), (52, .aload_n 0, []), (53, .getfield 58, [6, 8, 2, 72]), (56, .getfield 231, [3, 5, 0, 52]), (59, .aload_n 0, []), (60, .getfield 58, [6, 8, 2, 72]), (63, .getfield 229, [3, 4, 0, 50]), (66, .invokevirtual 234, [124, 2, 0, 6, 106]), (69, .aload_n 0, []), (70, .getfield 58, [6, 8, 2, 72]), (73, .getfield 231, [3, 5, 0, 52]), (76, .ireturn, [0])]
def h_93 : List (Nat × Nat) := []
/-- LastStirred.gather()I -/
def k_94 : List (Nat × Instr × List Nat) := [(0, .bipush (-9), []), (2, .istore_n 1, []), (3, .iconst 0, []), (4, .istore_n 2, []), (5, .aload_n 0, []), (6, .getfield 40, [6, 4, 2, 68]), (9, .invokevirtual 202, [14, 0, 1, 0, 99]), (12, .istore_n 3, []), (13, .iconst 0, []), (14, .istore 4, []), (16, .iload 4, []), (18, .aload_n 0, []), (19, .getfield 40, [6, 4, 2, 68]), (22, .invokevirtual 238, [13, 0, 1, 0, 107]), (25, .if_icmp .ge 63, [88]), (28, .aload_n 0, []), (29, .iload 4, []), (31, .invokevirtual 241, [123, 1, 1, 6, 108]), (34, .ifCond .eq 48, [82]), (37, .aload_n 0, []), (38, .getfield 48, [6, 6, 2, 70]), (41, .invokevirtual 202, [14, 0, 1, 0, 99]), (44, .iload_n 3, []), (45, .if_icmp .le 6, [51]), (48, .goto 34, [82]), (51, .aload_n 0, []), (52, .getfield 48, [6, 6, 2, 70]), (55, .aload_n 0, []), (56, .getfield 33, [6, 3, 2, 67]), (59, .invokevirtual 206, [16, 1, 1, 0, 100]), (62, .istore 5, []), (64, .iload_n 1, []), (65, .bipush (-9), []), (67, .if_icmp .eq 9, [76]), (70, .iload 5, []), (72, .iload_n 2, []), (73, .if_icmp .ge 9, [82]), (76, .iload 4, []), (78, .istore_n 1, []), (79, .iload 5, []), (81, .istore_n 2, []), (82, .iinc 4 1, []), (85, .goto (-69), [16]), (88, .iload_n 1, []), (89, .bipush (-9), []), (91, .if_icmp .eq 8, [99]), (94, .aload_n 0, []), (95, .iload_n 2, []), (96, .putfield 88, [6, 13, 0, 77]), (99, .iload_n 1, []), (100, .ireturn, [0])]
def h_94 : List (Nat × Nat) := [(16, 5)]
/-- LastStirred.part(II)I -/
def k_95 : List (Nat × Instr × List Nat) := [(0, .aload_n 0, []), (1, .getfield 40, [6, 4, 2, 68]), (4, .iload_n 1, []), (5, .invokevirtual 145, [5, 1, 1, 0, 86]), (8, .ifCond .eq 19, [27]), (11, .aload_n 0, []), (12, .getfield 40, [6, 4, 2, 68]), (15, .iload_n 2, []), (16, .invokevirtual 145, [5, 1, 1, 0, 86]), (19, .ifCond .eq 8, [27]), (22, .iload_n 1, []), (23, .iload_n 2, []), (24, .if_icmp .ne 5, [29]), (27, .iconst (-1), []), (28, .ireturn, [0]), (29, .bipush (-9), []), (31, .istore_n 3, []), (32, .iconst 0, []), (33, .istore 4, []), (35, .iconst 0, []), (36, .istore 5, []), (38, .iload 5, []), (40, .aload_n 0, []), (41, .getfield 40, [6, 4, 2, 68]), (44, .invokevirtual 238, [13, 0, 1, 0, 107]), (47, .if_icmp .ge 90, [137]), (50, .aload_n 0, []), (51, .iload 5, []), (53, .invokevirtual 241, [123, 1, 1, 6, 108]), (56, .ifCond .eq 75, [131]), (59, .aload_n 0, []), (60, .getfield 48, [6, 6, 2, 70]), (63, .iload_n 1, []), (64, .invokevirtual 244, [6, 1, 1, 0, 109]), (67, .ifCond .ne 64, [131]), (70, .aload_n 0, []), (71, .getfield 48, [6, 6, 2, 70]), (74, .iload_n 2, []), (75, .invokevirtual 244, [6, 1, 1, 0, 109]), (78, .ifCond .eq 6, [84]), (81, .goto 50, [131]), (84, .aload_n 0, []), (85, .getfield 33, [6, 3, 2, 67]), (88, .aload_n 0, []), (89, .getfield 48, [6, 6, 2, 70]), (92, .getfield 199, [0, 1, 2, 22]), (95, .iload_n 1, []), (96, .iaload, []), (97, .aload_n 0, []), (98, .getfield 48, [6, 6, 2, 70]), (101, .getfield 199, [0, 1, 2, 22]), (104, .iload_n 2, []), (105, .iaload, []), (106, .invokevirtual 247, [37, 2, 1, 1, 110]), (109, .istore 6, []), (111, .iload_n 3, []), (112, .bipush (-9), []), (114, .if_icmp .eq 10, [124]), (117, .iload 6, []), (119, .iload 4, []), (121, .if_icmp .le 10, [131]), (124, .iload 5, []), (126, .istore_n 3, []), (127, .iload 6, []), (129, .istore 4, []), (131, .iinc 5 1, []), (134, .goto (-96), [38]), (137, .iload_n 3, []), (138, .bipush (-9), []), (140, .if_icmp .eq 9, [149]), (143, .aload_n 0, []), (144, .iload 4, []), (146, .putfield 88, [6, 13, 0, 77]), (149, .iload_n 3, []), (150, .ireturn, [0])]
def h_95 : List (Nat × Nat) := [(38, 6)]
/-- LastStirred.worth(II)I -/
def k_96 : List (Nat × Instr × List Nat) := [(0, .aload_n 0, []), (1, .getfield 40, [6, 4, 2, 68]), (4, .iload_n 1, []), (5, .invokevirtual 145, [5, 1, 1, 0, 86]), (8, .ifCond .eq 10, [18]), (11, .iload_n 2, []), (12, .invokestatic 175, [118, 1, 1, 93]), (15, .ifCond .ne 5, [20]), (18, .iconst (-1), []), (19, .ireturn, [0]), (20, .aload_n 0, []), (21, .getfield 48, [6, 6, 2, 70]), (24, .aload_n 0, []), (25, .getfield 40, [6, 4, 2, 68]), (28, .invokevirtual 127, [3, 1, 0, 0, 82]), (31, .aload_n 0, []), (32, .getfield 48, [6, 6, 2, 70]), (35, .aload_n 0, []), (36, .getfield 33, [6, 3, 2, 67]), (39, .iload_n 1, []), (40, .iload_n 2, []), (41, .invokevirtual 178, [25, 3, 1, 0, 94]), (44, .bipush (-9), []), (46, .if_icmp .ne 6, [52]), (49, .bipush (-4), []), (51, .ireturn, [0]), (52, .aload_n 0, []), (53, .getfield 48, [6, 6, 2, 70]), (56, .invokevirtual 250, [4, 0, 0, 0, 111]), (59, .aload_n 0, []), (60, .getfield 48, [6, 6, 2, 70]), (63, .aload_n 0, []), (64, .getfield 33, [6, 3, 2, 67]), (67, .invokevirtual 187, [28, 1, 1, 0, 96]), (70, .pop, []), (71, .iconst 0, []), (72, .istore_n 3, []), (73, .iconst 0, []), (74, .istore 4, []), (76, .iconst 0, []), (77, .istore 5, []), (79, .iload 5, []), (81, .aload_n 0, []), (82, .getfield 48, [6, 6, 2, 70]), (85, .getfield 133, [0, 3, 0, 26]), (88, .if_icmp .ge 40, [128]), (91, .aload_n 0, []), (92, .getfield 48, [6, 6, 2, 70]), (95, .getfield 253, [0, 2, 2, 24]), (98, .iload 5, []), (100, .iaload, []), (101, .ifCond .le 6, [107]), (104, .iinc 3 1, []), (107, .iload 4, []), (109, .aload_n 0, []), (110, .getfield 48, [6, 6, 2, 70]), (113, .getfield 253, [0, 2, 2, 24]), (116, .iload 5, []), (118, .iaload, []), (119, .iadd, []), (120, .istore 4, []), (122, .iinc 5 1, []), (125, .goto (-46), [79]), (128, .aload_n 0, []), (129, .iload 4, []), (131, .putfield 88, [6, 13, 0, 77]), (134, .iload_n 3, []), (135, .ireturn, [0])]
def h_96 : List (Nat × Nat) := [(79, 6)]
/-- LastStirred.stone(I)I -/
def k_97 : List (Nat × Instr × List Nat) := [(0, .aload_n 0, []), (1, .getfield 33, [6, 3, 2, 67]), (4, .iload_n 1, []), (5, .invokevirtual 135, [35, 1, 1, 1, 83]), (8, .ifCond .eq 16, [24]), (11, .aload_n 0, []), (12, .getfield 33, [6, 3, 2, 67]), (15, .getfield 139, [1, 0, 2, 6]), (18, .iload_n 1, []), (19, .iaload, []), (20, .iconst 1, []), (21, .if_icmp .ne 5, [26]), (24, .iconst (-1), []), (25, .ireturn, [0]), (26, .aload_n 0, []), (27, .getfield 40, [6, 4, 2, 68]), (30, .aload_n 0, []), (31, .getfield 33, [6, 3, 2, 67]), (34, .iload_n 1, []), (35, .invokevirtual 256, [30, 2, 1, 0, 112]), (38, .ireturn, [0])]
def h_97 : List (Nat × Nat) := []
/-- LastStirred.drive(I)I -/
def k_98 : List (Nat × Instr × List Nat) := [(0, .aload_n 0, []), (1, .getfield 14, [6, 0, 2, 64]), (4, .iload_n 1, []), (5, .invokevirtual 99, [60, 1, 1, 4, 76]), (8, .ifCond .ne 5, [13]), (11, .iconst (-1), []), (12, .ireturn, [0]), (13, .aload_n 0, []), (14, .getfield 33, [6, 3, 2, 67]), (17, .getfield 182, [1, 5, 0, 18]), (20, .ifCond .ne 6, [26]), (23, .bipush (-4), []), (25, .ireturn, [0]), (26, .aload_n 0, []), (27, .getfield 14, [6, 0, 2, 64]), (30, .getfield 96, [4, 1, 2, 3]), (33, .iload_n 1, []), (34, .iaload, []), (35, .iconst (-1), []), (36, .if_icmp .ne 9, [45]), (39, .aload_n 0, []), (40, .iconst 1, []), (41, .invokevirtual 103, [112, 1, 1, 6, 77]), (44, .ireturn, [0]), (45, .aload_n 0, []), (46, .getfield 14, [6, 0, 2, 64]), (49, .getfield 96, [4, 1, 2, 3]), (52, .iload_n 1, []), (53, .iaload, []), (54, .istore_n 2, []), (55, .iconst 0, []), (56, .istore_n 3, []), (57, .iload_n 3, []), (58, .iload_n 2, []), (59, .if_icmp .ge 45, [104]), (62, .aload_n 0, []), (63, .getfield 14, [6, 0, 2, 64]), (66, .getfield 85, [4, 0, 2, 1]), (69, .iload_n 1, []), (70, .aaload, []), (71, .iload_n 3, []), (72, .iaload, []), (73, .istore 4, []), (75, .iload 4, []), (77, .ifCond .lt 15, [92]), (80, .iload 4, []), (82, .aload_n 0, []), (83, .getfield 40, [6, 4, 2, 68]), (86, .invokevirtual 238, [13, 0, 1, 0, 107]), (89, .if_icmp .lt 9, [98]), (92, .aload_n 0, []), (93, .iconst 3, []), (94, .invokevirtual 103, [112, 1, 1, 6, 77]), (97, .ireturn, [0]), (98, .iinc 3 1, []), (101, .goto (-44), [57]), (104, .aload_n 0, []), (105, .getfield 40, [6, 4, 2, 68]), (108, .getfield 157, [0, 8, 0, 36]), (111, .bipush 40, []), (113, .iload_n 2, []), (114, .imul, []), (115, .iadd, []), (116, .sipush 10000, []), (119, .if_icmp .le 6, [125]), (122, .bipush (-6), []), (124, .ireturn, [0]), (125, .iconst 0, []), (126, .istore_n 3, []), (127, .iload_n 3, []), (128, .iload_n 2, []), (129, .if_icmp .ge 34, [163]), (132, .aload_n 0, []), (133, .getfield 40, [6, 4, 2, 68]), (136, .aload_n 0, []), (137, .getfield 33, [6, 3, 2, 67]), (140, .aload_n 0, []), (141, .getfield 14, [6, 0, 2, 64]), (144, .getfield 85, [4, 0, 2, 1]), (147, .iload_n 1, []), (148, .aaload, []), (149, .iload_n 3, []), (150, .iaload, []), (151, .invokevirtual 260, [29, 2, 1, 0, 113]), (154, .ifCond .eq 9, [163]), (157, .iinc 3 1, []), (160, .goto (-33), [127]), (163, .aload_n 0, []), (164, .aload_n 0, []), (165, .getfield 40, [6, 4, 2, 68]), (168, .invokevirtual 202, [14, 0, 1, 0, 99]), (171, .putfield 88, [6, 13, 0, 77]), (174, .iload_n 3, []), (175, .ireturn, [0])]
def h_98 : List (Nat × Nat) := [(57, 4), (127, 4)]
/-- LastStirred.reach(II)I -/
def k_99 : List (Nat × Instr × List Nat) := [(0, .aload_n 0, []), (1, .getfield 33, [6, 3, 2, 67]), (4, .iload_n 1, []), (5, .invokevirtual 135, [35, 1, 1, 1, 83]), (8, .ifCond .eq 12, [20]), (11, .iload_n 2, []), (12, .ifCond .lt 8, [20]), (15, .iload_n 2, []), (16, .iconst 1, []), (17, .if_icmp .le 5, [22]), (20, .iconst (-1), []), (21, .ireturn, [0]), (22, .aload_n 0, []), (23, .getfield 33, [6, 3, 2, 67]), (26, .iload_n 1, []), (27, .iload_n 2, []), (28, .iconst 1, []), (29, .if_icmp .ne 7, [36]), (32, .iconst 1, []), (33, .goto 4, [37]), (36, .iconst 0, []), (37, .invokevirtual 264, [40, 2, 1, 1, 114]), (40, .ireturn, [0])]
def h_99 : List (Nat × Nat) := []
/-- LastStirred.never()I -/
def k_100 : List (Nat × Instr × List Nat) := [(0, .iconst 0, []), (1, .istore_n 1, []), (2, .aload_n 0, []), (3, .bipush (-9), []), (5, .putfield 88, [6, 13, 0, 77]), (8, .iconst 0, []), (9, .istore_n 2, []), (10, .iload_n 2, []), (11, .aload_n 0, []), (12, .getfield 40, [6, 4, 2, 68]), (15, .getfield 133, [0, 3, 0, 26]), (18, .if_icmp .ge 115, [133]), (21, .aload_n 0, []), (22, .getfield 40, [6, 4, 2, 68]), (25, .iload_n 2, []), (26, .invokevirtual 244, [6, 1, 1, 0, 109]), (29, .ifCond .eq 6, [35]), (32, .goto 95, [127]), (35, .aload_n 0, []), (36, .getfield 33, [6, 3, 2, 67]), (39, .aload_n 0, []), (40, .getfield 40, [6, 4, 2, 68]), (43, .getfield 199, [0, 1, 2, 22]), (46, .iload_n 2, []), (47, .iaload, []), (48, .iconst 1, []), (49, .invokevirtual 264, [40, 2, 1, 1, 114]), (52, .istore_n 3, []), (53, .iload_n 2, []), (54, .iconst 1, []), (55, .iadd, []), (56, .istore 4, []), (58, .iload 4, []), (60, .aload_n 0, []), (61, .getfield 40, [6, 4, 2, 68]), (64, .getfield 133, [0, 3, 0, 26]), (67, .if_icmp .ge 60, [127]), (70, .aload_n 0, []), (71, .getfield 40, [6, 4, 2, 68]), (74, .iload 4, []), (76, .invokevirtual 244, [6, 1, 1, 0, 109]), (79, .ifCond .ne 42, [121]), (82, .iload_n 3, []), (83, .aload_n 0, []), (84, .getfield 40, [6, 4, 2, 68]), (87, .getfield 199, [0, 1, 2, 22]), (90, .iload 4, []), (92, .iaload, []), (93, .ishr, []), (94, .iconst 1, []), (95, .iand, []), (96, .iconst 1, []), (97, .if_icmp .ne 6, [103]), (100, .goto 21, [121]), (103, .iload_n 1, []), (104, .ifCond .ne 14, [118]), (107, .aload_n 0, []), (108, .bipush 10, []), (110, .iload_n 2, []), (111, .imul, []), (112, .iload 4, []), (114, .iadd, []), (115, .putfield 88, [6, 13, 0, 77]), (118, .iinc 1 1, []), (121, .iinc 4 1, []), (124, .goto (-66), [58]), (127, .iinc 2 1, []), (130, .goto (-120), [10]), (133, .iload_n 1, []), (134, .ireturn, [0])]
def h_100 : List (Nat × Nat) := [(10, 3), (58, 5)]
/-- LastStirred.wolf(II)I -/
def k_101 : List (Nat × Instr × List Nat) := [(0, .aload_n 0, []), (1, .getfield 33, [6, 3, 2, 67]), (4, .iload_n 1, []), (5, .invokevirtual 135, [35, 1, 1, 1, 83]), (8, .ifCond .eq 24, [32]), (11, .aload_n 0, []), (12, .getfield 33, [6, 3, 2, 67]), (15, .iload_n 1, []), (16, .invokevirtual 268, [36, 1, 1, 1, 115]), (19, .ifCond .eq 13, [32]), (22, .iload_n 2, []), (23, .iconst 1, []), (24, .if_icmp .lt 8, [32]), (27, .iload_n 2, []), (28, .iconst 2, []), (29, .if_icmp .le 5, [34]), (32, .iconst (-1), []), (33, .ireturn, [0]), (34, .aload_n 0, []), (35, .getfield 40, [6, 4, 2, 68]), (38, .iload_n 1, []), (39, .invokevirtual 142, [7, 1, 1, 0, 85]), (42, .ifCond .eq 6, [48]), (45, .bipush (-4), []), (47, .ireturn, [0]), (48, .aload_n 0, []), (49, .getfield 65, [6, 9, 2, 73]), (52, .aload_n 0, []), (53, .getfield 33, [6, 3, 2, 67]), (56, .aload_n 0, []), (57, .getfield 40, [6, 4, 2, 68]), (60, .iload_n 1, []), (61, .iload_n 2, []), (62, .invokevirtual 271, [65, 4, 1, 5, 116]), (65, .istore_n 3, []), (66, .aload_n 0, []), (67, .iload_n 3, []), (68, .ifCond .eq 13, [81]), (71, .aload_n 0, []), (72, .getfield 65, [6, 9, 2, 73]), (75, .getfield 275, [5, 3, 0, 63]), (78, .goto 5, [83]), (81, .bipush (-9), []), (83, .putfield 88, [6, 13, 0, 77]), (86, .iload_n 3, []), (87, .ifCond .eq 7, [94]), (90, .iconst 1, []), (91, .goto 4, [95]), (94, .iconst 0, []), (95, .ireturn, [0])]
def h_101 : List (Nat × Nat) := []
/-- LastStirred.dawn(I)I -/
def k_102 : List (Nat × Instr × List Nat) := [(0, .aload_n 0, []), (1, .iload_n 1, []), (2, .invokevirtual 276, [116, 1, 1, 6, 117]), (5, .istore_n 2, []), (6, .iload_n 2, []), (7, .ifCond .eq 5, [12]), (10, .iload_n 2, []), (11, .ireturn, [0]), (12, .aload_n 0, []), (13, .getfield 58, [6, 8, 2, 72]), (16, .aload_n 0, []), (17, .getfield 14, [6, 0, 2, 64]), (20, .getfield 85, [4, 0, 2, 1]), (23, .iload_n 1, []), (24, .aaload, []), (25, .invokevirtual 279, [53, 1, 0, 3, 118]), (28, .aload_n 0, []), (29, .getfield 58, [6, 8, 2, 72]), (32, .aload_n 0, []), (33, .getfield 33, [6, 3, 2, 67]), (36, .aload_n 0, []), (37, .getfield 40, [6, 4, 2, 68]), (40, .iconst 2, []), (41, .invokevirtual 218, [54, 3, 1, 3, 104]), (44, .istore_n 3, []), (45, .iload_n 3, []), (46, .bipush (-9), []), (48, .if_icmp .eq 14, [62]), (51, .aload_n 0, []), (52, .aload_n 0, []), (53, .getfield 58, [6, 8, 2, 72]), (56, .getfield 231, [3, 5, 0, 52]), (59, .putfield 88, [6, 13, 0, 77]), (62, .iload_n 3, []), (63, .ireturn, [0])]
def h_102 : List (Nat × Nat) := []
/-- LastStirred.who(I)I -/
def k_103 : List (Nat × Instr × List Nat) := [(0, .aload_n 0, []), (1, .iload_n 1, []), (2, .invokevirtual 276, [116, 1, 1, 6, 117]), (5, .istore_n 2, []), (6, .iload_n 2, []), (7, .ifCond .eq 5, [12]), (10, .iload_n 2, []), (11, .ireturn, [0]), (12, .aload_n 0, []), (13, .getfield 58, [6, 8, 2, 72]), (16, .aload_n 0, []), (17, .getfield 14, [6, 0, 2, 64]), (20, .getfield 85, [4, 0, 2, 1]), (23, .iload_n 1, []), (24, .aaload, []), (25, .invokevirtual 279, [53, 1, 0, 3, 118]), (28, .aload_n 0, []), (29, .getfield 58, [6, 8, 2, 72]), (32, .aload_n 0, []), (33, .getfield 33, [6, 3, 2, 67]), (36, .aload_n 0, []), (37, .getfield 40, [6, 4, 2, 68]), (40, .iconst 2, []), (41, .invokevirtual 218, [54, 3, 1, 3, 104]), (44, .istore_n 3, []), (45, .iload_n 3, []), (46, .bipush (-9), []), (48, .if_icmp .eq 7, [55]), (51, .iload_n 3, []), (52, .ifCond .ne 6, [58]), (55, .bipush (-9), []), (57, .ireturn, [0]), (58, .aload_n 0, []), (59, .aload_n 0, []), (60, .getfield 58, [6, 8, 2, 72]), (63, .getfield 283, [3, 8, 0, 58]), (66, .putfield 88, [6, 13, 0, 77]), (69, .aload_n 0, []), (70, .getfield 58, [6, 8, 2, 72]), (73, .getfield 286, [3, 7, 0, 56]), (76, .ireturn, [0])]
def h_103 : List (Nat × Nat) := []
/-- LastStirred.breed(I)I -/
def k_104 : List (Nat × Instr × List Nat) := [(0, .iload_n 1, []), (1, .ifCond .lt 8, [9]), (4, .iload_n 1, []), (5, .iconst 5, []), (6, .if_icmp .le 5, [11]), (9, .iconst (-1), []), (10, .ireturn, [0]), (11, .aload_n 0, []), (12, .getfield 33, [6, 3, 2, 67]), (15, .getfield 182, [1, 5, 0, 18]), (18, .ifCond .ne 6, [24]), (21, .bipush (-4), []), (23, .ireturn, [0]), (24, .aload_n 0, []), (25, .getfield 48, [6, 6, 2, 70]), (28, .aload_n 0, []), (29, .getfield 40, [6, 4, 2, 68]), (32, .invokevirtual 127, [3, 1, 0, 0, 82]), (35, .aload_n 0, []), (36, .getfield 48, [6, 6, 2, 70]), (39, .getfield 289, [0, 0, 2, 20]), (42, .iload_n 1, []), (43, .invokestatic 292, [235, 2, 0, 119]), (46, .aload_n 0, []), (47, .getfield 58, [6, 8, 2, 72]), (50, .invokevirtual 215, [52, 0, 0, 3, 103]), (53, .aload_n 0, []), (54, .getfield 58, [6, 8, 2, 72]), (57, .aload_n 0, []), (58, .getfield 33, [6, 3, 2, 67]), (61, .aload_n 0, []), (62, .getfield 48, [6, 6, 2, 70]), (65, .iconst 2, []), (66, .invokevirtual 218, [54, 3, 1, 3, 104]), (69, .ireturn, [0])]
def h_104 : List (Nat × Nat) := []
/-- LastStirred.asked()I -/
def k_105 : List (Nat × Instr × List Nat) := [(0, .aload_n 0, []), (1, .getfield 88, [6, 13, 0, 77]), (4, .ireturn, [0])]
def h_105 : List (Nat × Nat) := []
/-- LastStirred.upper()J -/
def k_106 : List (Nat × Instr × List Nat) := [(0, .aload_n 0, []), (1, .getfield 298, [6, 14, 1, 78]), (4, .lreturn, [])]
def h_106 : List (Nat × Nat) := []
/-- LastStirred.lower()J -/
def k_107 : List (Nat × Instr × List Nat) := [(0, .aload_n 0, []), (1, .getfield 73, [6, 15, 1, 79]), (4, .lreturn, [])]
def h_107 : List (Nat × Nat) := []
/-- LastStirred.count(I)I -/
def k_108 : List (Nat × Instr × List Nat) := [(0, .iload_n 1, []), (1, .tableswitch 111 0 7 #[47, 55, 63, 71, 79, 87, 95, 103], [112, 48, 56, 64, 72, 80, 88, 96, 104]), (48, .aload_n 0, []), (49, .getfield 33, [6, 3, 2, 67]), (52, .getfield 182, [1, 5, 0, 18]), (55, .ireturn, [0]), (56, .aload_n 0, []), (57, .getfield 40, [6, 4, 2, 68]), (60, .getfield 133, [0, 3, 0, 26]), (63, .ireturn, [0]), (64, .aload_n 0, []), (65, .getfield 40, [6, 4, 2, 68]), (68, .invokevirtual 202, [14, 0, 1, 0, 99]), (71, .ireturn, [0]), (72, .aload_n 0, []), (73, .getfield 40, [6, 4, 2, 68]), (76, .getfield 157, [0, 8, 0, 36]), (79, .ireturn, [0]), (80, .aload_n 0, []), (81, .getfield 40, [6, 4, 2, 68]), (84, .invokevirtual 301, [15, 0, 1, 0, 120]), (87, .ireturn, [0]), (88, .aload_n 0, []), (89, .getfield 130, [6, 11, 0, 75]), (92, .invokestatic 304, [234, 1, 1, 121]), (95, .ireturn, [0]), (96, .aload_n 0, []), (97, .getfield 14, [6, 0, 2, 64]), (100, .invokevirtual 309, [62, 0, 1, 4, 122]), (103, .ireturn, [0]), (104, .aload_n 0, []), (105, .getfield 20, [6, 1, 2, 65]), (108, .invokevirtual 309, [62, 0, 1, 4, 122]), (111, .ireturn, [0]), (112, .iconst (-1), []), (113, .ireturn, [0])]
def h_108 : List (Nat × Nat) := []
/-- LastStirred.finding()I -/
def k_109 : List (Nat × Instr × List Nat) := [(0, .aload_n 0, []), (1, .getfield 312, [6, 12, 0, 76]), (4, .ireturn, [0])]
def h_109 : List (Nat × Nat) := []
/-- LastStirred.findings(I)I -/
def k_110 : List (Nat × Instr × List Nat) := [(0, .iload_n 1, []), (1, .iconst 1, []), (2, .if_icmp .lt 8, [10]), (5, .iload_n 1, []), (6, .iconst 5, []), (7, .if_icmp .le 5, [12]), (10, .iconst (-1), []), (11, .ireturn, [0]), (12, .aload_n 0, []), (13, .getfield 69, [6, 10, 2, 74]), (16, .iload_n 1, []), (17, .iaload, []), (18, .ireturn, [0])]
def h_110 : List (Nat × Nat) := []
/-- LastStirred.digest()J -/
def k_111 : List (Nat × Instr × List Nat) := [(0, .ldc2_w 315, [1, 863]), (3, .lstore_n 1, []), (4, .iconst 0, []), (5, .istore_n 3, []), (6, .iload_n 3, []), (7, .bipush 8, []), (9, .if_icmp .ge 22, [31]), (12, .ldc2_w 317, [2, 864]), (15, .lload_n 1, []), (16, .lmul, []), (17, .aload_n 0, []), (18, .iload_n 3, []), (19, .invokevirtual 319, [108, 1, 1, 6, 123]), (22, .i2l, []), (23, .ladd, []), (24, .lstore_n 1, []), (25, .iinc 3 1, []), (28, .goto (-22), [6]), (31, .iconst 0, []), (32, .istore_n 3, []), (33, .iload_n 3, []), (34, .aload_n 0, []), (35, .getfield 33, [6, 3, 2, 67]), (38, .getfield 182, [1, 5, 0, 18]), (41, .if_icmp .ge 26, [67]), (44, .ldc2_w 317, [2, 864]), (47, .lload_n 1, []), (48, .lmul, []), (49, .aload_n 0, []), (50, .getfield 33, [6, 3, 2, 67]), (53, .getfield 139, [1, 0, 2, 6]), (56, .iload_n 3, []), (57, .iaload, []), (58, .i2l, []), (59, .ladd, []), (60, .lstore_n 1, []), (61, .iinc 3 1, []), (64, .goto (-31), [33]), (67, .iconst 0, []), (68, .istore_n 3, []), (69, .iload_n 3, []), (70, .aload_n 0, []), (71, .getfield 40, [6, 4, 2, 68]), (74, .getfield 133, [0, 3, 0, 26]), (77, .if_icmp .ge 42, [119]), (80, .iconst 0, []), (81, .istore 4, []), (83, .iload 4, []), (85, .iconst 3, []), (86, .if_icmp .ge 27, [113]), (89, .ldc2_w 317, [2, 864]), (92, .lload_n 1, []), (93, .lmul, []), (94, .aload_n 0, []), (95, .getfield 40, [6, 4, 2, 68]), (98, .iload_n 3, []), (99, .iload 4, []), (101, .invokevirtual 146, [12, 2, 1, 0, 87]), (104, .i2l, []), (105, .ladd, []), (106, .lstore_n 1, []), (107, .iinc 4 1, []), (110, .goto (-27), [83]), (113, .iinc 3 1, []), (116, .goto (-47), [69]), (119, .ldc2_w 317, [2, 864]), (122, .lload_n 1, []), (123, .lmul, []), (124, .aload_n 0, []), (125, .getfield 40, [6, 4, 2, 68]), (128, .getfield 172, [0, 4, 0, 28]), (131, .i2l, []), (132, .ladd, []), (133, .lstore_n 1, []), (134, .ldc2_w 317, [2, 864]), (137, .lload_n 1, []), (138, .lmul, []), (139, .aload_n 0, []), (140, .getfield 40, [6, 4, 2, 68]), (143, .getfield 169, [0, 5, 0, 30]), (146, .i2l, []), (147, .ladd, []), (148, .lstore_n 1, []), (149, .ldc2_w 317, [2, 864]), (152, .lload_n 1, []), (153, .lmul, []), (154, .aload_n 0, []), (155, .getfield 40, [6, 4, 2, 68]), (158, .getfield 322, [0, 6, 0, 32]), (161, .i2l, []), (162, .ladd, []), (163, .lstore_n 1, []), (164, .ldc2_w 317, [2, 864]), (167, .lload_n 1, []), (168, .lmul, []), (169, .aload_n 0, []), (170, .getfield 40, [6, 4, 2, 68]), (173, .getfield 325, [0, 7, 0, 34]), (176, .i2l, []), (177, .ladd, []), (178, .lstore_n 1, []), (179, .iconst 0, []), (180, .istore_n 3, []), (181, .iload_n 3, []), (182, .aload_n 0, []), (183, .getfield 44, [6, 5, 2, 69]), (186, .arraylength, []), (187, .if_icmp .ge 38, [225]), (190, .ldc2_w 317, [2, 864]), (193, .lload_n 1, []), (194, .lmul, []), (195, .aload_n 0, []), (196, .iload_n 3, []), (197, .invokevirtual 212, [120, 1, 1, 6, 102]), (200, .ifCond .eq 15, [215]), (203, .aload_n 0, []), (204, .getfield 44, [6, 5, 2, 69]), (207, .iload_n 3, []), (208, .aaload, []), (209, .getfield 157, [0, 8, 0, 36]), (212, .goto 4, [216]), (215, .iconst (-1), []), (216, .i2l, []), (217, .ladd, []), (218, .lstore_n 1, []), (219, .iinc 3 1, []), (222, .goto (-41), [181]), (225, .aload_n 0, []), (226, .getfield 20, [6, 1, 2, 65]), (229, .aload_n 0, []), (230, .getfield 14, [6, 0, 2, 64]), (233, .lload_n 1, []), (234, .invokevirtual 328, [63, 1, 2, 4, 124]), (237, .invokevirtual 328, [63, 1, 2, 4, 124]), (240, .lreturn, [])]
def h_111 : List (Nat × Nat) := [(6, 4), (33, 4), (69, 4), (83, 5), (181, 4)]
/-- LastStirred.finds(I)I -/
def k_112 : List (Nat × Instr × List Nat) := [(0, .aload_n 0, []), (1, .iload_n 1, []), (2, .putfield 312, [6, 12, 0, 76]), (5, .aload_n 0, []), (6, .getfield 69, [6, 10, 2, 74]), (9, .iload_n 1, []), (10, .dup2, []), (11, .iaload, []), (12, .iconst 1, []), (13, .iadd, []), (14, .iastore, []), (15, .bipush (-3), []), (17, .ireturn, [0])]
def h_112 : List (Nat × Nat) := []
/-- LastStirred.makeIn(LLastStirred$Shelf;III)I -/
def k_113 : List (Nat × Instr × List Nat) := [(0, .aload_n 1, []), (1, .iload_n 2, []), (2, .invokevirtual 99, [60, 1, 1, 4, 76]), (5, .ifCond .eq 14, [19]), (8, .iload_n 3, []), (9, .aload_n 1, []), (10, .getfield 85, [4, 0, 2, 1]), (13, .iload_n 2, []), (14, .aaload, []), (15, .arraylength, []), (16, .if_icmp .le 5, [21]), (19, .iconst (-1), []), (20, .ireturn, [0]), (21, .iload_n 3, []), (22, .ifCond .ge 9, [31]), (25, .aload_n 0, []), (26, .iconst 5, []), (27, .invokevirtual 103, [112, 1, 1, 6, 77]), (30, .ireturn, [0]), (31, .aload_n 1, []), (32, .iload_n 2, []), (33, .iload_n 3, []), (34, .iload 4, []), (36, .invokevirtual 195, [61, 3, 0, 4, 98]), (39, .iload_n 3, []), (40, .ireturn, [0])]
def h_113 : List (Nat × Nat) := []
/-- LastStirred.refusedMissing(LLastStirred$Shelf;I)I -/
def k_114 : List (Nat × Instr × List Nat) := [(0, .aload_n 1, []), (1, .iload_n 2, []), (2, .invokevirtual 99, [60, 1, 1, 4, 76]), (5, .ifCond .ne 5, [10]), (8, .iconst (-1), []), (9, .ireturn, [0]), (10, .aload_n 1, []), (11, .getfield 96, [4, 1, 2, 3]), (14, .iload_n 2, []), (15, .iaload, []), (16, .iconst (-1), []), (17, .if_icmp .ne 11, [28]), (20, .aload_n 0, []), (21, .iconst 1, []), (22, .invokevirtual 103, [112, 1, 1, 6, 77]), (25, .goto 4, [29]), (28, .iconst 0, []), (29, .ireturn, [0])]
def h_114 : List (Nat × Nat) := []
/-- LastStirred.refusedPlace(LLastStirred$Shelf;II)I -/
def k_115 : List (Nat × Instr × List Nat) := [(0, .aload_n 0, []), (1, .aload_n 1, []), (2, .iload_n 2, []), (3, .invokevirtual 92, [114, 2, 1, 6, 75]), (6, .istore 4, []), (8, .iload 4, []), (10, .ifCond .eq 6, [16]), (13, .iload 4, []), (15, .ireturn, [0]), (16, .iload_n 3, []), (17, .ifCond .lt 13, [30]), (20, .iload_n 3, []), (21, .aload_n 1, []), (22, .getfield 96, [4, 1, 2, 3]), (25, .iload_n 2, []), (26, .iaload, []), (27, .if_icmp .lt 11, [38]), (30, .aload_n 0, []), (31, .iconst 2, []), (32, .invokevirtual 103, [112, 1, 1, 6, 77]), (35, .goto 4, [39]), (38, .iconst 0, []), (39, .ireturn, [0])]
def h_115 : List (Nat × Nat) := []
/-- LastStirred.refusedDawn(I)I -/
def k_116 : List (Nat × Instr × List Nat) := [(0, .aload_n 0, []), (1, .aload_n 0, []), (2, .getfield 14, [6, 0, 2, 64]), (5, .iload_n 1, []), (6, .invokevirtual 92, [114, 2, 1, 6, 75]), (9, .istore_n 2, []), (10, .iload_n 2, []), (11, .ifCond .eq 5, [16]), (14, .iload_n 2, []), (15, .ireturn, [0]), (16, .aload_n 0, []), (17, .getfield 14, [6, 0, 2, 64]), (20, .getfield 96, [4, 1, 2, 3]), (23, .iload_n 1, []), (24, .iaload, []), (25, .aload_n 0, []), (26, .getfield 40, [6, 4, 2, 68]), (29, .getfield 133, [0, 3, 0, 26]), (32, .if_icmp .eq 9, [41]), (35, .aload_n 0, []), (36, .iconst 5, []), (37, .invokevirtual 103, [112, 1, 1, 6, 77]), (40, .ireturn, [0]), (41, .iconst 0, []), (42, .istore_n 3, []), (43, .iload_n 3, []), (44, .aload_n 0, []), (45, .getfield 40, [6, 4, 2, 68]), (48, .getfield 133, [0, 3, 0, 26]), (51, .if_icmp .ge 47, [98]), (54, .aload_n 0, []), (55, .getfield 14, [6, 0, 2, 64]), (58, .getfield 85, [4, 0, 2, 1]), (61, .iload_n 1, []), (62, .aaload, []), (63, .iload_n 3, []), (64, .iaload, []), (65, .istore 4, []), (67, .iload 4, []), (69, .bipush (-9), []), (71, .if_icmp .eq 21, [92]), (74, .aload_n 0, []), (75, .getfield 33, [6, 3, 2, 67]), (78, .iload 4, []), (80, .invokevirtual 135, [35, 1, 1, 1, 83]), (83, .ifCond .ne 9, [92]), (86, .aload_n 0, []), (87, .iconst 3, []), (88, .invokevirtual 103, [112, 1, 1, 6, 77]), (91, .ireturn, [0]), (92, .iinc 3 1, []), (95, .goto (-52), [43]), (98, .iconst 0, []), (99, .ireturn, [0])]
def h_116 : List (Nat × Nat) := [(43, 4)]
/-- LastStirred.fits(III)Z -/
def k_117 : List (Nat × Instr × List Nat) := [(0, .iload_n 0, []), (1, .ifCond .lt 19, [20]), (4, .iload_n 0, []), (5, .iload_n 2, []), (6, .if_icmp .gt 14, [20]), (9, .iload_n 1, []), (10, .iload_n 2, []), (11, .iload_n 0, []), (12, .isub, []), (13, .if_icmp .gt 7, [20]), (16, .iconst 1, []), (17, .goto 4, [21]), (20, .iconst 0, []), (21, .ireturn, [1])]
def h_117 : List (Nat × Nat) := []
/-- LastStirred.isWay(I)Z -/
def k_118 : List (Nat × Instr × List Nat) := [(0, .iload_n 0, []), (1, .ifCond .lt 12, [13]), (4, .iload_n 0, []), (5, .iconst 4, []), (6, .if_icmp .ge 7, [13]), (9, .iconst 1, []), (10, .goto 4, [14]), (13, .iconst 0, []), (14, .ireturn, [1])]
def h_118 : List (Nat × Nat) := []
/-- LastStirred.isPlace(I)Z -/
def k_119 : List (Nat × Instr × List Nat) := [(0, .iload_n 1, []), (1, .ifCond .lt 16, [17]), (4, .iload_n 1, []), (5, .aload_n 0, []), (6, .getfield 44, [6, 5, 2, 69]), (9, .arraylength, []), (10, .if_icmp .ge 7, [17]), (13, .iconst 1, []), (14, .goto 4, [18]), (17, .iconst 0, []), (18, .ireturn, [1])]
def h_119 : List (Nat × Nat) := []
/-- LastStirred.isKept(I)Z -/
def k_120 : List (Nat × Instr × List Nat) := [(0, .aload_n 0, []), (1, .getfield 130, [6, 11, 0, 75]), (4, .iload_n 1, []), (5, .ishr, []), (6, .iconst 1, []), (7, .iand, []), (8, .iconst 1, []), (9, .if_icmp .ne 7, [16]), (12, .iconst 1, []), (13, .goto 4, [17]), (16, .iconst 0, []), (17, .ireturn, [1])]
def h_120 : List (Nat × Nat) := []
/-- LastStirred.offLast(I)I -/
def k_121 : List (Nat × Instr × List Nat) := [(0, .aload_n 0, []), (1, .getfield 40, [6, 4, 2, 68]), (4, .getfield 172, [0, 4, 0, 28]), (7, .bipush (-9), []), (9, .if_icmp .eq 14, [23]), (12, .aload_n 0, []), (13, .getfield 40, [6, 4, 2, 68]), (16, .iload_n 1, []), (17, .invokevirtual 244, [6, 1, 1, 0, 109]), (20, .ifCond .eq 6, [26]), (23, .bipush (-9), []), (25, .ireturn, [0]), (26, .aload_n 0, []), (27, .getfield 33, [6, 3, 2, 67]), (30, .aload_n 0, []), (31, .getfield 40, [6, 4, 2, 68]), (34, .getfield 199, [0, 1, 2, 22]), (37, .iload_n 1, []), (38, .iaload, []), (39, .aload_n 0, []), (40, .getfield 40, [6, 4, 2, 68]), (43, .getfield 169, [0, 5, 0, 30]), (46, .invokevirtual 247, [37, 2, 1, 1, 110]), (49, .ireturn, [0])]
def h_121 : List (Nat × Nat) := []
/-- LastStirred.othersNear(I)I -/
def k_122 : List (Nat × Instr × List Nat) := [(0, .aload_n 0, []), (1, .getfield 40, [6, 4, 2, 68]), (4, .iload_n 1, []), (5, .invokevirtual 244, [6, 1, 1, 0, 109]), (8, .ifCond .eq 6, [14]), (11, .bipush (-9), []), (13, .ireturn, [0]), (14, .iconst 0, []), (15, .istore_n 2, []), (16, .iconst 0, []), (17, .istore_n 3, []), (18, .iload_n 3, []), (19, .aload_n 0, []), (20, .getfield 40, [6, 4, 2, 68]), (23, .getfield 133, [0, 3, 0, 26]), (26, .if_icmp .ge 57, [83]), (29, .iload_n 3, []), (30, .iload_n 1, []), (31, .if_icmp .eq 46, [77]), (34, .aload_n 0, []), (35, .getfield 40, [6, 4, 2, 68]), (38, .iload_n 3, []), (39, .invokevirtual 244, [6, 1, 1, 0, 109]), (42, .ifCond .ne 35, [77]), (45, .aload_n 0, []), (46, .getfield 33, [6, 3, 2, 67]), (49, .aload_n 0, []), (50, .getfield 40, [6, 4, 2, 68]), (53, .getfield 199, [0, 1, 2, 22]), (56, .iload_n 1, []), (57, .iaload, []), (58, .aload_n 0, []), (59, .getfield 40, [6, 4, 2, 68]), (62, .getfield 199, [0, 1, 2, 22]), (65, .iload_n 3, []), (66, .iaload, []), (67, .invokevirtual 247, [37, 2, 1, 1, 110]), (70, .iconst 3, []), (71, .if_icmp .ge 6, [77]), (74, .iinc 2 1, []), (77, .iinc 3 1, []), (80, .goto (-62), [18]), (83, .iload_n 2, []), (84, .ireturn, [0])]
def h_122 : List (Nat × Nat) := [(18, 4)]
/-- LastStirred.tryDrive(I)Z -/
def k_123 : List (Nat × Instr × List Nat) := [(0, .aload_n 0, []), (1, .getfield 48, [6, 6, 2, 70]), (4, .aload_n 0, []), (5, .getfield 40, [6, 4, 2, 68]), (8, .invokevirtual 127, [3, 1, 0, 0, 82]), (11, .aload_n 0, []), (12, .getfield 48, [6, 6, 2, 70]), (15, .aload_n 0, []), (16, .getfield 33, [6, 3, 2, 67]), (19, .iload_n 1, []), (20, .invokevirtual 260, [29, 2, 1, 0, 113]), (23, .ireturn, [1])]
def h_123 : List (Nat × Nat) := []
/-- LastStirred.tellFraction(II)V -/
def k_124 : List (Nat × Instr × List Nat) := [(0, .aload_n 0, []), (1, .iload_n 1, []), (2, .i2l, []), (3, .putfield 298, [6, 14, 1, 78]), (6, .aload_n 0, []), (7, .iload_n 2, []), (8, .i2l, []), (9, .putfield 73, [6, 15, 1, 79]), (12, .iload_n 2, []), (13, .istore_n 3, []), (14, .iload_n 3, []), (15, .iconst 1, []), (16, .if_icmp .le 55, [71]), (19, .aload_n 0, []), (20, .getfield 298, [6, 14, 1, 78]), (23, .iload_n 3, []), (24, .i2l, []), (25, .lrem, []), (26, .lconst 0, []), (27, .lcmp, []), (28, .ifCond .ne 37, [65]), (31, .aload_n 0, []), (32, .getfield 73, [6, 15, 1, 79]), (35, .iload_n 3, []), (36, .i2l, []), (37, .lrem, []), (38, .lconst 0, []), (39, .lcmp, []), (40, .ifCond .ne 25, [65]), (43, .aload_n 0, []), (44, .dup, []), (45, .getfield 298, [6, 14, 1, 78]), (48, .iload_n 3, []), (49, .i2l, []), (50, .ldiv, []), (51, .putfield 298, [6, 14, 1, 78]), (54, .aload_n 0, []), (55, .dup, []), (56, .getfield 73, [6, 15, 1, 79]), (59, .iload_n 3, []), (60, .i2l, []), (61, .ldiv, []), (62, .putfield 73, [6, 15, 1, 79]), (65, .iinc 3 (-1), []), (68, .goto (-54), [14]), (71, .return_, [])]
def h_124 : List (Nat × Nat) := [(14, 4)]
/-- LastStirred.placeOf([II)I -/
def k_125 : List (Nat × Instr × List Nat) := [(0, .iconst 0, []), (1, .istore_n 2, []), (2, .iload_n 2, []), (3, .aload_n 0, []), (4, .arraylength, []), (5, .if_icmp .ge 18, [23]), (8, .aload_n 0, []), (9, .iload_n 2, []), (10, .iaload, []), (11, .iload_n 1, []), (12, .if_icmp .ne 5, [17]), (15, .iload_n 2, []), (16, .ireturn, [0]), (17, .iinc 2 1, []), (20, .goto (-18), [2]), (23, .bipush (-9), []), (25, .ireturn, [0])]
def h_125 : List (Nat × Nat) := [(2, 3)]
/-- LastStirredModel.<init>()V -/
def k_126 : List (Nat × Instr × List Nat) := [(0, .aload_n 0, []), (1, .invokespecial 1, [125]), (4, .aload_n 0, []), (5, .bipush 6, []), (7, .newarray .int, []), (9, .putfield 7, [7, 1, 2, 81]), (12, .aload_n 0, []), (13, .bipush 6, []), (15, .newarray .int, []), (17, .putfield 13, [7, 5, 2, 85]), (20, .aload_n 0, []), (21, .sipush 360, []), (24, .newarray .int, []), (26, .putfield 16, [7, 6, 2, 86]), (29, .aload_n 0, []), (30, .bipush 60, []), (32, .newarray .int, []), (34, .putfield 19, [7, 7, 2, 87]), (37, .aload_n 0, []), (38, .iconst 4, []), (39, .newarray .int, []), (41, .putfield 22, [7, 8, 2, 88]), (44, .aload_n 0, []), (45, .sipush 320, []), (48, .newarray .byte, []), (50, .putfield 25, [7, 9, 2, 89]), (53, .aload_n 0, []), (54, .bipush 30, []), (56, .newarray .int, []), (58, .putfield 29, [7, 12, 2, 92]), (61, .aload_n 0, []), (62, .iconst 4, []), (63, .newarray .int, []), (65, .putfield 32, [7, 14, 2, 94]), (68, .aload_n 0, []), (69, .bipush 30, []), (71, .newarray .int, []), (73, .putfield 35, [7, 21, 2, 101]), (76, .aload_n 0, []), (77, .iconst 4, []), (78, .newarray .int, []), (80, .putfield 38, [7, 22, 2, 102]), (83, .aload_n 0, []), (84, .iconst 4, []), (85, .newarray .int, []), (87, .putfield 41, [7, 23, 2, 103]), (90, .aload_n 0, []), (91, .bipush 117, []), (93, .newarray .int, []), (95, .putfield 44, [7, 24, 2, 104]), (98, .aload_n 0, []), (99, .iconst 3, []), (100, .newarray .boolean, []), (102, .putfield 47, [7, 25, 2, 105]), (105, .aload_n 0, []), (106, .iconst 4, []), (107, .newarray .int, []), (109, .putfield 51, [7, 28, 2, 108]), (112, .aload_n 0, []), (113, .sipush 201, []), (116, .newarray .long, []), (118, .putfield 54, [7, 31, 2, 111]), (121, .aload_n 0, []), (122, .iconst 4, []), (123, .newarray .int, []), (125, .putfield 58, [7, 37, 2, 117]), (128, .aload_n 0, []), (129, .lconst 1, []), (130, .putfield 61, [7, 4, 1, 84]), (133, .iconst 0, []), (134, .istore_n 1, []), (135, .iload_n 1, []), (136, .bipush 6, []), (138, .if_icmp .ge 16, [154]), (141, .aload_n 0, []), (142, .getfield 13, [7, 5, 2, 85]), (145, .iload_n 1, []), (146, .iconst (-1), []), (147, .iastore, []), (148, .iinc 1 1, []), (151, .goto (-16), [135]), (154, .iconst 0, []), (155, .istore_n 1, []), (156, .iload_n 1, []), (157, .iconst 4, []), (158, .if_icmp .ge 16, [174]), (161, .aload_n 0, []), (162, .getfield 22, [7, 8, 2, 88]), (165, .iload_n 1, []), (166, .iconst (-1), []), (167, .iastore, []), (168, .iinc 1 1, []), (171, .goto (-15), [156]), (174, .aload_n 0, []), (175, .iconst 0, []), (176, .iconst 1, []), (177, .bipush (-9), []), (179, .invokevirtual 65, [163, 3, 0, 7, 126]), (182, .aload_n 0, []), (183, .iconst 0, []), (184, .iconst 2, []), (185, .bipush (-9), []), (187, .invokevirtual 65, [163, 3, 0, 7, 126]), (190, .aload_n 0, []), (191, .iconst 0, []), (192, .iconst 3, []), (193, .bipush (-9), []), (195, .invokevirtual 65, [163, 3, 0, 7, 126]), (198, .aload_n 0, []), (199, .iconst 0, []), (200, .iconst 4, []), (201, .bipush (-9), []), (203, .invokevirtual 65, [163, 3, 0, 7, 126]), (206, .return_, [])]
def h_126 : List (Nat × Nat) := [(135, 2), (156, 2)]
/-- LastStirredModel.in(III)Z -/
def k_127 : List (Nat × Instr × List Nat) := [(0, .iload_n 0, []), (1, .iload_n 1, []), (2, .if_icmp .lt 12, [14]), (5, .iload_n 0, []), (6, .iload_n 2, []), (7, .if_icmp .gt 7, [14]), (10, .iconst 1, []), (11, .goto 4, [15]), (14, .iconst 0, []), (15, .ireturn, [1])]
def h_127 : List (Nat × Nat) := []
/-- LastStirredModel.has(II)Z -/
def k_128 : List (Nat × Instr × List Nat) := [(0, .iload_n 0, []), (1, .iload_n 1, []), (2, .ishr, []), (3, .iconst 1, []), (4, .iand, []), (5, .iconst 1, []), (6, .if_icmp .ne 7, [13]), (9, .iconst 1, []), (10, .goto 4, [14]), (13, .iconst 0, []), (14, .ireturn, [1])]
def h_128 : List (Nat × Nat) := []
/-- LastStirredModel.bits(I)I -/
def k_129 : List (Nat × Instr × List Nat) := [(0, .iconst 0, []), (1, .istore_n 1, []), (2, .iload_n 0, []), (3, .istore_n 2, []), (4, .iload_n 2, []), (5, .ifCond .eq 15, [20]), (8, .iinc 1 1, []), (11, .iload_n 2, []), (12, .iload_n 2, []), (13, .iconst 1, []), (14, .isub, []), (15, .iand, []), (16, .istore_n 2, []), (17, .goto (-13), [4]), (20, .iload_n 1, []), (21, .ireturn, [0])]
def h_129 : List (Nat × Nat) := [(4, 3)]
/-- LastStirredModel.size(I)I -/
def k_130 : List (Nat × Instr × List Nat) := [(0, .iload_n 0, []), (1, .ifCond .ge 8, [9]), (4, .iload_n 0, []), (5, .ineg, []), (6, .goto 4, [10]), (9, .iload_n 0, []), (10, .ireturn, [0])]
def h_130 : List (Nat × Nat) := []
/-- LastStirredModel.meets(I)I -/
def k_131 : List (Nat × Instr × List Nat) := [(0, .aload_n 0, []), (1, .iload_n 1, []), (2, .putfield 69, [7, 0, 0, 80]), (5, .aload_n 0, []), (6, .getfield 7, [7, 1, 2, 81]), (9, .iload_n 1, []), (10, .dup2, []), (11, .iaload, []), (12, .iconst 1, []), (13, .iadd, []), (14, .iastore, []), (15, .bipush (-3), []), (17, .ireturn, [0])]
def h_131 : List (Nat × Nat) := []
/-- LastStirredModel.finding()I -/
def k_132 : List (Nat × Instr × List Nat) := [(0, .aload_n 0, []), (1, .getfield 69, [7, 0, 0, 80]), (4, .ireturn, [0])]
def h_132 : List (Nat × Nat) := []
/-- LastStirredModel.findings(I)I -/
def k_133 : List (Nat × Instr × List Nat) := [(0, .iload_n 1, []), (1, .iconst 1, []), (2, .iconst 5, []), (3, .invokestatic 73, [127, 3, 1, 127]), (6, .ifCond .eq 12, [18]), (9, .aload_n 0, []), (10, .getfield 7, [7, 1, 2, 81]), (13, .iload_n 1, []), (14, .iaload, []), (15, .goto 4, [19]), (18, .iconst (-1), []), (19, .ireturn, [0])]
def h_133 : List (Nat × Nat) := []
/-- LastStirredModel.tells(II)I -/
def k_134 : List (Nat × Instr × List Nat) := [(0, .aload_n 0, []), (1, .iload_n 1, []), (2, .putfield 77, [7, 2, 0, 82]), (5, .iload_n 2, []), (6, .ireturn, [0])]
def h_134 : List (Nat × Nat) := []
/-- LastStirredModel.asked()I -/
def k_135 : List (Nat × Instr × List Nat) := [(0, .aload_n 0, []), (1, .getfield 77, [7, 2, 0, 82]), (4, .ireturn, [0])]
def h_135 : List (Nat × Nat) := []
/-- LastStirredModel.fraction(JJI)I -/
def k_136 : List (Nat × Instr × List Nat) := [(0, .lload_n 1, []), (1, .lstore 6, []), (3, .lload_n 3, []), (4, .lstore 8, []), (6, .lload 8, []), (8, .lconst 0, []), (9, .lcmp, []), (10, .ifCond .eq 21, [31]), (13, .lload 6, []), (15, .lload 8, []), (17, .lrem, []), (18, .lstore 10, []), (20, .lload 8, []), (22, .lstore 6, []), (24, .lload 10, []), (26, .lstore 8, []), (28, .goto (-22), [6]), (31, .aload_n 0, []), (32, .lload_n 1, []), (33, .lload 6, []), (35, .ldiv, []), (36, .putfield 80, [7, 3, 1, 83]), (39, .aload_n 0, []), (40, .lload_n 3, []), (41, .lload 6, []), (43, .ldiv, []), (44, .putfield 61, [7, 4, 1, 84]), (47, .iload 5, []), (49, .ireturn, [0])]
def h_136 : List (Nat × Nat) := [(6, 10)]
/-- LastStirredModel.upper()J -/
def k_137 : List (Nat × Instr × List Nat) := [(0, .aload_n 0, []), (1, .getfield 80, [7, 3, 1, 83]), (4, .lreturn, [])]
def h_137 : List (Nat × Nat) := []
/-- LastStirredModel.lower()J -/
def k_138 : List (Nat × Instr × List Nat) := [(0, .aload_n 0, []), (1, .getfield 61, [7, 4, 1, 84]), (4, .lreturn, [])]
def h_138 : List (Nat × Nat) := []
/-- LastStirredModel.isRow(I)Z -/
def k_139 : List (Nat × Instr × List Nat) := [(0, .iload_n 0, []), (1, .iconst 0, []), (2, .iconst 5, []), (3, .invokestatic 73, [127, 3, 1, 127]), (6, .ireturn, [1])]
def h_139 : List (Nat × Nat) := []
/-- LastStirredModel.rowAt(II)I -/
def k_140 : List (Nat × Instr × List Nat) := [(0, .aload_n 0, []), (1, .getfield 16, [7, 6, 2, 86]), (4, .bipush 60, []), (6, .iload_n 1, []), (7, .imul, []), (8, .iload_n 2, []), (9, .iadd, []), (10, .iaload, []), (11, .ireturn, [0])]
def h_140 : List (Nat × Nat) := []
/-- LastStirredModel.row(II)I -/
def k_141 : List (Nat × Instr × List Nat) := [(0, .iload_n 1, []), (1, .invokestatic 83, [139, 1, 1, 128]), (4, .ifCond .eq 9, [13]), (7, .iload_n 2, []), (8, .bipush 60, []), (10, .if_icmp .le 5, [15]), (13, .iconst (-1), []), (14, .ireturn, [0]), (15, .iload_n 2, []), (16, .ifCond .ge 9, [25]), (19, .aload_n 0, []), (20, .iconst 5, []), (21, .invokevirtual 87, [131, 1, 1, 7, 129]), (24, .ireturn, [0]), (25, .aload_n 0, []), (26, .getfield 13, [7, 5, 2, 85]), (29, .iload_n 1, []), (30, .iload_n 2, []), (31, .iastore, []), (32, .iconst 0, []), (33, .istore_n 3, []), (34, .iload_n 3, []), (35, .bipush 60, []), (37, .if_icmp .ge 21, [58]), (40, .aload_n 0, []), (41, .getfield 16, [7, 6, 2, 86]), (44, .bipush 60, []), (46, .iload_n 1, []), (47, .imul, []), (48, .iload_n 3, []), (49, .iadd, []), (50, .iconst 0, []), (51, .iastore, []), (52, .iinc 3 1, []), (55, .goto (-21), [34]), (58, .iload_n 2, []), (59, .ireturn, [0])]
def h_141 : List (Nat × Nat) := [(34, 4)]
/-- LastStirredModel.lay(III)I -/
def k_142 : List (Nat × Instr × List Nat) := [(0, .iload_n 1, []), (1, .invokestatic 83, [139, 1, 1, 128]), (4, .ifCond .ne 5, [9]), (7, .iconst (-1), []), (8, .ireturn, [0]), (9, .aload_n 0, []), (10, .getfield 13, [7, 5, 2, 85]), (13, .iload_n 1, []), (14, .iaload, []), (15, .ifCond .ge 9, [24]), (18, .aload_n 0, []), (19, .iconst 1, []), (20, .invokevirtual 87, [131, 1, 1, 7, 129]), (23, .ireturn, [0]), (24, .iload_n 2, []), (25, .iconst 0, []), (26, .aload_n 0, []), (27, .getfield 13, [7, 5, 2, 85]), (30, .iload_n 1, []), (31, .iaload, []), (32, .iconst 1, []), (33, .isub, []), (34, .invokestatic 73, [127, 3, 1, 127]), (37, .ifCond .ne 9, [46]), (40, .aload_n 0, []), (41, .iconst 2, []), (42, .invokevirtual 87, [131, 1, 1, 7, 129]), (45, .ireturn, [0]), (46, .aload_n 0, []), (47, .iload_n 1, []), (48, .iload_n 2, []), (49, .invokevirtual 91, [140, 2, 1, 7, 130]), (52, .istore 4, []), (54, .aload_n 0, []), (55, .getfield 16, [7, 6, 2, 86]), (58, .bipush 60, []), (60, .iload_n 1, []), (61, .imul, []), (62, .iload_n 2, []), (63, .iadd, []), (64, .iload_n 3, []), (65, .iastore, []), (66, .aload_n 0, []), (67, .iload 4, []), (69, .iconst 1, []), (70, .invokevirtual 95, [134, 2, 1, 7, 131]), (73, .ireturn, [0])]
def h_142 : List (Nat × Nat) := []
/-- LastStirredModel.at(II)I -/
def k_143 : List (Nat × Instr × List Nat) := [(0, .iload_n 1, []), (1, .invokestatic 83, [139, 1, 1, 128]), (4, .ifCond .ne 5, [9]), (7, .iconst (-1), []), (8, .ireturn, [0]), (9, .aload_n 0, []), (10, .getfield 13, [7, 5, 2, 85]), (13, .iload_n 1, []), (14, .iaload, []), (15, .ifCond .ge 9, [24]), (18, .aload_n 0, []), (19, .iconst 1, []), (20, .invokevirtual 87, [131, 1, 1, 7, 129]), (23, .ireturn, [0]), (24, .iload_n 2, []), (25, .iconst 0, []), (26, .aload_n 0, []), (27, .getfield 13, [7, 5, 2, 85]), (30, .iload_n 1, []), (31, .iaload, []), (32, .iconst 1, []), (33, .isub, []), (34, .invokestatic 73, [127, 3, 1, 127]), (37, .ifCond .eq 17, [54]), (40, .aload_n 0, []), (41, .aload_n 0, []), (42, .iload_n 1, []), (43, .iload_n 2, []), (44, .invokevirtual 91, [140, 2, 1, 7, 130]), (47, .iconst 1, []), (48, .invokevirtual 95, [134, 2, 1, 7, 131]), (51, .goto 8, [59]), (54, .aload_n 0, []), (55, .iconst 2, []), (56, .invokevirtual 87, [131, 1, 1, 7, 129]), (59, .ireturn, [0])]
def h_143 : List (Nat × Nat) := []
/-- LastStirredModel.tear(I)I -/
def k_144 : List (Nat × Instr × List Nat) := [(0, .iload_n 1, []), (1, .invokestatic 83, [139, 1, 1, 128]), (4, .ifCond .ne 5, [9]), (7, .iconst (-1), []), (8, .ireturn, [0]), (9, .aload_n 0, []), (10, .getfield 13, [7, 5, 2, 85]), (13, .iload_n 1, []), (14, .iaload, []), (15, .ifCond .ge 9, [24]), (18, .aload_n 0, []), (19, .iconst 1, []), (20, .invokevirtual 87, [131, 1, 1, 7, 129]), (23, .ireturn, [0]), (24, .aload_n 0, []), (25, .getfield 13, [7, 5, 2, 85]), (28, .iload_n 1, []), (29, .iconst (-1), []), (30, .iastore, []), (31, .iconst 1, []), (32, .ireturn, [0])]
def h_144 : List (Nat × Nat) := []
/-- LastStirredModel.copy(IIIII)I -/
def k_145 : List (Nat × Instr × List Nat) := [(0, .iload_n 1, []), (1, .invokestatic 83, [139, 1, 1, 128]), (4, .ifCond .eq 10, [14]), (7, .iload_n 3, []), (8, .invokestatic 83, [139, 1, 1, 128]), (11, .ifCond .ne 5, [16]), (14, .iconst (-1), []), (15, .ireturn, [0]), (16, .iload 5, []), (18, .ifCond .ge 9, [27]), (21, .aload_n 0, []), (22, .iconst 5, []), (23, .invokevirtual 87, [131, 1, 1, 7, 129]), (26, .ireturn, [0]), (27, .aload_n 0, []), (28, .getfield 13, [7, 5, 2, 85]), (31, .iload_n 1, []), (32, .iaload, []), (33, .ifCond .lt 12, [45]), (36, .aload_n 0, []), (37, .getfield 13, [7, 5, 2, 85]), (40, .iload_n 3, []), (41, .iaload, []), (42, .ifCond .ge 9, [51]), (45, .aload_n 0, []), (46, .iconst 1, []), (47, .invokevirtual 87, [131, 1, 1, 7, 129]), (50, .ireturn, [0]), (51, .iload_n 2, []), (52, .ifCond .lt 43, [95]), (55, .iload 4, []), (57, .ifCond .lt 38, [95]), (60, .iload_n 2, []), (61, .i2l, []), (62, .iload 5, []), (64, .i2l, []), (65, .ladd, []), (66, .aload_n 0, []), (67, .getfield 13, [7, 5, 2, 85]), (70, .iload_n 1, []), (71, .iaload, []), (72, .i2l, []), (73, .lcmp, []), (74, .ifCond .gt 21, [95]), (77, .iload 4, []), (79, .i2l, []), (80, .iload 5, []), (82, .i2l, []), (83, .ladd, []), (84, .aload_n 0, []), (85, .getfield 13, [7, 5, 2, 85]), (88, .iload_n 3, []), (89, .iaload, []), (90, .i2l, []), (91, .lcmp, []), (92, .ifCond .le 9, [101]), (95, .aload_n 0, []), (96, .iconst 2, []), (97, .invokevirtual 87, [131, 1, 1, 7, 129]), (100, .ireturn, [0]), (101, .iconst 0, []), (102, .istore 6, []), (104, .iload 6, []), (106, .iload 5, []), (108, .if_icmp .ge 25, [133]), (111, .aload_n 0, []), (112, .getfield 19, [7, 7, 2, 87]), (115, .iload 6, []), (117, .aload_n 0, []), (118, .iload_n 1, []), (119, .iload_n 2, []), (120, .iload 6, []), (122, .iadd, []), (123, .invokevirtual 91, [140, 2, 1, 7, 130]), (126, .iastore, []), (127, .iinc 6 1, []), (130, .goto (-26), [104]), (133, .iconst 0, []), (134, .istore 6, []), (136, .iload 6, []), (138, .iload 5, []), (140, .if_icmp .ge 31, [171]), (143, .aload_n 0, []), (144, .getfield 16, [7, 6, 2, 86]), (147, .bipush 60, []), (149, .iload_n 3, []), (150, .imul, []), (151, .iload 4, []), (153, .iadd, []), (154, .iload 6, []), (156, .iadd, []), (157, .aload_n 0, []), (158, .getfield 19, [7, 7, 2, 87]), (161, .iload 6, []), (163, .iaload, []), (164, .iastore, []), (165, .iinc 6 1, []), (168, .goto (-32), [136]), (171, .iconst 1, []), (172, .ireturn, [0])]
def h_145 : List (Nat × Nat) := [(104, 7), (136, 7)]
/-- LastStirredModel.mean(I)I -/
def k_146 : List (Nat × Instr × List Nat) := [(0, .iload_n 1, []), (1, .invokestatic 83, [139, 1, 1, 128]), (4, .ifCond .ne 5, [9]), (7, .iconst (-1), []), (8, .ireturn, [0]), (9, .aload_n 0, []), (10, .getfield 13, [7, 5, 2, 85]), (13, .iload_n 1, []), (14, .iaload, []), (15, .ifCond .ge 9, [24]), (18, .aload_n 0, []), (19, .iconst 1, []), (20, .invokevirtual 87, [131, 1, 1, 7, 129]), (23, .ireturn, [0]), (24, .aload_n 0, []), (25, .getfield 13, [7, 5, 2, 85]), (28, .iload_n 1, []), (29, .iaload, []), (30, .ifCond .ne 9, [39]), (33, .aload_n 0, []), (34, .iconst 4, []), (35, .invokevirtual 87, [131, 1, 1, 7, 129]), (38, .ireturn, [0]), (39, .lconst 0, []), (40, .lstore_n 2, []), (41, .iconst 0, []), (42, .istore 4, []), (44, .iload 4, []), (46, .aload_n 0, []), (47, .getfield 13, [7, 5, 2, 85]), (50, .iload_n 1, []), (51, .iaload, []), (52, .if_icmp .ge 20, [72]), (55, .lload_n 2, []), (56, .aload_n 0, []), (57, .iload_n 1, []), (58, .iload 4, []), (60, .invokevirtual 91, [140, 2, 1, 7, 130]), (63, .i2l, []), (64, .ladd, []), (65, .lstore_n 2, []), (66, .iinc 4 1, []), (69, .goto (-25), [44]), (72, .aload_n 0, []), (73, .lload_n 2, []), (74, .aload_n 0, []), (75, .getfield 13, [7, 5, 2, 85]), (78, .iload_n 1, []), (79, .iaload, []), (80, .i2l, []), (81, .ldiv, []), (82, .l2i, []), (83, .iconst 1, []), (84, .invokevirtual 95, [134, 2, 1, 7, 131]), (87, .ireturn, [0])]
def h_146 : List (Nat × Nat) := [(44, 5)]
/-- LastStirredModel.isText(I)Z -/
def k_147 : List (Nat × Instr × List Nat) := [(0, .iload_n 0, []), (1, .iconst 0, []), (2, .iconst 3, []), (3, .invokestatic 73, [127, 3, 1, 127]), (6, .ireturn, [1])]
def h_147 : List (Nat × Nat) := []
/-- LastStirredModel.text(II)I -/
def k_148 : List (Nat × Instr × List Nat) := [(0, .iload_n 1, []), (1, .invokestatic 98, [147, 1, 1, 132]), (4, .ifCond .eq 9, [13]), (7, .iload_n 2, []), (8, .bipush 80, []), (10, .if_icmp .le 5, [15]), (13, .iconst (-1), []), (14, .ireturn, [0]), (15, .iload_n 2, []), (16, .ifCond .ge 9, [25]), (19, .aload_n 0, []), (20, .iconst 5, []), (21, .invokevirtual 87, [131, 1, 1, 7, 129]), (24, .ireturn, [0]), (25, .aload_n 0, []), (26, .getfield 22, [7, 8, 2, 88]), (29, .iload_n 1, []), (30, .iload_n 2, []), (31, .iastore, []), (32, .iconst 0, []), (33, .istore_n 3, []), (34, .iload_n 3, []), (35, .bipush 80, []), (37, .if_icmp .ge 22, [59]), (40, .aload_n 0, []), (41, .getfield 25, [7, 9, 2, 89]), (44, .bipush 80, []), (46, .iload_n 1, []), (47, .imul, []), (48, .iload_n 3, []), (49, .iadd, []), (50, .bipush 32, []), (52, .bastore, []), (53, .iinc 3 1, []), (56, .goto (-22), [34]), (59, .iload_n 2, []), (60, .ireturn, [0])]
def h_148 : List (Nat × Nat) := [(34, 4)]
/-- LastStirredModel.put(III)I -/
def k_149 : List (Nat × Instr × List Nat) := [(0, .iload_n 1, []), (1, .invokestatic 98, [147, 1, 1, 132]), (4, .ifCond .ne 5, [9]), (7, .iconst (-1), []), (8, .ireturn, [0]), (9, .aload_n 0, []), (10, .getfield 22, [7, 8, 2, 88]), (13, .iload_n 1, []), (14, .iaload, []), (15, .ifCond .ge 9, [24]), (18, .aload_n 0, []), (19, .iconst 1, []), (20, .invokevirtual 87, [131, 1, 1, 7, 129]), (23, .ireturn, [0]), (24, .iload_n 2, []), (25, .iconst 0, []), (26, .aload_n 0, []), (27, .getfield 22, [7, 8, 2, 88]), (30, .iload_n 1, []), (31, .iaload, []), (32, .iconst 1, []), (33, .isub, []), (34, .invokestatic 73, [127, 3, 1, 127]), (37, .ifCond .ne 9, [46]), (40, .aload_n 0, []), (41, .iconst 2, []), (42, .invokevirtual 87, [131, 1, 1, 7, 129]), (45, .ireturn, [0]), (46, .aload_n 0, []), (47, .getfield 25, [7, 9, 2, 89]), (50, .bipush 80, []), (52, .iload_n 1, []), (53, .imul, []), (54, .iload_n 2, []), (55, .iadd, []), (56, .baload, []), (57, .istore 4, []), (59, .aload_n 0, []), (60, .getfield 25, [7, 9, 2, 89]), (63, .bipush 80, []), (65, .iload_n 1, []), (66, .imul, []), (67, .iload_n 2, []), (68, .iadd, []), (69, .iload_n 3, []), (70, .i2b, []), (71, .bastore, []), (72, .sipush 1000, []), (75, .iload 4, []), (77, .iadd, []), (78, .ireturn, [0])]
def h_149 : List (Nat × Nat) := []
/-- LastStirredModel.byteAt(II)I -/
def k_150 : List (Nat × Instr × List Nat) := [(0, .iload_n 2, []), (1, .aload_n 0, []), (2, .getfield 22, [7, 8, 2, 88]), (5, .iload_n 1, []), (6, .iaload, []), (7, .if_icmp .ge 17, [24]), (10, .aload_n 0, []), (11, .getfield 25, [7, 9, 2, 89]), (14, .bipush 80, []), (16, .iload_n 1, []), (17, .imul, []), (18, .iload_n 2, []), (19, .iadd, []), (20, .baload, []), (21, .goto 4, [25]), (24, .iconst 0, []), (25, .ireturn, [0])]
def h_150 : List (Nat × Nat) := []
/-- LastStirredModel.signOf(I)I -/
def k_151 : List (Nat × Instr × List Nat) := [(0, .iload_n 0, []), (1, .bipush 46, []), (3, .if_icmp .ne 7, [10]), (6, .iconst 0, []), (7, .goto 45, [52]), (10, .iload_n 0, []), (11, .bipush 35, []), (13, .if_icmp .ne 7, [20]), (16, .iconst 1, []), (17, .goto 35, [52]), (20, .iload_n 0, []), (21, .bipush 126, []), (23, .if_icmp .ne 7, [30]), (26, .iconst 2, []), (27, .goto 25, [52]), (30, .iload_n 0, []), (31, .bipush 111, []), (33, .if_icmp .ne 7, [40]), (36, .iconst 3, []), (37, .goto 15, [52]), (40, .iload_n 0, []), (41, .bipush 61, []), (43, .if_icmp .ne 7, [50]), (46, .iconst 4, []), (47, .goto 5, [52]), (50, .bipush (-9), []), (52, .ireturn, [0])]
def h_151 : List (Nat × Nat) := []
/-- LastStirredModel.kindOf(I)I -/
def k_152 : List (Nat × Instr × List Nat) := [(0, .iload_n 0, []), (1, .tableswitch 103 98 116 #[91, 97, 103, 103, 103, 103, 103, 103, 103, 103, 95, 99, 103, 103, 103, 103, 103, 93, 101], [104, 92, 98, 104, 104, 104, 104, 104, 104, 104, 104, 96, 100, 104, 104, 104, 104, 104, 94, 102]), (92, .iconst 0, []), (93, .ireturn, [0]), (94, .iconst 1, []), (95, .ireturn, [0]), (96, .iconst 2, []), (97, .ireturn, [0]), (98, .iconst 3, []), (99, .ireturn, [0]), (100, .iconst 4, []), (101, .ireturn, [0]), (102, .iconst 5, []), (103, .ireturn, [0]), (104, .bipush (-9), []), (106, .ireturn, [0])]
def h_152 : List (Nat × Nat) := []
/-- LastStirredModel.figure(III)Z -/
def k_153 : List (Nat × Instr × List Nat) := [(0, .aload_n 0, []), (1, .aload_n 0, []), (2, .iload_n 1, []), (3, .aload_n 0, []), (4, .getfield 101, [7, 15, 0, 95]), (7, .invokevirtual 104, [150, 2, 1, 7, 133]), (10, .bipush 48, []), (12, .isub, []), (13, .putfield 107, [7, 16, 0, 96]), (16, .aload_n 0, []), (17, .getfield 107, [7, 16, 0, 96]), (20, .iload_n 2, []), (21, .iload_n 3, []), (22, .invokestatic 73, [127, 3, 1, 127]), (25, .istore 4, []), (27, .aload_n 0, []), (28, .dup, []), (29, .getfield 101, [7, 15, 0, 95]), (32, .iload 4, []), (34, .ifCond .eq 7, [41]), (37, .iconst 1, []), (38, .goto 4, [42]), (41, .iconst 0, []), (42, .iadd, []), (43, .putfield 101, [7, 15, 0, 95]), (46, .iload 4, []), (48, .ireturn, [1])]
def h_153 : List (Nat × Nat) := []
/-- LastStirredModel.readsGrid(I)Z -/
def k_154 : List (Nat × Instr × List Nat) := [(0, .aload_n 0, []), (1, .iload_n 1, []), (2, .aload_n 0, []), (3, .getfield 101, [7, 15, 0, 95]), (6, .invokevirtual 104, [150, 2, 1, 7, 133]), (9, .bipush 103, []), (11, .if_icmp .eq 5, [16]), (14, .iconst 0, []), (15, .ireturn, [1]), (16, .aload_n 0, []), (17, .dup, []), (18, .getfield 101, [7, 15, 0, 95]), (21, .iconst 1, []), (22, .iadd, []), (23, .putfield 101, [7, 15, 0, 95]), (26, .aload_n 0, []), (27, .iload_n 1, []), (28, .iconst 2, []), (29, .bipush 6, []), (31, .invokevirtual 110, [153, 3, 1, 7, 134]), (34, .ifCond .ne 5, [39]), (37, .iconst 0, []), (38, .ireturn, [1]), (39, .aload_n 0, []), (40, .getfield 107, [7, 16, 0, 96]), (43, .istore_n 2, []), (44, .aload_n 0, []), (45, .iload_n 1, []), (46, .iconst 1, []), (47, .iconst 5, []), (48, .invokevirtual 110, [153, 3, 1, 7, 134]), (51, .ifCond .ne 5, [56]), (54, .iconst 0, []), (55, .ireturn, [1]), (56, .aload_n 0, []), (57, .iload_n 2, []), (58, .putfield 113, [7, 17, 0, 97]), (61, .aload_n 0, []), (62, .aload_n 0, []), (63, .getfield 107, [7, 16, 0, 96]), (66, .putfield 116, [7, 18, 0, 98]), (69, .iconst 1, []), (70, .ireturn, [1])]
def h_154 : List (Nat × Nat) := []
/-- LastStirredModel.readsSign(I)Z -/
def k_155 : List (Nat × Instr × List Nat) := [(0, .aload_n 0, []), (1, .iload_n 1, []), (2, .aload_n 0, []), (3, .getfield 101, [7, 15, 0, 95]), (6, .invokevirtual 104, [150, 2, 1, 7, 133]), (9, .invokestatic 119, [151, 1, 1, 135]), (12, .istore_n 2, []), (13, .iload_n 2, []), (14, .bipush (-9), []), (16, .if_icmp .ne 5, [21]), (19, .iconst 0, []), (20, .ireturn, [1]), (21, .aload_n 0, []), (22, .getfield 35, [7, 21, 2, 101]), (25, .aload_n 0, []), (26, .getfield 122, [7, 19, 0, 99]), (29, .iload_n 2, []), (30, .iastore, []), (31, .aload_n 0, []), (32, .dup, []), (33, .getfield 122, [7, 19, 0, 99]), (36, .iconst 1, []), (37, .iadd, []), (38, .putfield 122, [7, 19, 0, 99]), (41, .aload_n 0, []), (42, .dup, []), (43, .getfield 101, [7, 15, 0, 95]), (46, .iconst 1, []), (47, .iadd, []), (48, .putfield 101, [7, 15, 0, 95]), (51, .iconst 1, []), (52, .ireturn, [1])]
def h_155 : List (Nat × Nat) := []
/-- LastStirredModel.readsBeast(I)Z -/
def k_156 : List (Nat × Instr × List Nat) := [(0, .aload_n 0, []), (1, .iload_n 1, []), (2, .aload_n 0, []), (3, .getfield 101, [7, 15, 0, 95]), (6, .invokevirtual 104, [150, 2, 1, 7, 133]), (9, .invokestatic 125, [152, 1, 1, 136]), (12, .istore_n 2, []), (13, .iload_n 2, []), (14, .bipush (-9), []), (16, .if_icmp .eq 11, [27]), (19, .aload_n 0, []), (20, .getfield 128, [7, 20, 0, 100]), (23, .iconst 4, []), (24, .if_icmp .ne 5, [29]), (27, .iconst 0, []), (28, .ireturn, [1]), (29, .aload_n 0, []), (30, .dup, []), (31, .getfield 101, [7, 15, 0, 95]), (34, .iconst 1, []), (35, .iadd, []), (36, .putfield 101, [7, 15, 0, 95]), (39, .aload_n 0, []), (40, .iload_n 1, []), (41, .iconst 0, []), (42, .aload_n 0, []), (43, .getfield 113, [7, 17, 0, 97]), (46, .iconst 1, []), (47, .isub, []), (48, .invokevirtual 110, [153, 3, 1, 7, 134]), (51, .ifCond .ne 5, [56]), (54, .iconst 0, []), (55, .ireturn, [1]), (56, .aload_n 0, []), (57, .getfield 107, [7, 16, 0, 96]), (60, .istore_n 3, []), (61, .aload_n 0, []), (62, .iload_n 1, []), (63, .aload_n 0, []), (64, .getfield 101, [7, 15, 0, 95]), (67, .invokevirtual 104, [150, 2, 1, 7, 133]), (70, .bipush 48, []), (72, .isub, []), (73, .istore 4, []), (75, .iload 4, []), (77, .iconst 0, []), (78, .aload_n 0, []), (79, .getfield 116, [7, 18, 0, 98]), (82, .iconst 1, []), (83, .isub, []), (84, .invokestatic 73, [127, 3, 1, 127]), (87, .ifCond .eq 43, [130]), (90, .aload_n 0, []), (91, .getfield 35, [7, 21, 2, 101]), (94, .aload_n 0, []), (95, .getfield 113, [7, 17, 0, 97]), (98, .iload 4, []), (100, .imul, []), (101, .iload_n 3, []), (102, .iadd, []), (103, .iaload, []), (104, .iconst 1, []), (105, .if_icmp .eq 25, [130]), (108, .aload_n 0, []), (109, .getfield 35, [7, 21, 2, 101]), (112, .aload_n 0, []), (113, .getfield 113, [7, 17, 0, 97]), (116, .iload 4, []), (118, .imul, []), (119, .iload_n 3, []), (120, .iadd, []), (121, .iaload, []), (122, .iconst 2, []), (123, .if_icmp .eq 7, [130]), (126, .iconst 1, []), (127, .goto 4, [131]), (130, .iconst 0, []), (131, .istore 5, []), (133, .iconst 0, []), (134, .istore 6, []), (136, .iload 6, []), (138, .aload_n 0, []), (139, .getfield 128, [7, 20, 0, 100]), (142, .if_icmp .ge 40, [182]), (145, .iload 5, []), (147, .ifCond .eq 35, [182]), (150, .aload_n 0, []), (151, .getfield 41, [7, 23, 2, 103]), (154, .iload 6, []), (156, .iaload, []), (157, .aload_n 0, []), (158, .getfield 113, [7, 17, 0, 97]), (161, .iload 4, []), (163, .imul, []), (164, .iload_n 3, []), (165, .iadd, []), (166, .if_icmp .eq 7, [173]), (169, .iconst 1, []), (170, .goto 4, [174]), (173, .iconst 0, []), (174, .istore 5, []), (176, .iinc 6 1, []), (179, .goto (-43), [136]), (182, .iload 5, []), (184, .ifCond .ne 5, [189]), (187, .iconst 0, []), (188, .ireturn, [1]), (189, .aload_n 0, []), (190, .dup, []), (191, .getfield 101, [7, 15, 0, 95]), (194, .iconst 1, []), (195, .iadd, []), (196, .putfield 101, [7, 15, 0, 95]), (199, .aload_n 0, []), (200, .getfield 38, [7, 22, 2, 102]), (203, .aload_n 0, []), (204, .getfield 128, [7, 20, 0, 100]), (207, .iload_n 2, []), (208, .iastore, []), (209, .aload_n 0, []), (210, .getfield 41, [7, 23, 2, 103]), (213, .aload_n 0, []), (214, .getfield 128, [7, 20, 0, 100]), (217, .aload_n 0, []), (218, .getfield 113, [7, 17, 0, 97]), (221, .iload 4, []), (223, .imul, []), (224, .iload_n 3, []), (225, .iadd, []), (226, .iastore, []), (227, .aload_n 0, []), (228, .dup, []), (229, .getfield 128, [7, 20, 0, 100]), (232, .iconst 1, []), (233, .iadd, []), (234, .putfield 128, [7, 20, 0, 100]), (237, .iconst 1, []), (238, .ireturn, [1])]
def h_156 : List (Nat × Nat) := [(136, 7)]
/-- LastStirredModel.faultOf(I)I -/
def k_157 : List (Nat × Instr × List Nat) := [(0, .aload_n 0, []), (1, .iconst 0, []), (2, .putfield 101, [7, 15, 0, 95]), (5, .aload_n 0, []), (6, .iconst 0, []), (7, .putfield 113, [7, 17, 0, 97]), (10, .aload_n 0, []), (11, .iconst 0, []), (12, .putfield 116, [7, 18, 0, 98]), (15, .aload_n 0, []), (16, .iconst 0, []), (17, .putfield 122, [7, 19, 0, 99]), (20, .aload_n 0, []), (21, .iconst 0, []), (22, .putfield 128, [7, 20, 0, 100]), (25, .aload_n 0, []), (26, .getfield 101, [7, 15, 0, 95]), (29, .aload_n 0, []), (30, .getfield 22, [7, 8, 2, 88]), (33, .iload_n 1, []), (34, .iaload, []), (35, .if_icmp .ge 88, [123]), (38, .aload_n 0, []), (39, .iload_n 1, []), (40, .aload_n 0, []), (41, .getfield 101, [7, 15, 0, 95]), (44, .invokevirtual 104, [150, 2, 1, 7, 133]), (47, .bipush 32, []), (49, .if_icmp .ne 16, [65]), (52, .aload_n 0, []), (53, .dup, []), (54, .getfield 101, [7, 15, 0, 95]), (57, .iconst 1, []), (58, .iadd, []), (59, .putfield 101, [7, 15, 0, 95]), (62, .goto (-37), [25]), (65, .aload_n 0, []), (66, .getfield 113, [7, 17, 0, 97]), (69, .ifCond .ne 14, [83]), (72, .aload_n 0, []), (73, .iload_n 1, []), (74, .invokevirtual 131, [154, 1, 1, 7, 137]), (77, .ifCond .eq 41, [118]), (80, .goto (-55), [25]), (83, .aload_n 0, []), (84, .getfield 122, [7, 19, 0, 99]), (87, .aload_n 0, []), (88, .getfield 113, [7, 17, 0, 97]), (91, .aload_n 0, []), (92, .getfield 116, [7, 18, 0, 98]), (95, .imul, []), (96, .if_icmp .ge 14, [110]), (99, .aload_n 0, []), (100, .iload_n 1, []), (101, .invokevirtual 134, [155, 1, 1, 7, 138]), (104, .ifCond .eq 14, [118]), (107, .goto (-82), [25]), (110, .aload_n 0, []), (111, .iload_n 1, []), (112, .invokevirtual 137, [156, 1, 1, 7, 139]), (115, .ifCond .ne (-90), [25]), (118, .aload_n 0, []), (119, .getfield 101, [7, 15, 0, 95]), (122, .ireturn, [0]), (123, .aload_n 0, []), (124, .getfield 113, [7, 17, 0, 97]), (127, .ifCond .eq 19, [146]), (130, .aload_n 0, []), (131, .getfield 122, [7, 19, 0, 99]), (134, .aload_n 0, []), (135, .getfield 113, [7, 17, 0, 97]), (138, .aload_n 0, []), (139, .getfield 116, [7, 18, 0, 98]), (142, .imul, []), (143, .if_icmp .ge 12, [155]), (146, .aload_n 0, []), (147, .getfield 22, [7, 8, 2, 88]), (150, .iload_n 1, []), (151, .iaload, []), (152, .goto 5, [157]), (155, .bipush (-9), []), (157, .ireturn, [0])]
def h_157 : List (Nat × Nat) := [(25, 2)]
/-- LastStirredModel.fault(I)I -/
def k_158 : List (Nat × Instr × List Nat) := [(0, .iload_n 1, []), (1, .invokestatic 98, [147, 1, 1, 132]), (4, .ifCond .ne 5, [9]), (7, .iconst (-1), []), (8, .ireturn, [0]), (9, .aload_n 0, []), (10, .getfield 22, [7, 8, 2, 88]), (13, .iload_n 1, []), (14, .iaload, []), (15, .ifCond .ge 11, [26]), (18, .aload_n 0, []), (19, .iconst 1, []), (20, .invokevirtual 87, [131, 1, 1, 7, 129]), (23, .goto 8, [31]), (26, .aload_n 0, []), (27, .iload_n 1, []), (28, .invokevirtual 140, [157, 1, 1, 7, 140]), (31, .ireturn, [0])]
def h_158 : List (Nat × Nat) := []
/-- LastStirredModel.ground(I)I -/
def k_159 : List (Nat × Instr × List Nat) := [(0, .iload_n 1, []), (1, .invokestatic 98, [147, 1, 1, 132]), (4, .ifCond .ne 5, [9]), (7, .iconst (-1), []), (8, .ireturn, [0]), (9, .aload_n 0, []), (10, .getfield 22, [7, 8, 2, 88]), (13, .iload_n 1, []), (14, .iaload, []), (15, .ifCond .ge 9, [24]), (18, .aload_n 0, []), (19, .iconst 1, []), (20, .invokevirtual 87, [131, 1, 1, 7, 129]), (23, .ireturn, [0]), (24, .aload_n 0, []), (25, .iload_n 1, []), (26, .invokevirtual 140, [157, 1, 1, 7, 140]), (29, .bipush (-9), []), (31, .if_icmp .eq 6, [37]), (34, .bipush (-4), []), (36, .ireturn, [0]), (37, .aload_n 0, []), (38, .aload_n 0, []), (39, .getfield 113, [7, 17, 0, 97]), (42, .putfield 143, [7, 10, 0, 90]), (45, .aload_n 0, []), (46, .aload_n 0, []), (47, .getfield 122, [7, 19, 0, 99]), (50, .putfield 146, [7, 11, 0, 91]), (53, .aload_n 0, []), (54, .aload_n 0, []), (55, .getfield 128, [7, 20, 0, 100]), (58, .putfield 149, [7, 13, 0, 93]), (61, .iconst 0, []), (62, .istore_n 2, []), (63, .iload_n 2, []), (64, .aload_n 0, []), (65, .getfield 146, [7, 11, 0, 91]), (68, .if_icmp .ge 21, [89]), (71, .aload_n 0, []), (72, .getfield 29, [7, 12, 2, 92]), (75, .iload_n 2, []), (76, .aload_n 0, []), (77, .getfield 35, [7, 21, 2, 101]), (80, .iload_n 2, []), (81, .iaload, []), (82, .iastore, []), (83, .iinc 2 1, []), (86, .goto (-23), [63]), (89, .aload_n 0, []), (90, .iconst 0, []), (91, .iconst 0, []), (92, .iconst 0, []), (93, .invokevirtual 65, [163, 3, 0, 7, 126]), (96, .aload_n 0, []), (97, .iconst 0, []), (98, .iconst 1, []), (99, .bipush (-9), []), (101, .invokevirtual 65, [163, 3, 0, 7, 126]), (104, .aload_n 0, []), (105, .iconst 0, []), (106, .iconst 2, []), (107, .bipush (-9), []), (109, .invokevirtual 65, [163, 3, 0, 7, 126]), (112, .aload_n 0, []), (113, .iconst 0, []), (114, .iconst 3, []), (115, .bipush (-9), []), (117, .invokevirtual 65, [163, 3, 0, 7, 126]), (120, .aload_n 0, []), (121, .iconst 0, []), (122, .iconst 4, []), (123, .bipush (-9), []), (125, .invokevirtual 65, [163, 3, 0, 7, 126]), (128, .iconst 0, []), (129, .istore_n 2, []), (130, .iload_n 2, []), (131, .iconst 4, []), (132, .if_icmp .ge 58, [190]), (135, .aload_n 0, []), (136, .getfield 32, [7, 14, 2, 94]), (139, .iload_n 2, []), (140, .aload_n 0, []), (141, .getfield 38, [7, 22, 2, 102]), (144, .iload_n 2, []), (145, .iaload, []), (146, .iastore, []), (147, .aload_n 0, []), (148, .iconst 0, []), (149, .iconst 5, []), (150, .iload_n 2, []), (151, .iadd, []), (152, .iload_n 2, []), (153, .aload_n 0, []), (154, .getfield 149, [7, 13, 0, 93]), (157, .if_icmp .ge 12, [169]), (160, .aload_n 0, []), (161, .getfield 41, [7, 23, 2, 103]), (164, .iload_n 2, []), (165, .iaload, []), (166, .goto 5, [171]), (169, .bipush (-9), []), (171, .invokevirtual 65, [163, 3, 0, 7, 126]), (174, .aload_n 0, []), (175, .iconst 0, []), (176, .bipush 9, []), (178, .iload_n 2, []), (179, .iadd, []), (180, .iconst 0, []), (181, .invokevirtual 65, [163, 3, 0, 7, 126]), (184, .iinc 2 1, []), (187, .goto (-57), [130]), (190, .iconst 0, []), (191, .istore_n 2, []), (192, .iload_n 2, []), (193, .iconst 3, []), (194, .if_icmp .ge 16, [210]), (197, .aload_n 0, []), (198, .getfield 47, [7, 25, 2, 105]), (201, .iload_n 2, []), (202, .iconst 0, []), (203, .bastore, []), (204, .iinc 2 1, []), (207, .goto (-15), [192]), (210, .aload_n 0, []), (211, .getfield 149, [7, 13, 0, 93]), (214, .ireturn, [0])]
def h_159 : List (Nat × Nat) := [(63, 3), (130, 3), (192, 3)]
/-- LastStirredModel.isCell(I)Z -/
def k_160 : List (Nat × Instr × List Nat) := [(0, .iload_n 1, []), (1, .iconst 0, []), (2, .aload_n 0, []), (3, .getfield 146, [7, 11, 0, 91]), (6, .iconst 1, []), (7, .isub, []), (8, .invokestatic 73, [127, 3, 1, 127]), (11, .ireturn, [1])]
def h_160 : List (Nat × Nat) := []
/-- LastStirredModel.isBeast(I)Z -/
def k_161 : List (Nat × Instr × List Nat) := [(0, .iload_n 1, []), (1, .iconst 0, []), (2, .aload_n 0, []), (3, .getfield 149, [7, 13, 0, 93]), (6, .iconst 1, []), (7, .isub, []), (8, .invokestatic 73, [127, 3, 1, 127]), (11, .ireturn, [1])]
def h_161 : List (Nat × Nat) := []
/-- LastStirredModel.v(II)I -/
def k_162 : List (Nat × Instr × List Nat) := [(0, .aload_n 0, []), (1, .getfield 44, [7, 24, 2, 104]), (4, .bipush 13, []), (6, .iload_n 1, []), (7, .imul, []), (8, .iload_n 2, []), (9, .iadd, []), (10, .iaload, []), (11, .ireturn, [0])]
def h_162 : List (Nat × Nat) := []
/-- LastStirredModel.place(III)V -/
def k_163 : List (Nat × Instr × List Nat) := [(0, .aload_n 0, []), (1, .getfield 44, [7, 24, 2, 104]), (4, .bipush 13, []), (6, .iload_n 1, []), (7, .imul, []), (8, .iload_n 2, []), (9, .iadd, []), (10, .iload_n 3, []), (11, .iastore, []), (12, .return_, [])]
def h_163 : List (Nat × Nat) := []
/-- LastStirredModel.copyFlock(II)V -/
def k_164 : List (Nat × Instr × List Nat) := [(0, .iconst 0, []), (1, .istore_n 3, []), (2, .iload_n 3, []), (3, .bipush 13, []), (5, .if_icmp .ge 21, [26]), (8, .aload_n 0, []), (9, .iload_n 2, []), (10, .iload_n 3, []), (11, .aload_n 0, []), (12, .iload_n 1, []), (13, .iload_n 3, []), (14, .invokevirtual 152, [162, 2, 1, 7, 141]), (17, .invokevirtual 65, [163, 3, 0, 7, 126]), (20, .iinc 3 1, []), (23, .goto (-21), [2]), (26, .return_, [])]
def h_164 : List (Nat × Nat) := [(2, 4)]
/-- LastStirredModel.isLost(II)Z -/
def k_165 : List (Nat × Instr × List Nat) := [(0, .aload_n 0, []), (1, .iload_n 1, []), (2, .iconst 5, []), (3, .iload_n 2, []), (4, .iadd, []), (5, .invokevirtual 152, [162, 2, 1, 7, 141]), (8, .bipush (-9), []), (10, .if_icmp .ne 7, [17]), (13, .iconst 1, []), (14, .goto 4, [18]), (17, .iconst 0, []), (18, .ireturn, [1])]
def h_165 : List (Nat × Nat) := []
/-- LastStirredModel.lostMany(I)I -/
def k_166 : List (Nat × Instr × List Nat) := [(0, .iconst 0, []), (1, .istore_n 2, []), (2, .iconst 0, []), (3, .istore_n 3, []), (4, .iload_n 3, []), (5, .aload_n 0, []), (6, .getfield 149, [7, 13, 0, 93]), (9, .if_icmp .ge 26, [35]), (12, .iload_n 2, []), (13, .aload_n 0, []), (14, .iload_n 1, []), (15, .iload_n 3, []), (16, .invokevirtual 155, [165, 2, 1, 7, 142]), (19, .ifCond .eq 7, [26]), (22, .iconst 1, []), (23, .goto 4, [27]), (26, .iconst 0, []), (27, .iadd, []), (28, .istore_n 2, []), (29, .iinc 3 1, []), (32, .goto (-28), [4]), (35, .iload_n 2, []), (36, .ireturn, [0])]
def h_166 : List (Nat × Nat) := [(4, 4)]
/-- LastStirredModel.whoIn(III)I -/
def k_167 : List (Nat × Instr × List Nat) := [(0, .iconst 0, []), (1, .istore 4, []), (3, .iload 4, []), (5, .aload_n 0, []), (6, .getfield 149, [7, 13, 0, 93]), (9, .if_icmp .ge 31, [40]), (12, .iload 4, []), (14, .iload_n 3, []), (15, .if_icmp .eq 19, [34]), (18, .aload_n 0, []), (19, .iload_n 1, []), (20, .iconst 5, []), (21, .iload 4, []), (23, .iadd, []), (24, .invokevirtual 152, [162, 2, 1, 7, 141]), (27, .iload_n 2, []), (28, .if_icmp .ne 6, [34]), (31, .iload 4, []), (33, .ireturn, [0]), (34, .iinc 4 1, []), (37, .goto (-34), [3]), (40, .bipush (-9), []), (42, .ireturn, [0])]
def h_167 : List (Nat × Nat) := [(3, 5)]
/-- LastStirredModel.off(II)I -/
def k_168 : List (Nat × Instr × List Nat) := [(0, .iload_n 1, []), (1, .aload_n 0, []), (2, .getfield 143, [7, 10, 0, 90]), (5, .irem, []), (6, .iload_n 2, []), (7, .aload_n 0, []), (8, .getfield 143, [7, 10, 0, 90]), (11, .irem, []), (12, .isub, []), (13, .invokestatic 159, [130, 1, 1, 143]), (16, .iload_n 1, []), (17, .aload_n 0, []), (18, .getfield 143, [7, 10, 0, 90]), (21, .idiv, []), (22, .iload_n 2, []), (23, .aload_n 0, []), (24, .getfield 143, [7, 10, 0, 90]), (27, .idiv, []), (28, .isub, []), (29, .invokestatic 159, [130, 1, 1, 143]), (32, .iadd, []), (33, .ireturn, [0])]
def h_168 : List (Nat × Nat) := []
/-- LastStirredModel.cell(I)I -/
def k_169 : List (Nat × Instr × List Nat) := [(0, .aload_n 0, []), (1, .iload_n 1, []), (2, .invokevirtual 162, [160, 1, 1, 7, 144]), (5, .ifCond .eq 24, [29]), (8, .aload_n 0, []), (9, .aload_n 0, []), (10, .iconst 0, []), (11, .iload_n 1, []), (12, .bipush (-9), []), (14, .invokevirtual 165, [167, 3, 1, 7, 145]), (17, .aload_n 0, []), (18, .getfield 29, [7, 12, 2, 92]), (21, .iload_n 1, []), (22, .iaload, []), (23, .invokevirtual 95, [134, 2, 1, 7, 131]), (26, .goto 4, [30]), (29, .iconst (-1), []), (30, .ireturn, [0])]
def h_169 : List (Nat × Nat) := []
/-- LastStirredModel.build(II)I -/
def k_170 : List (Nat × Instr × List Nat) := [(0, .aload_n 0, []), (1, .iload_n 1, []), (2, .invokevirtual 162, [160, 1, 1, 7, 144]), (5, .ifCond .eq 12, [17]), (8, .iload_n 2, []), (9, .iconst 0, []), (10, .iconst 4, []), (11, .invokestatic 73, [127, 3, 1, 127]), (14, .ifCond .ne 5, [19]), (17, .iconst (-1), []), (18, .ireturn, [0]), (19, .iload_n 2, []), (20, .iconst 1, []), (21, .if_icmp .eq 8, [29]), (24, .iload_n 2, []), (25, .iconst 2, []), (26, .if_icmp .ne 19, [45]), (29, .aload_n 0, []), (30, .iconst 0, []), (31, .iload_n 1, []), (32, .bipush (-9), []), (34, .invokevirtual 165, [167, 3, 1, 7, 145]), (37, .bipush (-9), []), (39, .if_icmp .eq 6, [45]), (42, .bipush (-4), []), (44, .ireturn, [0]), (45, .aload_n 0, []), (46, .getfield 29, [7, 12, 2, 92]), (49, .iload_n 1, []), (50, .iaload, []), (51, .istore_n 3, []), (52, .aload_n 0, []), (53, .getfield 29, [7, 12, 2, 92]), (56, .iload_n 1, []), (57, .iload_n 2, []), (58, .iastore, []), (59, .iload_n 3, []), (60, .ireturn, [0])]
def h_170 : List (Nat × Nat) := []
/-- LastStirredModel.beastTells(II)I -/
def k_171 : List (Nat × Instr × List Nat) := [(0, .iload_n 2, []), (1, .ifCond .ne 12, [13]), (4, .aload_n 0, []), (5, .getfield 32, [7, 14, 2, 94]), (8, .iload_n 1, []), (9, .iaload, []), (10, .goto 28, [38]), (13, .iload_n 2, []), (14, .iconst 1, []), (15, .if_icmp .ne 14, [29]), (18, .aload_n 0, []), (19, .iconst 0, []), (20, .iconst 5, []), (21, .iload_n 1, []), (22, .iadd, []), (23, .invokevirtual 152, [162, 2, 1, 7, 141]), (26, .goto 12, [38]), (29, .aload_n 0, []), (30, .iconst 0, []), (31, .bipush 9, []), (33, .iload_n 1, []), (34, .iadd, []), (35, .invokevirtual 152, [162, 2, 1, 7, 141]), (38, .ireturn, [0])]
def h_171 : List (Nat × Nat) := []
/-- LastStirredModel.beast(II)I -/
def k_172 : List (Nat × Instr × List Nat) := [(0, .aload_n 0, []), (1, .iload_n 1, []), (2, .invokevirtual 169, [161, 1, 1, 7, 146]), (5, .ifCond .eq 26, [31]), (8, .iload_n 2, []), (9, .iconst 0, []), (10, .iconst 2, []), (11, .invokestatic 73, [127, 3, 1, 127]), (14, .ifCond .eq 17, [31]), (17, .aload_n 0, []), (18, .aload_n 0, []), (19, .iload_n 1, []), (20, .iload_n 2, []), (21, .invokevirtual 172, [171, 2, 1, 7, 147]), (24, .iconst 1, []), (25, .invokevirtual 95, [134, 2, 1, 7, 131]), (28, .goto 4, [32]), (31, .iconst (-1), []), (32, .ireturn, [0])]
def h_172 : List (Nat × Nat) := []
/-- LastStirredModel.isShy(I)Z -/
def k_173 : List (Nat × Instr × List Nat) := [(0, .aload_n 0, []), (1, .getfield 32, [7, 14, 2, 94]), (4, .iload_n 1, []), (5, .iaload, []), (6, .iconst 1, []), (7, .if_icmp .eq 13, [20]), (10, .aload_n 0, []), (11, .getfield 32, [7, 14, 2, 94]), (14, .iload_n 1, []), (15, .iaload, []), (16, .iconst 5, []), (17, .if_icmp .ne 7, [24]), (20, .iconst 1, []), (21, .goto 4, [25]), (24, .iconst 0, []), (25, .ireturn, [1])]
def h_173 : List (Nat × Nat) := []
/-- LastStirredModel.isSlow(I)Z -/
def k_174 : List (Nat × Instr × List Nat) := [(0, .aload_n 0, []), (1, .getfield 32, [7, 14, 2, 94]), (4, .iload_n 1, []), (5, .iaload, []), (6, .iconst 2, []), (7, .if_icmp .eq 13, [20]), (10, .aload_n 0, []), (11, .getfield 32, [7, 14, 2, 94]), (14, .iload_n 1, []), (15, .iaload, []), (16, .iconst 4, []), (17, .if_icmp .ne 7, [24]), (20, .iconst 1, []), (21, .goto 4, [25]), (24, .iconst 0, []), (25, .ireturn, [1])]
def h_174 : List (Nat × Nat) := []
/-- LastStirredModel.aimOf(II)I -/
def k_175 : List (Nat × Instr × List Nat) := [(0, .aload_n 0, []), (1, .getfield 32, [7, 14, 2, 94]), (4, .iload_n 2, []), (5, .iaload, []), (6, .iconst 3, []), (7, .if_icmp .ne 23, [30]), (10, .aload_n 0, []), (11, .iload_n 1, []), (12, .iconst 4, []), (13, .invokevirtual 152, [162, 2, 1, 7, 141]), (16, .bipush (-9), []), (18, .if_icmp .eq 12, [30]), (21, .aload_n 0, []), (22, .iload_n 1, []), (23, .iconst 4, []), (24, .invokevirtual 152, [162, 2, 1, 7, 141]), (27, .goto 9, [36]), (30, .aload_n 0, []), (31, .iload_n 1, []), (32, .iconst 2, []), (33, .invokevirtual 152, [162, 2, 1, 7, 141]), (36, .ireturn, [0])]
def h_175 : List (Nat × Nat) := []
/-- LastStirredModel.near(I)I -/
def k_176 : List (Nat × Instr × List Nat) := [(0, .iconst 0, []), (1, .istore_n 2, []), (2, .iconst 0, []), (3, .istore_n 3, []), (4, .iload_n 3, []), (5, .aload_n 0, []), (6, .getfield 149, [7, 13, 0, 93]), (9, .if_icmp .ge 55, [64]), (12, .iload_n 2, []), (13, .iload_n 3, []), (14, .iload_n 1, []), (15, .if_icmp .eq 40, [55]), (18, .aload_n 0, []), (19, .iconst 0, []), (20, .iload_n 3, []), (21, .invokevirtual 155, [165, 2, 1, 7, 142]), (24, .ifCond .ne 31, [55]), (27, .aload_n 0, []), (28, .aload_n 0, []), (29, .iconst 0, []), (30, .iconst 5, []), (31, .iload_n 3, []), (32, .iadd, []), (33, .invokevirtual 152, [162, 2, 1, 7, 141]), (36, .aload_n 0, []), (37, .iconst 0, []), (38, .iconst 5, []), (39, .iload_n 1, []), (40, .iadd, []), (41, .invokevirtual 152, [162, 2, 1, 7, 141]), (44, .invokevirtual 175, [168, 2, 1, 7, 148]), (47, .iconst 3, []), (48, .if_icmp .ge 7, [55]), (51, .iconst 1, []), (52, .goto 4, [56]), (55, .iconst 0, []), (56, .iadd, []), (57, .istore_n 2, []), (58, .iinc 3 1, []), (61, .goto (-57), [4]), (64, .iload_n 2, []), (65, .ireturn, [0])]
def h_176 : List (Nat × Nat) := [(4, 4)]
/-- LastStirredModel.gates()I -/
def k_177 : List (Nat × Instr × List Nat) := [(0, .iconst 0, []), (1, .istore_n 1, []), (2, .iconst 0, []), (3, .istore_n 2, []), (4, .iload_n 2, []), (5, .aload_n 0, []), (6, .getfield 146, [7, 11, 0, 91]), (9, .if_icmp .ge 27, [36]), (12, .iload_n 1, []), (13, .aload_n 0, []), (14, .getfield 29, [7, 12, 2, 92]), (17, .iload_n 2, []), (18, .iaload, []), (19, .iconst 4, []), (20, .if_icmp .ne 7, [27]), (23, .iconst 1, []), (24, .goto 4, [28]), (27, .iconst 0, []), (28, .iadd, []), (29, .istore_n 1, []), (30, .iinc 2 1, []), (33, .goto (-29), [4]), (36, .iload_n 1, []), (37, .ireturn, [0])]
def h_177 : List (Nat × Nat) := [(4, 3)]
/-- LastStirredModel.mark(II)I -/
def k_178 : List (Nat × Instr × List Nat) := [(0, .aload_n 0, []), (1, .iload_n 1, []), (2, .invokevirtual 169, [161, 1, 1, 7, 146]), (5, .ifCond .eq 12, [17]), (8, .iload_n 2, []), (9, .iconst 1, []), (10, .iconst 5, []), (11, .invokestatic 73, [127, 3, 1, 127]), (14, .ifCond .ne 5, [19]), (17, .iconst (-1), []), (18, .ireturn, [0]), (19, .aload_n 0, []), (20, .getfield 32, [7, 14, 2, 94]), (23, .iload_n 1, []), (24, .iaload, []), (25, .iload_n 2, []), (26, .if_icmp .eq 35, [61]), (29, .iload_n 2, []), (30, .iconst 1, []), (31, .if_icmp .ne 11, [42]), (34, .aload_n 0, []), (35, .iload_n 1, []), (36, .invokevirtual 178, [173, 1, 1, 7, 149]), (39, .ifCond .ne 22, [61]), (42, .iload_n 2, []), (43, .iconst 2, []), (44, .if_icmp .ne 11, [55]), (47, .aload_n 0, []), (48, .iload_n 1, []), (49, .invokevirtual 181, [174, 1, 1, 7, 150]), (52, .ifCond .ne 9, [61]), (55, .aload_n 0, []), (56, .iconst 3, []), (57, .invokevirtual 87, [131, 1, 1, 7, 129]), (60, .ireturn, [0]), (61, .iload_n 2, []), (62, .tableswitch 95 1 4 #[30, 74, 83, 90], [157, 92, 136, 145, 152]), (92, .aload_n 0, []), (93, .iconst 0, []), (94, .iload_n 1, []), (95, .invokevirtual 155, [165, 2, 1, 7, 142]), (98, .ifCond .ne 14, [112]), (101, .aload_n 0, []), (102, .iconst 0, []), (103, .iconst 1, []), (104, .invokevirtual 152, [162, 2, 1, 7, 141]), (107, .bipush (-9), []), (109, .if_icmp .ne 8, [117]), (112, .bipush (-9), []), (114, .goto 21, [135]), (117, .aload_n 0, []), (118, .aload_n 0, []), (119, .iconst 0, []), (120, .iconst 5, []), (121, .iload_n 1, []), (122, .iadd, []), (123, .invokevirtual 152, [162, 2, 1, 7, 141]), (126, .aload_n 0, []), (127, .iconst 0, []), (128, .iconst 2, []), (129, .invokevirtual 152, [162, 2, 1, 7, 141]), (132, .invokevirtual 175, [168, 2, 1, 7, 148]), (135, .ireturn, [0]), (136, .aload_n 0, []), (137, .iconst 0, []), (138, .iconst 0, []), (139, .invokevirtual 152, [162, 2, 1, 7, 141]), (142, .iconst 2, []), (143, .irem, []), (144, .ireturn, [0]), (145, .aload_n 0, []), (146, .iconst 0, []), (147, .iload_n 1, []), (148, .invokevirtual 184, [175, 2, 1, 7, 151]), (151, .ireturn, [0]), (152, .aload_n 0, []), (153, .invokevirtual 187, [177, 0, 1, 7, 152]), (156, .ireturn, [0]), (157, .aload_n 0, []), (158, .iconst 0, []), (159, .iload_n 1, []), (160, .invokevirtual 155, [165, 2, 1, 7, 142]), (163, .ifCond .eq 8, [171]), (166, .bipush (-9), []), (168, .goto 8, [176]), (171, .aload_n 0, []), (172, .iload_n 1, []), (173, .invokevirtual 191, [176, 1, 1, 7, 153]), (176, .ireturn, [0])]
def h_178 : List (Nat × Nat) := []
/-- LastStirredModel.last()I -/
def k_179 : List (Nat × Instr × List Nat) := [(0, .aload_n 0, []), (1, .aload_n 0, []), (2, .iconst 0, []), (3, .iconst 2, []), (4, .invokevirtual 152, [162, 2, 1, 7, 141]), (7, .aload_n 0, []), (8, .iconst 0, []), (9, .iconst 1, []), (10, .invokevirtual 152, [162, 2, 1, 7, 141]), (13, .invokevirtual 95, [134, 2, 1, 7, 131]), (16, .ireturn, [0])]
def h_179 : List (Nat × Nat) := []
/-- LastStirredModel.can(III)Z -/
def k_180 : List (Nat × Instr × List Nat) := [(0, .aload_n 0, []), (1, .getfield 29, [7, 12, 2, 92]), (4, .iload_n 3, []), (5, .iaload, []), (6, .iconst 1, []), (7, .if_icmp .eq 46, [53]), (10, .aload_n 0, []), (11, .iload_n 1, []), (12, .iload_n 3, []), (13, .iload_n 2, []), (14, .invokevirtual 165, [167, 3, 1, 7, 145]), (17, .bipush (-9), []), (19, .if_icmp .ne 34, [53]), (22, .aload_n 0, []), (23, .getfield 29, [7, 12, 2, 92]), (26, .iload_n 3, []), (27, .iaload, []), (28, .iconst 4, []), (29, .if_icmp .ne 20, [49]), (32, .aload_n 0, []), (33, .getfield 32, [7, 14, 2, 94]), (36, .iload_n 2, []), (37, .iaload, []), (38, .iconst 4, []), (39, .if_icmp .eq 14, [53]), (42, .aload_n 0, []), (43, .getfield 194, [7, 26, 3, 106]), (46, .ifCond .ne 7, [53]), (49, .iconst 1, []), (50, .goto 4, [54]), (53, .iconst 0, []), (54, .ireturn, [1])]
def h_180 : List (Nat × Nat) := []
/-- LastStirredModel.by(III)I -/
def k_181 : List (Nat × Instr × List Nat) := [(0, .iload_n 1, []), (1, .aload_n 0, []), (2, .getfield 143, [7, 10, 0, 90]), (5, .irem, []), (6, .iload_n 2, []), (7, .iadd, []), (8, .istore 4, []), (10, .iload_n 1, []), (11, .aload_n 0, []), (12, .getfield 143, [7, 10, 0, 90]), (15, .idiv, []), (16, .iload_n 3, []), (17, .iadd, []), (18, .istore 5, []), (20, .iload 4, []), (22, .iconst 0, []), (23, .aload_n 0, []), (24, .getfield 143, [7, 10, 0, 90]), (27, .iconst 1, []), (28, .isub, []), (29, .invokestatic 73, [127, 3, 1, 127]), (32, .ifCond .eq 36, [68]), (35, .iload 5, []), (37, .iconst 0, []), (38, .aload_n 0, []), (39, .getfield 146, [7, 11, 0, 91]), (42, .aload_n 0, []), (43, .getfield 143, [7, 10, 0, 90]), (46, .idiv, []), (47, .iconst 1, []), (48, .isub, []), (49, .invokestatic 73, [127, 3, 1, 127]), (52, .ifCond .eq 16, [68]), (55, .aload_n 0, []), (56, .getfield 143, [7, 10, 0, 90]), (59, .iload 5, []), (61, .imul, []), (62, .iload 4, []), (64, .iadd, []), (65, .goto 5, [70]), (68, .bipush (-9), []), (70, .ireturn, [0])]
def h_181 : List (Nat × Nat) := []
/-- LastStirredModel.goesTo(III)Z -/
def k_182 : List (Nat × Instr × List Nat) := [(0, .iload_n 3, []), (1, .bipush (-9), []), (3, .if_icmp .eq 13, [16]), (6, .aload_n 0, []), (7, .iload_n 1, []), (8, .iload_n 2, []), (9, .iload_n 3, []), (10, .invokevirtual 198, [180, 3, 1, 7, 154]), (13, .ifCond .ne 5, [18]), (16, .iconst 0, []), (17, .ireturn, [1]), (18, .aload_n 0, []), (19, .aload_n 0, []), (20, .getfield 194, [7, 26, 3, 106]), (23, .ifCond .ne 13, [36]), (26, .aload_n 0, []), (27, .getfield 29, [7, 12, 2, 92]), (30, .iload_n 3, []), (31, .iaload, []), (32, .iconst 4, []), (33, .if_icmp .ne 7, [40]), (36, .iconst 1, []), (37, .goto 4, [41]), (40, .iconst 0, []), (41, .putfield 194, [7, 26, 3, 106]), (44, .aload_n 0, []), (45, .iload_n 1, []), (46, .iconst 5, []), (47, .iload_n 2, []), (48, .iadd, []), (49, .aload_n 0, []), (50, .getfield 29, [7, 12, 2, 92]), (53, .iload_n 3, []), (54, .iaload, []), (55, .iconst 2, []), (56, .if_icmp .ne 8, [64]), (59, .bipush (-9), []), (61, .goto 4, [65]), (64, .iload_n 3, []), (65, .invokevirtual 65, [163, 3, 0, 7, 126]), (68, .aload_n 0, []), (69, .iload_n 1, []), (70, .bipush 9, []), (72, .iload_n 2, []), (73, .iadd, []), (74, .aload_n 0, []), (75, .iload_n 1, []), (76, .bipush 9, []), (78, .iload_n 2, []), (79, .iadd, []), (80, .invokevirtual 152, [162, 2, 1, 7, 141]), (83, .iconst 1, []), (84, .iadd, []), (85, .invokevirtual 65, [163, 3, 0, 7, 126]), (88, .aload_n 0, []), (89, .iload_n 3, []), (90, .putfield 201, [7, 27, 0, 107]), (93, .iconst 1, []), (94, .ireturn, [1])]
def h_182 : List (Nat × Nat) := []
/-- LastStirredModel.becomesLast(III)V -/
def k_183 : List (Nat × Instr × List Nat) := [(0, .aload_n 0, []), (1, .iload_n 1, []), (2, .iconst 3, []), (3, .aload_n 0, []), (4, .iload_n 1, []), (5, .iconst 1, []), (6, .invokevirtual 152, [162, 2, 1, 7, 141]), (9, .invokevirtual 65, [163, 3, 0, 7, 126]), (12, .aload_n 0, []), (13, .iload_n 1, []), (14, .iconst 4, []), (15, .aload_n 0, []), (16, .iload_n 1, []), (17, .iconst 2, []), (18, .invokevirtual 152, [162, 2, 1, 7, 141]), (21, .invokevirtual 65, [163, 3, 0, 7, 126]), (24, .aload_n 0, []), (25, .iload_n 1, []), (26, .iconst 1, []), (27, .iload_n 2, []), (28, .invokevirtual 65, [163, 3, 0, 7, 126]), (31, .aload_n 0, []), (32, .iload_n 1, []), (33, .iconst 2, []), (34, .iload_n 3, []), (35, .invokevirtual 65, [163, 3, 0, 7, 126]), (38, .return_, [])]
def h_183 : List (Nat × Nat) := []
/-- LastStirredModel.sign(I)I -/
def k_184 : List (Nat × Instr × List Nat) := [(0, .iload_n 0, []), (1, .ifCond .ge 7, [8]), (4, .iconst (-1), []), (5, .goto 12, [17]), (8, .iload_n 0, []), (9, .ifCond .le 7, [16]), (12, .iconst 1, []), (13, .goto 4, [17]), (16, .iconst 0, []), (17, .ireturn, [0])]
def h_184 : List (Nat × Nat) := []
/-- LastStirredModel.goes(III)Z -/
def k_185 : List (Nat × Instr × List Nat) := [(0, .aload_n 0, []), (1, .iload_n 1, []), (2, .iconst 5, []), (3, .iload_n 2, []), (4, .iadd, []), (5, .invokevirtual 152, [162, 2, 1, 7, 141]), (8, .istore 4, []), (10, .iload_n 3, []), (11, .aload_n 0, []), (12, .getfield 143, [7, 10, 0, 90]), (15, .irem, []), (16, .iload 4, []), (18, .aload_n 0, []), (19, .getfield 143, [7, 10, 0, 90]), (22, .irem, []), (23, .isub, []), (24, .istore 5, []), (26, .iload_n 3, []), (27, .aload_n 0, []), (28, .getfield 143, [7, 10, 0, 90]), (31, .idiv, []), (32, .iload 4, []), (34, .aload_n 0, []), (35, .getfield 143, [7, 10, 0, 90]), (38, .idiv, []), (39, .isub, []), (40, .istore 6, []), (42, .iload 5, []), (44, .invokestatic 159, [130, 1, 1, 143]), (47, .iload 6, []), (49, .invokestatic 159, [130, 1, 1, 143]), (52, .iadd, []), (53, .istore 7, []), (55, .aload_n 0, []), (56, .iload_n 2, []), (57, .invokevirtual 181, [174, 1, 1, 7, 150]), (60, .ifCond .eq 17, [77]), (63, .aload_n 0, []), (64, .iload_n 1, []), (65, .iconst 0, []), (66, .invokevirtual 152, [162, 2, 1, 7, 141]), (69, .iconst 2, []), (70, .irem, []), (71, .iconst 1, []), (72, .if_icmp .ne 5, [77]), (75, .iconst 0, []), (76, .ireturn, [1]), (77, .aload_n 0, []), (78, .iload_n 2, []), (79, .invokevirtual 178, [173, 1, 1, 7, 149]), (82, .ifCond .eq 22, [104]), (85, .aload_n 0, []), (86, .getfield 32, [7, 14, 2, 94]), (89, .iload_n 2, []), (90, .iaload, []), (91, .iconst 5, []), (92, .if_icmp .ne 20, [112]), (95, .iload 7, []), (97, .iconst 2, []), (98, .if_icmp .le 14, [112]), (101, .goto 9, [110]), (104, .iload 7, []), (106, .iconst 2, []), (107, .if_icmp .ge 5, [112]), (110, .iconst 0, []), (111, .ireturn, [1]), (112, .aload_n 0, []), (113, .iload_n 2, []), (114, .invokevirtual 178, [173, 1, 1, 7, 149]), (117, .ifCond .eq 7, [124]), (120, .iconst (-1), []), (121, .goto 4, [125]), (124, .iconst 1, []), (125, .istore 8, []), (127, .iload 5, []), (129, .invokestatic 159, [130, 1, 1, 143]), (132, .iload 6, []), (134, .invokestatic 159, [130, 1, 1, 143]), (137, .if_icmp .lt 7, [144]), (140, .iconst 1, []), (141, .goto 4, [145]), (144, .iconst 0, []), (145, .istore 9, []), (147, .iload 8, []), (149, .iload 5, []), (151, .invokestatic 204, [184, 1, 1, 155]), (154, .imul, []), (155, .istore 10, []), (157, .iload 8, []), (159, .iload 6, []), (161, .invokestatic 204, [184, 1, 1, 155]), (164, .imul, []), (165, .istore 11, []), (167, .iload 9, []), (169, .ifCond .eq 34, [203]), (172, .iload 10, []), (174, .ifCond .eq 25, [199]), (177, .aload_n 0, []), (178, .iload_n 1, []), (179, .iload_n 2, []), (180, .aload_n 0, []), (181, .iload 4, []), (183, .iload 10, []), (185, .iconst 0, []), (186, .invokevirtual 207, [181, 3, 1, 7, 156]), (189, .invokevirtual 210, [182, 3, 1, 7, 157]), (192, .ifCond .eq 7, [199]), (195, .iconst 1, []), (196, .goto 22, [218]), (199, .iconst 0, []), (200, .goto 18, [218]), (203, .aload_n 0, []), (204, .iload_n 1, []), (205, .iload_n 2, []), (206, .aload_n 0, []), (207, .iload 4, []), (209, .iconst 0, []), (210, .iload 11, []), (212, .invokevirtual 207, [181, 3, 1, 7, 156]), (215, .invokevirtual 210, [182, 3, 1, 7, 157]), (218, .istore 12, []), (220, .iload 12, []), (222, .ifCond .ne 57, [279]), (225, .iload 9, []), (227, .ifCond .eq 29, [256]), (230, .iload 11, []), (232, .ifCond .eq 51, [283]), (235, .aload_n 0, []), (236, .iload_n 1, []), (237, .iload_n 2, []), (238, .aload_n 0, []), (239, .iload 4, []), (241, .iconst 0, []), (242, .iload 11, []), (244, .invokevirtual 207, [181, 3, 1, 7, 156]), (247, .invokevirtual 210, [182, 3, 1, 7, 157]), (250, .ifCond .eq 33, [283]), (253, .goto 26, [279]), (256, .iload 10, []), (258, .ifCond .eq 25, [283]), (261, .aload_n 0, []), (262, .iload_n 1, []), (263, .iload_n 2, []), (264, .aload_n 0, []), (265, .iload 4, []), (267, .iload 10, []), (269, .iconst 0, []), (270, .invokevirtual 207, [181, 3, 1, 7, 156]), (273, .invokevirtual 210, [182, 3, 1, 7, 157]), (276, .ifCond .eq 7, [283]), (279, .iconst 1, []), (280, .goto 4, [284]), (283, .iconst 0, []), (284, .ireturn, [1])]
def h_185 : List (Nat × Nat) := [(77, 8), (112, 8), (127, 9), (147, 10), (220, 13)]
/-- LastStirredModel.stepOf(I)I -/
def k_186 : List (Nat × Instr × List Nat) := [(0, .iconst 0, []), (1, .istore_n 2, []), (2, .bipush (-9), []), (4, .istore_n 3, []), (5, .bipush (-9), []), (7, .istore 4, []), (9, .aload_n 0, []), (10, .iload_n 1, []), (11, .iconst 1, []), (12, .invokevirtual 152, [162, 2, 1, 7, 141]), (15, .bipush (-9), []), (17, .if_icmp .eq 127, [144]), (20, .iconst 0, []), (21, .istore 5, []), (23, .iload 5, []), (25, .aload_n 0, []), (26, .getfield 149, [7, 13, 0, 93]), (29, .if_icmp .ge 23, [52]), (32, .aload_n 0, []), (33, .getfield 51, [7, 28, 2, 108]), (36, .iload 5, []), (38, .aload_n 0, []), (39, .iload_n 1, []), (40, .iload 5, []), (42, .invokevirtual 184, [175, 2, 1, 7, 151]), (45, .iastore, []), (46, .iinc 5 1, []), (49, .goto (-26), [23]), (52, .aload_n 0, []), (53, .iconst 0, []), (54, .putfield 194, [7, 26, 3, 106]), (57, .iconst 0, []), (58, .istore 5, []), (60, .iload 5, []), (62, .aload_n 0, []), (63, .getfield 149, [7, 13, 0, 93]), (66, .if_icmp .ge 63, [129]), (69, .aload_n 0, []), (70, .iload_n 1, []), (71, .iload 5, []), (73, .invokevirtual 155, [165, 2, 1, 7, 142]), (76, .ifCond .ne 47, [123]), (79, .iload 5, []), (81, .aload_n 0, []), (82, .iload_n 1, []), (83, .iconst 1, []), (84, .invokevirtual 152, [162, 2, 1, 7, 141]), (87, .if_icmp .eq 36, [123]), (90, .aload_n 0, []), (91, .iload_n 1, []), (92, .iload 5, []), (94, .aload_n 0, []), (95, .getfield 51, [7, 28, 2, 108]), (98, .iload 5, []), (100, .iaload, []), (101, .invokevirtual 213, [185, 3, 1, 7, 158]), (104, .ifCond .eq 19, [123]), (107, .iload_n 2, []), (108, .iconst 1, []), (109, .iload 5, []), (111, .ishl, []), (112, .ior, []), (113, .istore_n 2, []), (114, .iload 5, []), (116, .istore 4, []), (118, .aload_n 0, []), (119, .getfield 201, [7, 27, 0, 107]), (122, .istore_n 3, []), (123, .iinc 5 1, []), (126, .goto (-66), [60]), (129, .iload 4, []), (131, .bipush (-9), []), (133, .if_icmp .eq 11, [144]), (136, .aload_n 0, []), (137, .iload_n 1, []), (138, .iload 4, []), (140, .iload_n 3, []), (141, .invokevirtual 216, [183, 3, 0, 7, 159]), (144, .aload_n 0, []), (145, .iload_n 1, []), (146, .iconst 0, []), (147, .aload_n 0, []), (148, .iload_n 1, []), (149, .iconst 0, []), (150, .invokevirtual 152, [162, 2, 1, 7, 141]), (153, .iconst 1, []), (154, .iadd, []), (155, .invokevirtual 65, [163, 3, 0, 7, 126]), (158, .iload_n 2, []), (159, .ireturn, [0])]
def h_186 : List (Nat × Nat) := [(23, 6), (60, 6)]
/-- LastStirredModel.runs(I)I -/
def k_187 : List (Nat × Instr × List Nat) := [(0, .iconst 0, []), (1, .istore_n 2, []), (2, .iconst 0, []), (3, .istore_n 3, []), (4, .aload_n 0, []), (5, .iconst 0, []), (6, .putfield 219, [7, 30, 0, 110]), (9, .iload_n 2, []), (10, .iconst 2, []), (11, .if_icmp .ge 46, [57]), (14, .iload_n 3, []), (15, .bipush 40, []), (17, .if_icmp .ge 40, [57]), (20, .aload_n 0, []), (21, .iload_n 1, []), (22, .invokevirtual 222, [186, 1, 1, 7, 160]), (25, .istore 4, []), (27, .aload_n 0, []), (28, .dup, []), (29, .getfield 219, [7, 30, 0, 110]), (32, .iload 4, []), (34, .ior, []), (35, .putfield 219, [7, 30, 0, 110]), (38, .iload 4, []), (40, .ifCond .ne 9, [49]), (43, .iload_n 2, []), (44, .iconst 1, []), (45, .iadd, []), (46, .goto 4, [50]), (49, .iconst 0, []), (50, .istore_n 2, []), (51, .iinc 3 1, []), (54, .goto (-45), [9]), (57, .aload_n 0, []), (58, .iload_n 2, []), (59, .iconst 2, []), (60, .if_icmp .ne 7, [67]), (63, .iconst 1, []), (64, .goto 4, [68]), (67, .iconst 0, []), (68, .putfield 225, [7, 29, 3, 109]), (71, .iload_n 3, []), (72, .ireturn, [0])]
def h_187 : List (Nat × Nat) := [(9, 4)]
/-- LastStirredModel.stirs(III)Z -/
def k_188 : List (Nat × Instr × List Nat) := [(0, .aload_n 0, []), (1, .iload_n 1, []), (2, .iload_n 2, []), (3, .invokevirtual 155, [165, 2, 1, 7, 142]), (6, .ifCond .eq 5, [11]), (9, .iconst 0, []), (10, .ireturn, [1]), (11, .aload_n 0, []), (12, .iconst 0, []), (13, .putfield 194, [7, 26, 3, 106]), (16, .aload_n 0, []), (17, .aload_n 0, []), (18, .iload_n 1, []), (19, .iconst 5, []), (20, .iload_n 2, []), (21, .iadd, []), (22, .invokevirtual 152, [162, 2, 1, 7, 141]), (25, .iload_n 3, []), (26, .iconst 1, []), (27, .if_icmp .ne 7, [34]), (30, .iconst 1, []), (31, .goto 13, [44]), (34, .iload_n 3, []), (35, .iconst 3, []), (36, .if_icmp .ne 7, [43]), (39, .iconst (-1), []), (40, .goto 4, [44]), (43, .iconst 0, []), (44, .iload_n 3, []), (45, .ifCond .ne 7, [52]), (48, .iconst (-1), []), (49, .goto 13, [62]), (52, .iload_n 3, []), (53, .iconst 2, []), (54, .if_icmp .ne 7, [61]), (57, .iconst 1, []), (58, .goto 4, [62]), (61, .iconst 0, []), (62, .invokevirtual 207, [181, 3, 1, 7, 156]), (65, .istore 4, []), (67, .aload_n 0, []), (68, .iload_n 1, []), (69, .iload_n 2, []), (70, .iload 4, []), (72, .invokevirtual 210, [182, 3, 1, 7, 157]), (75, .ifCond .ne 5, [80]), (78, .iconst 0, []), (79, .ireturn, [1]), (80, .aload_n 0, []), (81, .iload_n 1, []), (82, .iload_n 2, []), (83, .iload 4, []), (85, .invokevirtual 216, [183, 3, 0, 7, 159]), (88, .iconst 1, []), (89, .ireturn, [1])]
def h_188 : List (Nat × Nat) := []
/-- LastStirredModel.drives(II)Z -/
def k_189 : List (Nat × Instr × List Nat) := [(0, .aload_n 0, []), (1, .iload_n 1, []), (2, .iload_n 2, []), (3, .iconst 4, []), (4, .idiv, []), (5, .iload_n 2, []), (6, .iconst 4, []), (7, .irem, []), (8, .invokevirtual 228, [188, 3, 1, 7, 161]), (11, .ifCond .ne 5, [16]), (14, .iconst 0, []), (15, .ireturn, [1]), (16, .aload_n 0, []), (17, .iload_n 1, []), (18, .invokevirtual 231, [187, 1, 1, 7, 162]), (21, .pop, []), (22, .iconst 1, []), (23, .ireturn, [1])]
def h_189 : List (Nat × Nat) := []
/-- LastStirredModel.stir(II)I -/
def k_190 : List (Nat × Instr × List Nat) := [(0, .aload_n 0, []), (1, .iload_n 1, []), (2, .invokevirtual 169, [161, 1, 1, 7, 146]), (5, .ifCond .eq 12, [17]), (8, .iload_n 2, []), (9, .iconst 0, []), (10, .iconst 3, []), (11, .invokestatic 73, [127, 3, 1, 127]), (14, .ifCond .ne 5, [19]), (17, .iconst (-1), []), (18, .ireturn, [0]), (19, .aload_n 0, []), (20, .iconst 0, []), (21, .iload_n 1, []), (22, .iload_n 2, []), (23, .invokevirtual 228, [188, 3, 1, 7, 161]), (26, .ifCond .eq 10, [36]), (29, .aload_n 0, []), (30, .getfield 201, [7, 27, 0, 107]), (33, .goto 5, [38]), (36, .bipush (-4), []), (38, .ireturn, [0])]
def h_190 : List (Nat × Nat) := []
/-- LastStirredModel.go(I)I -/
def k_191 : List (Nat × Instr × List Nat) := [(0, .iload_n 1, []), (1, .iconst 0, []), (2, .bipush 40, []), (4, .invokestatic 73, [127, 3, 1, 127]), (7, .ifCond .ne 5, [12]), (10, .iconst (-1), []), (11, .ireturn, [0]), (12, .aload_n 0, []), (13, .getfield 146, [7, 11, 0, 91]), (16, .ifCond .ne 6, [22]), (19, .bipush (-4), []), (21, .ireturn, [0]), (22, .aload_n 0, []), (23, .iconst 0, []), (24, .iconst 0, []), (25, .invokevirtual 152, [162, 2, 1, 7, 141]), (28, .iload_n 1, []), (29, .iadd, []), (30, .sipush 10000, []), (33, .if_icmp .le 6, [39]), (36, .bipush (-6), []), (38, .ireturn, [0]), (39, .iconst 0, []), (40, .istore_n 2, []), (41, .iconst 0, []), (42, .istore_n 3, []), (43, .iload_n 3, []), (44, .iload_n 1, []), (45, .if_icmp .ge 15, [60]), (48, .aload_n 0, []), (49, .iconst 0, []), (50, .invokevirtual 222, [186, 1, 1, 7, 160]), (53, .istore_n 2, []), (54, .iinc 3 1, []), (57, .goto (-14), [43]), (60, .iload_n 2, []), (61, .ireturn, [0])]
def h_191 : List (Nat × Nat) := [(43, 4)]
/-- LastStirredModel.run()I -/
def k_192 : List (Nat × Instr × List Nat) := [(0, .aload_n 0, []), (1, .getfield 146, [7, 11, 0, 91]), (4, .ifCond .ne 6, [10]), (7, .bipush (-4), []), (9, .ireturn, [0]), (10, .aload_n 0, []), (11, .iconst 0, []), (12, .iconst 0, []), (13, .invokevirtual 152, [162, 2, 1, 7, 141]), (16, .sipush 9960, []), (19, .if_icmp .le 6, [25]), (22, .bipush (-6), []), (24, .ireturn, [0]), (25, .aload_n 0, []), (26, .iconst 0, []), (27, .invokevirtual 231, [187, 1, 1, 7, 162]), (30, .istore_n 1, []), (31, .aload_n 0, []), (32, .aload_n 0, []), (33, .getfield 225, [7, 29, 3, 109]), (36, .ifCond .eq 7, [43]), (39, .iconst 1, []), (40, .goto 4, [44]), (43, .iconst 0, []), (44, .iload_n 1, []), (45, .invokevirtual 95, [134, 2, 1, 7, 131]), (48, .ireturn, [0])]
def h_192 : List (Nat × Nat) := []
/-- LastStirredModel.stateOf(I)J -/
def k_193 : List (Nat × Instr × List Nat) := [(0, .aload_n 0, []), (1, .iload_n 1, []), (2, .iconst 0, []), (3, .invokevirtual 152, [162, 2, 1, 7, 141]), (6, .iconst 2, []), (7, .irem, []), (8, .i2l, []), (9, .lstore_n 2, []), (10, .iconst 1, []), (11, .istore 4, []), (13, .iload 4, []), (15, .bipush 9, []), (17, .if_icmp .ge 28, [45]), (20, .ldc2_w 234, [4, 1242]), (23, .lload_n 2, []), (24, .lmul, []), (25, .aload_n 0, []), (26, .iload_n 1, []), (27, .iload 4, []), (29, .invokevirtual 152, [162, 2, 1, 7, 141]), (32, .i2l, []), (33, .ladd, []), (34, .ldc2_w 236, [5, 1243]), (37, .ladd, []), (38, .lstore_n 2, []), (39, .iinc 4 1, []), (42, .goto (-29), [13]), (45, .lload_n 2, []), (46, .lreturn, [])]
def h_193 : List (Nat × Nat) := [(13, 5)]
/-- LastStirredModel.ring()I -/
def k_194 : List (Nat × Instr × List Nat) := [(0, .aload_n 0, []), (1, .getfield 146, [7, 11, 0, 91]), (4, .ifCond .ne 6, [10]), (7, .bipush (-4), []), (9, .ireturn, [0]), (10, .aload_n 0, []), (11, .iconst 0, []), (12, .iconst 4, []), (13, .invokevirtual 238, [164, 2, 0, 7, 163]), (16, .iconst 0, []), (17, .istore_n 1, []), (18, .iload_n 1, []), (19, .sipush 200, []), (22, .if_icmp .gt 64, [86]), (25, .aload_n 0, []), (26, .getfield 54, [7, 31, 2, 111]), (29, .iload_n 1, []), (30, .aload_n 0, []), (31, .iconst 4, []), (32, .invokevirtual 242, [193, 1, 2, 7, 164]), (35, .lastore, []), (36, .iconst 0, []), (37, .istore_n 2, []), (38, .iload_n 2, []), (39, .iload_n 1, []), (40, .if_icmp .ge 34, [74]), (43, .aload_n 0, []), (44, .getfield 54, [7, 31, 2, 111]), (47, .iload_n 2, []), (48, .laload, []), (49, .aload_n 0, []), (50, .getfield 54, [7, 31, 2, 111]), (53, .iload_n 1, []), (54, .laload, []), (55, .lcmp, []), (56, .ifCond .ne 12, [68]), (59, .aload_n 0, []), (60, .iload_n 1, []), (61, .iload_n 2, []), (62, .isub, []), (63, .iload_n 1, []), (64, .invokevirtual 95, [134, 2, 1, 7, 131]), (67, .ireturn, [0]), (68, .iinc 2 1, []), (71, .goto (-33), [38]), (74, .aload_n 0, []), (75, .iconst 4, []), (76, .invokevirtual 222, [186, 1, 1, 7, 160]), (79, .pop, []), (80, .iinc 1 1, []), (83, .goto (-65), [18]), (86, .bipush (-9), []), (88, .ireturn, [0])]
def h_194 : List (Nat × Nat) := [(18, 2), (38, 3)]
/-- LastStirredModel.where(I)I -/
def k_195 : List (Nat × Instr × List Nat) := [(0, .iload_n 1, []), (1, .invokestatic 83, [139, 1, 1, 128]), (4, .ifCond .ne 5, [9]), (7, .iconst (-1), []), (8, .ireturn, [0]), (9, .aload_n 0, []), (10, .getfield 13, [7, 5, 2, 85]), (13, .iload_n 1, []), (14, .aload_n 0, []), (15, .getfield 149, [7, 13, 0, 93]), (18, .iastore, []), (19, .iconst 0, []), (20, .istore_n 2, []), (21, .iload_n 2, []), (22, .bipush 60, []), (24, .if_icmp .ge 40, [64]), (27, .aload_n 0, []), (28, .getfield 16, [7, 6, 2, 86]), (31, .bipush 60, []), (33, .iload_n 1, []), (34, .imul, []), (35, .iload_n 2, []), (36, .iadd, []), (37, .iload_n 2, []), (38, .aload_n 0, []), (39, .getfield 149, [7, 13, 0, 93]), (42, .if_icmp .ge 14, [56]), (45, .aload_n 0, []), (46, .iconst 0, []), (47, .iconst 5, []), (48, .iload_n 2, []), (49, .iadd, []), (50, .invokevirtual 152, [162, 2, 1, 7, 141]), (53, .goto 4, [57]), (56, .iconst 0, []), (57, .iastore, []), (58, .iinc 2 1, []), (61, .goto (-40), [21]), (64, .aload_n 0, []), (65, .iconst 0, []), (66, .invokevirtual 246, [166, 1, 1, 7, 165]), (69, .ireturn, [0])]
def h_195 : List (Nat × Nat) := [(21, 3)]
/-- LastStirredModel.apartOf(I)I -/
def k_196 : List (Nat × Instr × List Nat) := [(0, .iconst 0, []), (1, .istore_n 2, []), (2, .iconst 0, []), (3, .istore_n 3, []), (4, .iload_n 3, []), (5, .aload_n 0, []), (6, .getfield 149, [7, 13, 0, 93]), (9, .if_icmp .ge 76, [85]), (12, .iload_n 3, []), (13, .iconst 1, []), (14, .iadd, []), (15, .istore 4, []), (17, .iload 4, []), (19, .aload_n 0, []), (20, .getfield 149, [7, 13, 0, 93]), (23, .if_icmp .ge 56, [79]), (26, .iload_n 2, []), (27, .aload_n 0, []), (28, .iload_n 1, []), (29, .iload_n 3, []), (30, .invokevirtual 155, [165, 2, 1, 7, 142]), (33, .ifCond .ne 13, [46]), (36, .aload_n 0, []), (37, .iload_n 1, []), (38, .iload 4, []), (40, .invokevirtual 155, [165, 2, 1, 7, 142]), (43, .ifCond .eq 7, [50]), (46, .iconst 0, []), (47, .goto 24, [71]), (50, .aload_n 0, []), (51, .aload_n 0, []), (52, .iload_n 1, []), (53, .iconst 5, []), (54, .iload_n 3, []), (55, .iadd, []), (56, .invokevirtual 152, [162, 2, 1, 7, 141]), (59, .aload_n 0, []), (60, .iload_n 1, []), (61, .iconst 5, []), (62, .iload 4, []), (64, .iadd, []), (65, .invokevirtual 152, [162, 2, 1, 7, 141]), (68, .invokevirtual 175, [168, 2, 1, 7, 148]), (71, .iadd, []), (72, .istore_n 2, []), (73, .iinc 4 1, []), (76, .goto (-59), [17]), (79, .iinc 3 1, []), (82, .goto (-78), [4]), (85, .iload_n 2, []), (86, .ireturn, [0])]
def h_196 : List (Nat × Nat) := [(4, 4), (17, 5)]
/-- LastStirredModel.apart()I -/
def k_197 : List (Nat × Instr × List Nat) := [(0, .aload_n 0, []), (1, .iconst 0, []), (2, .invokevirtual 249, [196, 1, 1, 7, 166]), (5, .ireturn, [0])]
def h_197 : List (Nat × Nat) := []
/-- LastStirredModel.keep(I)I -/
def k_198 : List (Nat × Instr × List Nat) := [(0, .iload_n 1, []), (1, .iconst 0, []), (2, .iconst 2, []), (3, .invokestatic 73, [127, 3, 1, 127]), (6, .ifCond .ne 5, [11]), (9, .iconst (-1), []), (10, .ireturn, [0]), (11, .aload_n 0, []), (12, .getfield 146, [7, 11, 0, 91]), (15, .ifCond .ne 6, [21]), (18, .bipush (-4), []), (20, .ireturn, [0]), (21, .aload_n 0, []), (22, .iconst 0, []), (23, .iconst 1, []), (24, .iload_n 1, []), (25, .iadd, []), (26, .invokevirtual 238, [164, 2, 0, 7, 163]), (29, .aload_n 0, []), (30, .getfield 47, [7, 25, 2, 105]), (33, .iload_n 1, []), (34, .iconst 1, []), (35, .bastore, []), (36, .aload_n 0, []), (37, .iconst 0, []), (38, .iconst 0, []), (39, .invokevirtual 152, [162, 2, 1, 7, 141]), (42, .ireturn, [0])]
def h_198 : List (Nat × Nat) := []
/-- LastStirredModel.on(I)I -/
def k_199 : List (Nat × Instr × List Nat) := [(0, .iload_n 1, []), (1, .iconst 0, []), (2, .iconst 2, []), (3, .invokestatic 73, [127, 3, 1, 127]), (6, .ifCond .ne 5, [11]), (9, .iconst (-1), []), (10, .ireturn, [0]), (11, .aload_n 0, []), (12, .getfield 47, [7, 25, 2, 105]), (15, .iload_n 1, []), (16, .baload, []), (17, .ifCond .ne 9, [26]), (20, .aload_n 0, []), (21, .iconst 1, []), (22, .invokevirtual 87, [131, 1, 1, 7, 129]), (25, .ireturn, [0]), (26, .aload_n 0, []), (27, .iconst 1, []), (28, .iload_n 1, []), (29, .iadd, []), (30, .iconst 0, []), (31, .invokevirtual 238, [164, 2, 0, 7, 163]), (34, .aload_n 0, []), (35, .iconst 0, []), (36, .iconst 0, []), (37, .invokevirtual 152, [162, 2, 1, 7, 141]), (40, .ireturn, [0])]
def h_199 : List (Nat × Nat) := []
/-- LastStirredModel.isSafe(I)Z -/
def k_200 : List (Nat × Instr × List Nat) := [(0, .aload_n 0, []), (1, .getfield 149, [7, 13, 0, 93]), (4, .ifCond .le 7, [11]), (7, .iconst 1, []), (8, .goto 4, [12]), (11, .iconst 0, []), (12, .istore_n 2, []), (13, .iconst 0, []), (14, .istore_n 3, []), (15, .iload_n 3, []), (16, .aload_n 0, []), (17, .getfield 149, [7, 13, 0, 93]), (20, .if_icmp .ge 45, [65]), (23, .iload_n 2, []), (24, .ifCond .eq 33, [57]), (27, .aload_n 0, []), (28, .iload_n 1, []), (29, .iload_n 3, []), (30, .invokevirtual 155, [165, 2, 1, 7, 142]), (33, .ifCond .ne 24, [57]), (36, .aload_n 0, []), (37, .getfield 29, [7, 12, 2, 92]), (40, .aload_n 0, []), (41, .iload_n 1, []), (42, .iconst 5, []), (43, .iload_n 3, []), (44, .iadd, []), (45, .invokevirtual 152, [162, 2, 1, 7, 141]), (48, .iaload, []), (49, .iconst 3, []), (50, .if_icmp .ne 7, [57]), (53, .iconst 1, []), (54, .goto 4, [58]), (57, .iconst 0, []), (58, .istore_n 2, []), (59, .iinc 3 1, []), (62, .goto (-47), [15]), (65, .iload_n 2, []), (66, .ireturn, [1])]
def h_200 : List (Nat × Nat) := [(15, 4)]
/-- LastStirredModel.codes()I -/
def k_201 : List (Nat × Instr × List Nat) := [(0, .iconst 4, []), (1, .aload_n 0, []), (2, .getfield 149, [7, 13, 0, 93]), (5, .imul, []), (6, .ireturn, [0])]
def h_201 : List (Nat × Nat) := []
/-- LastStirredModel.driven(II)Z -/
def k_202 : List (Nat × Instr × List Nat) := [(0, .aload_n 0, []), (1, .iload_n 1, []), (2, .iload_n 1, []), (3, .iconst 1, []), (4, .iadd, []), (5, .invokevirtual 238, [164, 2, 0, 7, 163]), (8, .aload_n 0, []), (9, .iload_n 1, []), (10, .iconst 1, []), (11, .iadd, []), (12, .iload_n 2, []), (13, .invokevirtual 252, [189, 2, 1, 7, 167]), (16, .ireturn, [1])]
def h_202 : List (Nat × Nat) := []
/-- LastStirredModel.isWanted(II)Z -/
def k_203 : List (Nat × Instr × List Nat) := [(0, .iload_n 2, []), (1, .ifCond .ge 9, [10]), (4, .aload_n 0, []), (5, .iload_n 1, []), (6, .invokevirtual 255, [200, 1, 1, 7, 168]), (9, .ireturn, [1]), (10, .iconst 1, []), (11, .istore_n 3, []), (12, .iconst 0, []), (13, .istore 4, []), (15, .iload 4, []), (17, .aload_n 0, []), (18, .getfield 149, [7, 13, 0, 93]), (21, .if_icmp .ge 38, [59]), (24, .iload_n 3, []), (25, .ifCond .eq 26, [51]), (28, .aload_n 0, []), (29, .iload_n 1, []), (30, .iconst 5, []), (31, .iload 4, []), (33, .iadd, []), (34, .invokevirtual 152, [162, 2, 1, 7, 141]), (37, .aload_n 0, []), (38, .iload_n 2, []), (39, .iload 4, []), (41, .invokevirtual 91, [140, 2, 1, 7, 130]), (44, .if_icmp .ne 7, [51]), (47, .iconst 1, []), (48, .goto 4, [52]), (51, .iconst 0, []), (52, .istore_n 3, []), (53, .iinc 4 1, []), (56, .goto (-41), [15]), (59, .iload_n 3, []), (60, .ireturn, [1])]
def h_203 : List (Nat × Nat) := [(15, 5)]
/-- LastStirredModel.layRows(II)V -/
def k_204 : List (Nat × Instr × List Nat) := [(0, .aload_n 0, []), (1, .iconst 0, []), (2, .putfield 258, [7, 32, 0, 112]), (5, .aload_n 0, []), (6, .iconst 0, []), (7, .putfield 261, [7, 33, 0, 113]), (10, .aload_n 0, []), (11, .bipush (-9), []), (13, .putfield 264, [7, 34, 0, 114]), (16, .aload_n 0, []), (17, .iconst 0, []), (18, .putfield 267, [7, 35, 0, 115]), (21, .aload_n 0, []), (22, .iconst 0, []), (23, .putfield 270, [7, 36, 0, 116]), (26, .aload_n 0, []), (27, .iconst 0, []), (28, .iconst 4, []), (29, .invokevirtual 238, [164, 2, 0, 7, 163]), (32, .iload_n 1, []), (33, .ifCond .ne 12, [45]), (36, .aload_n 0, []), (37, .iconst 4, []), (38, .iconst 0, []), (39, .iload_n 2, []), (40, .bipush (-9), []), (42, .invokevirtual 273, [206, 4, 0, 7, 169]), (45, .iconst 0, []), (46, .istore_n 3, []), (47, .iload_n 3, []), (48, .aload_n 0, []), (49, .invokevirtual 277, [201, 0, 1, 7, 170]), (52, .if_icmp .ge 45, [97]), (55, .iload_n 1, []), (56, .ifCond .le 41, [97]), (59, .aload_n 0, []), (60, .iconst 4, []), (61, .iload_n 3, []), (62, .invokevirtual 280, [202, 2, 1, 7, 171]), (65, .ifCond .eq 26, [91]), (68, .iload_n 1, []), (69, .iconst 1, []), (70, .if_icmp .ne 14, [84]), (73, .aload_n 0, []), (74, .iconst 5, []), (75, .iload_n 3, []), (76, .iload_n 2, []), (77, .iload_n 3, []), (78, .invokevirtual 273, [206, 4, 0, 7, 169]), (81, .goto 10, [91]), (84, .aload_n 0, []), (85, .iload_n 3, []), (86, .iload_n 1, []), (87, .iload_n 2, []), (88, .invokevirtual 283, [205, 3, 0, 7, 172]), (91, .iinc 3 1, []), (94, .goto (-47), [47]), (97, .return_, [])]
def h_204 : List (Nat × Nat) := [(47, 4)]
/-- LastStirredModel.layDeeper(III)V -/
def k_205 : List (Nat × Instr × List Nat) := [(0, .iconst 0, []), (1, .istore 4, []), (3, .iload 4, []), (5, .aload_n 0, []), (6, .invokevirtual 277, [201, 0, 1, 7, 170]), (9, .if_icmp .ge 94, [103]), (12, .aload_n 0, []), (13, .iconst 5, []), (14, .iload 4, []), (16, .invokevirtual 280, [202, 2, 1, 7, 171]), (19, .ifCond .eq 78, [97]), (22, .iload_n 2, []), (23, .iconst 2, []), (24, .if_icmp .ne 18, [42]), (27, .aload_n 0, []), (28, .bipush 6, []), (30, .bipush 16, []), (32, .iload_n 1, []), (33, .imul, []), (34, .iload 4, []), (36, .iadd, []), (37, .iload_n 3, []), (38, .iload_n 1, []), (39, .invokevirtual 273, [206, 4, 0, 7, 169]), (42, .iconst 0, []), (43, .istore 5, []), (45, .iload 5, []), (47, .aload_n 0, []), (48, .invokevirtual 277, [201, 0, 1, 7, 170]), (51, .if_icmp .ge 46, [97]), (54, .iload_n 2, []), (55, .iconst 3, []), (56, .if_icmp .ne 41, [97]), (59, .aload_n 0, []), (60, .bipush 6, []), (62, .iload 5, []), (64, .invokevirtual 280, [202, 2, 1, 7, 171]), (67, .ifCond .eq 24, [91]), (70, .aload_n 0, []), (71, .bipush 7, []), (73, .bipush 16, []), (75, .bipush 16, []), (77, .iload_n 1, []), (78, .imul, []), (79, .iload 4, []), (81, .iadd, []), (82, .imul, []), (83, .iload 5, []), (85, .iadd, []), (86, .iload_n 3, []), (87, .iload_n 1, []), (88, .invokevirtual 273, [206, 4, 0, 7, 169]), (91, .iinc 5 1, []), (94, .goto (-49), [45]), (97, .iinc 4 1, []), (100, .goto (-97), [3]), (103, .return_, [])]
def h_205 : List (Nat × Nat) := [(3, 5), (45, 6)]
/-- LastStirredModel.layRow(IIII)V -/
def k_206 : List (Nat × Instr × List Nat) := [(0, .aload_n 0, []), (1, .dup, []), (2, .getfield 258, [7, 32, 0, 112]), (5, .iconst 1, []), (6, .iadd, []), (7, .putfield 258, [7, 32, 0, 112]), (10, .aload_n 0, []), (11, .iload_n 1, []), (12, .iload_n 3, []), (13, .invokevirtual 286, [203, 2, 1, 7, 173]), (16, .ifCond .eq 84, [100]), (19, .aload_n 0, []), (20, .aload_n 0, []), (21, .getfield 261, [7, 33, 0, 113]), (24, .ifCond .ne 7, [31]), (27, .iload_n 2, []), (28, .goto 7, [35]), (31, .aload_n 0, []), (32, .getfield 264, [7, 34, 0, 114]), (35, .putfield 264, [7, 34, 0, 114]), (38, .aload_n 0, []), (39, .dup, []), (40, .getfield 261, [7, 33, 0, 113]), (43, .iconst 1, []), (44, .iadd, []), (45, .putfield 261, [7, 33, 0, 113]), (48, .aload_n 0, []), (49, .dup, []), (50, .getfield 267, [7, 35, 0, 115]), (53, .iload 4, []), (55, .bipush (-9), []), (57, .if_icmp .ne 7, [64]), (60, .iconst 0, []), (61, .goto 9, [70]), (64, .iconst 1, []), (65, .iload 4, []), (67, .iconst 4, []), (68, .idiv, []), (69, .ishl, []), (70, .ior, []), (71, .putfield 267, [7, 35, 0, 115]), (74, .aload_n 0, []), (75, .dup, []), (76, .getfield 270, [7, 36, 0, 116]), (79, .iload 4, []), (81, .bipush (-9), []), (83, .if_icmp .ne 7, [90]), (86, .iconst 0, []), (87, .goto 9, [96]), (90, .iconst 1, []), (91, .iload 4, []), (93, .iconst 4, []), (94, .irem, []), (95, .ishl, []), (96, .ior, []), (97, .putfield 270, [7, 36, 0, 116]), (100, .return_, [])]
def h_206 : List (Nat × Nat) := []
/-- LastStirredModel.fewestOf(II)I -/
def k_207 : List (Nat × Instr × List Nat) := [(0, .iconst 0, []), (1, .istore_n 3, []), (2, .iload_n 3, []), (3, .iload_n 1, []), (4, .if_icmp .gt 24, [28]), (7, .aload_n 0, []), (8, .iload_n 3, []), (9, .iload_n 2, []), (10, .invokevirtual 289, [204, 2, 0, 7, 174]), (13, .aload_n 0, []), (14, .getfield 261, [7, 33, 0, 113]), (17, .ifCond .le 5, [22]), (20, .iload_n 3, []), (21, .ireturn, [0]), (22, .iinc 3 1, []), (25, .goto (-23), [2]), (28, .bipush (-9), []), (30, .ireturn, [0])]
def h_207 : List (Nat × Nat) := [(2, 4)]
/-- LastStirredModel.fewest()I -/
def k_208 : List (Nat × Instr × List Nat) := [(0, .aload_n 0, []), (1, .getfield 146, [7, 11, 0, 91]), (4, .ifCond .ne 6, [10]), (7, .bipush (-4), []), (9, .ireturn, [0]), (10, .aload_n 0, []), (11, .iconst 3, []), (12, .iconst (-1), []), (13, .invokevirtual 292, [207, 2, 1, 7, 175]), (16, .istore_n 1, []), (17, .iload_n 1, []), (18, .bipush (-9), []), (20, .if_icmp .ne 8, [28]), (23, .bipush (-9), []), (25, .goto 12, [37]), (28, .aload_n 0, []), (29, .aload_n 0, []), (30, .getfield 264, [7, 34, 0, 114]), (33, .iload_n 1, []), (34, .invokevirtual 95, [134, 2, 1, 7, 131]), (37, .ireturn, [0])]
def h_208 : List (Nat × Nat) := []
/-- LastStirredModel.ways(I)I -/
def k_209 : List (Nat × Instr × List Nat) := [(0, .iload_n 1, []), (1, .iconst 1, []), (2, .iconst 2, []), (3, .invokestatic 73, [127, 3, 1, 127]), (6, .ifCond .ne 5, [11]), (9, .iconst (-1), []), (10, .ireturn, [0]), (11, .aload_n 0, []), (12, .iload_n 1, []), (13, .iconst (-1), []), (14, .invokevirtual 289, [204, 2, 0, 7, 174]), (17, .aload_n 0, []), (18, .getfield 258, [7, 32, 0, 112]), (21, .ifCond .ne 11, [32]), (24, .aload_n 0, []), (25, .iconst 4, []), (26, .invokevirtual 87, [131, 1, 1, 7, 129]), (29, .goto 21, [50]), (32, .aload_n 0, []), (33, .aload_n 0, []), (34, .getfield 261, [7, 33, 0, 113]), (37, .i2l, []), (38, .aload_n 0, []), (39, .getfield 258, [7, 32, 0, 112]), (42, .i2l, []), (43, .aload_n 0, []), (44, .getfield 261, [7, 33, 0, 113]), (47, .invokevirtual 295, [136, 3, 1, 7, 176]), (50, .ireturn, [0])]
def h_209 : List (Nat × Nat) := []
/-- LastStirredModel.gather()I -/
def k_210 : List (Nat × Instr × List Nat) := [(0, .bipush (-9), []), (2, .istore_n 1, []), (3, .iconst 0, []), (4, .istore_n 2, []), (5, .aload_n 0, []), (6, .iconst 0, []), (7, .iconst 4, []), (8, .invokevirtual 238, [164, 2, 0, 7, 163]), (11, .iconst 0, []), (12, .istore_n 3, []), (13, .iload_n 3, []), (14, .aload_n 0, []), (15, .invokevirtual 277, [201, 0, 1, 7, 170]), (18, .if_icmp .ge 55, [73]), (21, .aload_n 0, []), (22, .iconst 4, []), (23, .iload_n 3, []), (24, .invokevirtual 280, [202, 2, 1, 7, 171]), (27, .ifCond .eq 40, [67]), (30, .aload_n 0, []), (31, .iconst 5, []), (32, .invokevirtual 246, [166, 1, 1, 7, 165]), (35, .aload_n 0, []), (36, .iconst 0, []), (37, .invokevirtual 246, [166, 1, 1, 7, 165]), (40, .if_icmp .gt 27, [67]), (43, .aload_n 0, []), (44, .iconst 5, []), (45, .invokevirtual 249, [196, 1, 1, 7, 166]), (48, .istore 4, []), (50, .iload_n 1, []), (51, .bipush (-9), []), (53, .if_icmp .eq 9, [62]), (56, .iload 4, []), (58, .iload_n 2, []), (59, .if_icmp .ge 8, [67]), (62, .iload_n 3, []), (63, .istore_n 1, []), (64, .iload 4, []), (66, .istore_n 2, []), (67, .iinc 3 1, []), (70, .goto (-57), [13]), (73, .iload_n 1, []), (74, .bipush (-9), []), (76, .if_icmp .ne 8, [84]), (79, .bipush (-9), []), (81, .goto 9, [90]), (84, .aload_n 0, []), (85, .iload_n 2, []), (86, .iload_n 1, []), (87, .invokevirtual 95, [134, 2, 1, 7, 131]), (90, .ireturn, [0])]
def h_210 : List (Nat × Nat) := [(13, 4)]
/-- LastStirredModel.part(II)I -/
def k_211 : List (Nat × Instr × List Nat) := [(0, .aload_n 0, []), (1, .iload_n 1, []), (2, .invokevirtual 169, [161, 1, 1, 7, 146]), (5, .ifCond .eq 16, [21]), (8, .aload_n 0, []), (9, .iload_n 2, []), (10, .invokevirtual 169, [161, 1, 1, 7, 146]), (13, .ifCond .eq 8, [21]), (16, .iload_n 1, []), (17, .iload_n 2, []), (18, .if_icmp .ne 5, [23]), (21, .iconst (-1), []), (22, .ireturn, [0]), (23, .bipush (-9), []), (25, .istore_n 3, []), (26, .iconst 0, []), (27, .istore 4, []), (29, .iconst 5, []), (30, .istore 5, []), (32, .aload_n 0, []), (33, .iconst 0, []), (34, .iconst 4, []), (35, .invokevirtual 238, [164, 2, 0, 7, 163]), (38, .iconst 0, []), (39, .istore 6, []), (41, .iload 6, []), (43, .aload_n 0, []), (44, .invokevirtual 277, [201, 0, 1, 7, 170]), (47, .if_icmp .ge 83, [130]), (50, .aload_n 0, []), (51, .iconst 4, []), (52, .iload 6, []), (54, .invokevirtual 280, [202, 2, 1, 7, 171]), (57, .ifCond .eq 67, [124]), (60, .aload_n 0, []), (61, .iload 5, []), (63, .iload_n 1, []), (64, .invokevirtual 155, [165, 2, 1, 7, 142]), (67, .ifCond .ne 57, [124]), (70, .aload_n 0, []), (71, .iload 5, []), (73, .iload_n 2, []), (74, .invokevirtual 155, [165, 2, 1, 7, 142]), (77, .ifCond .ne 47, [124]), (80, .aload_n 0, []), (81, .aload_n 0, []), (82, .iload 5, []), (84, .iconst 5, []), (85, .iload_n 1, []), (86, .iadd, []), (87, .invokevirtual 152, [162, 2, 1, 7, 141]), (90, .aload_n 0, []), (91, .iload 5, []), (93, .iconst 5, []), (94, .iload_n 2, []), (95, .iadd, []), (96, .invokevirtual 152, [162, 2, 1, 7, 141]), (99, .invokevirtual 175, [168, 2, 1, 7, 148]), (102, .istore 7, []), (104, .iload_n 3, []), (105, .bipush (-9), []), (107, .if_icmp .eq 10, [117]), (110, .iload 7, []), (112, .iload 4, []), (114, .if_icmp .le 10, [124]), (117, .iload 6, []), (119, .istore_n 3, []), (120, .iload 7, []), (122, .istore 4, []), (124, .iinc 6 1, []), (127, .goto (-86), [41]), (130, .iload_n 3, []), (131, .bipush (-9), []), (133, .if_icmp .ne 8, [141]), (136, .bipush (-9), []), (138, .goto 10, [148]), (141, .aload_n 0, []), (142, .iload 4, []), (144, .iload_n 3, []), (145, .invokevirtual 95, [134, 2, 1, 7, 131]), (148, .ireturn, [0])]
def h_211 : List (Nat × Nat) := [(41, 7)]
/-- LastStirredModel.wentIn(I)I -/
def k_212 : List (Nat × Instr × List Nat) := [(0, .iconst 0, []), (1, .istore_n 2, []), (2, .iconst 0, []), (3, .istore_n 3, []), (4, .iload_n 3, []), (5, .aload_n 0, []), (6, .getfield 149, [7, 13, 0, 93]), (9, .if_icmp .ge 21, [30]), (12, .iload_n 2, []), (13, .aload_n 0, []), (14, .iload_n 1, []), (15, .bipush 9, []), (17, .iload_n 3, []), (18, .iadd, []), (19, .invokevirtual 152, [162, 2, 1, 7, 141]), (22, .iadd, []), (23, .istore_n 2, []), (24, .iinc 3 1, []), (27, .goto (-23), [4]), (30, .iload_n 2, []), (31, .ireturn, [0])]
def h_212 : List (Nat × Nat) := [(4, 4)]
/-- LastStirredModel.worth(II)I -/
def k_213 : List (Nat × Instr × List Nat) := [(0, .aload_n 0, []), (1, .iload_n 1, []), (2, .invokevirtual 169, [161, 1, 1, 7, 146]), (5, .ifCond .eq 12, [17]), (8, .iload_n 2, []), (9, .iconst 0, []), (10, .iconst 3, []), (11, .invokestatic 73, [127, 3, 1, 127]), (14, .ifCond .ne 5, [19]), (17, .iconst (-1), []), (18, .ireturn, [0]), (19, .aload_n 0, []), (20, .iconst 0, []), (21, .iconst 4, []), (22, .invokevirtual 238, [164, 2, 0, 7, 163]), (25, .aload_n 0, []), (26, .iconst 4, []), (27, .iload_n 1, []), (28, .iload_n 2, []), (29, .invokevirtual 228, [188, 3, 1, 7, 161]), (32, .ifCond .ne 6, [38]), (35, .bipush (-4), []), (37, .ireturn, [0]), (38, .aload_n 0, []), (39, .iconst 4, []), (40, .invokevirtual 299, [212, 1, 1, 7, 177]), (43, .istore_n 3, []), (44, .aload_n 0, []), (45, .iconst 4, []), (46, .invokevirtual 231, [187, 1, 1, 7, 162]), (49, .pop, []), (50, .aload_n 0, []), (51, .aload_n 0, []), (52, .iconst 4, []), (53, .invokevirtual 299, [212, 1, 1, 7, 177]), (56, .iload_n 3, []), (57, .isub, []), (58, .aload_n 0, []), (59, .getfield 219, [7, 30, 0, 110]), (62, .invokestatic 302, [129, 1, 1, 178]), (65, .invokevirtual 95, [134, 2, 1, 7, 131]), (68, .ireturn, [0])]
def h_213 : List (Nat × Nat) := []
/-- LastStirredModel.stone(I)I -/
def k_214 : List (Nat × Instr × List Nat) := [(0, .aload_n 0, []), (1, .iload_n 1, []), (2, .invokevirtual 162, [160, 1, 1, 7, 144]), (5, .ifCond .eq 13, [18]), (8, .aload_n 0, []), (9, .getfield 29, [7, 12, 2, 92]), (12, .iload_n 1, []), (13, .iaload, []), (14, .iconst 1, []), (15, .if_icmp .ne 5, [20]), (18, .iconst (-1), []), (19, .ireturn, [0]), (20, .iconst 0, []), (21, .istore_n 2, []), (22, .bipush (-9), []), (24, .istore_n 3, []), (25, .bipush (-9), []), (27, .istore 4, []), (29, .iconst 0, []), (30, .istore 5, []), (32, .iload 5, []), (34, .aload_n 0, []), (35, .getfield 149, [7, 13, 0, 93]), (38, .if_icmp .ge 99, [137]), (41, .aload_n 0, []), (42, .iconst 0, []), (43, .iconst 5, []), (44, .iload 5, []), (46, .iadd, []), (47, .invokevirtual 152, [162, 2, 1, 7, 141]), (50, .istore 6, []), (52, .iload 6, []), (54, .bipush (-9), []), (56, .if_icmp .eq 75, [131]), (59, .aload_n 0, []), (60, .iload 6, []), (62, .iload_n 1, []), (63, .invokevirtual 175, [168, 2, 1, 7, 148]), (66, .iconst 1, []), (67, .if_icmp .ne 64, [131]), (70, .aload_n 0, []), (71, .iconst 0, []), (72, .putfield 194, [7, 26, 3, 106]), (75, .aload_n 0, []), (76, .iconst 0, []), (77, .iload 5, []), (79, .aload_n 0, []), (80, .iload 6, []), (82, .iload 6, []), (84, .aload_n 0, []), (85, .getfield 143, [7, 10, 0, 90]), (88, .irem, []), (89, .iload_n 1, []), (90, .aload_n 0, []), (91, .getfield 143, [7, 10, 0, 90]), (94, .irem, []), (95, .isub, []), (96, .iload 6, []), (98, .aload_n 0, []), (99, .getfield 143, [7, 10, 0, 90]), (102, .idiv, []), (103, .iload_n 1, []), (104, .aload_n 0, []), (105, .getfield 143, [7, 10, 0, 90]), (108, .idiv, []), (109, .isub, []), (110, .invokevirtual 207, [181, 3, 1, 7, 156]), (113, .invokevirtual 210, [182, 3, 1, 7, 157]), (116, .ifCond .eq 15, [131]), (119, .iinc 2 1, []), (122, .iload 5, []), (124, .istore_n 3, []), (125, .aload_n 0, []), (126, .getfield 201, [7, 27, 0, 107]), (129, .istore 4, []), (131, .iinc 5 1, []), (134, .goto (-102), [32]), (137, .iload_n 2, []), (138, .ifCond .le 11, [149]), (141, .aload_n 0, []), (142, .iconst 0, []), (143, .iload_n 3, []), (144, .iload 4, []), (146, .invokevirtual 216, [183, 3, 0, 7, 159]), (149, .iload_n 2, []), (150, .ireturn, [0])]
def h_214 : List (Nat × Nat) := [(32, 6)]
/-- LastStirredModel.drive(I)I -/
def k_215 : List (Nat × Instr × List Nat) := [(0, .iload_n 1, []), (1, .invokestatic 83, [139, 1, 1, 128]), (4, .ifCond .ne 5, [9]), (7, .iconst (-1), []), (8, .ireturn, [0]), (9, .aload_n 0, []), (10, .getfield 146, [7, 11, 0, 91]), (13, .ifCond .ne 6, [19]), (16, .bipush (-4), []), (18, .ireturn, [0]), (19, .aload_n 0, []), (20, .getfield 13, [7, 5, 2, 85]), (23, .iload_n 1, []), (24, .iaload, []), (25, .ifCond .ge 9, [34]), (28, .aload_n 0, []), (29, .iconst 1, []), (30, .invokevirtual 87, [131, 1, 1, 7, 129]), (33, .ireturn, [0]), (34, .iconst 1, []), (35, .istore_n 2, []), (36, .iconst 0, []), (37, .istore_n 3, []), (38, .iload_n 3, []), (39, .aload_n 0, []), (40, .getfield 13, [7, 5, 2, 85]), (43, .iload_n 1, []), (44, .iaload, []), (45, .if_icmp .ge 38, [83]), (48, .iload_n 2, []), (49, .ifCond .eq 26, [75]), (52, .aload_n 0, []), (53, .iload_n 1, []), (54, .iload_n 3, []), (55, .invokevirtual 91, [140, 2, 1, 7, 130]), (58, .iconst 0, []), (59, .aload_n 0, []), (60, .invokevirtual 277, [201, 0, 1, 7, 170]), (63, .iconst 1, []), (64, .isub, []), (65, .invokestatic 73, [127, 3, 1, 127]), (68, .ifCond .eq 7, [75]), (71, .iconst 1, []), (72, .goto 4, [76]), (75, .iconst 0, []), (76, .istore_n 2, []), (77, .iinc 3 1, []), (80, .goto (-42), [38]), (83, .iload_n 2, []), (84, .ifCond .ne 9, [93]), (87, .aload_n 0, []), (88, .iconst 3, []), (89, .invokevirtual 87, [131, 1, 1, 7, 129]), (92, .ireturn, [0]), (93, .aload_n 0, []), (94, .iconst 0, []), (95, .iconst 0, []), (96, .invokevirtual 152, [162, 2, 1, 7, 141]), (99, .bipush 40, []), (101, .aload_n 0, []), (102, .getfield 13, [7, 5, 2, 85]), (105, .iload_n 1, []), (106, .iaload, []), (107, .imul, []), (108, .iadd, []), (109, .sipush 10000, []), (112, .if_icmp .le 6, [118]), (115, .bipush (-6), []), (117, .ireturn, [0]), (118, .iconst 0, []), (119, .istore_n 3, []), (120, .iload_n 3, []), (121, .aload_n 0, []), (122, .getfield 13, [7, 5, 2, 85]), (125, .iload_n 1, []), (126, .iaload, []), (127, .if_icmp .ge 23, [150]), (130, .aload_n 0, []), (131, .iconst 0, []), (132, .aload_n 0, []), (133, .iload_n 1, []), (134, .iload_n 3, []), (135, .invokevirtual 91, [140, 2, 1, 7, 130]), (138, .invokevirtual 252, [189, 2, 1, 7, 167]), (141, .ifCond .eq 9, [150]), (144, .iinc 3 1, []), (147, .goto (-27), [120]), (150, .aload_n 0, []), (151, .aload_n 0, []), (152, .iconst 0, []), (153, .invokevirtual 246, [166, 1, 1, 7, 165]), (156, .iload_n 3, []), (157, .invokevirtual 95, [134, 2, 1, 7, 131]), (160, .ireturn, [0])]
def h_215 : List (Nat × Nat) := [(38, 4), (120, 4)]
/-- LastStirredModel.isOpen(IZ)Z -/
def k_216 : List (Nat × Instr × List Nat) := [(0, .aload_n 0, []), (1, .getfield 29, [7, 12, 2, 92]), (4, .iload_n 1, []), (5, .iaload, []), (6, .iconst 1, []), (7, .if_icmp .eq 31, [38]), (10, .aload_n 0, []), (11, .getfield 29, [7, 12, 2, 92]), (14, .iload_n 1, []), (15, .iaload, []), (16, .iconst 2, []), (17, .if_icmp .eq 21, [38]), (20, .iload_n 2, []), (21, .ifCond .ne 13, [34]), (24, .aload_n 0, []), (25, .getfield 29, [7, 12, 2, 92]), (28, .iload_n 1, []), (29, .iaload, []), (30, .iconst 4, []), (31, .if_icmp .eq 7, [38]), (34, .iconst 1, []), (35, .goto 4, [39]), (38, .iconst 0, []), (39, .ireturn, [1])]
def h_216 : List (Nat × Nat) := []
/-- LastStirredModel.reached(IZ)I -/
def k_217 : List (Nat × Instr × List Nat) := [(0, .aload_n 0, []), (1, .getfield 29, [7, 12, 2, 92]), (4, .iload_n 1, []), (5, .iaload, []), (6, .iconst 1, []), (7, .if_icmp .eq 13, [20]), (10, .aload_n 0, []), (11, .getfield 29, [7, 12, 2, 92]), (14, .iload_n 1, []), (15, .iaload, []), (16, .iconst 2, []), (17, .if_icmp .ne 5, [22]), (20, .iconst 0, []), (21, .ireturn, [0]), (22, .iconst 1, []), (23, .iload_n 1, []), (24, .ishl, []), (25, .istore_n 3, []), (26, .iconst 1, []), (27, .istore 4, []), (29, .iload 4, []), (31, .ifCond .eq 161, [192]), (34, .iload_n 3, []), (35, .istore 5, []), (37, .iconst 0, []), (38, .istore 6, []), (40, .iload 6, []), (42, .aload_n 0, []), (43, .getfield 146, [7, 11, 0, 91]), (46, .if_icmp .ge 130, [176]), (49, .iconst 0, []), (50, .istore 7, []), (52, .iconst 0, []), (53, .istore 8, []), (55, .iload 8, []), (57, .iconst 4, []), (58, .if_icmp .ge 86, [144]), (61, .aload_n 0, []), (62, .iload 6, []), (64, .iload 8, []), (66, .iconst 1, []), (67, .if_icmp .ne 7, [74]), (70, .iconst 1, []), (71, .goto 14, [85]), (74, .iload 8, []), (76, .iconst 3, []), (77, .if_icmp .ne 7, [84]), (80, .iconst (-1), []), (81, .goto 4, [85]), (84, .iconst 0, []), (85, .iload 8, []), (87, .ifCond .ne 7, [94]), (90, .iconst (-1), []), (91, .goto 14, [105]), (94, .iload 8, []), (96, .iconst 2, []), (97, .if_icmp .ne 7, [104]), (100, .iconst 1, []), (101, .goto 4, [105]), (104, .iconst 0, []), (105, .invokevirtual 207, [181, 3, 1, 7, 156]), (108, .istore 9, []), (110, .iload 7, []), (112, .ifCond .ne 19, [131]), (115, .iload 9, []), (117, .bipush (-9), []), (119, .if_icmp .eq 16, [135]), (122, .iload_n 3, []), (123, .iload 9, []), (125, .invokestatic 305, [128, 2, 1, 179]), (128, .ifCond .eq 7, [135]), (131, .iconst 1, []), (132, .goto 4, [136]), (135, .iconst 0, []), (136, .istore 7, []), (138, .iinc 8 1, []), (141, .goto (-86), [55]), (144, .iload_n 3, []), (145, .iload 7, []), (147, .ifCond .eq 20, [167]), (150, .aload_n 0, []), (151, .iload 6, []), (153, .iload_n 2, []), (154, .invokevirtual 308, [216, 2, 1, 7, 180]), (157, .ifCond .eq 10, [167]), (160, .iconst 1, []), (161, .iload 6, []), (163, .ishl, []), (164, .goto 4, [168]), (167, .iconst 0, []), (168, .ior, []), (169, .istore_n 3, []), (170, .iinc 6 1, []), (173, .goto (-133), [40]), (176, .iload_n 3, []), (177, .iload 5, []), (179, .if_icmp .eq 7, [186]), (182, .iconst 1, []), (183, .goto 4, [187]), (186, .iconst 0, []), (187, .istore 4, []), (189, .goto (-160), [29]), (192, .iload_n 3, []), (193, .ireturn, [0])]
def h_217 : List (Nat × Nat) := [(29, 5), (40, 7), (55, 9)]
/-- LastStirredModel.reach(II)I -/
def k_218 : List (Nat × Instr × List Nat) := [(0, .aload_n 0, []), (1, .iload_n 1, []), (2, .invokevirtual 162, [160, 1, 1, 7, 144]), (5, .ifCond .eq 30, [35]), (8, .iload_n 2, []), (9, .iconst 0, []), (10, .iconst 1, []), (11, .invokestatic 73, [127, 3, 1, 127]), (14, .ifCond .eq 21, [35]), (17, .aload_n 0, []), (18, .iload_n 1, []), (19, .iload_n 2, []), (20, .iconst 1, []), (21, .if_icmp .ne 7, [28]), (24, .iconst 1, []), (25, .goto 4, [29]), (28, .iconst 0, []), (29, .invokevirtual 312, [217, 2, 1, 7, 181]), (32, .goto 4, [36]), (35, .iconst (-1), []), (36, .ireturn, [0])]
def h_218 : List (Nat × Nat) := []
/-- LastStirredModel.never()I -/
def k_219 : List (Nat × Instr × List Nat) := [(0, .iconst 0, []), (1, .istore_n 1, []), (2, .bipush (-9), []), (4, .istore_n 2, []), (5, .iconst 0, []), (6, .istore_n 3, []), (7, .iload_n 3, []), (8, .aload_n 0, []), (9, .getfield 149, [7, 13, 0, 93]), (12, .if_icmp .ge 95, [107]), (15, .iload_n 3, []), (16, .iconst 1, []), (17, .iadd, []), (18, .istore 4, []), (20, .iload 4, []), (22, .aload_n 0, []), (23, .getfield 149, [7, 13, 0, 93]), (26, .if_icmp .ge 75, [101]), (29, .aload_n 0, []), (30, .iconst 0, []), (31, .iload_n 3, []), (32, .invokevirtual 155, [165, 2, 1, 7, 142]), (35, .ifCond .ne 60, [95]), (38, .aload_n 0, []), (39, .iconst 0, []), (40, .iload 4, []), (42, .invokevirtual 155, [165, 2, 1, 7, 142]), (45, .ifCond .ne 50, [95]), (48, .aload_n 0, []), (49, .aload_n 0, []), (50, .iconst 0, []), (51, .iconst 5, []), (52, .iload_n 3, []), (53, .iadd, []), (54, .invokevirtual 152, [162, 2, 1, 7, 141]), (57, .iconst 1, []), (58, .invokevirtual 312, [217, 2, 1, 7, 181]), (61, .aload_n 0, []), (62, .iconst 0, []), (63, .iconst 5, []), (64, .iload 4, []), (66, .iadd, []), (67, .invokevirtual 152, [162, 2, 1, 7, 141]), (70, .invokestatic 305, [128, 2, 1, 179]), (73, .ifCond .ne 22, [95]), (76, .iload_n 1, []), (77, .ifCond .ne 13, [90]), (80, .bipush 10, []), (82, .iload_n 3, []), (83, .imul, []), (84, .iload 4, []), (86, .iadd, []), (87, .goto 4, [91]), (90, .iload_n 2, []), (91, .istore_n 2, []), (92, .iinc 1 1, []), (95, .iinc 4 1, []), (98, .goto (-78), [20]), (101, .iinc 3 1, []), (104, .goto (-97), [7]), (107, .aload_n 0, []), (108, .iload_n 2, []), (109, .iload_n 1, []), (110, .invokevirtual 95, [134, 2, 1, 7, 131]), (113, .ireturn, [0])]
def h_219 : List (Nat × Nat) := [(7, 4), (20, 5)]
/-- LastStirredModel.wolfTo(II)I -/
def k_220 : List (Nat × Instr × List Nat) := [(0, .iload_n 2, []), (1, .iconst 4, []), (2, .if_icmp .ne 7, [9]), (5, .iload_n 1, []), (6, .goto 45, [51]), (9, .aload_n 0, []), (10, .iload_n 1, []), (11, .iload_n 2, []), (12, .iconst 1, []), (13, .if_icmp .ne 7, [20]), (16, .iconst 1, []), (17, .goto 13, [30]), (20, .iload_n 2, []), (21, .iconst 3, []), (22, .if_icmp .ne 7, [29]), (25, .iconst (-1), []), (26, .goto 4, [30]), (29, .iconst 0, []), (30, .iload_n 2, []), (31, .ifCond .ne 7, [38]), (34, .iconst (-1), []), (35, .goto 13, [48]), (38, .iload_n 2, []), (39, .iconst 2, []), (40, .if_icmp .ne 7, [47]), (43, .iconst 1, []), (44, .goto 4, [48]), (47, .iconst 0, []), (48, .invokevirtual 207, [181, 3, 1, 7, 156]), (51, .istore_n 3, []), (52, .iload_n 3, []), (53, .bipush (-9), []), (55, .if_icmp .eq 32, [87]), (58, .iload_n 2, []), (59, .iconst 4, []), (60, .if_icmp .eq 23, [83]), (63, .aload_n 0, []), (64, .getfield 29, [7, 12, 2, 92]), (67, .iload_n 3, []), (68, .iaload, []), (69, .iconst 1, []), (70, .if_icmp .eq 17, [87]), (73, .aload_n 0, []), (74, .getfield 29, [7, 12, 2, 92]), (77, .iload_n 3, []), (78, .iaload, []), (79, .iconst 2, []), (80, .if_icmp .eq 7, [87]), (83, .iload_n 3, []), (84, .goto 5, [89]), (87, .bipush (-9), []), (89, .ireturn, [0])]
def h_220 : List (Nat × Nat) := [(52, 4)]
/-- LastStirredModel.keeps(IIII)Z -/
def k_221 : List (Nat × Instr × List Nat) := [(0, .aload_n 0, []), (1, .iload_n 1, []), (2, .iload_n 1, []), (3, .iconst 1, []), (4, .iadd, []), (5, .invokevirtual 238, [164, 2, 0, 7, 163]), (8, .iload_n 2, []), (9, .bipush (-9), []), (11, .if_icmp .eq 14, [25]), (14, .aload_n 0, []), (15, .iload_n 1, []), (16, .iconst 1, []), (17, .iadd, []), (18, .iload_n 2, []), (19, .invokevirtual 252, [189, 2, 1, 7, 167]), (22, .ifCond .eq 18, [40]), (25, .aload_n 0, []), (26, .iload_n 1, []), (27, .iconst 1, []), (28, .iadd, []), (29, .invokevirtual 246, [166, 1, 1, 7, 165]), (32, .aload_n 0, []), (33, .iload_n 1, []), (34, .invokevirtual 246, [166, 1, 1, 7, 165]), (37, .if_icmp .le 5, [42]), (40, .iconst 0, []), (41, .ireturn, [1]), (42, .iconst 1, []), (43, .istore 5, []), (45, .iconst 0, []), (46, .istore 6, []), (48, .iload 6, []), (50, .iconst 5, []), (51, .if_icmp .ge 71, [122]), (54, .iload 5, []), (56, .ifCond .eq 66, [122]), (59, .aload_n 0, []), (60, .iload_n 3, []), (61, .iload 6, []), (63, .invokevirtual 316, [220, 2, 1, 7, 182]), (66, .istore 7, []), (68, .iload 7, []), (70, .bipush (-9), []), (72, .if_icmp .eq 44, [116]), (75, .aload_n 0, []), (76, .iload_n 1, []), (77, .iconst 1, []), (78, .iadd, []), (79, .iload 7, []), (81, .bipush (-9), []), (83, .invokevirtual 165, [167, 3, 1, 7, 145]), (86, .bipush (-9), []), (88, .if_icmp .ne 25, [113]), (91, .iload 4, []), (93, .iconst 1, []), (94, .if_icmp .eq 15, [109]), (97, .aload_n 0, []), (98, .iload_n 1, []), (99, .iconst 1, []), (100, .iadd, []), (101, .iload 7, []), (103, .invokevirtual 319, [222, 2, 1, 7, 183]), (106, .ifCond .eq 7, [113]), (109, .iconst 1, []), (110, .goto 4, [114]), (113, .iconst 0, []), (114, .istore 5, []), (116, .iinc 6 1, []), (119, .goto (-71), [48]), (122, .iload 5, []), (124, .ireturn, [1])]
def h_221 : List (Nat × Nat) := [(48, 7)]
/-- LastStirredModel.canKeep(II)Z -/
def k_222 : List (Nat × Instr × List Nat) := [(0, .iconst 0, []), (1, .istore_n 3, []), (2, .iconst (-1), []), (3, .istore 4, []), (5, .iload 4, []), (7, .aload_n 0, []), (8, .invokevirtual 277, [201, 0, 1, 7, 170]), (11, .if_icmp .ge 32, [43]), (14, .iload_n 3, []), (15, .ifCond .ne 28, [43]), (18, .aload_n 0, []), (19, .iload_n 1, []), (20, .iload 4, []), (22, .ifCond .ge 8, [30]), (25, .bipush (-9), []), (27, .goto 5, [32]), (30, .iload 4, []), (32, .iload_n 2, []), (33, .invokevirtual 322, [223, 3, 1, 7, 184]), (36, .istore_n 3, []), (37, .iinc 4 1, []), (40, .goto (-35), [5]), (43, .iload_n 3, []), (44, .ireturn, [1])]
def h_222 : List (Nat × Nat) := [(5, 5)]
/-- LastStirredModel.keepsLast(III)Z -/
def k_223 : List (Nat × Instr × List Nat) := [(0, .aload_n 0, []), (1, .iload_n 1, []), (2, .iload_n 1, []), (3, .iconst 1, []), (4, .iadd, []), (5, .invokevirtual 238, [164, 2, 0, 7, 163]), (8, .iload_n 2, []), (9, .bipush (-9), []), (11, .if_icmp .eq 14, [25]), (14, .aload_n 0, []), (15, .iload_n 1, []), (16, .iconst 1, []), (17, .iadd, []), (18, .iload_n 2, []), (19, .invokevirtual 252, [189, 2, 1, 7, 167]), (22, .ifCond .eq 18, [40]), (25, .aload_n 0, []), (26, .iload_n 1, []), (27, .iconst 1, []), (28, .iadd, []), (29, .invokevirtual 246, [166, 1, 1, 7, 165]), (32, .aload_n 0, []), (33, .iload_n 1, []), (34, .invokevirtual 246, [166, 1, 1, 7, 165]), (37, .if_icmp .le 5, [42]), (40, .iconst 0, []), (41, .ireturn, [1]), (42, .iconst 1, []), (43, .istore 4, []), (45, .iconst 0, []), (46, .istore 5, []), (48, .iload 5, []), (50, .iconst 5, []), (51, .if_icmp .ge 53, [104]), (54, .aload_n 0, []), (55, .iload_n 3, []), (56, .iload 5, []), (58, .invokevirtual 316, [220, 2, 1, 7, 182]), (61, .istore 6, []), (63, .iload 4, []), (65, .ifCond .eq 30, [95]), (68, .iload 6, []), (70, .bipush (-9), []), (72, .if_icmp .eq 19, [91]), (75, .aload_n 0, []), (76, .iload_n 1, []), (77, .iconst 1, []), (78, .iadd, []), (79, .iload 6, []), (81, .bipush (-9), []), (83, .invokevirtual 165, [167, 3, 1, 7, 145]), (86, .bipush (-9), []), (88, .if_icmp .ne 7, [95]), (91, .iconst 1, []), (92, .goto 4, [96]), (95, .iconst 0, []), (96, .istore 4, []), (98, .iinc 5 1, []), (101, .goto (-53), [48]), (104, .iload 4, []), (106, .ireturn, [1])]
def h_223 : List (Nat × Nat) := [(48, 6)]
/-- LastStirredModel.wolf(II)I -/
def k_224 : List (Nat × Instr × List Nat) := [(0, .aload_n 0, []), (1, .iload_n 1, []), (2, .invokevirtual 162, [160, 1, 1, 7, 144]), (5, .ifCond .eq 32, [37]), (8, .iload_n 2, []), (9, .iconst 1, []), (10, .iconst 2, []), (11, .invokestatic 73, [127, 3, 1, 127]), (14, .ifCond .eq 23, [37]), (17, .aload_n 0, []), (18, .getfield 29, [7, 12, 2, 92]), (21, .iload_n 1, []), (22, .iaload, []), (23, .iconst 1, []), (24, .if_icmp .eq 13, [37]), (27, .aload_n 0, []), (28, .getfield 29, [7, 12, 2, 92]), (31, .iload_n 1, []), (32, .iaload, []), (33, .iconst 2, []), (34, .if_icmp .ne 5, [39]), (37, .iconst (-1), []), (38, .ireturn, [0]), (39, .aload_n 0, []), (40, .iconst 0, []), (41, .iload_n 1, []), (42, .bipush (-9), []), (44, .invokevirtual 165, [167, 3, 1, 7, 145]), (47, .bipush (-9), []), (49, .if_icmp .eq 6, [55]), (52, .bipush (-4), []), (54, .ireturn, [0]), (55, .aload_n 0, []), (56, .iconst 0, []), (57, .iconst 4, []), (58, .invokevirtual 238, [164, 2, 0, 7, 163]), (61, .iconst (-1), []), (62, .istore_n 3, []), (63, .iload_n 3, []), (64, .aload_n 0, []), (65, .invokevirtual 277, [201, 0, 1, 7, 170]), (68, .if_icmp .ge 45, [113]), (71, .aload_n 0, []), (72, .iconst 4, []), (73, .iload_n 3, []), (74, .ifCond .ge 8, [82]), (77, .bipush (-9), []), (79, .goto 4, [83]), (82, .iload_n 3, []), (83, .iload_n 1, []), (84, .iload_n 2, []), (85, .invokevirtual 325, [221, 4, 1, 7, 185]), (88, .ifCond .eq 19, [107]), (91, .aload_n 0, []), (92, .iload_n 3, []), (93, .ifCond .ge 8, [101]), (96, .bipush (-9), []), (98, .goto 4, [102]), (101, .iload_n 3, []), (102, .iconst 1, []), (103, .invokevirtual 95, [134, 2, 1, 7, 131]), (106, .ireturn, [0]), (107, .iinc 3 1, []), (110, .goto (-47), [63]), (113, .aload_n 0, []), (114, .bipush (-9), []), (116, .iconst 0, []), (117, .invokevirtual 95, [134, 2, 1, 7, 131]), (120, .ireturn, [0])]
def h_224 : List (Nat × Nat) := [(63, 4)]
/-- LastStirredModel.needDawn(I)I -/
def k_225 : List (Nat × Instr × List Nat) := [(0, .aload_n 0, []), (1, .getfield 13, [7, 5, 2, 85]), (4, .iload_n 1, []), (5, .iaload, []), (6, .ifCond .ge 9, [15]), (9, .aload_n 0, []), (10, .iconst 1, []), (11, .invokevirtual 87, [131, 1, 1, 7, 129]), (14, .ireturn, [0]), (15, .aload_n 0, []), (16, .getfield 13, [7, 5, 2, 85]), (19, .iload_n 1, []), (20, .iaload, []), (21, .aload_n 0, []), (22, .getfield 149, [7, 13, 0, 93]), (25, .if_icmp .eq 9, [34]), (28, .aload_n 0, []), (29, .iconst 5, []), (30, .invokevirtual 87, [131, 1, 1, 7, 129]), (33, .ireturn, [0]), (34, .iconst 1, []), (35, .istore_n 2, []), (36, .iconst 0, []), (37, .istore_n 3, []), (38, .iload_n 3, []), (39, .aload_n 0, []), (40, .getfield 149, [7, 13, 0, 93]), (43, .if_icmp .ge 43, [86]), (46, .iload_n 2, []), (47, .ifCond .eq 31, [78]), (50, .aload_n 0, []), (51, .aload_n 0, []), (52, .iload_n 1, []), (53, .iload_n 3, []), (54, .invokevirtual 91, [140, 2, 1, 7, 130]), (57, .invokevirtual 162, [160, 1, 1, 7, 144]), (60, .ifCond .ne 14, [74]), (63, .aload_n 0, []), (64, .iload_n 1, []), (65, .iload_n 3, []), (66, .invokevirtual 91, [140, 2, 1, 7, 130]), (69, .bipush (-9), []), (71, .if_icmp .ne 7, [78]), (74, .iconst 1, []), (75, .goto 4, [79]), (78, .iconst 0, []), (79, .istore_n 2, []), (80, .iinc 3 1, []), (83, .goto (-45), [38]), (86, .iload_n 2, []), (87, .ifCond .eq 7, [94]), (90, .iconst 0, []), (91, .goto 8, [99]), (94, .aload_n 0, []), (95, .iconst 3, []), (96, .invokevirtual 87, [131, 1, 1, 7, 129]), (99, .ireturn, [0])]
def h_225 : List (Nat × Nat) := [(38, 4)]
/-- LastStirredModel.dawn(I)I -/
def k_226 : List (Nat × Instr × List Nat) := [(0, .iload_n 1, []), (1, .invokestatic 83, [139, 1, 1, 128]), (4, .ifCond .ne 5, [9]), (7, .iconst (-1), []), (8, .ireturn, [0]), (9, .aload_n 0, []), (10, .iload_n 1, []), (11, .invokevirtual 329, [225, 1, 1, 7, 186]), (14, .istore_n 2, []), (15, .iload_n 2, []), (16, .ifCond .ge 5, [21]), (19, .iload_n 2, []), (20, .ireturn, [0]), (21, .aload_n 0, []), (22, .iconst 2, []), (23, .iload_n 1, []), (24, .invokevirtual 292, [207, 2, 1, 7, 175]), (27, .istore_n 3, []), (28, .iload_n 3, []), (29, .bipush (-9), []), (31, .if_icmp .ne 8, [39]), (34, .bipush (-9), []), (36, .goto 12, [48]), (39, .aload_n 0, []), (40, .aload_n 0, []), (41, .getfield 261, [7, 33, 0, 113]), (44, .iload_n 3, []), (45, .invokevirtual 95, [134, 2, 1, 7, 131]), (48, .ireturn, [0])]
def h_226 : List (Nat × Nat) := []
/-- LastStirredModel.who(I)I -/
def k_227 : List (Nat × Instr × List Nat) := [(0, .iload_n 1, []), (1, .invokestatic 83, [139, 1, 1, 128]), (4, .ifCond .ne 5, [9]), (7, .iconst (-1), []), (8, .ireturn, [0]), (9, .aload_n 0, []), (10, .iload_n 1, []), (11, .invokevirtual 329, [225, 1, 1, 7, 186]), (14, .istore_n 2, []), (15, .iload_n 2, []), (16, .ifCond .ge 5, [21]), (19, .iload_n 2, []), (20, .ireturn, [0]), (21, .aload_n 0, []), (22, .iconst 2, []), (23, .iload_n 1, []), (24, .invokevirtual 292, [207, 2, 1, 7, 175]), (27, .istore_n 3, []), (28, .iload_n 3, []), (29, .bipush (-9), []), (31, .if_icmp .eq 7, [38]), (34, .iload_n 3, []), (35, .ifCond .ne 8, [43]), (38, .bipush (-9), []), (40, .goto 15, [55]), (43, .aload_n 0, []), (44, .aload_n 0, []), (45, .getfield 270, [7, 36, 0, 116]), (48, .aload_n 0, []), (49, .getfield 267, [7, 35, 0, 115]), (52, .invokevirtual 95, [134, 2, 1, 7, 131]), (55, .ireturn, [0])]
def h_227 : List (Nat × Nat) := []
/-- LastStirredModel.breed(I)I -/
def k_228 : List (Nat × Instr × List Nat) := [(0, .iload_n 1, []), (1, .iconst 0, []), (2, .iconst 5, []), (3, .invokestatic 73, [127, 3, 1, 127]), (6, .ifCond .ne 5, [11]), (9, .iconst (-1), []), (10, .ireturn, [0]), (11, .aload_n 0, []), (12, .getfield 146, [7, 11, 0, 91]), (15, .ifCond .ne 6, [21]), (18, .bipush (-4), []), (20, .ireturn, [0]), (21, .iconst 0, []), (22, .istore_n 2, []), (23, .iload_n 2, []), (24, .aload_n 0, []), (25, .getfield 149, [7, 13, 0, 93]), (28, .if_icmp .ge 28, [56]), (31, .aload_n 0, []), (32, .getfield 58, [7, 37, 2, 117]), (35, .iload_n 2, []), (36, .aload_n 0, []), (37, .getfield 32, [7, 14, 2, 94]), (40, .iload_n 2, []), (41, .iaload, []), (42, .iastore, []), (43, .aload_n 0, []), (44, .getfield 32, [7, 14, 2, 94]), (47, .iload_n 2, []), (48, .iload_n 1, []), (49, .iastore, []), (50, .iinc 2 1, []), (53, .goto (-30), [23]), (56, .aload_n 0, []), (57, .iconst 2, []), (58, .iconst (-1), []), (59, .invokevirtual 292, [207, 2, 1, 7, 175]), (62, .istore_n 2, []), (63, .iconst 0, []), (64, .istore_n 3, []), (65, .iload_n 3, []), (66, .aload_n 0, []), (67, .getfield 149, [7, 13, 0, 93]), (70, .if_icmp .ge 21, [91]), (73, .aload_n 0, []), (74, .getfield 32, [7, 14, 2, 94]), (77, .iload_n 3, []), (78, .aload_n 0, []), (79, .getfield 58, [7, 37, 2, 117]), (82, .iload_n 3, []), (83, .iaload, []), (84, .iastore, []), (85, .iinc 3 1, []), (88, .goto (-23), [65]), (91, .iload_n 2, []), (92, .ireturn, [0])]
def h_228 : List (Nat × Nat) := [(23, 3), (65, 4)]
/-- LastStirredModel.counted(I)I -/
def k_229 : List (Nat × Instr × List Nat) := [(0, .iconst 0, []), (1, .istore_n 2, []), (2, .iconst 0, []), (3, .istore_n 3, []), (4, .iload_n 3, []), (5, .aload_n 0, []), (6, .getfield 149, [7, 13, 0, 93]), (9, .if_icmp .ge 30, [39]), (12, .iload_n 2, []), (13, .iload_n 1, []), (14, .iconst 4, []), (15, .if_icmp .ne 15, [30]), (18, .aload_n 0, []), (19, .iload_n 3, []), (20, .invokevirtual 178, [173, 1, 1, 7, 149]), (23, .ifCond .eq 7, [30]), (26, .iconst 1, []), (27, .goto 4, [31]), (30, .iconst 0, []), (31, .iadd, []), (32, .istore_n 2, []), (33, .iinc 3 1, []), (36, .goto (-32), [4]), (39, .iconst 0, []), (40, .istore_n 3, []), (41, .iload_n 3, []), (42, .iconst 3, []), (43, .if_icmp .ge 31, [74]), (46, .iload_n 2, []), (47, .iload_n 1, []), (48, .iconst 5, []), (49, .if_icmp .ne 16, [65]), (52, .aload_n 0, []), (53, .getfield 47, [7, 25, 2, 105]), (56, .iload_n 3, []), (57, .baload, []), (58, .ifCond .eq 7, [65]), (61, .iconst 1, []), (62, .goto 4, [66]), (65, .iconst 0, []), (66, .iadd, []), (67, .istore_n 2, []), (68, .iinc 3 1, []), (71, .goto (-30), [41]), (74, .iconst 0, []), (75, .istore_n 3, []), (76, .iload_n 3, []), (77, .bipush 6, []), (79, .if_icmp .ge 32, [111]), (82, .iload_n 2, []), (83, .iload_n 1, []), (84, .bipush 6, []), (86, .if_icmp .ne 16, [102]), (89, .aload_n 0, []), (90, .getfield 13, [7, 5, 2, 85]), (93, .iload_n 3, []), (94, .iaload, []), (95, .ifCond .lt 7, [102]), (98, .iconst 1, []), (99, .goto 4, [103]), (102, .iconst 0, []), (103, .iadd, []), (104, .istore_n 2, []), (105, .iinc 3 1, []), (108, .goto (-32), [76]), (111, .iconst 0, []), (112, .istore_n 3, []), (113, .iload_n 3, []), (114, .iconst 4, []), (115, .if_icmp .ge 32, [147]), (118, .iload_n 2, []), (119, .iload_n 1, []), (120, .bipush 7, []), (122, .if_icmp .ne 16, [138]), (125, .aload_n 0, []), (126, .getfield 22, [7, 8, 2, 88]), (129, .iload_n 3, []), (130, .iaload, []), (131, .ifCond .lt 7, [138]), (134, .iconst 1, []), (135, .goto 4, [139]), (138, .iconst 0, []), (139, .iadd, []), (140, .istore_n 2, []), (141, .iinc 3 1, []), (144, .goto (-31), [113]), (147, .iload_n 1, []), (148, .tableswitch 55 0 3 #[32, 37, 42, 48], [203, 180, 185, 190, 196]), (180, .aload_n 0, []), (181, .getfield 146, [7, 11, 0, 91]), (184, .ireturn, [0]), (185, .aload_n 0, []), (186, .getfield 149, [7, 13, 0, 93]), (189, .ireturn, [0]), (190, .aload_n 0, []), (191, .iconst 0, []), (192, .invokevirtual 246, [166, 1, 1, 7, 165]), (195, .ireturn, [0]), (196, .aload_n 0, []), (197, .iconst 0, []), (198, .iconst 0, []), (199, .invokevirtual 152, [162, 2, 1, 7, 141]), (202, .ireturn, [0]), (203, .iload_n 2, []), (204, .ireturn, [0])]
def h_229 : List (Nat × Nat) := [(4, 4), (41, 4), (76, 4), (113, 4)]
/-- LastStirredModel.count(I)I -/
def k_230 : List (Nat × Instr × List Nat) := [(0, .iload_n 1, []), (1, .iconst 0, []), (2, .bipush 7, []), (4, .invokestatic 73, [127, 3, 1, 127]), (7, .ifCond .eq 11, [18]), (10, .aload_n 0, []), (11, .iload_n 1, []), (12, .invokevirtual 332, [229, 1, 1, 7, 187]), (15, .goto 4, [19]), (18, .iconst (-1), []), (19, .ireturn, [0])]
def h_230 : List (Nat × Nat) := []
/-- LastStirredModel.mix(J)V -/
def k_231 : List (Nat × Instr × List Nat) := [(0, .aload_n 0, []), (1, .ldc2_w 335, [7, 1415]), (4, .aload_n 0, []), (5, .getfield 337, [7, 38, 1, 118]), (8, .lmul, []), (9, .lload_n 1, []), (10, .ladd, []), (11, .putfield 337, [7, 38, 1, 118]), (14, .return_, [])]
def h_231 : List (Nat × Nat) := []
/-- LastStirredModel.mixFlock()V -/
def k_232 : List (Nat × Instr × List Nat) := [(0, .iconst 0, []), (1, .istore_n 1, []), (2, .iload_n 1, []), (3, .aload_n 0, []), (4, .getfield 146, [7, 11, 0, 91]), (7, .if_icmp .ge 20, [27]), (10, .aload_n 0, []), (11, .aload_n 0, []), (12, .getfield 29, [7, 12, 2, 92]), (15, .iload_n 1, []), (16, .iaload, []), (17, .i2l, []), (18, .invokevirtual 340, [231, 1, 0, 7, 188]), (21, .iinc 1 1, []), (24, .goto (-22), [2]), (27, .iconst 0, []), (28, .istore_n 1, []), (29, .iload_n 1, []), (30, .aload_n 0, []), (31, .getfield 149, [7, 13, 0, 93]), (34, .if_icmp .ge 33, [67]), (37, .iconst 0, []), (38, .istore_n 2, []), (39, .iload_n 2, []), (40, .iconst 3, []), (41, .if_icmp .ge 20, [61]), (44, .aload_n 0, []), (45, .aload_n 0, []), (46, .iload_n 1, []), (47, .iload_n 2, []), (48, .invokevirtual 172, [171, 2, 1, 7, 147]), (51, .i2l, []), (52, .invokevirtual 340, [231, 1, 0, 7, 188]), (55, .iinc 2 1, []), (58, .goto (-19), [39]), (61, .iinc 1 1, []), (64, .goto (-35), [29]), (67, .iconst 1, []), (68, .istore_n 1, []), (69, .iload_n 1, []), (70, .iconst 4, []), (71, .if_icmp .gt 20, [91]), (74, .aload_n 0, []), (75, .aload_n 0, []), (76, .iconst 0, []), (77, .iload_n 1, []), (78, .invokevirtual 152, [162, 2, 1, 7, 141]), (81, .i2l, []), (82, .invokevirtual 340, [231, 1, 0, 7, 188]), (85, .iinc 1 1, []), (88, .goto (-19), [69]), (91, .iconst 0, []), (92, .istore_n 1, []), (93, .iload_n 1, []), (94, .iconst 3, []), (95, .if_icmp .ge 37, [132]), (98, .aload_n 0, []), (99, .aload_n 0, []), (100, .getfield 47, [7, 25, 2, 105]), (103, .iload_n 1, []), (104, .baload, []), (105, .ifCond .eq 15, [120]), (108, .aload_n 0, []), (109, .iconst 1, []), (110, .iload_n 1, []), (111, .iadd, []), (112, .iconst 0, []), (113, .invokevirtual 152, [162, 2, 1, 7, 141]), (116, .i2l, []), (117, .goto 6, [123]), (120, .ldc2_w 344, [8, 1420]), (123, .invokevirtual 340, [231, 1, 0, 7, 188]), (126, .iinc 1 1, []), (129, .goto (-36), [93]), (132, .return_, [])]
def h_232 : List (Nat × Nat) := [(2, 2), (29, 2), (39, 3), (69, 2), (93, 2)]
/-- LastStirredModel.digest()J -/
def k_233 : List (Nat × Instr × List Nat) := [(0, .aload_n 0, []), (1, .ldc2_w 346, [6, 1410]), (4, .putfield 337, [7, 38, 1, 118]), (7, .iconst 0, []), (8, .istore_n 1, []), (9, .iload_n 1, []), (10, .bipush 8, []), (12, .if_icmp .ge 19, [31]), (15, .aload_n 0, []), (16, .aload_n 0, []), (17, .iload_n 1, []), (18, .invokevirtual 332, [229, 1, 1, 7, 187]), (21, .i2l, []), (22, .invokevirtual 340, [231, 1, 0, 7, 188]), (25, .iinc 1 1, []), (28, .goto (-19), [9]), (31, .aload_n 0, []), (32, .invokevirtual 348, [232, 0, 0, 7, 189]), (35, .iconst 0, []), (36, .istore_n 1, []), (37, .iload_n 1, []), (38, .bipush 6, []), (40, .if_icmp .ge 49, [89]), (43, .aload_n 0, []), (44, .aload_n 0, []), (45, .getfield 13, [7, 5, 2, 85]), (48, .iload_n 1, []), (49, .iaload, []), (50, .i2l, []), (51, .invokevirtual 340, [231, 1, 0, 7, 188]), (54, .iconst 0, []), (55, .istore_n 2, []), (56, .iload_n 2, []), (57, .aload_n 0, []), (58, .getfield 13, [7, 5, 2, 85]), (61, .iload_n 1, []), (62, .iaload, []), (63, .if_icmp .ge 20, [83]), (66, .aload_n 0, []), (67, .aload_n 0, []), (68, .iload_n 1, []), (69, .iload_n 2, []), (70, .invokevirtual 91, [140, 2, 1, 7, 130]), (73, .i2l, []), (74, .invokevirtual 340, [231, 1, 0, 7, 188]), (77, .iinc 2 1, []), (80, .goto (-24), [56]), (83, .iinc 1 1, []), (86, .goto (-49), [37]), (89, .iconst 0, []), (90, .istore_n 1, []), (91, .iload_n 1, []), (92, .iconst 4, []), (93, .if_icmp .ge 49, [142]), (96, .aload_n 0, []), (97, .aload_n 0, []), (98, .getfield 22, [7, 8, 2, 88]), (101, .iload_n 1, []), (102, .iaload, []), (103, .i2l, []), (104, .invokevirtual 340, [231, 1, 0, 7, 188]), (107, .iconst 0, []), (108, .istore_n 2, []), (109, .iload_n 2, []), (110, .aload_n 0, []), (111, .getfield 22, [7, 8, 2, 88]), (114, .iload_n 1, []), (115, .iaload, []), (116, .if_icmp .ge 20, [136]), (119, .aload_n 0, []), (120, .aload_n 0, []), (121, .iload_n 1, []), (122, .iload_n 2, []), (123, .invokevirtual 104, [150, 2, 1, 7, 133]), (126, .i2l, []), (127, .invokevirtual 340, [231, 1, 0, 7, 188]), (130, .iinc 2 1, []), (133, .goto (-24), [109]), (136, .iinc 1 1, []), (139, .goto (-48), [91]), (142, .aload_n 0, []), (143, .getfield 337, [7, 38, 1, 118]), (146, .lreturn, [])]
def h_233 : List (Nat × Nat) := [(9, 2), (37, 2), (56, 3), (91, 2), (109, 3)]
/-- java/lang/Integer.bitCount(I)I -/
def k_234 : List (Nat × Instr × List Nat) := [(0, .iload_n 0, []), (1, .iload_n 0, []), (2, .iconst 1, []), (3, .iushr, []), (4, .ldc_w 265, [0, 844]), (7, .iand, []), (8, .isub, []), (9, .istore_n 0, []), (10, .iload_n 0, []), (11, .ldc_w 266, [1, 845]), (14, .iand, []), (15, .iload_n 0, []), (16, .iconst 2, []), (17, .iushr, []), (18, .ldc_w 266, [1, 845]), (21, .iand, []), (22, .iadd, []), (23, .istore_n 0, []), (24, .iload_n 0, []), (25, .iload_n 0, []), (26, .iconst 4, []), (27, .iushr, []), (28, .iadd, []), (29, .ldc_w 267, [2, 846]), (32, .iand, []), (33, .istore_n 0, []), (34, .iload_n 0, []), (35, .iload_n 0, []), (36, .bipush 8, []), (38, .iushr, []), (39, .iadd, []), (40, .istore_n 0, []), (41, .iload_n 0, []), (42, .iload_n 0, []), (43, .bipush 16, []), (45, .iushr, []), (46, .iadd, []), (47, .istore_n 0, []), (48, .iload_n 0, []), (49, .bipush 63, []), (51, .iand, []), (52, .ireturn, [0])]
def h_234 : List (Nat × Nat) := []
/-- java/util/Arrays.fill([II)V -/
def k_235 : List (Nat × Instr × List Nat) := [(0, .iconst 0, []), (1, .istore_n 2, []), (2, .aload_n 0, []), (3, .arraylength, []), (4, .istore_n 3, []), (5, .iload_n 2, []), (6, .iload_n 3, []), (7, .if_icmp .ge 13, [20]), (10, .aload_n 0, []), (11, .iload_n 2, []), (12, .iload_n 1, []), (13, .iastore, []), (14, .iinc 2 1, []), (17, .goto (-12), [5]), (20, .return_, [])]
def h_235 : List (Nat × Nat) := [(5, 4)]
/-- LastStirredLaw.law([I)Z -/
def k_236 : List (Nat × Instr × List Nat) := [(0, .new 7, [6, 16, 96]), (3, .dup, []), (4, .invokespecial 9, [68, 0, 0, 190]), (7, .astore_n 1, []), (8, .new 10, [7, 39, 871]), (11, .dup, []), (12, .invokespecial 12, [126, 0, 0, 191]), (15, .astore_n 2, []), (16, .iconst 0, []), (17, .istore_n 3, []), (18, .iload_n 3, []), (19, .aload_n 0, []), (20, .arraylength, []), (21, .bipush 6, []), (23, .isub, []), (24, .if_icmp .gt 1264, [1288]), (27, .aload_n 0, []), (28, .iload_n 3, []), (29, .iaload, []), (30, .bipush 63, []), (32, .iand, []), (33, .tableswitch 1249 0 42 #[187, 220, 263, 296, 319, 382, 405, 438, 481, 504, 527, 550, 583, 616, 649, 662, 695, 718, 731, 744, 767, 780, 803, 826, 839, 862, 875, 908, 941, 964, 987, 1020, 1033, 1066, 1089, 1112, 1135, 1148, 1162, 1176, 1199, 1212, 1235], [1282, 220, 253, 296, 329, 352, 415, 438, 471, 514, 537, 560, 583, 616, 649, 682, 695, 728, 751, 764, 777, 800, 813, 836, 859, 872, 895, 908, 941, 974, 997, 1020, 1053, 1066, 1099, 1122, 1145, 1168, 1181, 1195, 1209, 1232, 1245, 1268]), (220, .aload_n 1, []), (221, .aload_n 0, []), (222, .iload_n 3, []), (223, .iconst 1, []), (224, .iadd, []), (225, .iaload, []), (226, .aload_n 0, []), (227, .iload_n 3, []), (228, .iconst 2, []), (229, .iadd, []), (230, .iaload, []), (231, .invokevirtual 13, [69, 2, 1, 6, 192]), (234, .aload_n 2, []), (235, .aload_n 0, []), (236, .iload_n 3, []), (237, .iconst 1, []), (238, .iadd, []), (239, .iaload, []), (240, .aload_n 0, []), (241, .iload_n 3, []), (242, .iconst 2, []), (243, .iadd, []), (244, .iaload, []), (245, .invokevirtual 17, [141, 2, 1, 7, 193]), (248, .if_icmp .eq 1034, [1282]), (251, .iconst 0, []), (252, .ireturn, [1]), (253, .aload_n 1, []), (254, .aload_n 0, []), (255, .iload_n 3, []), (256, .iconst 1, []), (257, .iadd, []), (258, .iaload, []), (259, .aload_n 0, []), (260, .iload_n 3, []), (261, .iconst 2, []), (262, .iadd, []), (263, .iaload, []), (264, .aload_n 0, []), (265, .iload_n 3, []), (266, .iconst 3, []), (267, .iadd, []), (268, .iaload, []), (269, .invokevirtual 18, [70, 3, 1, 6, 194]), (272, .aload_n 2, []), (273, .aload_n 0, []), (274, .iload_n 3, []), (275, .iconst 1, []), (276, .iadd, []), (277, .iaload, []), (278, .aload_n 0, []), (279, .iload_n 3, []), (280, .iconst 2, []), (281, .iadd, []), (282, .iaload, []), (283, .aload_n 0, []), (284, .iload_n 3, []), (285, .iconst 3, []), (286, .iadd, []), (287, .iaload, []), (288, .invokevirtual 22, [142, 3, 1, 7, 195]), (291, .if_icmp .eq 991, [1282]), (294, .iconst 0, []), (295, .ireturn, [1]), (296, .aload_n 1, []), (297, .aload_n 0, []), (298, .iload_n 3, []), (299, .iconst 1, []), (300, .iadd, []), (301, .iaload, []), (302, .aload_n 0, []), (303, .iload_n 3, []), (304, .iconst 2, []), (305, .iadd, []), (306, .iaload, []), (307, .invokevirtual 23, [71, 2, 1, 6, 196]), (310, .aload_n 2, []), (311, .aload_n 0, []), (312, .iload_n 3, []), (313, .iconst 1, []), (314, .iadd, []), (315, .iaload, []), (316, .aload_n 0, []), (317, .iload_n 3, []), (318, .iconst 2, []), (319, .iadd, []), (320, .iaload, []), (321, .invokevirtual 26, [143, 2, 1, 7, 197]), (324, .if_icmp .eq 958, [1282]), (327, .iconst 0, []), (328, .ireturn, [1]), (329, .aload_n 1, []), (330, .aload_n 0, []), (331, .iload_n 3, []), (332, .iconst 1, []), (333, .iadd, []), (334, .iaload, []), (335, .invokevirtual 27, [72, 1, 1, 6, 198]), (338, .aload_n 2, []), (339, .aload_n 0, []), (340, .iload_n 3, []), (341, .iconst 1, []), (342, .iadd, []), (343, .iaload, []), (344, .invokevirtual 31, [144, 1, 1, 7, 199]), (347, .if_icmp .eq 935, [1282]), (350, .iconst 0, []), (351, .ireturn, [1]), (352, .aload_n 1, []), (353, .aload_n 0, []), (354, .iload_n 3, []), (355, .iconst 1, []), (356, .iadd, []), (357, .iaload, []), (358, .aload_n 0, []), (359, .iload_n 3, []), (360, .iconst 2, []), (361, .iadd, []), (362, .iaload, []), (363, .aload_n 0, []), (364, .iload_n 3, []), (365, .iconst 3, []), (366, .iadd, []), (367, .iaload, []), (368, .aload_n 0, []), (369, .iload_n 3, []), (370, .iconst 4, []), (371, .iadd, []), (372, .iaload, []), (373, .aload_n 0, []), (374, .iload_n 3, []), (375, .iconst 5, []), (376, .iadd, []), (377, .iaload, []), (378, .invokevirtual 32, [73, 5, 1, 6, 200]), (381, .aload_n 2, []), (382, .aload_n 0, []), (383, .iload_n 3, []), (384, .iconst 1, []), (385, .iadd, []), (386, .iaload, []), (387, .aload_n 0, []), (388, .iload_n 3, []), (389, .iconst 2, []), (390, .iadd, []), (391, .iaload, []), (392, .aload_n 0, []), (393, .iload_n 3, []), (394, .iconst 3, []), (395, .iadd, []), (396, .iaload, []), (397, .aload_n 0, []), (398, .iload_n 3, []), (399, .iconst 4, []), (400, .iadd, []), (401, .iaload, []), (402, .aload_n 0, []), (403, .iload_n 3, []), (404, .iconst 5, []), (405, .iadd, []), (406, .iaload, []), (407, .invokevirtual 36, [145, 5, 1, 7, 201]), (410, .if_icmp .eq 872, [1282]), (413, .iconst 0, []), (414, .ireturn, [1]), (415, .aload_n 1, []), (416, .aload_n 0, []), (417, .iload_n 3, []), (418, .iconst 1, []), (419, .iadd, []), (420, .iaload, []), (421, .invokevirtual 37, [74, 1, 1, 6, 202]), (424, .aload_n 2, []), (425, .aload_n 0, []), (426, .iload_n 3, []), (427, .iconst 1, []), (428, .iadd, []), (429, .iaload, []), (430, .invokevirtual 40, [146, 1, 1, 7, 203]), (433, .if_icmp .eq 849, [1282]), (436, .iconst 0, []), (437, .ireturn, [1]), (438, .aload_n 1, []), (439, .aload_n 0, []), (440, .iload_n 3, []), (441, .iconst 1, []), (442, .iadd, []), (443, .iaload, []), (444, .aload_n 0, []), (445, .iload_n 3, []), (446, .iconst 2, []), (447, .iadd, []), (448, .iaload, []), (449, .invokevirtual 41, [75, 2, 1, 6, 204]), (452, .aload_n 2, []), (453, .aload_n 0, []), (454, .iload_n 3, []), (455, .iconst 1, []), (456, .iadd, []), (457, .iaload, []), (458, .aload_n 0, []), (459, .iload_n 3, []), (460, .iconst 2, []), (461, .iadd, []), (462, .iaload, []), (463, .invokevirtual 44, [148, 2, 1, 7, 205]), (466, .if_icmp .eq 816, [1282]), (469, .iconst 0, []), (470, .ireturn, [1]), (471, .aload_n 1, []), (472, .aload_n 0, []), (473, .iload_n 3, []), (474, .iconst 1, []), (475, .iadd, []), (476, .iaload, []), (477, .aload_n 0, []), (478, .iload_n 3, []), (479, .iconst 2, []), (480, .iadd, []), (481, .iaload, []), (482, .aload_n 0, []), (483, .iload_n 3, []), (484, .iconst 3, []), (485, .iadd, []), (486, .iaload, []), (487, .invokevirtual 45, [76, 3, 1, 6, 206]), (490, .aload_n 2, []), (491, .aload_n 0, []), (492, .iload_n 3, []), (493, .iconst 1, []), (494, .iadd, []), (495, .iaload, []), (496, .aload_n 0, []), (497, .iload_n 3, []), (498, .iconst 2, []), (499, .iadd, []), (500, .iaload, []), (501, .aload_n 0, []), (502, .iload_n 3, []), (503, .iconst 3, []), (504, .iadd, []), (505, .iaload, []), (506, .invokevirtual 48, [149, 3, 1, 7, 207]), (509, .if_icmp .eq 773, [1282]), (512, .iconst 0, []), (513, .ireturn, [1]), (514, .aload_n 1, []), (515, .aload_n 0, []), (516, .iload_n 3, []), (517, .iconst 1, []), (518, .iadd, []), (519, .iaload, []), (520, .invokevirtual 49, [77, 1, 1, 6, 208]), (523, .aload_n 2, []), (524, .aload_n 0, []), (525, .iload_n 3, []), (526, .iconst 1, []), (527, .iadd, []), (528, .iaload, []), (529, .invokevirtual 52, [158, 1, 1, 7, 209]), (532, .if_icmp .eq 750, [1282]), (535, .iconst 0, []), (536, .ireturn, [1]), (537, .aload_n 1, []), (538, .aload_n 0, []), (539, .iload_n 3, []), (540, .iconst 1, []), (541, .iadd, []), (542, .iaload, []), (543, .invokevirtual 53, [78, 1, 1, 6, 210]), (546, .aload_n 2, []), (547, .aload_n 0, []), (548, .iload_n 3, []), (549, .iconst 1, []), (550, .iadd, []), (551, .iaload, []), (552, .invokevirtual 56, [159, 1, 1, 7, 211]), (555, .if_icmp .eq 727, [1282]), (558, .iconst 0, []), (559, .ireturn, [1]), (560, .aload_n 1, []), (561, .aload_n 0, []), (562, .iload_n 3, []), (563, .iconst 1, []), (564, .iadd, []), (565, .iaload, []), (566, .invokevirtual 57, [79, 1, 1, 6, 212]), (569, .aload_n 2, []), (570, .aload_n 0, []), (571, .iload_n 3, []), (572, .iconst 1, []), (573, .iadd, []), (574, .iaload, []), (575, .invokevirtual 60, [169, 1, 1, 7, 213]), (578, .if_icmp .eq 704, [1282]), (581, .iconst 0, []), (582, .ireturn, [1]), (583, .aload_n 1, []), (584, .aload_n 0, []), (585, .iload_n 3, []), (586, .iconst 1, []), (587, .iadd, []), (588, .iaload, []), (589, .aload_n 0, []), (590, .iload_n 3, []), (591, .iconst 2, []), (592, .iadd, []), (593, .iaload, []), (594, .invokevirtual 61, [80, 2, 1, 6, 214]), (597, .aload_n 2, []), (598, .aload_n 0, []), (599, .iload_n 3, []), (600, .iconst 1, []), (601, .iadd, []), (602, .iaload, []), (603, .aload_n 0, []), (604, .iload_n 3, []), (605, .iconst 2, []), (606, .iadd, []), (607, .iaload, []), (608, .invokevirtual 64, [170, 2, 1, 7, 215]), (611, .if_icmp .eq 671, [1282]), (614, .iconst 0, []), (615, .ireturn, [1]), (616, .aload_n 1, []), (617, .aload_n 0, []), (618, .iload_n 3, []), (619, .iconst 1, []), (620, .iadd, []), (621, .iaload, []), (622, .aload_n 0, []), (623, .iload_n 3, []), (624, .iconst 2, []), (625, .iadd, []), (626, .iaload, []), (627, .invokevirtual 65, [81, 2, 1, 6, 216]), (630, .aload_n 2, []), (631, .aload_n 0, []), (632, .iload_n 3, []), (633, .iconst 1, []), (634, .iadd, []), (635, .iaload, []), (636, .aload_n 0, []), (637, .iload_n 3, []), (638, .iconst 2, []), (639, .iadd, []), (640, .iaload, []), (641, .invokevirtual 68, [172, 2, 1, 7, 217]), (644, .if_icmp .eq 638, [1282]), (647, .iconst 0, []), (648, .ireturn, [1]), (649, .aload_n 1, []), (650, .aload_n 0, []), (651, .iload_n 3, []), (652, .iconst 1, []), (653, .iadd, []), (654, .iaload, []), (655, .aload_n 0, []), (656, .iload_n 3, []), (657, .iconst 2, []), (658, .iadd, []), (659, .iaload, []), (660, .invokevirtual 69, [82, 2, 1, 6, 218]), (663, .aload_n 2, []), (664, .aload_n 0, []), (665, .iload_n 3, []), (666, .iconst 1, []), (667, .iadd, []), (668, .iaload, []), (669, .aload_n 0, []), (670, .iload_n 3, []), (671, .iconst 2, []), (672, .iadd, []), (673, .iaload, []), (674, .invokevirtual 72, [178, 2, 1, 7, 219]), (677, .if_icmp .eq 605, [1282]), (680, .iconst 0, []), (681, .ireturn, [1]), (682, .aload_n 1, []), (683, .invokevirtual 73, [83, 0, 1, 6, 220]), (686, .aload_n 2, []), (687, .invokevirtual 77, [179, 0, 1, 7, 221]), (690, .if_icmp .eq 592, [1282]), (693, .iconst 0, []), (694, .ireturn, [1]), (695, .aload_n 1, []), (696, .aload_n 0, []), (697, .iload_n 3, []), (698, .iconst 1, []), (699, .iadd, []), (700, .iaload, []), (701, .aload_n 0, []), (702, .iload_n 3, []), (703, .iconst 2, []), (704, .iadd, []), (705, .iaload, []), (706, .invokevirtual 78, [84, 2, 1, 6, 222]), (709, .aload_n 2, []), (710, .aload_n 0, []), (711, .iload_n 3, []), (712, .iconst 1, []), (713, .iadd, []), (714, .iaload, []), (715, .aload_n 0, []), (716, .iload_n 3, []), (717, .iconst 2, []), (718, .iadd, []), (719, .iaload, []), (720, .invokevirtual 81, [190, 2, 1, 7, 223]), (723, .if_icmp .eq 559, [1282]), (726, .iconst 0, []), (727, .ireturn, [1]), (728, .aload_n 1, []), (729, .aload_n 0, []), (730, .iload_n 3, []), (731, .iconst 1, []), (732, .iadd, []), (733, .iaload, []), (734, .invokevirtual 82, [85, 1, 1, 6, 224]), (737, .aload_n 2, []), (738, .aload_n 0, []), (739, .iload_n 3, []), (740, .iconst 1, []), (741, .iadd, []), (742, .iaload, []), (743, .invokevirtual 85, [191, 1, 1, 7, 225]), (746, .if_icmp .eq 536, [1282]), (749, .iconst 0, []), (750, .ireturn, [1]), (751, .aload_n 1, []), (752, .invokevirtual 86, [86, 0, 1, 6, 226]), (755, .aload_n 2, []), (756, .invokevirtual 89, [192, 0, 1, 7, 227]), (759, .if_icmp .eq 523, [1282]), (762, .iconst 0, []), (763, .ireturn, [1]), (764, .aload_n 1, []), (765, .invokevirtual 90, [87, 0, 1, 6, 228]), (768, .aload_n 2, []), (769, .invokevirtual 93, [194, 0, 1, 7, 229]), (772, .if_icmp .eq 510, [1282]), (775, .iconst 0, []), (776, .ireturn, [1]), (777, .aload_n 1, []), (778, .aload_n 0, []), (779, .iload_n 3, []), (780, .iconst 1, []), (781, .iadd, []), (782, .iaload, []), (783, .invokevirtual 94, [88, 1, 1, 6, 230]), (786, .aload_n 2, []), (787, .aload_n 0, []), (788, .iload_n 3, []), (789, .iconst 1, []), (790, .iadd, []), (791, .iaload, []), (792, .invokevirtual 97, [195, 1, 1, 7, 231]), (795, .if_icmp .eq 487, [1282]), (798, .iconst 0, []), (799, .ireturn, [1]), (800, .aload_n 1, []), (801, .invokevirtual 98, [89, 0, 1, 6, 232]), (804, .aload_n 2, []), (805, .invokevirtual 101, [197, 0, 1, 7, 233]), (808, .if_icmp .eq 474, [1282]), (811, .iconst 0, []), (812, .ireturn, [1]), (813, .aload_n 1, []), (814, .aload_n 0, []), (815, .iload_n 3, []), (816, .iconst 1, []), (817, .iadd, []), (818, .iaload, []), (819, .invokevirtual 102, [90, 1, 1, 6, 234]), (822, .aload_n 2, []), (823, .aload_n 0, []), (824, .iload_n 3, []), (825, .iconst 1, []), (826, .iadd, []), (827, .iaload, []), (828, .invokevirtual 105, [198, 1, 1, 7, 235]), (831, .if_icmp .eq 451, [1282]), (834, .iconst 0, []), (835, .ireturn, [1]), (836, .aload_n 1, []), (837, .aload_n 0, []), (838, .iload_n 3, []), (839, .iconst 1, []), (840, .iadd, []), (841, .iaload, []), (842, .invokevirtual 106, [91, 1, 1, 6, 236]), (845, .aload_n 2, []), (846, .aload_n 0, []), (847, .iload_n 3, []), (848, .iconst 1, []), (849, .iadd, []), (850, .iaload, []), (851, .invokevirtual 109, [199, 1, 1, 7, 237]), (854, .if_icmp .eq 428, [1282]), (857, .iconst 0, []), (858, .ireturn, [1]), (859, .aload_n 1, []), (860, .invokevirtual 110, [92, 0, 1, 6, 238]), (863, .aload_n 2, []), (864, .invokevirtual 113, [208, 0, 1, 7, 239]), (867, .if_icmp .eq 415, [1282]), (870, .iconst 0, []), (871, .ireturn, [1]), (872, .aload_n 1, []), (873, .aload_n 0, []), (874, .iload_n 3, []), (875, .iconst 1, []), (876, .iadd, []), (877, .iaload, []), (878, .invokevirtual 114, [93, 1, 1, 6, 240]), (881, .aload_n 2, []), (882, .aload_n 0, []), (883, .iload_n 3, []), (884, .iconst 1, []), (885, .iadd, []), (886, .iaload, []), (887, .invokevirtual 117, [209, 1, 1, 7, 241]), (890, .if_icmp .eq 392, [1282]), (893, .iconst 0, []), (894, .ireturn, [1]), (895, .aload_n 1, []), (896, .invokevirtual 118, [94, 0, 1, 6, 242]), (899, .aload_n 2, []), (900, .invokevirtual 121, [210, 0, 1, 7, 243]), (903, .if_icmp .eq 379, [1282]), (906, .iconst 0, []), (907, .ireturn, [1]), (908, .aload_n 1, []), (909, .aload_n 0, []), (910, .iload_n 3, []), (911, .iconst 1, []), (912, .iadd, []), (913, .iaload, []), (914, .aload_n 0, []), (915, .iload_n 3, []), (916, .iconst 2, []), (917, .iadd, []), (918, .iaload, []), (919, .invokevirtual 122, [95, 2, 1, 6, 244]), (922, .aload_n 2, []), (923, .aload_n 0, []), (924, .iload_n 3, []), (925, .iconst 1, []), (926, .iadd, []), (927, .iaload, []), (928, .aload_n 0, []), (929, .iload_n 3, []), (930, .iconst 2, []), (931, .iadd, []), (932, .iaload, []), (933, .invokevirtual 125, [211, 2, 1, 7, 245]), (936, .if_icmp .eq 346, [1282]), (939, .iconst 0, []), (940, .ireturn, [1]), (941, .aload_n 1, []), (942, .aload_n 0, []), (943, .iload_n 3, []), (944, .iconst 1, []), (945, .iadd, []), (946, .iaload, []), (947, .aload_n 0, []), (948, .iload_n 3, []), (949, .iconst 2, []), (950, .iadd, []), (951, .iaload, []), (952, .invokevirtual 126, [96, 2, 1, 6, 246]), (955, .aload_n 2, []), (956, .aload_n 0, []), (957, .iload_n 3, []), (958, .iconst 1, []), (959, .iadd, []), (960, .iaload, []), (961, .aload_n 0, []), (962, .iload_n 3, []), (963, .iconst 2, []), (964, .iadd, []), (965, .iaload, []), (966, .invokevirtual 129, [213, 2, 1, 7, 247]), (969, .if_icmp .eq 313, [1282]), (972, .iconst 0, []), (973, .ireturn, [1]), (974, .aload_n 1, []), (975, .aload_n 0, []), (976, .iload_n 3, []), (977, .iconst 1, []), (978, .iadd, []), (979, .iaload, []), (980, .invokevirtual 130, [97, 1, 1, 6, 248]), (983, .aload_n 2, []), (984, .aload_n 0, []), (985, .iload_n 3, []), (986, .iconst 1, []), (987, .iadd, []), (988, .iaload, []), (989, .invokevirtual 133, [214, 1, 1, 7, 249]), (992, .if_icmp .eq 290, [1282]), (995, .iconst 0, []), (996, .ireturn, [1]), (997, .aload_n 1, []), (998, .aload_n 0, []), (999, .iload_n 3, []), (1000, .iconst 1, []), (1001, .iadd, []), (1002, .iaload, []), (1003, .invokevirtual 134, [98, 1, 1, 6, 250]), (1006, .aload_n 2, []), (1007, .aload_n 0, []), (1008, .iload_n 3, []), (1009, .iconst 1, []), (1010, .iadd, []), (1011, .iaload, []), (1012, .invokevirtual 137, [215, 1, 1, 7, 251]), (1015, .if_icmp .eq 267, [1282]), (1018, .iconst 0, []), (1019, .ireturn, [1]), (1020, .aload_n 1, []), (1021, .aload_n 0, []), (1022, .iload_n 3, []), (1023, .iconst 1, []), (1024, .iadd, []), (1025, .iaload, []), (1026, .aload_n 0, []), (1027, .iload_n 3, []), (1028, .iconst 2, []), (1029, .iadd, []), (1030, .iaload, []), (1031, .invokevirtual 138, [99, 2, 1, 6, 252]), (1034, .aload_n 2, []), (1035, .aload_n 0, []), (1036, .iload_n 3, []), (1037, .iconst 1, []), (1038, .iadd, []), (1039, .iaload, []), (1040, .aload_n 0, []), (1041, .iload_n 3, []), (1042, .iconst 2, []), (1043, .iadd, []), (1044, .iaload, []), (1045, .invokevirtual 141, [218, 2, 1, 7, 253]), (1048, .if_icmp .eq 234, [1282]), (1051, .iconst 0, []), (1052, .ireturn, [1]), (1053, .aload_n 1, []), (1054, .invokevirtual 142, [100, 0, 1, 6, 254]), (1057, .aload_n 2, []), (1058, .invokevirtual 145, [219, 0, 1, 7, 255]), (1061, .if_icmp .eq 221, [1282]), (1064, .iconst 0, []), (1065, .ireturn, [1]), (1066, .aload_n 1, []), (1067, .aload_n 0, []), (1068, .iload_n 3, []), (1069, .iconst 1, []), (1070, .iadd, []), (1071, .iaload, []), (1072, .aload_n 0, []), (1073, .iload_n 3, []), (1074, .iconst 2, []), (1075, .iadd, []), (1076, .iaload, []), (1077, .invokevirtual 146, [101, 2, 1, 6, 256]), (1080, .aload_n 2, []), (1081, .aload_n 0, []), (1082, .iload_n 3, []), (1083, .iconst 1, []), (1084, .iadd, []), (1085, .iaload, []), (1086, .aload_n 0, []), (1087, .iload_n 3, []), (1088, .iconst 2, []), (1089, .iadd, []), (1090, .iaload, []), (1091, .invokevirtual 149, [224, 2, 1, 7, 257]), (1094, .if_icmp .eq 188, [1282]), (1097, .iconst 0, []), (1098, .ireturn, [1]), (1099, .aload_n 1, []), (1100, .aload_n 0, []), (1101, .iload_n 3, []), (1102, .iconst 1, []), (1103, .iadd, []), (1104, .iaload, []), (1105, .invokevirtual 150, [102, 1, 1, 6, 258]), (1108, .aload_n 2, []), (1109, .aload_n 0, []), (1110, .iload_n 3, []), (1111, .iconst 1, []), (1112, .iadd, []), (1113, .iaload, []), (1114, .invokevirtual 153, [226, 1, 1, 7, 259]), (1117, .if_icmp .eq 165, [1282]), (1120, .iconst 0, []), (1121, .ireturn, [1]), (1122, .aload_n 1, []), (1123, .aload_n 0, []), (1124, .iload_n 3, []), (1125, .iconst 1, []), (1126, .iadd, []), (1127, .iaload, []), (1128, .invokevirtual 154, [103, 1, 1, 6, 260]), (1131, .aload_n 2, []), (1132, .aload_n 0, []), (1133, .iload_n 3, []), (1134, .iconst 1, []), (1135, .iadd, []), (1136, .iaload, []), (1137, .invokevirtual 157, [227, 1, 1, 7, 261]), (1140, .if_icmp .eq 142, [1282]), (1143, .iconst 0, []), (1144, .ireturn, [1]), (1145, .aload_n 1, []), (1146, .aload_n 0, []), (1147, .iload_n 3, []), (1148, .iconst 1, []), (1149, .iadd, []), (1150, .iaload, []), (1151, .invokevirtual 158, [104, 1, 1, 6, 262]), (1154, .aload_n 2, []), (1155, .aload_n 0, []), (1156, .iload_n 3, []), (1157, .iconst 1, []), (1158, .iadd, []), (1159, .iaload, []), (1160, .invokevirtual 161, [228, 1, 1, 7, 263]), (1163, .if_icmp .eq 119, [1282]), (1166, .iconst 0, []), (1167, .ireturn, [1]), (1168, .aload_n 1, []), (1169, .invokevirtual 162, [105, 0, 1, 6, 264]), (1172, .aload_n 2, []), (1173, .invokevirtual 165, [135, 0, 1, 7, 265]), (1176, .if_icmp .eq 106, [1282]), (1179, .iconst 0, []), (1180, .ireturn, [1]), (1181, .aload_n 1, []), (1182, .invokevirtual 166, [106, 0, 2, 6, 266]), (1185, .aload_n 2, []), (1186, .invokevirtual 170, [137, 0, 2, 7, 267]), (1189, .lcmp, []), (1190, .ifCond .eq 92, [1282]), (1193, .iconst 0, []), (1194, .ireturn, [1]), (1195, .aload_n 1, []), (1196, .invokevirtual 171, [107, 0, 2, 6, 268]), (1199, .aload_n 2, []), (1200, .invokevirtual 174, [138, 0, 2, 7, 269]), (1203, .lcmp, []), (1204, .ifCond .eq 78, [1282]), (1207, .iconst 0, []), (1208, .ireturn, [1]), (1209, .aload_n 1, []), (1210, .aload_n 0, []), (1211, .iload_n 3, []), (1212, .iconst 1, []), (1213, .iadd, []), (1214, .iaload, []), (1215, .invokevirtual 175, [108, 1, 1, 6, 270]), (1218, .aload_n 2, []), (1219, .aload_n 0, []), (1220, .iload_n 3, []), (1221, .iconst 1, []), (1222, .iadd, []), (1223, .iaload, []), (1224, .invokevirtual 178, [230, 1, 1, 7, 271]), (1227, .if_icmp .eq 55, [1282]), (1230, .iconst 0, []), (1231, .ireturn, [1]), (1232, .aload_n 1, []), (1233, .invokevirtual 179, [109, 0, 1, 6, 272]), (1236, .aload_n 2, []), (1237, .invokevirtual 182, [132, 0, 1, 7, 273]), (1240, .if_icmp .eq 42, [1282]), (1243, .iconst 0, []), (1244, .ireturn, [1]), (1245, .aload_n 1, []), (1246, .aload_n 0, []), (1247, .iload_n 3, []), (1248, .iconst 1, []), (1249, .iadd, []), (1250, .iaload, []), (1251, .invokevirtual 183, [110, 1, 1, 6, 274]), (1254, .aload_n 2, []), (1255, .aload_n 0, []), (1256, .iload_n 3, []), (1257, .iconst 1, []), (1258, .iadd, []), (1259, .iaload, []), (1260, .invokevirtual 186, [133, 1, 1, 7, 275]), (1263, .if_icmp .eq 19, [1282]), (1266, .iconst 0, []), (1267, .ireturn, [1]), (1268, .aload_n 1, []), (1269, .invokevirtual 187, [111, 0, 2, 6, 276]), (1272, .aload_n 2, []), (1273, .invokevirtual 190, [233, 0, 2, 7, 277]), (1276, .lcmp, []), (1277, .ifCond .eq 5, [1282]), (1280, .iconst 0, []), (1281, .ireturn, [1]), (1282, .iinc 3 6, []), (1285, .goto (-1267), [18]), (1288, .iconst 1, []), (1289, .ireturn, [1])]
def h_236 : List (Nat × Nat) := [(18, 4)]
def j_code (m : Nat) : List (Nat × Instr × List Nat) := [k_0, k_1, k_2, k_3, k_4, k_5, k_6, k_7, k_8, k_9, k_10, k_11, k_12, k_13, k_14, k_15, k_16, k_17, k_18, k_19, k_20, k_21, k_22, k_23, k_24, k_25, k_26, k_27, k_28, k_29, k_30, k_31, k_32, k_33, k_34, k_35, k_36, k_37, k_38, k_39, k_40, k_41, k_42, k_43, k_44, k_45, k_46, k_47, k_48, k_49, k_50, k_51, k_52, k_53, k_54, k_55, k_56, k_57, k_58, k_59, k_60, k_61, k_62, k_63, k_64, k_65, k_66, k_67, k_68, k_69, k_70, k_71, k_72, k_73, k_74, k_75, k_76, k_77, k_78, k_79, k_80, k_81, k_82, k_83, k_84, k_85, k_86, k_87, k_88, k_89, k_90, k_91, k_92, k_93, k_94, k_95, k_96, k_97, k_98, k_99, k_100, k_101, k_102, k_103, k_104, k_105, k_106, k_107, k_108, k_109, k_110, k_111, k_112, k_113, k_114, k_115, k_116, k_117, k_118, k_119, k_120, k_121, k_122, k_123, k_124, k_125, k_126, k_127, k_128, k_129, k_130, k_131, k_132, k_133, k_134, k_135, k_136, k_137, k_138, k_139, k_140, k_141, k_142, k_143, k_144, k_145, k_146, k_147, k_148, k_149, k_150, k_151, k_152, k_153, k_154, k_155, k_156, k_157, k_158, k_159, k_160, k_161, k_162, k_163, k_164, k_165, k_166, k_167, k_168, k_169, k_170, k_171, k_172, k_173, k_174, k_175, k_176, k_177, k_178, k_179, k_180, k_181, k_182, k_183, k_184, k_185, k_186, k_187, k_188, k_189, k_190, k_191, k_192, k_193, k_194, k_195, k_196, k_197, k_198, k_199, k_200, k_201, k_202, k_203, k_204, k_205, k_206, k_207, k_208, k_209, k_210, k_211, k_212, k_213, k_214, k_215, k_216, k_217, k_218, k_219, k_220, k_221, k_222, k_223, k_224, k_225, k_226, k_227, k_228, k_229, k_230, k_231, k_232, k_233, k_234, k_235, k_236].getD m []
def j_head (m : Nat) : List (Nat × Nat) := [h_0, h_1, h_2, h_3, h_4, h_5, h_6, h_7, h_8, h_9, h_10, h_11, h_12, h_13, h_14, h_15, h_16, h_17, h_18, h_19, h_20, h_21, h_22, h_23, h_24, h_25, h_26, h_27, h_28, h_29, h_30, h_31, h_32, h_33, h_34, h_35, h_36, h_37, h_38, h_39, h_40, h_41, h_42, h_43, h_44, h_45, h_46, h_47, h_48, h_49, h_50, h_51, h_52, h_53, h_54, h_55, h_56, h_57, h_58, h_59, h_60, h_61, h_62, h_63, h_64, h_65, h_66, h_67, h_68, h_69, h_70, h_71, h_72, h_73, h_74, h_75, h_76, h_77, h_78, h_79, h_80, h_81, h_82, h_83, h_84, h_85, h_86, h_87, h_88, h_89, h_90, h_91, h_92, h_93, h_94, h_95, h_96, h_97, h_98, h_99, h_100, h_101, h_102, h_103, h_104, h_105, h_106, h_107, h_108, h_109, h_110, h_111, h_112, h_113, h_114, h_115, h_116, h_117, h_118, h_119, h_120, h_121, h_122, h_123, h_124, h_125, h_126, h_127, h_128, h_129, h_130, h_131, h_132, h_133, h_134, h_135, h_136, h_137, h_138, h_139, h_140, h_141, h_142, h_143, h_144, h_145, h_146, h_147, h_148, h_149, h_150, h_151, h_152, h_153, h_154, h_155, h_156, h_157, h_158, h_159, h_160, h_161, h_162, h_163, h_164, h_165, h_166, h_167, h_168, h_169, h_170, h_171, h_172, h_173, h_174, h_175, h_176, h_177, h_178, h_179, h_180, h_181, h_182, h_183, h_184, h_185, h_186, h_187, h_188, h_189, h_190, h_191, h_192, h_193, h_194, h_195, h_196, h_197, h_198, h_199, h_200, h_201, h_202, h_203, h_204, h_205, h_206, h_207, h_208, h_209, h_210, h_211, h_212, h_213, h_214, h_215, h_216, h_217, h_218, h_219, h_220, h_221, h_222, h_223, h_224, h_225, h_226, h_227, h_228, h_229, h_230, h_231, h_232, h_233, h_234, h_235, h_236].getD m []
def j_NF : Nat := 1000000
/-- the little machine: method m called with its values, calls nested d deep at most -/
def j_run : Nat → Nat → List Value → Sto → Option Rr
  | 0, _, _, _ => none
  | d + 1, m, as, σ => if (j_ent0 as).length ≤ j_mL.getD m 0 then j_exec (j_code m) (j_head m) (j_run d) j_NF 0 (j_ent (j_mL.getD m 0) as) [] σ else none
end
section
/-! ===== THE MACHINE FOLLOWS THE LITTLE MACHINE, part 1: pictures of stores in the heap ===== -/
def j_T : Nat → u_T := fun k => match k with
  | 0 => TX0 | 1 => TX1 | 2 => TX2 | 3 => TX3 | 4 => TX4 | 5 => TX5 | 6 => TX6 | _ => TX7
def j_ty : Nat → Nat → FieldType := fun k => match k with
  | 0 => tyX0 | 1 => tyX1 | 2 => tyX2 | 3 => tyX3 | 4 => tyX4 | 5 => tyX5 | 6 => tyX6 | _ => tyX7
def j_nf : Nat → Nat := fun k => match k with
  | 0 => 10 | 1 => 6 | 2 => 5 | 3 => 9 | 4 => 2 | 5 => 4 | 6 => 16 | _ => 39
theorem m_c8 {P : Nat → Prop} (h0 : P 0) (h1 : P 1) (h2 : P 2) (h3 : P 3) (h4 : P 4) (h5 : P 5) (h6 : P 6) (h7 : P 7) {k : Nat} (hk : k < 8) : P k := by
  rcases k with _ | _ | _ | _ | _ | _ | _ | _ | k
  · exact h0
  · exact h1
  · exact h2
  · exact h3
  · exact h4
  · exact h5
  · exact h6
  · exact h7
  · omega
theorem j_cls_get {k : Nat} (hk : k < 8) : j_cls[k]? = some (j_CN k, j_T k, j_nf k) := m_c8 (P := fun k => j_cls[k]? = some (j_CN k, j_T k, j_nf k)) rfl rfl rfl rfl rfl rfl rfl rfl hk
theorem j_ty_ok {c : Nat} (hc : c < 8) : ∀ k, k < j_nf c → parseFieldDescriptor (j_T c k).2.2.1 = some (j_ty c k) := m_c8 (P := fun c => ∀ k, k < j_nf c → parseFieldDescriptor (j_T c k).2.2.1 = some (j_ty c k)) tyX0_ok tyX1_ok tyX2_ok tyX3_ok tyX4_ok tyX5_ok tyX6_ok tyX7_ok hc
theorem j_nm {c : Nat} (hc : c < 8) : ∀ a, a < j_nf c → ∀ b, b < j_nf c → a ≠ b → (j_T c a).2.1 ≠ (j_T c b).2.1 := m_c8 (P := fun c => ∀ a, a < j_nf c → ∀ b, b < j_nf c → a ≠ b → (j_T c a).2.1 ≠ (j_T c b).2.1) nmX0 nmX1 nmX2 nmX3 nmX4 nmX5 nmX6 nmX7 hc
/-- addresses, values -/
def m_ad (ρ τ : Nat → Nat) (r : Nat) : Nat := if r < j_b then ρ r else τ (r - j_b)
theorem m_ad_lt {ρ τ : Nat → Nat} {r : Nat} (h : r < j_b) : m_ad ρ τ r = ρ r := if_pos h
theorem m_ad_ro {ρ τ : Nat → Nat} {k : Nat} : m_ad ρ τ (j_b + k) = τ k := by
  unfold m_ad
  rw [if_neg (by omega), Nat.add_sub_cancel_left]
def m_v (ρ τ : Nat → Nat) : Value → Value
  | .ref r => .ref (m_ad ρ τ r)
  | v => v
theorem m_v_cat (ρ τ : Nat → Nat) (v : Value) : (m_v ρ τ v).category = v.category := by cases v <;> rfl
def m_rf (ρ τ : Nat → Nat) (o : Option Nat) : Option Nat := o.map (m_ad ρ τ)
/-- what a field of a type holds -/
def m_f (ρ τ : Nat → Nat) (σ : Sto) (r k : Nat) (ty : FieldType) : Value := match ty with
  | .long => .long (σ.2.2.2.1 r k)
  | .object _ => va_rf (m_rf ρ τ (σ.2.1 r k))
  | .array _ => va_rf (m_rf ρ τ (σ.2.1 r k))
  | _ => .int (σ.2.2.1 r k)
def m_fs (ρ τ : Nat → Nat) (σ : Sto) (r c : Nat) : List Value := (List.range (j_nf c)).map fun k => m_f ρ τ σ r k (j_ty c k)
def m_ar (ρ τ : Nat → Nat) (σ : Sto) (r : Nat) (ty : FieldType) : (Nat → Int32) ⊕ (Nat → Int64) ⊕ (Nat → UInt32) ⊕ (Nat → UInt64) ⊕ (Nat → Option Nat) := match ty with
  | .long => .inr (.inl (σ.2.2.2.1 r))
  | .object _ => .inr (.inr (.inr (.inr fun k => m_rf ρ τ (σ.2.1 r k))))
  | .array _ => .inr (.inr (.inr (.inr fun k => m_rf ρ τ (σ.2.1 r k))))
  | _ => .inl (σ.2.2.1 r)
def m_E (cA : FieldType → ClassId) (ρ τ : Nat → Nat) (σ : Sto) (r : Nat) : va_E := match σ.1 r with
  | some (.inl c) => .inr (c, m_fs ρ τ σ r c)
  | some (.inr (ty, n)) => .inl (cA ty, n, m_ar ρ τ σ r ty)
  | none => .inl (0, 0, .inl fun _ => 0)
def m_ws (cA : FieldType → ClassId) (ρ τ : Nat → Nat) (σ : Sto) : va_W := (List.range (s_n σ)).map fun r => (ρ r, m_E cA ρ τ σ r)
theorem m_E_obj {cA : FieldType → ClassId} {ρ τ : Nat → Nat} {σ : Sto} {r c : Nat} (h : σ.1 r = some (.inl c)) : m_E cA ρ τ σ r = .inr (c, m_fs ρ τ σ r c) := by
  unfold m_E
  rw [h]
theorem m_E_arr {cA : FieldType → ClassId} {ρ τ : Nat → Nat} {σ : Sto} {r n : Nat} {ty : FieldType} (h : σ.1 r = some (.inr (ty, n))) : m_E cA ρ τ σ r = .inl (cA ty, n, m_ar ρ τ σ r ty) := by
  unfold m_E
  rw [h]
theorem m_E_ext {cA : FieldType → ClassId} {ρ ρ' τ : Nat → Nat} {σ σ' : Sto} {r : Nat} (h1 : σ'.1 r = σ.1 r) (h2 : ∀ k, m_rf ρ' τ (σ'.2.1 r k) = m_rf ρ τ (σ.2.1 r k)) (h3 : σ'.2.2.1 r = σ.2.2.1 r) (h4 : σ'.2.2.2.1 r = σ.2.2.2.1 r) : m_E cA ρ' τ σ' r = m_E cA ρ τ σ r := by
  have hf : ∀ k ty, m_f ρ' τ σ' r k ty = m_f ρ τ σ r k ty := fun k ty => by
    cases ty <;> simp only [m_f, h2, h3, h4]
  have ha : ∀ ty, m_ar ρ' τ σ' r ty = m_ar ρ τ σ r ty := fun ty => by
    cases ty <;> simp only [m_ar, h2, h3, h4]
  unfold m_E
  rw [h1]
  cases σ.1 r with
  | none => rfl
  | some x =>
    cases x with
    | inl c =>
      show Sum.inr (c, m_fs ρ' τ σ' r c) = Sum.inr (c, m_fs ρ τ σ r c)
      unfold m_fs
      simp only [hf]
    | inr q =>
      show Sum.inl (cA q.1, q.2, m_ar ρ' τ σ' r q.1) = Sum.inl (cA q.1, q.2, m_ar ρ τ σ r q.1)
      rw [ha]
theorem m_ws_get {cA : FieldType → ClassId} {ρ τ : Nat → Nat} {σ : Sto} {r : Nat} (h : r < s_n σ) : (m_ws cA ρ τ σ)[r]? = some (ρ r, m_E cA ρ τ σ r) := by
  unfold m_ws
  rw [List.getElem?_map, List.getElem?_range h]
  rfl
theorem m_ws_len {cA : FieldType → ClassId} {ρ τ : Nat → Nat} {σ : Sto} : (m_ws cA ρ τ σ).length = s_n σ := by
  unfold m_ws
  rw [List.length_map, List.length_range]
theorem m_ws_some {cA : FieldType → ClassId} {ρ τ : Nat → Nat} {σ : Sto} {k : Nat} {q : Nat × va_E} (h : (m_ws cA ρ τ σ)[k]? = some q) : k < s_n σ ∧ q = (ρ k, m_E cA ρ τ σ k) := by
  have hk : k < s_n σ := by
    have := (List.getElem?_eq_some_iff.mp h).1
    rwa [m_ws_len] at this
  rw [m_ws_get hk] at h
  exact ⟨hk, (Option.some.inj h).symm⟩
theorem m_ws_set {cA : FieldType → ClassId} {ρ τ : Nat → Nat} {σ σ' : Sto} {r : Nat} {e : va_E} (hn : s_n σ' = s_n σ) (ho : ∀ q, q ≠ r → m_E cA ρ τ σ' q = m_E cA ρ τ σ q) (he : e = m_E cA ρ τ σ' r) : (m_ws cA ρ τ σ).set r (ρ r, e) = m_ws cA ρ τ σ' := by
  apply List.ext_getElem?
  intro i
  rw [List.getElem?_set]
  by_cases hi : i < s_n σ
  · rw [m_ws_get (show i < s_n σ' by rw [hn]; exact hi)]
    by_cases h : r = i
    · subst h
      rw [if_pos rfl, if_pos (by rw [m_ws_len]; exact hi), he]
    · rw [if_neg h, m_ws_get hi, ho i (fun z => h z.symm)]
  · have h1 : (m_ws cA ρ τ σ)[i]? = none := List.getElem?_eq_none (by rw [m_ws_len]; omega)
    have h2 : (m_ws cA ρ τ σ')[i]? = none := List.getElem?_eq_none (by rw [m_ws_len, hn]; omega)
    rw [h1, h2]
    by_cases h : r = i
    · rw [if_pos h, if_neg (by rw [m_ws_len]; omega)]
    · rw [if_neg h]
theorem u1_same {α : Type} (f : Nat → α) (k : Nat) (v : α) : u1 f k v k = v := if_pos rfl
theorem u1_ne {α : Type} {f : Nat → α} {k j : Nat} {v : α} (h : j ≠ k) : u1 f k v j = f j := if_neg h
theorem u2_row {α : Type} {f : Nat → Nat → α} {r k q : Nat} {v : α} (h : q ≠ r) : u2 f r k v q = f q := if_neg h
theorem u2_self {α : Type} (f : Nat → Nat → α) (r k : Nat) (v : α) : u2 f r k v r = u1 (f r) k v := if_pos rfl
/-- which references may stand anywhere -/
def m_ok (n : Nat) : Value → Prop
  | .ref r => r < n ∨ j_b ≤ r
  | _ => True
theorem m_ok_le {n n' : Nat} (h : n ≤ n') {v : Value} (hv : m_ok n v) : m_ok n' v := by
  cases v <;> first | trivial | exact hv.elim (fun z => Or.inl (Nat.lt_of_lt_of_le z h)) Or.inr
theorem m_v_ext {ρ ρ' τ : Nat → Nat} {n : Nat} (h : ∀ r, r < n → ρ' r = ρ r) (hb : n ≤ j_b) {v : Value} (hv : m_ok n v) : m_v ρ' τ v = m_v ρ τ v := by
  cases v with
  | ref r =>
    show Value.ref (m_ad ρ' τ r) = Value.ref (m_ad ρ τ r)
    unfold m_ad
    by_cases hr : r < j_b
    · rw [if_pos hr, if_pos hr, h r (hv.elim id fun z => absurd hr (Nat.not_lt.mpr z))]
    · rw [if_neg hr, if_neg hr]
  | _ => rfl
/-- what is true of a store by itself -/
def m_Wf (rn : Nat → Nat) (rx : Nat → Nat → Int32) (σ : Sto) : Prop :=
  (∀ r, σ.1 r ≠ none → r < s_n σ ∨ ∃ k, k < 5 ∧ r = j_b + k) ∧ s_n σ ≤ j_b ∧ (∀ k, k < 5 → σ.1 (j_b + k) = some (.inr (.int, rn k)) ∧ σ.2.2.1 (j_b + k) = rx k) ∧ (∀ r k q, r < s_n σ → σ.2.1 r k = some q → q < s_n σ ∨ j_b ≤ q)
/-- the tables and the script, which stand before the call and stay -/
def j_sC : Nat → String := fun k => match k with
  | 0 => RX2 | 1 => RX2 | _ => RX1
def j_sN : Nat → String := fun k => match k with
  | 0 => "SIGNS" | 1 => "LETTERS" | 2 => "ACROSS" | _ => "DOWN"
/-- words of the tables that hold of a state, not of its first tables alone -/
def j_isN : Jvm.Cond → Bool
  | .methodLinkNest .. => true
  | .arrayOver .. => true
  | _ => false
def m_X (U : State) : Prop := ∀ w ∈ lw_tbl, j_isN w = true → w.before #[] U = true
theorem m_aoF {vm vm' : Vm} (h : vm.Alike vm') (f : Class → Bool) (hf : ∀ k : Class, f k.bare = f k) : vm'.classes.findIdx? f = vm.classes.findIdx? f := by
  have e : ∀ v : Vm, v.bare.classes.findIdx? f = v.classes.findIdx? f := fun v => by
    simp only [Vm.bare, Array.findIdx?_map]
    congr 1; funext k; exact hf k
  rw [← e vm', ← e vm, h.bare_eq]
theorem m_ao {ty : FieldType} {u U : State} (h : u.vm.Alike U.vm) (h1 : (Jvm.Cond.arrayOver ty).before #[] u = true) : (Jvm.Cond.arrayOver ty).before #[] U = true := by
  rw [← h1]
  simp only [Jvm.Cond.before, Jvm.Cond.holds, Jvm.Cond.value, h.findClass]
  congr 1
  congr 1
  funext comp
  rw [m_aoF h _ (fun k => rfl)]
  congr 1
  funext c
  exact h.class_map _ (fun k r _ _ => rfl) c
theorem m_X.same {u U : State} (h : u.vm = U.vm) (hX : m_X u) : m_X U := fun w hw hn => by
  have h1 := hX w hw hn
  cases w <;> first | exact va_tabs rfl h h1 | exact m_ao (by rw [h]; exact Vm.Alike.refl _) h1 | cases hn
theorem m_X.warm {u U : State} (hW : u.WarmedH U.vm) (hX : m_X u) : m_X U := fun w hw hn => by
  have h1 := hX w hw hn
  cases w <;> first | exact va_Nw.warmM hW h1 | exact m_ao hW.alike h1 | cases hn
def m_G (τ rn : Nat → Nat) (rx : Nat → Nat → Int32) (A : Nat → Prop) (U : State) (H : Heap) : Prop :=
  (m_X U ∧ ∀ k, k < 4 → va_Z (j_sC k) (j_sN k) "[I" (.ref (τ k)) A U H) ∧ ∀ k, k < 5 → va_T .int (τ k) (rn k) (fun j => .int (rx k j)) A U H
theorem m_G.warm {τ rn : Nat → Nat} {rx : Nat → Nat → Int32} {A : Nat → Prop} {u U : State} {H : Heap} (hW : u.WarmedH U.vm) (h : m_G τ rn rx A u H) : m_G τ rn rx A U H := ⟨⟨h.1.1.warm hW, fun k hk => va_Z.moved hW.alike (h.1.2 k hk)⟩, fun k hk => va_T.moved hW.alike (h.2 k hk)⟩
theorem m_G.same {τ rn : Nat → Nat} {rx : Nat → Nat → Int32} {A : Nat → Prop} {u U : State} {H : Heap} (hv : u.vm = U.vm) (h : m_G τ rn rx A u H) : m_G τ rn rx A U H := by
  have ha : u.vm.Alike U.vm := by rw [hv]; exact Vm.Alike.refl _
  exact ⟨⟨h.1.1.same hv, fun k hk => va_Z.moved ha (h.1.2 k hk)⟩, fun k hk => va_T.moved ha (h.2 k hk)⟩
theorem m_G.kept {τ rn : Nat → Nat} {rx : Nat → Nat → Int32} {A B : Nat → Prop} {U : State} {H H1 : Heap} (h : m_G τ rn rx A U H) (hq : ∀ a : Nat, a < H.size → ¬ A a → H1[a]? = H[a]?) (hAB : ∀ q, B q → A q) : m_G τ rn rx B U H1 := ⟨⟨h.1.1, fun k hk => ((h.1.2 k hk).kept hq).narrow hAB⟩, fun k hk => ((h.2 k hk).kept hq).narrow hAB⟩
def m_TYL : List FieldType := [.int, .byte, .boolean, .long, .object RX0, .array .int]
def m_tys (cA : FieldType → ClassId) : List (ClassId × FieldType) := m_TYL.map fun ty => (cA ty, ty)
/-- the store σ, seen in the heap H -/
def m_Inv (dC : Nat → ClassId) (dI : Nat → Nat → Nat) (cA : FieldType → ClassId) (τ rn : Nat → Nat) (rx : Nat → Nat → Int32) (A : Nat → Prop) (s : State) (ρ : Nat → Nat) (σ : Sto) (H : Heap) (locs : List Loc) : Prop :=
  va_P (dC, dI) j_cls (m_ws cA ρ τ σ) H ∧ va_D A (m_ws cA ρ τ σ) ∧ va_S A s.heap H locs ∧ m_Wf rn rx σ
def m_LR (ρ τ : Nat → Nat) (nL n : Nat) (ls : Array Slot) (L : j_L) : Prop :=
  L.length = nL ∧ (∃ lv : List (Nat × Value), lv_has ls nL lv ∧ ∀ (k : Nat) (v : Value), L[k]? = some (some v) → (k, m_v ρ τ v) ∈ lv) ∧ ∀ v, some v ∈ L → m_ok n v
theorem m_LR_at {ρ τ : Nat → Nat} {nL n : Nat} {ls : Array Slot} {L : j_L} (h : m_LR ρ τ nL n ls L) {k : Nat} {v : Value} (hk : L[k]? = some (some v)) : ls[k]? = some (.val (m_v ρ τ v)) := by
  obtain ⟨-, ⟨lv, h1, h2⟩, -⟩ := h
  exact h1.2.2 _ (h2 k v hk)
theorem m_LR_ok {ρ τ : Nat → Nat} {nL n : Nat} {ls : Array Slot} {L : j_L} (h : m_LR ρ τ nL n ls L) {k : Nat} {v : Value} (hk : L[k]? = some (some v)) : m_ok n v := h.2.2 v (List.mem_of_getElem? hk)
theorem m_LR_sz {ρ τ : Nat → Nat} {nL n : Nat} {ls : Array Slot} {L : j_L} (h : m_LR ρ τ nL n ls L) : ls.size = nL := by
  obtain ⟨-, ⟨lv, h1, -⟩, -⟩ := h
  exact h1.1
theorem m_kill_len (L : j_L) (k : Nat) : (j_kill L k).length = L.length := by
  unfold j_kill
  cases k with
  | zero => rfl
  | succ q =>
    dsimp only
    split
    · split
      · simp
      · rfl
    · rfl
theorem m_kill_get {L : j_L} {k j : Nat} {w : Value} (h : (j_kill L k)[j]? = some (some w)) : L[j]? = some (some w) ∧ ¬ (j + 1 = k ∧ w.category = 2) := by
  unfold j_kill at h
  cases k with
  | zero => exact ⟨h, fun z => by omega⟩
  | succ q =>
    dsimp only at h
    split at h
    next v hv =>
      split at h
      next hc =>
        rw [List.getElem?_set] at h
        by_cases e : q = j
        · rw [if_pos e] at h
          split at h <;> cases h
        · rw [if_neg e] at h
          exact ⟨h, fun z => e (by omega)⟩
      next hc =>
        refine ⟨h, fun z => ?_⟩
        have e : q = j := by omega
        subst e
        rw [hv] at h
        cases h
        exact hc z.2
    next hv =>
      refine ⟨h, fun z => ?_⟩
      have e : q = j := by omega
      subst e
      exact hv w h
theorem m_LR_st1 {ρ τ : Nat → Nat} {nL n : Nat} {ls' : Array Slot} {L : j_L} {i : Nat} {v : Value} {lv : List (Nat × Value)} (hlen : L.length = nL) (h2 : ∀ (k : Nat) (v : Value), L[k]? = some (some v) → (k, m_v ρ τ v) ∈ lv) (h3 : ∀ v, some v ∈ L → m_ok n v) (hv : m_ok n v)
    (h : lv_has ls' nL ((i, m_v ρ τ v) :: lv.filter (fun q => !(q.1 == i) && !(q.1 + 1 == i && q.2.category == 2)))) : m_LR ρ τ nL n ls' (j_st1 L i v) := by
  have key : ∀ (k : Nat) (w : Value), (j_st1 L i v)[k]? = some (some w) → (k = i ∧ w = v) ∨ (k ≠ i ∧ L[k]? = some (some w) ∧ ¬ (k + 1 = i ∧ w.category = 2)) := by
    intro k w hk
    unfold j_st1 at hk
    rw [List.getElem?_set] at hk
    by_cases e : i = k
    · rw [if_pos e] at hk
      split at hk
      · cases hk
        exact Or.inl ⟨e.symm, rfl⟩
      · cases hk
    · rw [if_neg e] at hk
      obtain ⟨a, b⟩ := m_kill_get hk
      exact Or.inr ⟨fun z => e z.symm, a, b⟩
  refine ⟨by unfold j_st1; rw [List.length_set, m_kill_len, hlen], ⟨_, h, fun k w hk => ?_⟩, fun w hw => ?_⟩
  · rcases key k w hk with ⟨rfl, rfl⟩ | ⟨e, a, b⟩
    · exact List.mem_cons_self
    · refine List.mem_cons_of_mem _ (List.mem_filter.mpr ⟨h2 k w a, ?_⟩)
      rw [m_v_cat]
      by_cases e1 : k + 1 = i
      · have : ¬ w.category = 2 := fun z => b ⟨e1, z⟩
        simp [e, this]
      · simp [e, e1]
  · obtain ⟨k, hk⟩ := List.getElem?_of_mem hw
    rcases key k w hk with ⟨-, rfl⟩ | ⟨-, a, -⟩
    · exact hv
    · exact h3 w (List.mem_of_getElem? a)
theorem m_LR_st2 {ρ τ : Nat → Nat} {nL n : Nat} {ls' : Array Slot} {L : j_L} {i : Nat} {v : Value} {lv : List (Nat × Value)} (hlen : L.length = nL) (h2 : ∀ (k : Nat) (v : Value), L[k]? = some (some v) → (k, m_v ρ τ v) ∈ lv) (h3 : ∀ v, some v ∈ L → m_ok n v) (hv : m_ok n v)
    (h : lv_has ls' nL ((i, m_v ρ τ v) :: lv.filter (fun q => !(q.1 == i) && (!(q.1 == i + 1) && !(q.1 + 1 == i && q.2.category == 2))))) : m_LR ρ τ nL n ls' (j_st2 L i v) := by
  have key : ∀ (k : Nat) (w : Value), (j_st2 L i v)[k]? = some (some w) → (k = i ∧ w = v) ∨ (k ≠ i ∧ k ≠ i + 1 ∧ L[k]? = some (some w) ∧ ¬ (k + 1 = i ∧ w.category = 2)) := by
    intro k w hk
    unfold j_st2 at hk
    rw [List.getElem?_set] at hk
    by_cases e2 : i + 1 = k
    · rw [if_pos e2] at hk
      split at hk <;> cases hk
    · rw [if_neg e2, List.getElem?_set] at hk
      by_cases e : i = k
      · rw [if_pos e] at hk
        split at hk
        · cases hk
          exact Or.inl ⟨e.symm, rfl⟩
        · cases hk
      · rw [if_neg e] at hk
        obtain ⟨a, b⟩ := m_kill_get hk
        exact Or.inr ⟨fun z => e z.symm, fun z => e2 z.symm, a, b⟩
  refine ⟨by unfold j_st2; rw [List.length_set, List.length_set, m_kill_len, hlen], ⟨_, h, fun k w hk => ?_⟩, fun w hw => ?_⟩
  · rcases key k w hk with ⟨rfl, rfl⟩ | ⟨e, e2, a, b⟩
    · exact List.mem_cons_self
    · refine List.mem_cons_of_mem _ (List.mem_filter.mpr ⟨h2 k w a, ?_⟩)
      rw [m_v_cat]
      by_cases e1 : k + 1 = i
      · have : ¬ w.category = 2 := fun z => b ⟨e1, z⟩
        simp [e, e2, this]
      · simp [e, e2, e1]
  · obtain ⟨k, hk⟩ := List.getElem?_of_mem hw
    rcases key k w hk with ⟨-, rfl⟩ | ⟨-, -, a, -⟩
    · exact hv
    · exact h3 w (List.mem_of_getElem? a)
theorem m_cut_get {L : j_L} {w k : Nat} {v : Value} (h : (j_cut w L)[k]? = some (some v)) : L[k]? = some (some v) := by
  unfold j_cut at h
  by_cases hk : k < (L.take w).length
  · rw [List.getElem?_append_left hk, List.getElem?_take] at h
    split at h
    · exact h
    · cases h
  · rw [List.getElem?_append_right (by omega), List.getElem?_replicate] at h
    split at h <;> cases h
theorem m_LR_cut {ρ τ : Nat → Nat} {nL n : Nat} {ls : Array Slot} {L : j_L} (w : Nat) (h : m_LR ρ τ nL n ls L) : m_LR ρ τ nL n ls (j_cut w L) := by
  obtain ⟨h1, ⟨lv, h2, h3⟩, h4⟩ := h
  refine ⟨by unfold j_cut; simp; omega, ⟨lv, h2, fun k v hk => h3 k v (m_cut_get hk)⟩, fun v hv => ?_⟩
  obtain ⟨k, hk⟩ := List.getElem?_of_mem hv
  exact h4 v (List.mem_of_getElem? (m_cut_get hk))
theorem m_LR_ext {ρ ρ' τ : Nat → Nat} {nL n n' : Nat} {ls : Array Slot} {L : j_L} (h : m_LR ρ τ nL n ls L) (hn : n ≤ n') (hb : n ≤ j_b) (he : ∀ r, r < n → ρ' r = ρ r) : m_LR ρ' τ nL n' ls L := by
  obtain ⟨h1, ⟨lv, h2, h3⟩, h4⟩ := h
  refine ⟨h1, ⟨lv, h2, fun k v hk => ?_⟩, fun v hv => m_ok_le hn (h4 v hv)⟩
  rw [m_v_ext he hb (h4 v (List.mem_of_getElem? hk))]
  exact h3 k v hk
/-- the locals at the entry -/
theorem m_ent_len : ∀ as : List Value, (j_ent0 as).length = (lg_sl as).length
  | [] => rfl
  | v :: vs => by
    unfold j_ent0 lg_sl
    rw [List.flatMap_cons, List.length_append]
    have ih := m_ent_len vs
    unfold lg_sl at ih
    split
    · simp [ih]; omega
    · simp [ih]; omega
theorem m_ent_get (ρ τ : Nat → Nat) : ∀ (as : List Value) (i k : Nat) (v : Value), (j_ent0 as)[k]? = some (some v) → (i + k, m_v ρ τ v) ∈ lv_args i (as.map (m_v ρ τ)) ∧ v ∈ as
  | [], _, _, _, h => by simp [j_ent0] at h
  | a :: as, i, k, v, h => by
    rw [List.map_cons]
    unfold lv_args
    rw [m_v_cat]
    unfold j_ent0 at h
    by_cases hc : a.category = 2
    · rw [if_pos hc] at h ⊢
      match k, h with
      | 0, h => simp at h; subst h; exact ⟨List.mem_cons_self, List.mem_cons_self⟩
      | 1, h => simp at h
      | k + 2, h =>
        rw [List.getElem?_cons_succ, List.getElem?_cons_succ] at h
        obtain ⟨q1, q2⟩ := m_ent_get ρ τ as (i + 2) k v h
        exact ⟨List.mem_cons_of_mem _ (by rw [show i + (k + 2) = i + 2 + k by omega]; exact q1), List.mem_cons_of_mem _ q2⟩
    · rw [if_neg hc] at h ⊢
      match k, h with
      | 0, h => simp at h; subst h; exact ⟨List.mem_cons_self, List.mem_cons_self⟩
      | k + 1, h =>
        rw [List.getElem?_cons_succ] at h
        obtain ⟨q1, q2⟩ := m_ent_get ρ τ as (i + 1) k v h
        exact ⟨List.mem_cons_of_mem _ (by rw [show i + (k + 1) = i + 1 + k by omega]; exact q1), List.mem_cons_of_mem _ q2⟩
theorem m_sl_map (ρ τ : Nat → Nat) (as : List Value) : (lg_sl (as.map (m_v ρ τ))).length = (lg_sl as).length := by
  induction as with
  | nil => rfl
  | cons a as ih =>
    unfold lg_sl at ih ⊢
    rw [List.map_cons, List.flatMap_cons, List.flatMap_cons, List.length_append, List.length_append, ih, m_v_cat]
    split <;> rfl
theorem m_LR_ent {ρ τ : Nat → Nat} {nL n : Nat} {as : List Value} (hw : ∀ v ∈ as, m_ok n v) (hl : (j_ent0 as).length ≤ nL) : m_LR ρ τ nL n ((lg_sl (as.map (m_v ρ τ)) ++ List.replicate (nL - (lg_sl (as.map (m_v ρ τ))).length) Slot.unset).toArray) (j_ent nL as) := by
  have h := lv_entry (as.map (m_v ρ τ)) (n := nL) (by rw [m_sl_map, ← m_ent_len]; exact hl)
  have key : ∀ (k : Nat) (v : Value), (j_ent nL as)[k]? = some (some v) → (j_ent0 as)[k]? = some (some v) := by
    intro k v hk
    unfold j_ent at hk
    by_cases hl : k < (j_ent0 as).length
    · rwa [List.getElem?_append_left hl] at hk
    · rw [List.getElem?_append_right (by omega), List.getElem?_replicate] at hk
      split at hk <;> cases hk
  refine ⟨by unfold j_ent; simp; omega, ⟨_, h, fun k v hk => ?_⟩, fun v hv => ?_⟩
  · have := (m_ent_get ρ τ as 0 k v (key k v hk)).1
    rwa [Nat.zero_add] at this
  · obtain ⟨k, hk⟩ := List.getElem?_of_mem hv
    exact hw v (m_ent_get ρ τ as 0 k v (key k v hk)).2
/-- a place of an object written -/
theorem m_fs_get {ρ τ : Nat → Nat} {σ : Sto} {r c k : Nat} (hk : k < j_nf c) : (m_fs ρ τ σ r c)[k]? = some (m_f ρ τ σ r k (j_ty c k)) := by
  unfold m_fs
  rw [List.getElem?_map, List.getElem?_range hk]
  rfl
theorem m_fs_len {ρ τ : Nat → Nat} {σ : Sto} {r c : Nat} : (m_fs ρ τ σ r c).length = j_nf c := by
  unfold m_fs
  rw [List.length_map, List.length_range]
theorem m_fs_set {ρ τ : Nat → Nat} {σ σ' : Sto} {r c k : Nat} {v : Value} (hk : k < j_nf c) (hv : v = m_f ρ τ σ' r k (j_ty c k)) (ho : ∀ j, j ≠ k → m_f ρ τ σ' r j (j_ty c j) = m_f ρ τ σ r j (j_ty c j)) : (m_fs ρ τ σ r c).set k v = m_fs ρ τ σ' r c := by
  apply List.ext_getElem?
  intro i
  rw [List.getElem?_set]
  by_cases hi : i < j_nf c
  · have hR : (m_fs ρ τ σ' r c)[i]? = some (m_f ρ τ σ' r i (j_ty c i)) := m_fs_get hi
    rw [hR]
    by_cases e : k = i
    · subst e
      rw [if_pos rfl, if_pos (by rw [m_fs_len]; exact hi), hv]
    · rw [if_neg e, m_fs_get hi, ho i (fun z => e z.symm)]
  · have h1 : (m_fs ρ τ σ r c)[i]? = none := List.getElem?_eq_none (by rw [m_fs_len]; omega)
    have h2 : (m_fs ρ τ σ' r c)[i]? = none := List.getElem?_eq_none (by rw [m_fs_len]; omega)
    rw [h1, h2]
    by_cases e : k = i
    · rw [if_pos e, if_neg (by rw [m_fs_len]; omega)]
    · rw [if_neg e]
theorem m_Wf_uI {rn : Nat → Nat} {rx : Nat → Nat → Int32} {σ : Sto} {r k : Nat} {v : Int32} (hr : r < j_b) (h : m_Wf rn rx σ) : m_Wf rn rx (s_uI σ r k v) := ⟨h.1, h.2.1, fun q hq => ⟨(h.2.2.1 q hq).1, by show u2 _ r k v (j_b + q) = _; rw [u2_row (by omega)]; exact (h.2.2.1 q hq).2⟩, h.2.2.2⟩
theorem m_Wf_uJ {rn : Nat → Nat} {rx : Nat → Nat → Int32} {σ : Sto} {r k : Nat} {v : Int64} (h : m_Wf rn rx σ) : m_Wf rn rx (s_uJ σ r k v) := ⟨h.1, h.2.1, h.2.2.1, h.2.2.2⟩
theorem m_Wf_rI {rn : Nat → Nat} {rx : Nat → Nat → Int32} {σ : Sto} {r : Nat} {f : Nat → Int32} (hr : r < j_b) (h : m_Wf rn rx σ) : m_Wf rn rx (s_rI σ r f) := ⟨h.1, h.2.1, fun q hq => ⟨(h.2.2.1 q hq).1, by show u1 _ r f (j_b + q) = _; rw [u1_ne (by omega)]; exact (h.2.2.1 q hq).2⟩, h.2.2.2⟩
theorem m_Wf_uP {rn : Nat → Nat} {rx : Nat → Nat → Int32} {σ : Sto} {r k v : Nat} (hv : m_ok (s_n σ) (.ref v)) (h : m_Wf rn rx σ) : m_Wf rn rx (s_uP σ r k (some v)) := ⟨h.1, h.2.1, h.2.2.1, fun q j x hq hx => by
  by_cases e : q = r
  · subst e
    change u2 σ.2.1 q k (some v) q j = some x at hx
    rw [u2_self] at hx
    by_cases e2 : j = k
    · subst e2
      rw [u1_same] at hx
      cases hx
      exact hv
    · rw [u1_ne e2] at hx
      exact h.2.2.2 q j x hq hx
  · change u2 σ.2.1 r k (some v) q j = some x at hx
    rw [u2_row e] at hx
    exact h.2.2.2 q j x hq hx⟩
theorem m_inr {rn : Nat → Nat} {rx : Nat → Nat → Int32} {σ : Sto} (h : m_Wf rn rx σ) {r : Nat} {x : j_Sh} (hr : σ.1 r = some x) (hb : r < j_b) : r < s_n σ := (h.1 r (by rw [hr]; exact fun z => by cases z)).elim id (fun ⟨k, _, e⟩ => by omega)
theorem m_inr' {rn : Nat → Nat} {rx : Nat → Nat → Int32} {σ : Sto} (h : m_Wf rn rx σ) {r c : Nat} (hr : σ.1 r = some (.inl c)) : r < s_n σ := (h.1 r (by rw [hr]; exact fun z => by cases z)).elim id (fun ⟨k, hk, e⟩ => by
  subst e
  rw [(h.2.2.1 k hk).1] at hr
  cases hr)
theorem m_inr2 {rn : Nat → Nat} {rx : Nat → Nat → Int32} {σ : Sto} (h : m_Wf rn rx σ) {r : Nat} {x : j_Sh} (hr : σ.1 r = some x) : r < s_n σ ∨ ∃ k, k < 5 ∧ r = j_b + k := h.1 r (by rw [hr]; exact fun z => by cases z)
end
section
/-! ===== THE MACHINE FOLLOWS THE LITTLE MACHINE, part 2: instruction by instruction ===== -/
def j_ws : List Jvm.Cond := lw_tbl.filter goodWord
/-- what holds all through a method's body -/
def m_St (p : Program) (R : Room) (s : State) (m : MethodId) (args : Array Value) (c : Code) (dC : Nat → ClassId) (dI : Nat → Nat → Nat) (cA : FieldType → ClassId) (τ rn : Nat → Nat) (rx : Nat → Nat → Int32) (A : Nat → Prop) (nL own : Nat) (cc : ByteArray) : Prop :=
  p.tables.exec = Jvm.exec ∧ c.code = cc ∧ s.vm.findClass (j_CN own) = some m.cls ∧ (∀ w ∈ j_ws, w.before args s = true) ∧ va_K (dC, dI) j_cls (m_tys cA) s ∧ m_G τ rn rx A s s.heap ∧ (∀ q, s.heap.size ≤ q → A q) ∧ c.maxLocals = nL ∧ 1 ≤ R.frames ∧ 40 ≤ R.locals
/-- from here on, whatever the heap that shows σ -/
def m_at (p : Program) (l : Launch) (e : Env) (R : Room) (s : State) (m : MethodId) (args : Array Value) (below : List Frame) (meth : Method) (c : Code) (Q : State → Prop) (dC : Nat → ClassId) (dI : Nat → Nat → Nat) (cA : FieldType → ClassId) (τ rn : Nat → Nat) (rx : Nat → Nat → Int32) (A : Nat → Prop) (nL nb lb : Nat) (ρ0 : Nat → Nat) (pc : Nat) (L : j_L) (st : List Value) (σ : Sto) : Prop :=
  ∀ (ρ : Nat → Nat) (H : Heap) (locs : List Loc) (cells slots : Nat) (ls : Array Slot), m_Inv dC dI cA τ rn rx A s ρ σ H locs → (cells + nb = s_n σ ∧ ∀ r, r < nb → ρ r = ρ0 r) → slots + lb = s_l σ → m_LR ρ τ nL (s_n σ) ls L → (∀ v ∈ st, m_ok (s_n σ) v) → W p l e R s m args below meth c H locs cells slots Q (F0 m pc ls (st.map (m_v ρ τ)))
theorem m_wt {n : Nat} {a : Value} {st : List Value} (h : ∀ v ∈ a :: st, m_ok n v) : ∀ v ∈ st, m_ok n v := fun v hv => h v (List.mem_cons_of_mem _ hv)
theorem m_wi {n : Nat} {x : Int32} {st : List Value} (h : ∀ v ∈ st, m_ok n v) : ∀ v ∈ Value.int x :: st, m_ok n v := fun v hv => (List.mem_cons.mp hv).elim (fun e => e ▸ trivial) (h v)
theorem m_wj {n : Nat} {x : Int64} {st : List Value} (h : ∀ v ∈ st, m_ok n v) : ∀ v ∈ Value.long x :: st, m_ok n v := fun v hv => (List.mem_cons.mp hv).elim (fun e => e ▸ trivial) (h v)
theorem m_wr {n r : Nat} {st : List Value} (hr : m_ok n (.ref r)) (h : ∀ v ∈ st, m_ok n v) : ∀ v ∈ Value.ref r :: st, m_ok n v := fun v hv => (List.mem_cons.mp hv).elim (fun e => e ▸ hr) (h v)
theorem m_wh {n : Nat} {a : Value} {st : List Value} (h : ∀ v ∈ a :: st, m_ok n v) : m_ok n a := h a List.mem_cons_self
theorem m_vin {i : Int32} {n : Nat} (h : j_in i n) : vp_in i n := fun z => z.elim h.1 (fun z => absurd h.2 (Nat.not_lt.mpr z))
def j_P (c : ClassFile.Cond) (x y : Int32) : Prop := match c with
  | .eq => x = y
  | .ne => ¬ x = y
  | .lt => x < y
  | .ge => ¬ x < y
  | .gt => y < x
  | .le => ¬ y < x
section SIMOPS
variable {p : Program} {l : Launch} {e : Env} {R : Room} {s : State} {m : MethodId} {args : Array Value} {below : List Frame} {meth : Method} {c : Code} {Q : State → Prop} {dC : Nat → ClassId} {dI : Nat → Nat → Nat} {cA : FieldType → ClassId} {τ rn : Nat → Nat} {rx : Nat → Nat → Int32} {A : Nat → Prop} {nL nb lb own : Nat} {ρ0 : Nat → Nat} {cc : ByteArray} {pc : Nat} {L : j_L} {st : List Value} {σ : Sto}

theorem m_iconst (hS : m_St p R s m args c dC dI cA τ rn rx A nL own cc) {n : Int} (hdg : decode cc pc = .ok (.iconst n, 1)) (k : m_at p l e R s m args below meth c Q dC dI cA τ rn rx A nL nb lb ρ0 (pc + 1) (L) (.int (j_k n) :: st) (σ)) : m_at p l e R s m args below meth c Q dC dI cA τ rn rx A nL nb lb ρ0 (pc) (L) (st) (σ) := by
  intro ρ H locs cells slots ls hI hc hs hL hw
  exact lv_iconst hS.1 hS.2.1 hdg rfl (k ρ H locs cells slots ls hI hc hs hL (m_wi hw))
theorem m_bipush (hS : m_St p R s m args c dC dI cA τ rn rx A nL own cc) {n : Int} (hn : (Int8.ofInt n).toInt32 = j_k n) (hdg : decode cc pc = .ok (.bipush n, 2)) (k : m_at p l e R s m args below meth c Q dC dI cA τ rn rx A nL nb lb ρ0 (pc + 2) (L) (.int (j_k n) :: st) (σ)) : m_at p l e R s m args below meth c Q dC dI cA τ rn rx A nL nb lb ρ0 (pc) (L) (st) (σ) := by
  intro ρ H locs cells slots ls hI hc hs hL hw
  exact lv_bipush hS.1 hS.2.1 hdg hn (k ρ H locs cells slots ls hI hc hs hL (m_wi hw))
theorem m_sipush (hS : m_St p R s m args c dC dI cA τ rn rx A nL own cc) {n : Int} (hn : (Int16.ofInt n).toInt32 = j_k n) (hdg : decode cc pc = .ok (.sipush n, 3)) (k : m_at p l e R s m args below meth c Q dC dI cA τ rn rx A nL nb lb ρ0 (pc + 3) (L) (.int (j_k n) :: st) (σ)) : m_at p l e R s m args below meth c Q dC dI cA τ rn rx A nL nb lb ρ0 (pc) (L) (st) (σ) := by
  intro ρ H locs cells slots ls hI hc hs hL hw
  exact lv_sipush hS.1 hS.2.1 hdg hn (k ρ H locs cells slots ls hI hc hs hL (m_wi hw))
theorem m_lconst (hS : m_St p R s m args c dC dI cA τ rn rx A nL own cc) {n : Fin 2} (hdg : decode cc pc = .ok (.lconst n, 1)) (k : m_at p l e R s m args below meth c Q dC dI cA τ rn rx A nL nb lb ρ0 (pc + 1) (L) (.long (Int64.ofNat (n : Nat)) :: st) (σ)) : m_at p l e R s m args below meth c Q dC dI cA τ rn rx A nL nb lb ρ0 (pc) (L) (st) (σ) := by
  intro ρ H locs cells slots ls hI hc hs hL hw
  exact lv_lconst hS.1 hS.2.1 hdg rfl (k ρ H locs cells slots ls hI hc hs hL (m_wj hw))
theorem m_ldcw (hS : m_St p R s m args c dC dI cA τ rn rx A nL own cc) {idx q : Nat} (hq : Jvm.Cond.constant (j_CN own) idx (j_ci q) ∈ j_ws) (hdg : decode cc pc = .ok (.ldc_w idx, 3)) (k : m_at p l e R s m args below meth c Q dC dI cA τ rn rx A nL nb lb ρ0 (pc + 3) (L) (.int (j_ci q) :: st) (σ)) : m_at p l e R s m args below meth c Q dC dI cA τ rn rx A nL nb lb ρ0 (pc) (L) (st) (σ) := by
  intro ρ H locs cells slots ls hI hc hs hL hw
  exact lv_ldcw hS.1 hS.2.1 hS.2.2.1 (hS.2.2.2.1 _ hq) hdg (k ρ H locs cells slots ls hI hc hs hL (m_wi hw))
theorem m_ldc2 (hS : m_St p R s m args c dC dI cA τ rn rx A nL own cc) {idx q : Nat} (hq : Jvm.Cond.constantLong (j_CN own) idx (j_cJ q) ∈ j_ws) (hdg : decode cc pc = .ok (.ldc2_w idx, 3)) (k : m_at p l e R s m args below meth c Q dC dI cA τ rn rx A nL nb lb ρ0 (pc + 3) (L) (.long (j_cJ q) :: st) (σ)) : m_at p l e R s m args below meth c Q dC dI cA τ rn rx A nL nb lb ρ0 (pc) (L) (st) (σ) := by
  intro ρ H locs cells slots ls hI hc hs hL hw
  exact lv_ldc2 hS.1 hS.2.1 hS.2.2.1 (hS.2.2.2.1 _ hq) hdg (k ρ H locs cells slots ls hI hc hs hL (m_wj hw))
theorem m_iload (hS : m_St p R s m args c dC dI cA τ rn rx A nL own cc) {k : Nat} {x : Int32} (hx : L[k]? = some (some (.int x))) (hdg : decode cc pc = .ok (.iload k, 2)) (k : m_at p l e R s m args below meth c Q dC dI cA τ rn rx A nL nb lb ρ0 (pc + 2) (L) (.int x :: st) (σ)) : m_at p l e R s m args below meth c Q dC dI cA τ rn rx A nL nb lb ρ0 (pc) (L) (st) (σ) := by
  intro ρ H locs cells slots ls hI hc hs hL hw
  exact lv_iload hS.1 hS.2.1 hdg (m_LR_at hL hx) (k ρ H locs cells slots ls hI hc hs hL (m_wi hw))
theorem m_iload_n (hS : m_St p R s m args c dC dI cA τ rn rx A nL own cc) {k : Fin 4} {x : Int32} (hx : L[k.val]? = some (some (.int x))) (hdg : decode cc pc = .ok (.iload_n k, 1)) (k : m_at p l e R s m args below meth c Q dC dI cA τ rn rx A nL nb lb ρ0 (pc + 1) (L) (.int x :: st) (σ)) : m_at p l e R s m args below meth c Q dC dI cA τ rn rx A nL nb lb ρ0 (pc) (L) (st) (σ) := by
  intro ρ H locs cells slots ls hI hc hs hL hw
  exact lv_iload_n hS.1 hS.2.1 hdg rfl (m_LR_at hL hx) (k ρ H locs cells slots ls hI hc hs hL (m_wi hw))
theorem m_lload (hS : m_St p R s m args c dC dI cA τ rn rx A nL own cc) {k : Nat} {x : Int64} (hx : L[k]? = some (some (.long x))) (hdg : decode cc pc = .ok (.lload k, 2)) (k : m_at p l e R s m args below meth c Q dC dI cA τ rn rx A nL nb lb ρ0 (pc + 2) (L) (.long x :: st) (σ)) : m_at p l e R s m args below meth c Q dC dI cA τ rn rx A nL nb lb ρ0 (pc) (L) (st) (σ) := by
  intro ρ H locs cells slots ls hI hc hs hL hw
  exact lv_lload hS.1 hS.2.1 hdg (m_LR_at hL hx) (k ρ H locs cells slots ls hI hc hs hL (m_wj hw))
theorem m_lload_n (hS : m_St p R s m args c dC dI cA τ rn rx A nL own cc) {k : Fin 4} {x : Int64} (hx : L[k.val]? = some (some (.long x))) (hdg : decode cc pc = .ok (.lload_n k, 1)) (k : m_at p l e R s m args below meth c Q dC dI cA τ rn rx A nL nb lb ρ0 (pc + 1) (L) (.long x :: st) (σ)) : m_at p l e R s m args below meth c Q dC dI cA τ rn rx A nL nb lb ρ0 (pc) (L) (st) (σ) := by
  intro ρ H locs cells slots ls hI hc hs hL hw
  exact lv_lload_n hS.1 hS.2.1 hdg rfl (m_LR_at hL hx) (k ρ H locs cells slots ls hI hc hs hL (m_wj hw))
theorem m_aload (hS : m_St p R s m args c dC dI cA τ rn rx A nL own cc) {k x : Nat} (hx : L[k]? = some (some (.ref x))) (hdg : decode cc pc = .ok (.aload k, 2)) (k : m_at p l e R s m args below meth c Q dC dI cA τ rn rx A nL nb lb ρ0 (pc + 2) (L) (.ref x :: st) (σ)) : m_at p l e R s m args below meth c Q dC dI cA τ rn rx A nL nb lb ρ0 (pc) (L) (st) (σ) := by
  intro ρ H locs cells slots ls hI hc hs hL hw
  exact lv_aload hS.1 hS.2.1 hdg (m_LR_at hL hx) (k ρ H locs cells slots ls hI hc hs hL (m_wr (m_LR_ok hL hx) hw))
theorem m_aload_n (hS : m_St p R s m args c dC dI cA τ rn rx A nL own cc) {k : Fin 4} {x : Nat} (hx : L[k.val]? = some (some (.ref x))) (hdg : decode cc pc = .ok (.aload_n k, 1)) (k : m_at p l e R s m args below meth c Q dC dI cA τ rn rx A nL nb lb ρ0 (pc + 1) (L) (.ref x :: st) (σ)) : m_at p l e R s m args below meth c Q dC dI cA τ rn rx A nL nb lb ρ0 (pc) (L) (st) (σ) := by
  intro ρ H locs cells slots ls hI hc hs hL hw
  exact lv_aload_n hS.1 hS.2.1 hdg rfl (m_LR_at hL hx) (k ρ H locs cells slots ls hI hc hs hL (m_wr (m_LR_ok hL hx) hw))
theorem m_istore (hS : m_St p R s m args c dC dI cA τ rn rx A nL own cc) {k : Nat} {x : Int32} (hk : k < L.length) (hdg : decode cc pc = .ok (.istore k, 2)) (kk : m_at p l e R s m args below meth c Q dC dI cA τ rn rx A nL nb lb ρ0 (pc + 2) (j_st1 L k (.int x)) (st) (σ)) : m_at p l e R s m args below meth c Q dC dI cA τ rn rx A nL nb lb ρ0 (pc) (L) (.int x :: st) (σ) := by
  intro ρ H locs cells slots ls hI hc hs hL hw
  obtain ⟨h1, ⟨lv, h2, h3⟩, h4⟩ := hL
  exact lv_istore hS.1 hS.2.1 hdg h2 (by rw [← h1]; exact hk) rfl (fun ls' h' => kk ρ H locs cells slots ls' hI hc hs (m_LR_st1 (v := .int x) h1 h3 h4 trivial h') (m_wt hw))
theorem m_istore_n (hS : m_St p R s m args c dC dI cA τ rn rx A nL own cc) {k : Fin 4} {x : Int32} (hk : k.val < L.length) (hdg : decode cc pc = .ok (.istore_n k, 1)) (kk : m_at p l e R s m args below meth c Q dC dI cA τ rn rx A nL nb lb ρ0 (pc + 1) (j_st1 L k.val (.int x)) (st) (σ)) : m_at p l e R s m args below meth c Q dC dI cA τ rn rx A nL nb lb ρ0 (pc) (L) (.int x :: st) (σ) := by
  intro ρ H locs cells slots ls hI hc hs hL hw
  obtain ⟨h1, ⟨lv, h2, h3⟩, h4⟩ := hL
  exact lv_istore_n hS.1 hS.2.1 hdg rfl h2 (by rw [← h1]; exact hk) rfl (fun ls' h' => kk ρ H locs cells slots ls' hI hc hs (m_LR_st1 (v := .int x) h1 h3 h4 trivial h') (m_wt hw))
theorem m_lstore (hS : m_St p R s m args c dC dI cA τ rn rx A nL own cc) {k : Nat} {x : Int64} (hk : k + 1 < L.length) (hdg : decode cc pc = .ok (.lstore k, 2)) (kk : m_at p l e R s m args below meth c Q dC dI cA τ rn rx A nL nb lb ρ0 (pc + 2) (j_st2 L k (.long x)) (st) (σ)) : m_at p l e R s m args below meth c Q dC dI cA τ rn rx A nL nb lb ρ0 (pc) (L) (.long x :: st) (σ) := by
  intro ρ H locs cells slots ls hI hc hs hL hw
  obtain ⟨h1, ⟨lv, h2, h3⟩, h4⟩ := hL
  exact lv_lstore hS.1 hS.2.1 hdg h2 (by rw [← h1]; exact hk) rfl (fun ls' h' => kk ρ H locs cells slots ls' hI hc hs (m_LR_st2 (v := .long x) h1 h3 h4 trivial h') (m_wt hw))
theorem m_lstore_n (hS : m_St p R s m args c dC dI cA τ rn rx A nL own cc) {k : Fin 4} {x : Int64} (hk : k.val + 1 < L.length) (hdg : decode cc pc = .ok (.lstore_n k, 1)) (kk : m_at p l e R s m args below meth c Q dC dI cA τ rn rx A nL nb lb ρ0 (pc + 1) (j_st2 L k.val (.long x)) (st) (σ)) : m_at p l e R s m args below meth c Q dC dI cA τ rn rx A nL nb lb ρ0 (pc) (L) (.long x :: st) (σ) := by
  intro ρ H locs cells slots ls hI hc hs hL hw
  obtain ⟨h1, ⟨lv, h2, h3⟩, h4⟩ := hL
  exact lv_lstore_n hS.1 hS.2.1 hdg rfl h2 (by rw [← h1]; exact hk) rfl (fun ls' h' => kk ρ H locs cells slots ls' hI hc hs (m_LR_st2 (v := .long x) h1 h3 h4 trivial h') (m_wt hw))
theorem m_astore (hS : m_St p R s m args c dC dI cA τ rn rx A nL own cc) {k : Nat} {x : Nat} (hk : k < L.length) (hdg : decode cc pc = .ok (.astore k, 2)) (kk : m_at p l e R s m args below meth c Q dC dI cA τ rn rx A nL nb lb ρ0 (pc + 2) (j_st1 L k (.ref x)) (st) (σ)) : m_at p l e R s m args below meth c Q dC dI cA τ rn rx A nL nb lb ρ0 (pc) (L) (.ref x :: st) (σ) := by
  intro ρ H locs cells slots ls hI hc hs hL hw
  obtain ⟨h1, ⟨lv, h2, h3⟩, h4⟩ := hL
  exact lv_astore hS.1 hS.2.1 hdg h2 (by rw [← h1]; exact hk) rfl (fun ls' h' => kk ρ H locs cells slots ls' hI hc hs (m_LR_st1 (v := .ref x) h1 h3 h4 (m_wh hw) h') (m_wt hw))
theorem m_astore_n (hS : m_St p R s m args c dC dI cA τ rn rx A nL own cc) {k : Fin 4} {x : Nat} (hk : k.val < L.length) (hdg : decode cc pc = .ok (.astore_n k, 1)) (kk : m_at p l e R s m args below meth c Q dC dI cA τ rn rx A nL nb lb ρ0 (pc + 1) (j_st1 L k.val (.ref x)) (st) (σ)) : m_at p l e R s m args below meth c Q dC dI cA τ rn rx A nL nb lb ρ0 (pc) (L) (.ref x :: st) (σ) := by
  intro ρ H locs cells slots ls hI hc hs hL hw
  obtain ⟨h1, ⟨lv, h2, h3⟩, h4⟩ := hL
  exact lv_astore_n hS.1 hS.2.1 hdg rfl h2 (by rw [← h1]; exact hk) rfl (fun ls' h' => kk ρ H locs cells slots ls' hI hc hs (m_LR_st1 (v := .ref x) h1 h3 h4 (m_wh hw) h') (m_wt hw))
theorem m_iinc (hS : m_St p R s m args c dC dI cA τ rn rx A nL own cc) {k : Nat} {n : Int} {x : Int32} (hx : L[k]? = some (some (.int x))) (hdg : decode cc pc = .ok (.iinc k n, 3)) (kk : m_at p l e R s m args below meth c Q dC dI cA τ rn rx A nL nb lb ρ0 (pc + 3) (j_st1 L k (.int (x + j_k n))) (st) (σ)) : m_at p l e R s m args below meth c Q dC dI cA τ rn rx A nL nb lb ρ0 (pc) (L) (st) (σ) := by
  intro ρ H locs cells slots ls hI hc hs hL hw
  obtain ⟨h1, ⟨lv, h2, h3⟩, h4⟩ := hL
  obtain ⟨q, hq⟩ := List.getElem?_of_mem (h3 k _ hx)
  exact lv_iinc hS.1 hS.2.1 hdg h2 hq rfl (by rw [← h1]; exact (List.getElem?_eq_some_iff.mp hx).1) rfl (fun ls' h' => kk ρ H locs cells slots ls' hI hc hs (m_LR_st1 (v := .int (x + j_k n)) h1 h3 h4 trivial h') hw)
theorem m_iadd (hS : m_St p R s m args c dC dI cA τ rn rx A nL own cc) {x y : Int32} (hdg : decode cc pc = .ok (.iadd, 1)) (k : m_at p l e R s m args below meth c Q dC dI cA τ rn rx A nL nb lb ρ0 (pc + 1) (L) (.int (x + y) :: st) (σ)) : m_at p l e R s m args below meth c Q dC dI cA τ rn rx A nL nb lb ρ0 (pc) (L) (.int y :: .int x :: st) (σ) := by
  intro ρ H locs cells slots ls hI hc hs hL hw
  exact lv_iadd hS.1 hS.2.1 hdg (k ρ H locs cells slots ls hI hc hs hL (m_wi (m_wt (m_wt hw))))
theorem m_isub (hS : m_St p R s m args c dC dI cA τ rn rx A nL own cc) {x y : Int32} (hdg : decode cc pc = .ok (.isub, 1)) (k : m_at p l e R s m args below meth c Q dC dI cA τ rn rx A nL nb lb ρ0 (pc + 1) (L) (.int (x - y) :: st) (σ)) : m_at p l e R s m args below meth c Q dC dI cA τ rn rx A nL nb lb ρ0 (pc) (L) (.int y :: .int x :: st) (σ) := by
  intro ρ H locs cells slots ls hI hc hs hL hw
  exact lv_isub hS.1 hS.2.1 hdg (k ρ H locs cells slots ls hI hc hs hL (m_wi (m_wt (m_wt hw))))
theorem m_imul (hS : m_St p R s m args c dC dI cA τ rn rx A nL own cc) {x y : Int32} (hdg : decode cc pc = .ok (.imul, 1)) (k : m_at p l e R s m args below meth c Q dC dI cA τ rn rx A nL nb lb ρ0 (pc + 1) (L) (.int (x * y) :: st) (σ)) : m_at p l e R s m args below meth c Q dC dI cA τ rn rx A nL nb lb ρ0 (pc) (L) (.int y :: .int x :: st) (σ) := by
  intro ρ H locs cells slots ls hI hc hs hL hw
  exact lv_imul hS.1 hS.2.1 hdg (k ρ H locs cells slots ls hI hc hs hL (m_wi (m_wt (m_wt hw))))
theorem m_iand (hS : m_St p R s m args c dC dI cA τ rn rx A nL own cc) {x y : Int32} (hdg : decode cc pc = .ok (.iand, 1)) (k : m_at p l e R s m args below meth c Q dC dI cA τ rn rx A nL nb lb ρ0 (pc + 1) (L) (.int (x &&& y) :: st) (σ)) : m_at p l e R s m args below meth c Q dC dI cA τ rn rx A nL nb lb ρ0 (pc) (L) (.int y :: .int x :: st) (σ) := by
  intro ρ H locs cells slots ls hI hc hs hL hw
  exact lv_iand hS.1 hS.2.1 hdg (k ρ H locs cells slots ls hI hc hs hL (m_wi (m_wt (m_wt hw))))
theorem m_ior (hS : m_St p R s m args c dC dI cA τ rn rx A nL own cc) {x y : Int32} (hdg : decode cc pc = .ok (.ior, 1)) (k : m_at p l e R s m args below meth c Q dC dI cA τ rn rx A nL nb lb ρ0 (pc + 1) (L) (.int (x ||| y) :: st) (σ)) : m_at p l e R s m args below meth c Q dC dI cA τ rn rx A nL nb lb ρ0 (pc) (L) (.int y :: .int x :: st) (σ) := by
  intro ρ H locs cells slots ls hI hc hs hL hw
  exact lv_ior hS.1 hS.2.1 hdg (k ρ H locs cells slots ls hI hc hs hL (m_wi (m_wt (m_wt hw))))
theorem m_ixor (hS : m_St p R s m args c dC dI cA τ rn rx A nL own cc) {x y : Int32} (hdg : decode cc pc = .ok (.ixor, 1)) (k : m_at p l e R s m args below meth c Q dC dI cA τ rn rx A nL nb lb ρ0 (pc + 1) (L) (.int (x ^^^ y) :: st) (σ)) : m_at p l e R s m args below meth c Q dC dI cA τ rn rx A nL nb lb ρ0 (pc) (L) (.int y :: .int x :: st) (σ) := by
  intro ρ H locs cells slots ls hI hc hs hL hw
  exact lv_ixor hS.1 hS.2.1 hdg (k ρ H locs cells slots ls hI hc hs hL (m_wi (m_wt (m_wt hw))))
theorem m_ishl (hS : m_St p R s m args c dC dI cA τ rn rx A nL own cc) {x y : Int32} (hdg : decode cc pc = .ok (.ishl, 1)) (k : m_at p l e R s m args below meth c Q dC dI cA τ rn rx A nL nb lb ρ0 (pc + 1) (L) (.int (x <<< (y &&& 31)) :: st) (σ)) : m_at p l e R s m args below meth c Q dC dI cA τ rn rx A nL nb lb ρ0 (pc) (L) (.int y :: .int x :: st) (σ) := by
  intro ρ H locs cells slots ls hI hc hs hL hw
  exact lv_ishl hS.1 hS.2.1 hdg (k ρ H locs cells slots ls hI hc hs hL (m_wi (m_wt (m_wt hw))))
theorem m_ishr (hS : m_St p R s m args c dC dI cA τ rn rx A nL own cc) {x y : Int32} (hdg : decode cc pc = .ok (.ishr, 1)) (k : m_at p l e R s m args below meth c Q dC dI cA τ rn rx A nL nb lb ρ0 (pc + 1) (L) (.int (x >>> (y &&& 31)) :: st) (σ)) : m_at p l e R s m args below meth c Q dC dI cA τ rn rx A nL nb lb ρ0 (pc) (L) (.int y :: .int x :: st) (σ) := by
  intro ρ H locs cells slots ls hI hc hs hL hw
  exact lv_ishr hS.1 hS.2.1 hdg (k ρ H locs cells slots ls hI hc hs hL (m_wi (m_wt (m_wt hw))))
theorem m_iushr (hS : m_St p R s m args c dC dI cA τ rn rx A nL own cc) {x y : Int32} (hdg : decode cc pc = .ok (.iushr, 1)) (k : m_at p l e R s m args below meth c Q dC dI cA τ rn rx A nL nb lb ρ0 (pc + 1) (L) (.int (x.toUInt32 >>> (y.toUInt32 &&& Int32.toUInt32 31)).toInt32 :: st) (σ)) : m_at p l e R s m args below meth c Q dC dI cA τ rn rx A nL nb lb ρ0 (pc) (L) (.int y :: .int x :: st) (σ) := by
  intro ρ H locs cells slots ls hI hc hs hL hw
  exact lv_iushr hS.1 hS.2.1 hdg rfl (k ρ H locs cells slots ls hI hc hs hL (m_wi (m_wt (m_wt hw))))
theorem m_idiv (hS : m_St p R s m args c dC dI cA τ rn rx A nL own cc) {x y : Int32} (hy : ¬ y = 0) (hdg : decode cc pc = .ok (.idiv, 1)) (k : m_at p l e R s m args below meth c Q dC dI cA τ rn rx A nL nb lb ρ0 (pc + 1) (L) (.int (x / y) :: st) (σ)) : m_at p l e R s m args below meth c Q dC dI cA τ rn rx A nL nb lb ρ0 (pc) (L) (.int y :: .int x :: st) (σ) := by
  intro ρ H locs cells slots ls hI hc hs hL hw
  exact lv_idiv hS.1 hS.2.1 hdg hy (k ρ H locs cells slots ls hI hc hs hL (m_wi (m_wt (m_wt hw))))
theorem m_irem (hS : m_St p R s m args c dC dI cA τ rn rx A nL own cc) {x y : Int32} (hy : ¬ y = 0) (hdg : decode cc pc = .ok (.irem, 1)) (k : m_at p l e R s m args below meth c Q dC dI cA τ rn rx A nL nb lb ρ0 (pc + 1) (L) (.int (x - x / y * y) :: st) (σ)) : m_at p l e R s m args below meth c Q dC dI cA τ rn rx A nL nb lb ρ0 (pc) (L) (.int y :: .int x :: st) (σ) := by
  intro ρ H locs cells slots ls hI hc hs hL hw
  exact lv_irem hS.1 hS.2.1 hdg hy (k ρ H locs cells slots ls hI hc hs hL (m_wi (m_wt (m_wt hw))))
theorem m_ineg (hS : m_St p R s m args c dC dI cA τ rn rx A nL own cc) {x : Int32} (hdg : decode cc pc = .ok (.ineg, 1)) (k : m_at p l e R s m args below meth c Q dC dI cA τ rn rx A nL nb lb ρ0 (pc + 1) (L) (.int (-x) :: st) (σ)) : m_at p l e R s m args below meth c Q dC dI cA τ rn rx A nL nb lb ρ0 (pc) (L) (.int x :: st) (σ) := by
  intro ρ H locs cells slots ls hI hc hs hL hw
  exact lv_ineg hS.1 hS.2.1 hdg (k ρ H locs cells slots ls hI hc hs hL (m_wi (m_wt hw)))
theorem m_ladd (hS : m_St p R s m args c dC dI cA τ rn rx A nL own cc) {x y : Int64} (hdg : decode cc pc = .ok (.ladd, 1)) (k : m_at p l e R s m args below meth c Q dC dI cA τ rn rx A nL nb lb ρ0 (pc + 1) (L) (.long (x + y) :: st) (σ)) : m_at p l e R s m args below meth c Q dC dI cA τ rn rx A nL nb lb ρ0 (pc) (L) (.long y :: .long x :: st) (σ) := by
  intro ρ H locs cells slots ls hI hc hs hL hw
  exact lv_ladd hS.1 hS.2.1 hdg (k ρ H locs cells slots ls hI hc hs hL (m_wj (m_wt (m_wt hw))))
theorem m_lmul (hS : m_St p R s m args c dC dI cA τ rn rx A nL own cc) {x y : Int64} (hdg : decode cc pc = .ok (.lmul, 1)) (k : m_at p l e R s m args below meth c Q dC dI cA τ rn rx A nL nb lb ρ0 (pc + 1) (L) (.long (x * y) :: st) (σ)) : m_at p l e R s m args below meth c Q dC dI cA τ rn rx A nL nb lb ρ0 (pc) (L) (.long y :: .long x :: st) (σ) := by
  intro ρ H locs cells slots ls hI hc hs hL hw
  exact lv_lmul hS.1 hS.2.1 hdg (k ρ H locs cells slots ls hI hc hs hL (m_wj (m_wt (m_wt hw))))
theorem m_ldiv (hS : m_St p R s m args c dC dI cA τ rn rx A nL own cc) {x y : Int64} (hy : ¬ y = 0) (hdg : decode cc pc = .ok (.ldiv, 1)) (k : m_at p l e R s m args below meth c Q dC dI cA τ rn rx A nL nb lb ρ0 (pc + 1) (L) (.long (x / y) :: st) (σ)) : m_at p l e R s m args below meth c Q dC dI cA τ rn rx A nL nb lb ρ0 (pc) (L) (.long y :: .long x :: st) (σ) := by
  intro ρ H locs cells slots ls hI hc hs hL hw
  exact lv_ldiv hS.1 hS.2.1 hdg hy (k ρ H locs cells slots ls hI hc hs hL (m_wj (m_wt (m_wt hw))))
theorem m_lrem (hS : m_St p R s m args c dC dI cA τ rn rx A nL own cc) {x y : Int64} (hy : ¬ y = 0) (hdg : decode cc pc = .ok (.lrem, 1)) (k : m_at p l e R s m args below meth c Q dC dI cA τ rn rx A nL nb lb ρ0 (pc + 1) (L) (.long (x - x / y * y) :: st) (σ)) : m_at p l e R s m args below meth c Q dC dI cA τ rn rx A nL nb lb ρ0 (pc) (L) (.long y :: .long x :: st) (σ) := by
  intro ρ H locs cells slots ls hI hc hs hL hw
  exact lv_lrem hS.1 hS.2.1 hdg hy (k ρ H locs cells slots ls hI hc hs hL (m_wj (m_wt (m_wt hw))))
theorem m_lcmp (hS : m_St p R s m args c dC dI cA τ rn rx A nL own cc) {x y : Int64} (hdg : decode cc pc = .ok (.lcmp, 1)) (k : m_at p l e R s m args below meth c Q dC dI cA τ rn rx A nL nb lb ρ0 (pc + 1) (L) (.int (lg_cmp x y) :: st) (σ)) : m_at p l e R s m args below meth c Q dC dI cA τ rn rx A nL nb lb ρ0 (pc) (L) (.long y :: .long x :: st) (σ) := by
  intro ρ H locs cells slots ls hI hc hs hL hw
  exact W.lcmp hS.1 hS.2.1 hdg (k ρ H locs cells slots ls hI hc hs hL (m_wi (m_wt (m_wt hw))))
theorem m_i2l (hS : m_St p R s m args c dC dI cA τ rn rx A nL own cc) {x : Int32} (hdg : decode cc pc = .ok (.i2l, 1)) (k : m_at p l e R s m args below meth c Q dC dI cA τ rn rx A nL nb lb ρ0 (pc + 1) (L) (.long x.toInt64 :: st) (σ)) : m_at p l e R s m args below meth c Q dC dI cA τ rn rx A nL nb lb ρ0 (pc) (L) (.int x :: st) (σ) := by
  intro ρ H locs cells slots ls hI hc hs hL hw
  exact lv_i2l hS.1 hS.2.1 hdg rfl (k ρ H locs cells slots ls hI hc hs hL (m_wj (m_wt hw)))
theorem m_l2i (hS : m_St p R s m args c dC dI cA τ rn rx A nL own cc) {x : Int64} (hdg : decode cc pc = .ok (.l2i, 1)) (k : m_at p l e R s m args below meth c Q dC dI cA τ rn rx A nL nb lb ρ0 (pc + 1) (L) (.int x.toInt32 :: st) (σ)) : m_at p l e R s m args below meth c Q dC dI cA τ rn rx A nL nb lb ρ0 (pc) (L) (.long x :: st) (σ) := by
  intro ρ H locs cells slots ls hI hc hs hL hw
  exact lv_l2i hS.1 hS.2.1 hdg rfl (k ρ H locs cells slots ls hI hc hs hL (m_wi (m_wt hw)))
theorem m_i2b (hS : m_St p R s m args c dC dI cA τ rn rx A nL own cc) {x : Int32} (hdg : decode cc pc = .ok (.i2b, 1)) (k : m_at p l e R s m args below meth c Q dC dI cA τ rn rx A nL nb lb ρ0 (pc + 1) (L) (.int x.toInt8.toInt32 :: st) (σ)) : m_at p l e R s m args below meth c Q dC dI cA τ rn rx A nL nb lb ρ0 (pc) (L) (.int x :: st) (σ) := by
  intro ρ H locs cells slots ls hI hc hs hL hw
  exact lv_i2b hS.1 hS.2.1 hdg rfl (k ρ H locs cells slots ls hI hc hs hL (m_wi (m_wt hw)))
theorem m_dupI (hS : m_St p R s m args c dC dI cA τ rn rx A nL own cc) {x : Int32} (hdg : decode cc pc = .ok (.dup, 1)) (k : m_at p l e R s m args below meth c Q dC dI cA τ rn rx A nL nb lb ρ0 (pc + 1) (L) (.int x :: .int x :: st) (σ)) : m_at p l e R s m args below meth c Q dC dI cA τ rn rx A nL nb lb ρ0 (pc) (L) (.int x :: st) (σ) := by
  intro ρ H locs cells slots ls hI hc hs hL hw
  exact lv_dup hS.1 hS.2.1 hdg rfl (k ρ H locs cells slots ls hI hc hs hL (m_wi hw))
theorem m_dupA (hS : m_St p R s m args c dC dI cA τ rn rx A nL own cc) {x : Nat} (hdg : decode cc pc = .ok (.dup, 1)) (k : m_at p l e R s m args below meth c Q dC dI cA τ rn rx A nL nb lb ρ0 (pc + 1) (L) (.ref x :: .ref x :: st) (σ)) : m_at p l e R s m args below meth c Q dC dI cA τ rn rx A nL nb lb ρ0 (pc) (L) (.ref x :: st) (σ) := by
  intro ρ H locs cells slots ls hI hc hs hL hw
  exact lv_dup hS.1 hS.2.1 hdg rfl (k ρ H locs cells slots ls hI hc hs hL (m_wr (m_wh hw) hw))
theorem m_dup2 (hS : m_St p R s m args c dC dI cA τ rn rx A nL own cc) {y : Int32} {x : Nat} (hdg : decode cc pc = .ok (.dup2, 1)) (k : m_at p l e R s m args below meth c Q dC dI cA τ rn rx A nL nb lb ρ0 (pc + 1) (L) (.int y :: .ref x :: .int y :: .ref x :: st) (σ)) : m_at p l e R s m args below meth c Q dC dI cA τ rn rx A nL nb lb ρ0 (pc) (L) (.int y :: .ref x :: st) (σ) := by
  intro ρ H locs cells slots ls hI hc hs hL hw
  exact lv_dup2_11 hS.1 hS.2.1 hdg rfl rfl (k ρ H locs cells slots ls hI hc hs hL (m_wi (m_wr (m_wh (m_wt hw)) hw)))
theorem m_pop (hS : m_St p R s m args c dC dI cA τ rn rx A nL own cc) {x : Int32} (hdg : decode cc pc = .ok (.pop, 1)) (k : m_at p l e R s m args below meth c Q dC dI cA τ rn rx A nL nb lb ρ0 (pc + 1) (L) (st) (σ)) : m_at p l e R s m args below meth c Q dC dI cA τ rn rx A nL nb lb ρ0 (pc) (L) (.int x :: st) (σ) := by
  intro ρ H locs cells slots ls hI hc hs hL hw
  exact lv_pop hS.1 hS.2.1 hdg rfl (k ρ H locs cells slots ls hI hc hs hL (m_wt hw))
theorem m_ifc (hS : m_St p R s m args c dC dI cA τ rn rx A nL own cc) {cn : ClassFile.Cond} {x : Int32} {off : Int} {t : Nat} (hdg : decode cc pc = .ok (.ifCond cn off, 3)) (ht : (pc : Int) + off = (t : Int)) (k1 : j_P cn x 0 → m_at p l e R s m args below meth c Q dC dI cA τ rn rx A nL nb lb ρ0 (t) (L) (st) (σ)) (k2 : ¬ j_P cn x 0 → m_at p l e R s m args below meth c Q dC dI cA τ rn rx A nL nb lb ρ0 (pc + 3) (L) (st) (σ)) : m_at p l e R s m args below meth c Q dC dI cA τ rn rx A nL nb lb ρ0 (pc) (L) (.int x :: st) (σ) := by
  intro ρ H locs cells slots ls hI hc hs hL hw
  have hw1 := m_wt hw
  cases cn
  · exact lv_if_eq hS.1 hS.2.1 hdg ht (fun h => k1 h ρ H locs cells slots ls hI hc hs hL hw1) (fun h => k2 h ρ H locs cells slots ls hI hc hs hL hw1)
  · exact lv_if_ne hS.1 hS.2.1 hdg ht (fun h => k1 h ρ H locs cells slots ls hI hc hs hL hw1) (fun h => k2 (fun z => z h) ρ H locs cells slots ls hI hc hs hL hw1)
  · exact lv_if_lt hS.1 hS.2.1 hdg ht (fun h => k1 h ρ H locs cells slots ls hI hc hs hL hw1) (fun h => k2 h ρ H locs cells slots ls hI hc hs hL hw1)
  · exact lv_if_ge hS.1 hS.2.1 hdg ht (fun h => k1 (Int32.not_lt.mpr h) ρ H locs cells slots ls hI hc hs hL hw1) (fun h => k2 (fun z => z (Int32.not_le.mp h)) ρ H locs cells slots ls hI hc hs hL hw1)
  · exact lv_if_gt hS.1 hS.2.1 hdg ht (fun h => k1 h ρ H locs cells slots ls hI hc hs hL hw1) (fun h => k2 h ρ H locs cells slots ls hI hc hs hL hw1)
  · exact lv_if_le hS.1 hS.2.1 hdg ht (fun h => k1 (Int32.not_lt.mpr h) ρ H locs cells slots ls hI hc hs hL hw1) (fun h => k2 (fun z => z (Int32.not_le.mp h)) ρ H locs cells slots ls hI hc hs hL hw1)
theorem m_icmp (hS : m_St p R s m args c dC dI cA τ rn rx A nL own cc) {cn : ClassFile.Cond} {x y : Int32} {off : Int} {t : Nat} (hdg : decode cc pc = .ok (.if_icmp cn off, 3)) (ht : (pc : Int) + off = (t : Int)) (k1 : j_P cn x y → m_at p l e R s m args below meth c Q dC dI cA τ rn rx A nL nb lb ρ0 (t) (L) (st) (σ)) (k2 : ¬ j_P cn x y → m_at p l e R s m args below meth c Q dC dI cA τ rn rx A nL nb lb ρ0 (pc + 3) (L) (st) (σ)) : m_at p l e R s m args below meth c Q dC dI cA τ rn rx A nL nb lb ρ0 (pc) (L) (.int y :: .int x :: st) (σ) := by
  intro ρ H locs cells slots ls hI hc hs hL hw
  have hw1 := m_wt (m_wt hw)
  cases cn
  · exact lv_icmp_eq hS.1 hS.2.1 hdg ht (fun h => k1 h ρ H locs cells slots ls hI hc hs hL hw1) (fun h => k2 h ρ H locs cells slots ls hI hc hs hL hw1)
  · exact lv_icmp_ne hS.1 hS.2.1 hdg ht (fun h => k1 h ρ H locs cells slots ls hI hc hs hL hw1) (fun h => k2 (fun z => z h) ρ H locs cells slots ls hI hc hs hL hw1)
  · exact lv_icmp_lt hS.1 hS.2.1 hdg ht (fun h => k1 h ρ H locs cells slots ls hI hc hs hL hw1) (fun h => k2 h ρ H locs cells slots ls hI hc hs hL hw1)
  · exact lv_icmp_ge hS.1 hS.2.1 hdg ht (fun h => k1 (Int32.not_lt.mpr h) ρ H locs cells slots ls hI hc hs hL hw1) (fun h => k2 (fun z => z (Int32.not_le.mp h)) ρ H locs cells slots ls hI hc hs hL hw1)
  · exact lv_icmp_gt hS.1 hS.2.1 hdg ht (fun h => k1 h ρ H locs cells slots ls hI hc hs hL hw1) (fun h => k2 h ρ H locs cells slots ls hI hc hs hL hw1)
  · exact lv_icmp_le hS.1 hS.2.1 hdg ht (fun h => k1 (Int32.not_lt.mpr h) ρ H locs cells slots ls hI hc hs hL hw1) (fun h => k2 (fun z => z (Int32.not_le.mp h)) ρ H locs cells slots ls hI hc hs hL hw1)
theorem m_goto (hS : m_St p R s m args c dC dI cA τ rn rx A nL own cc) {off : Int} {t : Nat} (hdg : decode cc pc = .ok (.goto off, 3)) (ht : (pc : Int) + off = (t : Int)) (k : m_at p l e R s m args below meth c Q dC dI cA τ rn rx A nL nb lb ρ0 (t) (L) (st) (σ)) : m_at p l e R s m args below meth c Q dC dI cA τ rn rx A nL nb lb ρ0 (pc) (L) (st) (σ) := by
  intro ρ H locs cells slots ls hI hc hs hL hw
  exact lv_goto hS.1 hS.2.1 hdg ht (k ρ H locs cells slots ls hI hc hs hL hw)
theorem m_getI (hS : m_St p R s m args c dC dI cA τ rn rx A nL own cc) {ci k idx : Nat} (hci : ci < 8) (hk : k < j_nf ci) (hl : Jvm.Cond.fieldLink (j_CN own) idx (j_T ci k).1 (j_T ci k).2.1 (j_T ci k).2.2.1 ∈ j_ws) (hu : ∀ w ∈ u_ws (j_CN ci) (j_T ci) (j_nf ci), w ∈ j_ws) (hty : j_ty ci k = .int ∨ j_ty ci k = .boolean) {r : Nat} (hr : σ.1 r = some (.inl ci)) (hdg : decode cc pc = .ok (.getfield idx, 3)) (kk : m_at p l e R s m args below meth c Q dC dI cA τ rn rx A nL nb lb ρ0 (pc + 3) (L) (.int (σ.2.2.1 r k) :: st) (σ)) : m_at p l e R s m args below meth c Q dC dI cA τ rn rx A nL nb lb ρ0 (pc) (L) (.ref r :: st) (σ) := by
  intro ρ H locs cells slots ls hI hc hs hL hw
  have hrn := m_inr' hI.2.2.2 hr
  have hrb : r < j_b := Nat.lt_of_lt_of_le hrn hI.2.2.2.2.1
  have e1 : m_v ρ τ (.ref r) = .ref (ρ r) := by show Value.ref (m_ad ρ τ r) = _; rw [m_ad_lt hrb]
  have hf : m_f ρ τ σ r k (j_ty ci k) = .int (σ.2.2.1 r k) := by rcases hty with h | h <;> (unfold m_f; rw [h])
  have h9 := kk ρ H locs cells slots ls hI hc hs hL (m_wi (m_wt hw))
  rw [List.map_cons, e1]
  exact va_get hS.1 hS.2.1 hS.2.2.2.1 hu hS.2.2.1 hS.2.2.2.2.1 hI.1 r ((m_ws_get hrn).trans (by rw [m_E_obj hr])) (j_cls_get hci) k hk (hS.2.2.2.1 _ hl) (fun _ h => h) (by rw [m_fs_get hk, hf]; rfl) hdg h9
theorem m_getJ (hS : m_St p R s m args c dC dI cA τ rn rx A nL own cc) {ci k idx : Nat} (hci : ci < 8) (hk : k < j_nf ci) (hl : Jvm.Cond.fieldLink (j_CN own) idx (j_T ci k).1 (j_T ci k).2.1 (j_T ci k).2.2.1 ∈ j_ws) (hu : ∀ w ∈ u_ws (j_CN ci) (j_T ci) (j_nf ci), w ∈ j_ws) (hty : j_ty ci k = .long) {r : Nat} (hr : σ.1 r = some (.inl ci)) (hdg : decode cc pc = .ok (.getfield idx, 3)) (kk : m_at p l e R s m args below meth c Q dC dI cA τ rn rx A nL nb lb ρ0 (pc + 3) (L) (.long (σ.2.2.2.1 r k) :: st) (σ)) : m_at p l e R s m args below meth c Q dC dI cA τ rn rx A nL nb lb ρ0 (pc) (L) (.ref r :: st) (σ) := by
  intro ρ H locs cells slots ls hI hc hs hL hw
  have hrn := m_inr' hI.2.2.2 hr
  have hrb : r < j_b := Nat.lt_of_lt_of_le hrn hI.2.2.2.2.1
  have e1 : m_v ρ τ (.ref r) = .ref (ρ r) := by show Value.ref (m_ad ρ τ r) = _; rw [m_ad_lt hrb]
  have hf : m_f ρ τ σ r k (j_ty ci k) = .long (σ.2.2.2.1 r k) := by unfold m_f; rw [hty]
  have h9 := kk ρ H locs cells slots ls hI hc hs hL (m_wj (m_wt hw))
  rw [List.map_cons, e1]
  exact va_get hS.1 hS.2.1 hS.2.2.2.1 hu hS.2.2.1 hS.2.2.2.2.1 hI.1 r ((m_ws_get hrn).trans (by rw [m_E_obj hr])) (j_cls_get hci) k hk (hS.2.2.2.1 _ hl) (fun _ h => h) (by rw [m_fs_get hk, hf]; rfl) hdg h9
theorem m_getP (hS : m_St p R s m args c dC dI cA τ rn rx A nL own cc) {ci k idx : Nat} (hci : ci < 8) (hk : k < j_nf ci) (hl : Jvm.Cond.fieldLink (j_CN own) idx (j_T ci k).1 (j_T ci k).2.1 (j_T ci k).2.2.1 ∈ j_ws) (hu : ∀ w ∈ u_ws (j_CN ci) (j_T ci) (j_nf ci), w ∈ j_ws) (hty : (∃ n, j_ty ci k = .object n) ∨ ∃ t, j_ty ci k = .array t) {r q : Nat} (hr : σ.1 r = some (.inl ci)) (hq : σ.2.1 r k = some q) (hdg : decode cc pc = .ok (.getfield idx, 3)) (kk : m_at p l e R s m args below meth c Q dC dI cA τ rn rx A nL nb lb ρ0 (pc + 3) (L) (.ref q :: st) (σ)) : m_at p l e R s m args below meth c Q dC dI cA τ rn rx A nL nb lb ρ0 (pc) (L) (.ref r :: st) (σ) := by
  intro ρ H locs cells slots ls hI hc hs hL hw
  have hrn := m_inr' hI.2.2.2 hr
  have hrb : r < j_b := Nat.lt_of_lt_of_le hrn hI.2.2.2.2.1
  have e1 : m_v ρ τ (.ref r) = .ref (ρ r) := by show Value.ref (m_ad ρ τ r) = _; rw [m_ad_lt hrb]
  have hf : m_f ρ τ σ r k (j_ty ci k) = m_v ρ τ (.ref q) := by rcases hty with ⟨_, h⟩ | ⟨_, h⟩ <;> (unfold m_f; rw [h, hq]; rfl)
  have h9 := kk ρ H locs cells slots ls hI hc hs hL (m_wr (hI.2.2.2.2.2.2 r k q hrn hq) (m_wt hw))
  rw [List.map_cons, e1]
  exact va_get hS.1 hS.2.1 hS.2.2.2.1 hu hS.2.2.1 hS.2.2.2.2.1 hI.1 r ((m_ws_get hrn).trans (by rw [m_E_obj hr])) (j_cls_get hci) k hk (hS.2.2.2.1 _ hl) (fun _ h => h) (by rw [m_fs_get hk, hf]) hdg h9
theorem m_putI (hS : m_St p R s m args c dC dI cA τ rn rx A nL own cc) {ci k idx : Nat} (hci : ci < 8) (hk : k < j_nf ci) (hl : Jvm.Cond.fieldLink (j_CN own) idx (j_T ci k).1 (j_T ci k).2.1 (j_T ci k).2.2.1 ∈ j_ws) (hu : ∀ w ∈ u_ws (j_CN ci) (j_T ci) (j_nf ci), w ∈ j_ws) {x : Int32} (hty : j_ty ci k = .int ∨ (j_ty ci k = .boolean ∧ (x = 0 ∨ x = 1))) {r : Nat} (hfin : (j_T ci k).2.2.2 = false ∨ (meth.name = "<init>" ∧ (j_T ci k).1 = j_CN own)) (hr : σ.1 r = some (.inl ci)) (hrb : r < j_b) (hdg : decode cc pc = .ok (.putfield idx, 3)) (kk : m_at p l e R s m args below meth c Q dC dI cA τ rn rx A nL nb lb ρ0 (pc + 3) (L) (st) (s_uI σ r k x)) : m_at p l e R s m args below meth c Q dC dI cA τ rn rx A nL nb lb ρ0 (pc) (L) (.int x :: .ref r :: st) (σ) := by
  intro ρ H locs cells slots ls hI hc hs hL hw
  have hrn := m_inr' hI.2.2.2 hr
  have e1 : m_v ρ τ (.ref r) = .ref (ρ r) := by show Value.ref (m_ad ρ τ r) = _; rw [m_ad_lt hrb]
  have hn : narrow (j_ty ci k) (.int x) = .int x ∧ fits (j_ty ci k) (.int x) = true := by
    rcases hty with h | ⟨h, rfl | rfl⟩ <;> rw [h] <;> first | exact ⟨rfl, rfl⟩ | decide
  have hf : Value.int x = m_f ρ τ (s_uI σ r k x) r k (j_ty ci k) := by
    have e9 : u2 σ.2.2.1 r k x r k = x := by rw [u2_self, u1_same]
    rcases hty with h | ⟨h, -⟩ <;> rw [h] <;> unfold m_f <;> dsimp only <;> rw [e9]
  have ho : ∀ j, j ≠ k → m_f ρ τ (s_uI σ r k x) r j (j_ty ci j) = m_f ρ τ σ r j (j_ty ci j) := fun j hj => by
    have e9 : u2 σ.2.2.1 r k x r j = σ.2.2.1 r j := by rw [u2_self, u1_ne hj]
    cases j_ty ci j <;> first | rfl | (unfold m_f; dsimp only; rw [e9])
  have hoo : ∀ q, q ≠ r → m_E cA ρ τ (s_uI σ r k x) q = m_E cA ρ τ σ q := fun q hq => m_E_ext rfl (fun _ => rfl) (u2_row hq) rfl
  have hwf : m_Wf rn rx (s_uI σ r k x) := m_Wf_uI hrb hI.2.2.2
  have hE : m_E cA ρ τ (s_uI σ r k x) r = .inr (ci, m_fs ρ τ (s_uI σ r k x) r ci) := m_E_obj hr
  have hset : (m_ws cA ρ τ σ).set r (ρ r, .inr (ci, (m_fs ρ τ σ r ci).set k (m_v ρ τ (.int x)))) = m_ws cA ρ τ (s_uI σ r k x) := m_ws_set rfl hoo (by rw [hE, ← m_fs_set hk hf ho]; rfl)
  have h9 : ∀ (H1 : Heap) (locs1 : List Loc), va_P (dC, dI) j_cls ((m_ws cA ρ τ σ).set r (ρ r, .inr (ci, (m_fs ρ τ σ r ci).set k (m_v ρ τ (.int x))))) H1 → va_D A ((m_ws cA ρ τ σ).set r (ρ r, .inr (ci, (m_fs ρ τ σ r ci).set k (m_v ρ τ (.int x))))) → va_S A s.heap H1 locs1 → W p l e R s m args below meth c H1 locs1 cells slots Q (F0 m (pc + 3) ls (st.map (m_v ρ τ))) := fun H1 locs1 g1 g2 g3 => by
    rw [hset] at g1 g2
    exact kk ρ H1 locs1 cells slots ls ⟨g1, g2, g3, hwf⟩ hc hs hL (m_wt (m_wt hw))
  rw [List.map_cons, List.map_cons, e1]
  rcases hfin with hfin | ⟨hfin, hdecl⟩
  · exact va_put hS.1 hS.2.1 hS.2.2.2.1 hu (j_ty ci) (j_ty_ok hci) (j_nm hci) hS.2.2.1 hS.2.2.2.2.1 hI.1 hI.2.1 hI.2.2.1 r ((m_ws_get hrn).trans (by rw [m_E_obj hr])) (j_cls_get hci) k hk (hS.2.2.2.1 _ hl) (fun _ h => h) hfin (j_ty_ok hci k hk) hn.1 hn.2 (by rw [m_fs_len]; exact hk) hdg h9
  · by_cases hff : (j_T ci k).2.2.2 = true
    · exact va_putF hS.1 hS.2.1 hS.2.2.2.1 hu (j_ty ci) (j_ty_ok hci) (j_nm hci) hS.2.2.1 hS.2.2.2.2.1 hI.1 hI.2.1 hI.2.2.1 r ((m_ws_get hrn).trans (by rw [m_E_obj hr])) (j_cls_get hci) k hk (hS.2.2.2.1 _ hl) (fun _ h => h) hff hfin hdecl (j_ty_ok hci k hk) hn.1 hn.2 (by rw [m_fs_len]; exact hk) hdg h9
    · exact va_put hS.1 hS.2.1 hS.2.2.2.1 hu (j_ty ci) (j_ty_ok hci) (j_nm hci) hS.2.2.1 hS.2.2.2.2.1 hI.1 hI.2.1 hI.2.2.1 r ((m_ws_get hrn).trans (by rw [m_E_obj hr])) (j_cls_get hci) k hk (hS.2.2.2.1 _ hl) (fun _ h => h) (Bool.not_eq_true _ ▸ hff) (j_ty_ok hci k hk) hn.1 hn.2 (by rw [m_fs_len]; exact hk) hdg h9
theorem m_putJ (hS : m_St p R s m args c dC dI cA τ rn rx A nL own cc) {ci k idx : Nat} (hci : ci < 8) (hk : k < j_nf ci) (hl : Jvm.Cond.fieldLink (j_CN own) idx (j_T ci k).1 (j_T ci k).2.1 (j_T ci k).2.2.1 ∈ j_ws) (hu : ∀ w ∈ u_ws (j_CN ci) (j_T ci) (j_nf ci), w ∈ j_ws) {x : Int64} (hty : j_ty ci k = .long) {r : Nat} (hfin : (j_T ci k).2.2.2 = false ∨ (meth.name = "<init>" ∧ (j_T ci k).1 = j_CN own)) (hr : σ.1 r = some (.inl ci)) (hrb : r < j_b) (hdg : decode cc pc = .ok (.putfield idx, 3)) (kk : m_at p l e R s m args below meth c Q dC dI cA τ rn rx A nL nb lb ρ0 (pc + 3) (L) (st) (s_uJ σ r k x)) : m_at p l e R s m args below meth c Q dC dI cA τ rn rx A nL nb lb ρ0 (pc) (L) (.long x :: .ref r :: st) (σ) := by
  intro ρ H locs cells slots ls hI hc hs hL hw
  have hrn := m_inr' hI.2.2.2 hr
  have e1 : m_v ρ τ (.ref r) = .ref (ρ r) := by show Value.ref (m_ad ρ τ r) = _; rw [m_ad_lt hrb]
  have hn : narrow (j_ty ci k) (.long x) = .long x ∧ fits (j_ty ci k) (.long x) = true := by rw [hty]; exact ⟨rfl, rfl⟩
  have hf : Value.long x = m_f ρ τ (s_uJ σ r k x) r k (j_ty ci k) := by
    have e9 : u2 σ.2.2.2.1 r k x r k = x := by rw [u2_self, u1_same]
    rw [hty]; unfold m_f; dsimp only; rw [e9]
  have ho : ∀ j, j ≠ k → m_f ρ τ (s_uJ σ r k x) r j (j_ty ci j) = m_f ρ τ σ r j (j_ty ci j) := fun j hj => by
    have e9 : u2 σ.2.2.2.1 r k x r j = σ.2.2.2.1 r j := by rw [u2_self, u1_ne hj]
    cases j_ty ci j <;> first | rfl | (unfold m_f; dsimp only; rw [e9])
  have hoo : ∀ q, q ≠ r → m_E cA ρ τ (s_uJ σ r k x) q = m_E cA ρ τ σ q := fun q hq => m_E_ext rfl (fun _ => rfl) rfl (u2_row hq)
  have hwf : m_Wf rn rx (s_uJ σ r k x) := m_Wf_uJ hI.2.2.2
  have hE : m_E cA ρ τ (s_uJ σ r k x) r = .inr (ci, m_fs ρ τ (s_uJ σ r k x) r ci) := m_E_obj hr
  have hset : (m_ws cA ρ τ σ).set r (ρ r, .inr (ci, (m_fs ρ τ σ r ci).set k (m_v ρ τ (.long x)))) = m_ws cA ρ τ (s_uJ σ r k x) := m_ws_set rfl hoo (by rw [hE, ← m_fs_set hk hf ho]; rfl)
  have h9 : ∀ (H1 : Heap) (locs1 : List Loc), va_P (dC, dI) j_cls ((m_ws cA ρ τ σ).set r (ρ r, .inr (ci, (m_fs ρ τ σ r ci).set k (m_v ρ τ (.long x))))) H1 → va_D A ((m_ws cA ρ τ σ).set r (ρ r, .inr (ci, (m_fs ρ τ σ r ci).set k (m_v ρ τ (.long x))))) → va_S A s.heap H1 locs1 → W p l e R s m args below meth c H1 locs1 cells slots Q (F0 m (pc + 3) ls (st.map (m_v ρ τ))) := fun H1 locs1 g1 g2 g3 => by
    rw [hset] at g1 g2
    exact kk ρ H1 locs1 cells slots ls ⟨g1, g2, g3, hwf⟩ hc hs hL (m_wt (m_wt hw))
  rw [List.map_cons, List.map_cons, e1]
  rcases hfin with hfin | ⟨hfin, hdecl⟩
  · exact va_put hS.1 hS.2.1 hS.2.2.2.1 hu (j_ty ci) (j_ty_ok hci) (j_nm hci) hS.2.2.1 hS.2.2.2.2.1 hI.1 hI.2.1 hI.2.2.1 r ((m_ws_get hrn).trans (by rw [m_E_obj hr])) (j_cls_get hci) k hk (hS.2.2.2.1 _ hl) (fun _ h => h) hfin (j_ty_ok hci k hk) hn.1 hn.2 (by rw [m_fs_len]; exact hk) hdg h9
  · by_cases hff : (j_T ci k).2.2.2 = true
    · exact va_putF hS.1 hS.2.1 hS.2.2.2.1 hu (j_ty ci) (j_ty_ok hci) (j_nm hci) hS.2.2.1 hS.2.2.2.2.1 hI.1 hI.2.1 hI.2.2.1 r ((m_ws_get hrn).trans (by rw [m_E_obj hr])) (j_cls_get hci) k hk (hS.2.2.2.1 _ hl) (fun _ h => h) hff hfin hdecl (j_ty_ok hci k hk) hn.1 hn.2 (by rw [m_fs_len]; exact hk) hdg h9
    · exact va_put hS.1 hS.2.1 hS.2.2.2.1 hu (j_ty ci) (j_ty_ok hci) (j_nm hci) hS.2.2.1 hS.2.2.2.2.1 hI.1 hI.2.1 hI.2.2.1 r ((m_ws_get hrn).trans (by rw [m_E_obj hr])) (j_cls_get hci) k hk (hS.2.2.2.1 _ hl) (fun _ h => h) (Bool.not_eq_true _ ▸ hff) (j_ty_ok hci k hk) hn.1 hn.2 (by rw [m_fs_len]; exact hk) hdg h9
theorem m_putP (hS : m_St p R s m args c dC dI cA τ rn rx A nL own cc) {ci k idx : Nat} (hci : ci < 8) (hk : k < j_nf ci) (hl : Jvm.Cond.fieldLink (j_CN own) idx (j_T ci k).1 (j_T ci k).2.1 (j_T ci k).2.2.1 ∈ j_ws) (hu : ∀ w ∈ u_ws (j_CN ci) (j_T ci) (j_nf ci), w ∈ j_ws) {x : Nat} (hty : (∃ n, j_ty ci k = .object n) ∨ ∃ t, j_ty ci k = .array t) {r : Nat} (hfin : (j_T ci k).2.2.2 = false ∨ (meth.name = "<init>" ∧ (j_T ci k).1 = j_CN own)) (hr : σ.1 r = some (.inl ci)) (hrb : r < j_b) (hdg : decode cc pc = .ok (.putfield idx, 3)) (kk : m_at p l e R s m args below meth c Q dC dI cA τ rn rx A nL nb lb ρ0 (pc + 3) (L) (st) (s_uP σ r k (some x))) : m_at p l e R s m args below meth c Q dC dI cA τ rn rx A nL nb lb ρ0 (pc) (L) (.ref x :: .ref r :: st) (σ) := by
  intro ρ H locs cells slots ls hI hc hs hL hw
  have hrn := m_inr' hI.2.2.2 hr
  have e1 : m_v ρ τ (.ref r) = .ref (ρ r) := by show Value.ref (m_ad ρ τ r) = _; rw [m_ad_lt hrb]
  have hn : narrow (j_ty ci k) (m_v ρ τ (.ref x)) = m_v ρ τ (.ref x) ∧ fits (j_ty ci k) (m_v ρ τ (.ref x)) = true := by
    rcases hty with ⟨_, h⟩ | ⟨_, h⟩ <;> rw [h] <;> exact ⟨rfl, rfl⟩
  have hf : m_v ρ τ (.ref x) = m_f ρ τ (s_uP σ r k (some x)) r k (j_ty ci k) := by
    have e9 : u2 σ.2.1 r k (some x) r k = some x := by rw [u2_self, u1_same]
    rcases hty with ⟨_, h⟩ | ⟨_, h⟩ <;> rw [h] <;> unfold m_f <;> dsimp only <;> rw [e9] <;> rfl
  have ho : ∀ j, j ≠ k → m_f ρ τ (s_uP σ r k (some x)) r j (j_ty ci j) = m_f ρ τ σ r j (j_ty ci j) := fun j hj => by
    have e9 : u2 σ.2.1 r k (some x) r j = σ.2.1 r j := by rw [u2_self, u1_ne hj]
    cases j_ty ci j <;> first | rfl | (unfold m_f; dsimp only; rw [e9])
  have hoo : ∀ q, q ≠ r → m_E cA ρ τ (s_uP σ r k (some x)) q = m_E cA ρ τ σ q := fun q hq => m_E_ext rfl (fun j => by show m_rf ρ τ (u2 _ _ _ _ q j) = _; rw [u2_row hq]) rfl rfl
  have hwf : m_Wf rn rx (s_uP σ r k (some x)) := m_Wf_uP (m_wh hw) hI.2.2.2
  have hE : m_E cA ρ τ (s_uP σ r k (some x)) r = .inr (ci, m_fs ρ τ (s_uP σ r k (some x)) r ci) := m_E_obj hr
  have hset : (m_ws cA ρ τ σ).set r (ρ r, .inr (ci, (m_fs ρ τ σ r ci).set k (m_v ρ τ (.ref x)))) = m_ws cA ρ τ (s_uP σ r k (some x)) := m_ws_set rfl hoo (by rw [hE, ← m_fs_set hk hf ho])
  have h9 : ∀ (H1 : Heap) (locs1 : List Loc), va_P (dC, dI) j_cls ((m_ws cA ρ τ σ).set r (ρ r, .inr (ci, (m_fs ρ τ σ r ci).set k (m_v ρ τ (.ref x))))) H1 → va_D A ((m_ws cA ρ τ σ).set r (ρ r, .inr (ci, (m_fs ρ τ σ r ci).set k (m_v ρ τ (.ref x))))) → va_S A s.heap H1 locs1 → W p l e R s m args below meth c H1 locs1 cells slots Q (F0 m (pc + 3) ls (st.map (m_v ρ τ))) := fun H1 locs1 g1 g2 g3 => by
    rw [hset] at g1 g2
    exact kk ρ H1 locs1 cells slots ls ⟨g1, g2, g3, hwf⟩ hc hs hL (m_wt (m_wt hw))
  rw [List.map_cons, List.map_cons, e1]
  rcases hfin with hfin | ⟨hfin, hdecl⟩
  · exact va_put hS.1 hS.2.1 hS.2.2.2.1 hu (j_ty ci) (j_ty_ok hci) (j_nm hci) hS.2.2.1 hS.2.2.2.2.1 hI.1 hI.2.1 hI.2.2.1 r ((m_ws_get hrn).trans (by rw [m_E_obj hr])) (j_cls_get hci) k hk (hS.2.2.2.1 _ hl) (fun _ h => h) hfin (j_ty_ok hci k hk) hn.1 hn.2 (by rw [m_fs_len]; exact hk) hdg h9
  · by_cases hff : (j_T ci k).2.2.2 = true
    · exact va_putF hS.1 hS.2.1 hS.2.2.2.1 hu (j_ty ci) (j_ty_ok hci) (j_nm hci) hS.2.2.1 hS.2.2.2.2.1 hI.1 hI.2.1 hI.2.2.1 r ((m_ws_get hrn).trans (by rw [m_E_obj hr])) (j_cls_get hci) k hk (hS.2.2.2.1 _ hl) (fun _ h => h) hff hfin hdecl (j_ty_ok hci k hk) hn.1 hn.2 (by rw [m_fs_len]; exact hk) hdg h9
    · exact va_put hS.1 hS.2.1 hS.2.2.2.1 hu (j_ty ci) (j_ty_ok hci) (j_nm hci) hS.2.2.1 hS.2.2.2.2.1 hI.1 hI.2.1 hI.2.2.1 r ((m_ws_get hrn).trans (by rw [m_E_obj hr])) (j_cls_get hci) k hk (hS.2.2.2.1 _ hl) (fun _ h => h) (Bool.not_eq_true _ ▸ hff) (j_ty_ok hci k hk) hn.1 hn.2 (by rw [m_fs_len]; exact hk) hdg h9
end SIMOPS
end
section
/-! ===== THE MACHINE FOLLOWS THE LITTLE MACHINE, part 3: arrays, new cells, switches ===== -/
section SIMOPS3
variable {p : Program} {l : Launch} {e : Env} {R : Room} {s : State} {m : MethodId} {args : Array Value} {below : List Frame} {meth : Method} {c : Code} {Q : State → Prop} {dC : Nat → ClassId} {dI : Nat → Nat → Nat} {cA : FieldType → ClassId} {τ rn : Nat → Nat} {rx : Nat → Nat → Int32} {A : Nat → Prop} {nL nb lb own : Nat} {ρ0 : Nat → Nat} {cc : ByteArray} {pc : Nat} {L : j_L} {st : List Value} {σ : Sto}

theorem m_iald (hS : m_St p R s m args c dC dI cA τ rn rx A nL own cc) {r n : Nat} {i : Int32} (hr : σ.1 r = some (.inr (.int, n))) (hi : j_in i n) (hdg : decode cc pc = .ok (.iaload, 1)) (kk : m_at p l e R s m args below meth c Q dC dI cA τ rn rx A nL nb lb ρ0 (pc + 1) (L) (.int (σ.2.2.1 r i.toNatClampNeg) :: st) (σ)) : m_at p l e R s m args below meth c Q dC dI cA τ rn rx A nL nb lb ρ0 (pc) (L) (.int i :: .ref r :: st) (σ) := by
  intro ρ H locs cells slots ls hI hc hs hL hw
  have h9 := kk ρ H locs cells slots ls hI hc hs hL (m_wi (m_wt (m_wt hw)))
  rcases m_inr2 hI.2.2.2 hr with hrn | ⟨k, hk, rfl⟩
  · have hrb : r < j_b := Nat.lt_of_lt_of_le hrn hI.2.2.2.2.1
    have e1 : m_v ρ τ (.ref r) = .ref (ρ r) := by show Value.ref (m_ad ρ τ r) = _; rw [m_ad_lt hrb]
    rw [List.map_cons, List.map_cons, e1]
    exact va_iald hS.1 hS.2.1 hS.2.2.2.2.1 hI.1 r 0 ((m_ws_get hrn).trans (by rw [m_E_arr hr]; rfl)) rfl (m_vin hi) hdg h9
  · obtain ⟨cell, g1, g2, g3, g4, -, g6, g7⟩ := hS.2.2.2.2.2.1.2 k hk
    obtain ⟨w1, w2⟩ := hI.2.2.2.2.2.1 k hk
    have e2 : rn k = n := by rw [w1] at hr; cases hr; rfl
    have g8 : H[τ k]? = some cell := (hI.2.2.1.2.1 (τ k) (Array.getElem?_eq_some_iff.mp g1).1 g7).trans g1
    have e1 : m_v ρ τ (.ref (j_b + k)) = .ref (τ k) := by show Value.ref (m_ad ρ τ _) = _; rw [m_ad_ro]
    rw [List.map_cons, List.map_cons, e1]
    rw [w2] at h9
    rw [e2] at g4 g6
    exact W.iald hS.1 hS.2.1 g8 g2 g3 (fun z => z.elim hi.1 (fun z => absurd hi.2 (by omega))) (g6 _ hi.2) rfl rfl hdg h9
theorem m_bald (hS : m_St p R s m args c dC dI cA τ rn rx A nL own cc) {r n : Nat} {i : Int32} (hr : σ.1 r = some (.inr (.byte, n))) (hi : j_in i n) (hdg : decode cc pc = .ok (.baload, 1)) (kk : m_at p l e R s m args below meth c Q dC dI cA τ rn rx A nL nb lb ρ0 (pc + 1) (L) (.int (σ.2.2.1 r i.toNatClampNeg) :: st) (σ)) : m_at p l e R s m args below meth c Q dC dI cA τ rn rx A nL nb lb ρ0 (pc) (L) (.int i :: .ref r :: st) (σ) := by
  intro ρ H locs cells slots ls hI hc hs hL hw
  have h9 := kk ρ H locs cells slots ls hI hc hs hL (m_wi (m_wt (m_wt hw)))
  rcases m_inr2 hI.2.2.2 hr with hrn | ⟨k, hk, rfl⟩
  · have hrb : r < j_b := Nat.lt_of_lt_of_le hrn hI.2.2.2.2.1
    have e1 : m_v ρ τ (.ref r) = .ref (ρ r) := by show Value.ref (m_ad ρ τ r) = _; rw [m_ad_lt hrb]
    rw [List.map_cons, List.map_cons, e1]
    exact va_bald hS.1 hS.2.1 hS.2.2.2.2.1 hI.1 r 1 ((m_ws_get hrn).trans (by rw [m_E_arr hr]; rfl)) rfl (m_vin hi) hdg h9
  · rw [(hI.2.2.2.2.2.1 k hk).1] at hr
    cases hr
theorem m_zald (hS : m_St p R s m args c dC dI cA τ rn rx A nL own cc) {r n : Nat} {i : Int32} (hr : σ.1 r = some (.inr (.boolean, n))) (hi : j_in i n) (hdg : decode cc pc = .ok (.baload, 1)) (kk : m_at p l e R s m args below meth c Q dC dI cA τ rn rx A nL nb lb ρ0 (pc + 1) (L) (.int (σ.2.2.1 r i.toNatClampNeg) :: st) (σ)) : m_at p l e R s m args below meth c Q dC dI cA τ rn rx A nL nb lb ρ0 (pc) (L) (.int i :: .ref r :: st) (σ) := by
  intro ρ H locs cells slots ls hI hc hs hL hw
  have h9 := kk ρ H locs cells slots ls hI hc hs hL (m_wi (m_wt (m_wt hw)))
  rcases m_inr2 hI.2.2.2 hr with hrn | ⟨k, hk, rfl⟩
  · have hrb : r < j_b := Nat.lt_of_lt_of_le hrn hI.2.2.2.2.1
    have e1 : m_v ρ τ (.ref r) = .ref (ρ r) := by show Value.ref (m_ad ρ τ r) = _; rw [m_ad_lt hrb]
    rw [List.map_cons, List.map_cons, e1]
    exact va_zald hS.1 hS.2.1 hS.2.2.2.2.1 hI.1 r 2 ((m_ws_get hrn).trans (by rw [m_E_arr hr]; rfl)) rfl (m_vin hi) hdg h9
  · rw [(hI.2.2.2.2.2.1 k hk).1] at hr
    cases hr
theorem m_lald (hS : m_St p R s m args c dC dI cA τ rn rx A nL own cc) {r n : Nat} {i : Int32} (hr : σ.1 r = some (.inr (.long, n))) (hi : j_in i n) (hdg : decode cc pc = .ok (.laload, 1)) (kk : m_at p l e R s m args below meth c Q dC dI cA τ rn rx A nL nb lb ρ0 (pc + 1) (L) (.long (σ.2.2.2.1 r i.toNatClampNeg) :: st) (σ)) : m_at p l e R s m args below meth c Q dC dI cA τ rn rx A nL nb lb ρ0 (pc) (L) (.int i :: .ref r :: st) (σ) := by
  intro ρ H locs cells slots ls hI hc hs hL hw
  have h9 := kk ρ H locs cells slots ls hI hc hs hL (m_wj (m_wt (m_wt hw)))
  rcases m_inr2 hI.2.2.2 hr with hrn | ⟨k, hk, rfl⟩
  · have hrb : r < j_b := Nat.lt_of_lt_of_le hrn hI.2.2.2.2.1
    have e1 : m_v ρ τ (.ref r) = .ref (ρ r) := by show Value.ref (m_ad ρ τ r) = _; rw [m_ad_lt hrb]
    rw [List.map_cons, List.map_cons, e1]
    exact va_lald hS.1 hS.2.1 hS.2.2.2.2.1 hI.1 r 3 ((m_ws_get hrn).trans (by rw [m_E_arr hr]; rfl)) rfl (m_vin hi) hdg h9
  · rw [(hI.2.2.2.2.2.1 k hk).1] at hr
    cases hr
theorem m_aald (hS : m_St p R s m args c dC dI cA τ rn rx A nL own cc) {r n q t0 : Nat} {ty : FieldType} {i : Int32} (hr : σ.1 r = some (.inr (ty, n))) (ht : (m_tys cA)[t0]? = some (cA ty, ty)) (hty : (∃ C, ty = .object C) ∨ ∃ t, ty = .array t) (hi : j_in i n) (hq : σ.2.1 r i.toNatClampNeg = some q) (hdg : decode cc pc = .ok (.aaload, 1)) (kk : m_at p l e R s m args below meth c Q dC dI cA τ rn rx A nL nb lb ρ0 (pc + 1) (L) (.ref q :: st) (σ)) : m_at p l e R s m args below meth c Q dC dI cA τ rn rx A nL nb lb ρ0 (pc) (L) (.int i :: .ref r :: st) (σ) := by
  intro ρ H locs cells slots ls hI hc hs hL hw
  rcases m_inr2 hI.2.2.2 hr with hrn | ⟨k, hk, rfl⟩
  · have hrb : r < j_b := Nat.lt_of_lt_of_le hrn hI.2.2.2.2.1
    have e1 : m_v ρ τ (.ref r) = .ref (ρ r) := by show Value.ref (m_ad ρ τ r) = _; rw [m_ad_lt hrb]
    have h9 := kk ρ H locs cells slots ls hI hc hs hL (m_wr (hI.2.2.2.2.2.2 r _ q hrn hq) (m_wt (m_wt hw)))
    rw [List.map_cons, List.map_cons, e1]
    have hE : (m_ws cA ρ τ σ)[r]? = some (ρ r, .inl (cA ty, n, .inr (.inr (.inr (.inr fun k => m_rf ρ τ (σ.2.1 r k)))))) := (m_ws_get hrn).trans (by rw [m_E_arr hr]; rcases hty with ⟨C, rfl⟩ | ⟨t, rfl⟩ <;> rfl)
    exact W.aald (v := m_v ρ τ (.ref q)) (ty := ty) hS.1 hS.2.1 (hI.1 r _ hE) ((hS.2.2.2.2.1.2 t0 _ ht).1 n (fun j => va_rf (m_rf ρ τ (σ.2.1 r j)))) (by rcases hty with ⟨C, rfl⟩ | ⟨t, rfl⟩ <;> rfl) (fun q => by cases q) (by show ¬ (i < 0 ∨ (arrV _ _ _).slots.size ≤ _); rw [arrV_size]; exact m_vin hi) (by show (arrV _ _ _).slots[_]? = _; rw [arrV_read _ _ hi.2]; show some (va_rf (m_rf ρ τ (σ.2.1 r i.toNatClampNeg))) = _; rw [hq]; rfl) rfl rfl hdg h9
  · rw [(hI.2.2.2.2.2.1 k hk).1] at hr
    cases hr
    rcases hty with ⟨C, h⟩ | ⟨t, h⟩ <;> cases h
theorem m_iast (hS : m_St p R s m args c dC dI cA τ rn rx A nL own cc) {r n : Nat} {i : Int32} {x : Int32} (hr : σ.1 r = some (.inr (.int, n))) (hrb : r < j_b) (hi : j_in i n) (hdg : decode cc pc = .ok (.iastore, 1)) (kk : m_at p l e R s m args below meth c Q dC dI cA τ rn rx A nL nb lb ρ0 (pc + 1) (L) (st) (s_uI σ r i.toNatClampNeg x)) : m_at p l e R s m args below meth c Q dC dI cA τ rn rx A nL nb lb ρ0 (pc) (L) (.int x :: .int i :: .ref r :: st) (σ) := by
  intro ρ H locs cells slots ls hI hc hs hL hw
  have hrn := m_inr hI.2.2.2 hr hrb
  have e1 : m_v ρ τ (.ref r) = .ref (ρ r) := by show Value.ref (m_ad ρ τ r) = _; rw [m_ad_lt hrb]
  have hoo : ∀ q, q ≠ r → m_E cA ρ τ (s_uI σ r i.toNatClampNeg x) q = m_E cA ρ τ σ q := fun q hq => m_E_ext rfl (fun _ => rfl) (u2_row hq) rfl
  have hE : m_E cA ρ τ (s_uI σ r i.toNatClampNeg x) r = .inl (cA .int, n, .inl (upd (σ.2.2.1 r) i.toNatClampNeg x)) := by
    rw [m_E_arr (σ := s_uI σ r i.toNatClampNeg x) hr]
    show Sum.inl (cA .int, n, _) = _
    congr 3
    exact congrArg Sum.inl (u2_self _ _ _ _)
  have hset := m_ws_set (cA := cA) (ρ := ρ) (τ := τ) (σ := σ) (σ' := s_uI σ r i.toNatClampNeg x) (r := r) rfl hoo hE.symm
  rw [List.map_cons, List.map_cons, List.map_cons, e1]
  refine va_iast hS.1 hS.2.1 hS.2.2.2.2.1 hI.1 hI.2.1 hI.2.2.1 r 0 ((m_ws_get hrn).trans (by rw [m_E_arr hr]; rfl)) rfl (m_vin hi) hdg (fun H1 locs1 g1 g2 g3 => ?_)
  rw [hset] at g1 g2
  exact kk ρ H1 locs1 cells slots ls ⟨g1, g2, g3, m_Wf_uI hrb hI.2.2.2⟩ hc hs hL (m_wt (m_wt (m_wt hw)))
theorem m_bast (hS : m_St p R s m args c dC dI cA τ rn rx A nL own cc) {r n : Nat} {i : Int32} {x : Int32} (hr : σ.1 r = some (.inr (.byte, n))) (hrb : r < j_b) (hi : j_in i n) (hdg : decode cc pc = .ok (.bastore, 1)) (kk : m_at p l e R s m args below meth c Q dC dI cA τ rn rx A nL nb lb ρ0 (pc + 1) (L) (st) (s_uI σ r i.toNatClampNeg x.toInt8.toInt32)) : m_at p l e R s m args below meth c Q dC dI cA τ rn rx A nL nb lb ρ0 (pc) (L) (.int x :: .int i :: .ref r :: st) (σ) := by
  intro ρ H locs cells slots ls hI hc hs hL hw
  have hrn := m_inr hI.2.2.2 hr hrb
  have e1 : m_v ρ τ (.ref r) = .ref (ρ r) := by show Value.ref (m_ad ρ τ r) = _; rw [m_ad_lt hrb]
  have hoo : ∀ q, q ≠ r → m_E cA ρ τ (s_uI σ r i.toNatClampNeg x.toInt8.toInt32) q = m_E cA ρ τ σ q := fun q hq => m_E_ext rfl (fun _ => rfl) (u2_row hq) rfl
  have hE : m_E cA ρ τ (s_uI σ r i.toNatClampNeg x.toInt8.toInt32) r = .inl (cA .byte, n, .inl (upd (σ.2.2.1 r) i.toNatClampNeg (vp_nar .byte x))) := by
    rw [m_E_arr (σ := s_uI σ r i.toNatClampNeg x.toInt8.toInt32) hr]
    show Sum.inl (cA .byte, n, _) = _
    congr 3
    rw [vp_nar_byte]; exact congrArg Sum.inl (u2_self _ _ _ _)
  have hset := m_ws_set (cA := cA) (ρ := ρ) (τ := τ) (σ := σ) (σ' := s_uI σ r i.toNatClampNeg x.toInt8.toInt32) (r := r) rfl hoo hE.symm
  rw [List.map_cons, List.map_cons, List.map_cons, e1]
  refine va_bast hS.1 hS.2.1 hS.2.2.2.2.1 hI.1 hI.2.1 hI.2.2.1 r 1 ((m_ws_get hrn).trans (by rw [m_E_arr hr]; rfl)) rfl (m_vin hi) hdg (fun H1 locs1 g1 g2 g3 => ?_)
  rw [hset] at g1 g2
  exact kk ρ H1 locs1 cells slots ls ⟨g1, g2, g3, m_Wf_uI hrb hI.2.2.2⟩ hc hs hL (m_wt (m_wt (m_wt hw)))
theorem m_zast (hS : m_St p R s m args c dC dI cA τ rn rx A nL own cc) {r n : Nat} {i : Int32} {x : Int32} (hx : x = 0 ∨ x = 1) (hr : σ.1 r = some (.inr (.boolean, n))) (hrb : r < j_b) (hi : j_in i n) (hdg : decode cc pc = .ok (.bastore, 1)) (kk : m_at p l e R s m args below meth c Q dC dI cA τ rn rx A nL nb lb ρ0 (pc + 1) (L) (st) (s_uI σ r i.toNatClampNeg x)) : m_at p l e R s m args below meth c Q dC dI cA τ rn rx A nL nb lb ρ0 (pc) (L) (.int x :: .int i :: .ref r :: st) (σ) := by
  intro ρ H locs cells slots ls hI hc hs hL hw
  have hrn := m_inr hI.2.2.2 hr hrb
  have e1 : m_v ρ τ (.ref r) = .ref (ρ r) := by show Value.ref (m_ad ρ τ r) = _; rw [m_ad_lt hrb]
  have hoo : ∀ q, q ≠ r → m_E cA ρ τ (s_uI σ r i.toNatClampNeg x) q = m_E cA ρ τ σ q := fun q hq => m_E_ext rfl (fun _ => rfl) (u2_row hq) rfl
  have hE : m_E cA ρ τ (s_uI σ r i.toNatClampNeg x) r = .inl (cA .boolean, n, .inl (upd (σ.2.2.1 r) i.toNatClampNeg (vp_nar .boolean x))) := by
    rw [m_E_arr (σ := s_uI σ r i.toNatClampNeg x) hr]
    show Sum.inl (cA .boolean, n, _) = _
    congr 3
    rw [show vp_nar .boolean x = x from by rcases hx with rfl | rfl <;> decide]; exact congrArg Sum.inl (u2_self _ _ _ _)
  have hset := m_ws_set (cA := cA) (ρ := ρ) (τ := τ) (σ := σ) (σ' := s_uI σ r i.toNatClampNeg x) (r := r) rfl hoo hE.symm
  rw [List.map_cons, List.map_cons, List.map_cons, e1]
  refine va_zast hS.1 hS.2.1 hS.2.2.2.2.1 hI.1 hI.2.1 hI.2.2.1 r 2 ((m_ws_get hrn).trans (by rw [m_E_arr hr]; rfl)) rfl (m_vin hi) hdg (fun H1 locs1 g1 g2 g3 => ?_)
  rw [hset] at g1 g2
  exact kk ρ H1 locs1 cells slots ls ⟨g1, g2, g3, m_Wf_uI hrb hI.2.2.2⟩ hc hs hL (m_wt (m_wt (m_wt hw)))
theorem m_last (hS : m_St p R s m args c dC dI cA τ rn rx A nL own cc) {r n : Nat} {i : Int32} {x : Int64} (hr : σ.1 r = some (.inr (.long, n))) (hrb : r < j_b) (hi : j_in i n) (hdg : decode cc pc = .ok (.lastore, 1)) (kk : m_at p l e R s m args below meth c Q dC dI cA τ rn rx A nL nb lb ρ0 (pc + 1) (L) (st) (s_uJ σ r i.toNatClampNeg x)) : m_at p l e R s m args below meth c Q dC dI cA τ rn rx A nL nb lb ρ0 (pc) (L) (.long x :: .int i :: .ref r :: st) (σ) := by
  intro ρ H locs cells slots ls hI hc hs hL hw
  have hrn := m_inr hI.2.2.2 hr hrb
  have e1 : m_v ρ τ (.ref r) = .ref (ρ r) := by show Value.ref (m_ad ρ τ r) = _; rw [m_ad_lt hrb]
  have hoo : ∀ q, q ≠ r → m_E cA ρ τ (s_uJ σ r i.toNatClampNeg x) q = m_E cA ρ τ σ q := fun q hq => m_E_ext rfl (fun _ => rfl) rfl (u2_row hq)
  have hE : m_E cA ρ τ (s_uJ σ r i.toNatClampNeg x) r = .inl (cA .long, n, .inr (.inl (vp_updL (σ.2.2.2.1 r) i.toNatClampNeg x))) := by
    rw [m_E_arr (σ := s_uJ σ r i.toNatClampNeg x) hr]
    show Sum.inl (cA .long, n, _) = _
    congr 3
    exact congrArg (fun z => Sum.inr (Sum.inl z)) (u2_self _ _ _ _)
  have hset := m_ws_set (cA := cA) (ρ := ρ) (τ := τ) (σ := σ) (σ' := s_uJ σ r i.toNatClampNeg x) (r := r) rfl hoo hE.symm
  rw [List.map_cons, List.map_cons, List.map_cons, e1]
  refine va_last hS.1 hS.2.1 hS.2.2.2.2.1 hI.1 hI.2.1 hI.2.2.1 r 3 ((m_ws_get hrn).trans (by rw [m_E_arr hr]; rfl)) rfl (m_vin hi) hdg (fun H1 locs1 g1 g2 g3 => ?_)
  rw [hset] at g1 g2
  exact kk ρ H1 locs1 cells slots ls ⟨g1, g2, g3, m_Wf_uJ hI.2.2.2⟩ hc hs hL (m_wt (m_wt (m_wt hw)))
theorem m_astq (hS : m_St p R s m args c dC dI cA τ rn rx A nL own cc) {r n v : Nat} {i : Int32} (hr : σ.1 r = some (.inr (.object RX0, n))) (hrb : r < j_b) (hv : σ.1 v = some (.inl 0)) (hvb : v < j_b) (hi : j_in i n) (hdg : decode cc pc = .ok (.aastore, 1)) (kk : m_at p l e R s m args below meth c Q dC dI cA τ rn rx A nL nb lb ρ0 (pc + 1) (L) (st) (s_uP σ r i.toNatClampNeg (some v))) : m_at p l e R s m args below meth c Q dC dI cA τ rn rx A nL nb lb ρ0 (pc) (L) (.ref v :: .int i :: .ref r :: st) (σ) := by
  intro ρ H locs cells slots ls hI hc hs hL hw
  have hrn := m_inr hI.2.2.2 hr hrb
  have hvn := m_inr hI.2.2.2 hv hvb
  have e1 : m_v ρ τ (.ref r) = .ref (ρ r) := by show Value.ref (m_ad ρ τ r) = _; rw [m_ad_lt hrb]
  have e2 : m_v ρ τ (.ref v) = .ref (ρ v) := by show Value.ref (m_ad ρ τ v) = _; rw [m_ad_lt hvb]
  have hoo : ∀ q, q ≠ r → m_E cA ρ τ (s_uP σ r i.toNatClampNeg (some v)) q = m_E cA ρ τ σ q := fun q hq => m_E_ext rfl (fun j => by show m_rf ρ τ (u2 _ _ _ _ q j) = _; rw [u2_row hq]) rfl rfl
  have hE : m_E cA ρ τ (s_uP σ r i.toNatClampNeg (some v)) r = .inl (cA (.object RX0), n, .inr (.inr (.inr (.inr (va_up (fun k => m_rf ρ τ (σ.2.1 r k)) i.toNatClampNeg (some (ρ v))))))) := by
    rw [m_E_arr (σ := s_uP σ r i.toNatClampNeg (some v)) hr]
    show Sum.inl (cA (.object RX0), n, Sum.inr (Sum.inr (Sum.inr (Sum.inr (fun k => m_rf ρ τ (u2 σ.2.1 r i.toNatClampNeg (some v) r k)))))) = _
    congr 7
    funext k
    rw [u2_self]
    unfold va_up u1
    split
    · show some (m_ad ρ τ v) = _; rw [m_ad_lt hvb]
    · rfl
  have hset := m_ws_set (cA := cA) (ρ := ρ) (τ := τ) (σ := σ) (σ' := s_uP σ r i.toNatClampNeg (some v)) (r := r) rfl hoo hE.symm
  rw [List.map_cons, List.map_cons, List.map_cons, e1, e2]
  refine va_astq (r := (RX0, TX0, 10)) hS.1 hS.2.1 hS.2.2.2.2.1 hI.1 hI.2.1 hI.2.2.1 r 4 v 0 ((m_ws_get hrn).trans (by rw [m_E_arr hr]; rfl)) rfl ((m_ws_get hvn).trans (by rw [m_E_obj hv])) rfl (m_vin hi) hdg (fun H1 locs1 g1 g2 g3 => ?_)
  rw [hset] at g1 g2
  exact kk ρ H1 locs1 cells slots ls ⟨g1, g2, g3, m_Wf_uP (Or.inl hvn) hI.2.2.2⟩ hc hs hL (m_wt (m_wt (m_wt hw)))
theorem m_alen (hS : m_St p R s m args c dC dI cA τ rn rx A nL own cc) {r n t0 : Nat} {ty : FieldType} (hr : σ.1 r = some (.inr (ty, n))) (ht : (m_tys cA)[t0]? = some (cA ty, ty)) (hdg : decode cc pc = .ok (.arraylength, 1)) (kk : m_at p l e R s m args below meth c Q dC dI cA τ rn rx A nL nb lb ρ0 (pc + 1) (L) (.int (Int32.ofNat n) :: st) (σ)) : m_at p l e R s m args below meth c Q dC dI cA τ rn rx A nL nb lb ρ0 (pc) (L) (.ref r :: st) (σ) := by
  intro ρ H locs cells slots ls hI hc hs hL hw
  have h9 := kk ρ H locs cells slots ls hI hc hs hL (m_wi (m_wt hw))
  rcases m_inr2 hI.2.2.2 hr with hrn | ⟨k, hk, rfl⟩
  · have hrb : r < j_b := Nat.lt_of_lt_of_le hrn hI.2.2.2.2.1
    have e1 : m_v ρ τ (.ref r) = .ref (ρ r) := by show Value.ref (m_ad ρ τ r) = _; rw [m_ad_lt hrb]
    rw [List.map_cons, e1]
    exact va_alen (x := (n, m_ar ρ τ σ r ty)) hS.1 hS.2.1 hS.2.2.2.2.1 hI.1 r t0 ((m_ws_get hrn).trans (by rw [m_E_arr hr])) ht rfl hdg h9
  · obtain ⟨cell, g1, g2, g3, g4, g5, g6, g7⟩ := hS.2.2.2.2.2.1.2 k hk
    obtain ⟨w1, w2⟩ := hI.2.2.2.2.2.1 k hk
    have e2 : rn k = n := by rw [w1] at hr; cases hr; rfl
    have g8 : H[τ k]? = some cell := (hI.2.2.1.2.1 (τ k) (Array.getElem?_eq_some_iff.mp g1).1 g7).trans g1
    have e1 : m_v ρ τ (.ref (j_b + k)) = .ref (τ k) := by show Value.ref (m_ad ρ τ _) = _; rw [m_ad_ro]
    rw [List.map_cons, e1]
    rw [e2] at g5
    exact W.alen (n := Int32.ofNat n) hS.1 hS.2.1 g8 g2 g5 rfl rfl hdg h9
theorem m_gets (hS : m_St p R s m args c dC dI cA τ rn rx A nL own cc) {k idx : Nat} (hk : k < 4) (hl : Jvm.Cond.fieldLink (j_CN own) idx (j_sC k) (j_sN k) "[I" ∈ j_ws) (hdg : decode cc pc = .ok (.getstatic idx, 3)) (kk : m_at p l e R s m args below meth c Q dC dI cA τ rn rx A nL nb lb ρ0 (pc + 3) (L) (.ref (j_b + k) :: st) (σ)) : m_at p l e R s m args below meth c Q dC dI cA τ rn rx A nL nb lb ρ0 (pc) (L) (st) (σ) := by
  intro ρ H locs cells slots ls hI hc hs hL hw
  have h9 := kk ρ H locs cells slots ls hI hc hs hL (m_wr (Or.inr (by omega)) hw)
  rw [List.map_cons, show m_v ρ τ (.ref (j_b + k)) = .ref (τ k) from by show Value.ref (m_ad ρ τ _) = _; rw [m_ad_ro]] at h9
  exact va_gets hS.1 hS.2.1 (hS.2.2.2.2.2.1.1.2 k hk) hI.2.2.1 hS.2.2.1 (hS.2.2.2.1 _ hl) (fun _ h => h) hdg h9
theorem m_abs (hS : m_St p R s m args c dC dI cA τ rn rx A nL own cc) {idx : Nat} {x : Int32} (hl : Jvm.Cond.methodLink (j_CN own) idx Lib.Math.abs.name ∈ j_ws) (hn2 : Jvm.Cond.static Lib.Math.abs.name ∈ j_ws) (hn3 : Jvm.Cond.initialized "java/lang/Math" ∈ j_ws) (hn4 : Jvm.Cond.code Lib.Math.abs.name Lib.Math.abs.code 1 (some .int) ∈ j_ws) (hcat : (st.map fun v => v.category).sum ≤ 8) (hRc : s_n σ ≤ R.cells + nb) (hRs : s_l σ ≤ R.slots + lb) (hdg : decode cc pc = .ok (.invokestatic idx, 3)) (kk : m_at p l e R s m args below meth c Q dC dI cA τ rn rx A nL nb lb ρ0 (pc + 3) (L) (.int (j_abs x) :: st) (σ)) : m_at p l e R s m args below meth c Q dC dI cA τ rn rx A nL nb lb ρ0 (pc) (L) (.int x :: st) (σ) := by
  intro ρ H locs cells slots ls hI hc hs hL hw
  have h9 := kk ρ H locs cells slots ls hI hc hs hL (m_wi (m_wt hw))
  have hcm : ((st.map (m_v ρ τ)).map fun v => v.category) = st.map fun v => v.category := by rw [List.map_map]; exact List.map_congr_left fun v _ => m_v_cat ρ τ v
  have hRl := hS.2.2.2.2.2.2.2.2.2
  exact va_mabs hS.1 hS.2.1 (hS.2.2.2.2.2.2.2.1.trans (m_LR_sz hL).symm) hS.2.2.1 (hS.2.2.2.1 _ hl) (hS.2.2.2.1 _ hn2) (hS.2.2.2.1 _ hn3) (hS.2.2.2.1 _ hn4) hS.2.2.2.2.2.2.2.2.1 (by rw [hcm]; omega) (by omega) (by omega) hdg h9
theorem m_min (hS : m_St p R s m args c dC dI cA τ rn rx A nL own cc) {idx : Nat} {x y : Int32} (hl : Jvm.Cond.methodLink (j_CN own) idx Lib.Math.min.name ∈ j_ws) (hn2 : Jvm.Cond.static Lib.Math.min.name ∈ j_ws) (hn3 : Jvm.Cond.initialized "java/lang/Math" ∈ j_ws) (hn4 : Jvm.Cond.code Lib.Math.min.name Lib.Math.min.code 2 (some .int) ∈ j_ws) (hcat : (st.map fun v => v.category).sum ≤ 8) (hRc : s_n σ ≤ R.cells + nb) (hRs : s_l σ ≤ R.slots + lb) (hdg : decode cc pc = .ok (.invokestatic idx, 3)) (kk : m_at p l e R s m args below meth c Q dC dI cA τ rn rx A nL nb lb ρ0 (pc + 3) (L) (.int (j_min x y) :: st) (σ)) : m_at p l e R s m args below meth c Q dC dI cA τ rn rx A nL nb lb ρ0 (pc) (L) (.int y :: .int x :: st) (σ) := by
  intro ρ H locs cells slots ls hI hc hs hL hw
  have h9 := kk ρ H locs cells slots ls hI hc hs hL (m_wi (m_wt (m_wt hw)))
  have hcm : ((st.map (m_v ρ τ)).map fun v => v.category) = st.map fun v => v.category := by rw [List.map_map]; exact List.map_congr_left fun v _ => m_v_cat ρ τ v
  have hRl := hS.2.2.2.2.2.2.2.2.2
  exact va_mmin hS.1 hS.2.1 (hS.2.2.2.2.2.2.2.1.trans (m_LR_sz hL).symm) hS.2.2.1 (hS.2.2.2.1 _ hl) (hS.2.2.2.1 _ hn2) (hS.2.2.2.1 _ hn3) (hS.2.2.2.1 _ hn4) hS.2.2.2.2.2.2.2.2.1 (by rw [hcm]; omega) (by omega) (by omega) hdg h9
theorem m_copy (hS : m_St p R s m args c dC dI cA τ rn rx A nL own cc) {r d n0 n1 idx : Nat} {sp dp n : Int32} (hl : Jvm.Cond.methodLink (j_CN own) idx arraycopyName ∈ j_ws) (hn1 : Jvm.Cond.native arraycopyName ∈ j_ws) (hn2 : Jvm.Cond.static arraycopyName ∈ j_ws) (hn3 : Jvm.Cond.initialized "java/lang/System" ∈ j_ws) (hr : σ.1 r = some (.inr (.int, n0))) (hd : σ.1 d = some (.inr (.int, n1))) (hrb : r < j_b) (hdb : d < j_b) (h1 : ¬ sp < 0) (h2 : ¬ dp < 0) (h3 : ¬ n < 0) (h4 : sp.toNatClampNeg + n.toNatClampNeg ≤ n0) (h5 : dp.toNatClampNeg + n.toNatClampNeg ≤ n1) (hcat : (st.map fun v => v.category).sum ≤ 8) (hdg : decode cc pc = .ok (.invokestatic idx, 3)) (kk : m_at p l e R s m args below meth c Q dC dI cA τ rn rx A nL nb lb ρ0 (pc + 3) (L) (st) (s_rI σ d (va_cpy (σ.2.2.1 r) (σ.2.2.1 d) sp.toNatClampNeg dp.toNatClampNeg n.toNatClampNeg))) : m_at p l e R s m args below meth c Q dC dI cA τ rn rx A nL nb lb ρ0 (pc) (L) (.int n :: .int dp :: .ref d :: .int sp :: .ref r :: st) (σ) := by
  intro ρ H locs cells slots ls hI hc hs hL hw
  have hrn := m_inr hI.2.2.2 hr hrb
  have hdn := m_inr hI.2.2.2 hd hdb
  have e1 : m_v ρ τ (.ref r) = .ref (ρ r) := by show Value.ref (m_ad ρ τ r) = _; rw [m_ad_lt hrb]
  have e2 : m_v ρ τ (.ref d) = .ref (ρ d) := by show Value.ref (m_ad ρ τ d) = _; rw [m_ad_lt hdb]
  generalize hf : va_cpy (σ.2.2.1 r) (σ.2.2.1 d) sp.toNatClampNeg dp.toNatClampNeg n.toNatClampNeg = f at kk
  have hoo : ∀ q, q ≠ d → m_E cA ρ τ (s_rI σ d f) q = m_E cA ρ τ σ q := fun q hq => m_E_ext rfl (fun _ => rfl) (u1_ne hq) rfl
  have hE : m_E cA ρ τ (s_rI σ d f) d = .inl (cA .int, n1, .inl f) := by
    rw [m_E_arr (σ := s_rI σ d f) hd]
    show Sum.inl (cA .int, n1, Sum.inl (u1 σ.2.2.1 d f d)) = _
    rw [u1_same]
  have hset := m_ws_set (cA := cA) (ρ := ρ) (τ := τ) (σ := σ) (σ' := s_rI σ d f) (r := d) rfl hoo hE.symm
  have hcm : ((st.map (m_v ρ τ)).map fun v => v.category) = st.map fun v => v.category := by rw [List.map_map]; exact List.map_congr_left fun v _ => m_v_cat ρ τ v
  rw [List.map_cons, List.map_cons, List.map_cons, List.map_cons, List.map_cons, e1, e2]
  have hRl := hS.2.2.2.2.2.2.2.2.2
  refine va_copyi hS.1 hS.2.1 (hS.2.2.2.2.2.2.2.1.trans (m_LR_sz hL).symm) hS.2.2.1 (hS.2.2.2.1 _ hl) (hS.2.2.2.1 _ hn1) (hS.2.2.2.1 _ hn2) (hS.2.2.2.1 _ hn3) hS.2.2.2.2.1 hI.1 hI.2.1 hI.2.2.1 r d 0 0 ((m_ws_get hrn).trans (by rw [m_E_arr hr]; rfl)) ((m_ws_get hdn).trans (by rw [m_E_arr hd]; rfl)) rfl rfl rfl h1 h2 h3 h4 h5 (fun _ _ => rfl) hS.2.2.2.2.2.2.2.2.1 (by rw [hcm]; have : nativeFrameWords "java/lang/System" "arraycopy" 5 = 7 := (by decide); omega) hdg (fun H1 locs1 g1 g2 g3 => ?_)
  rw [hf, hset] at g1 g2
  exact kk ρ H1 locs1 cells slots ls ⟨g1, g2, g3, m_Wf_rI hdb hI.2.2.2⟩ hc hs hL (m_wt (m_wt (m_wt (m_wt (m_wt hw)))))
theorem m_objInit (hS : m_St p R s m args c dC dI cA τ rn rx A nL own cc) {r idx : Nat} (hl : Jvm.Cond.methodLink (j_CN own) idx Lib.objectInit ∈ j_ws) (hn1 : Jvm.Cond.instanceMethod Lib.objectInit ∈ j_ws) (hn2 : Jvm.Cond.code Lib.objectInit ⟨#[0xb1]⟩ 1 none ∈ j_ws) (hcat : (st.map fun v => v.category).sum ≤ 8) (hdg : decode cc pc = .ok (.invokespecial idx, 3)) (kk : m_at p l e R s m args below meth c Q dC dI cA τ rn rx A nL nb lb ρ0 (pc + 3) (L) (st) (σ)) : m_at p l e R s m args below meth c Q dC dI cA τ rn rx A nL nb lb ρ0 (pc) (L) (.ref r :: st) (σ) := by
  intro ρ H locs cells slots ls hI hc hs hL hw
  have hcm : ((st.map (m_v ρ τ)).map fun v => v.category) = st.map fun v => v.category := by rw [List.map_map]; exact List.map_congr_left fun v _ => m_v_cat ρ τ v
  have hRl := hS.2.2.2.2.2.2.2.2.2
  exact W.objInit hS.1 hS.2.1 hS.2.2.1 (hS.2.2.2.1 _ hl) (hS.2.2.2.1 _ hn1) (hS.2.2.2.1 _ hn2) rfl ((m_LR_sz hL).trans hS.2.2.2.2.2.2.2.1.symm) rfl hdg hS.2.2.2.2.2.2.2.2.1 (by show 2 * 0 + _ + 12 ≤ _; rw [hcm]; omega) (kk ρ H locs cells slots ls hI hc hs hL (m_wt hw))
theorem m_rf_ext {ρ ρ' τ : Nat → Nat} {n : Nat} (h : ∀ r, r < n → ρ' r = ρ r) (hb : n ≤ j_b) {o : Option Nat} (ho : ∀ q, o = some q → q < n ∨ j_b ≤ q) : m_rf ρ' τ o = m_rf ρ τ o := by
  cases o with
  | none => rfl
  | some q =>
    have := m_v_ext (τ := τ) h hb (v := .ref q) (ho q rfl)
    show some (m_ad ρ' τ q) = some (m_ad ρ τ q)
    exact congrArg some (Value.ref.inj this)
/-- new cells behind the old ones -/
theorem m_ws_push {cA : FieldType → ClassId} {ρ ρ' τ rn : Nat → Nat} {rx : Nat → Nat → Int32} {σ σ' : Sto} {k : Nat} {ws : va_W} (hw : m_Wf rn rx σ) (hn : s_n σ' = s_n σ + k) (hρ : ∀ r, r < s_n σ → ρ' r = ρ r) (h1 : ∀ r, r < s_n σ → σ'.1 r = σ.1 r) (h2 : ∀ r, r < s_n σ → σ'.2.1 r = σ.2.1 r) (h3 : ∀ r, r < s_n σ → σ'.2.2.1 r = σ.2.2.1 r) (h4 : ∀ r, r < s_n σ → σ'.2.2.2.1 r = σ.2.2.2.1 r) (hl : ws.length = k) (hws : ∀ i, i < k → ws[i]? = some (ρ' (s_n σ + i), m_E cA ρ' τ σ' (s_n σ + i))) : m_ws cA ρ τ σ ++ ws = m_ws cA ρ' τ σ' := by
  apply List.ext_getElem?
  intro i
  by_cases hi : i < s_n σ
  · rw [List.getElem?_append_left (by rw [m_ws_len]; exact hi), m_ws_get hi, m_ws_get (show i < s_n σ' by omega), hρ i hi, m_E_ext (σ := σ) (σ' := σ') (ρ := ρ) (ρ' := ρ') (τ := τ) (h1 i hi) (fun j => by rw [h2 i hi]; exact m_rf_ext hρ hw.2.1 (fun q hq => hw.2.2.2 i j q hi hq)) (h3 i hi) (h4 i hi)]
  · rw [List.getElem?_append_right (by rw [m_ws_len]; omega), m_ws_len]
    by_cases hj : i - s_n σ < k
    · rw [hws _ hj, m_ws_get (show i < s_n σ' by omega), show s_n σ + (i - s_n σ) = i by omega]
    · rw [List.getElem?_eq_none (by omega), List.getElem?_eq_none (by rw [m_ws_len]; omega)]
theorem m_al_old {σ : Sto} {h : j_Sh} {n r : Nat} (hr : r ≠ s_n σ) : (s_al σ h n).1 r = σ.1 r ∧ (s_al σ h n).2.1 r = σ.2.1 r ∧ (s_al σ h n).2.2.1 r = σ.2.2.1 r ∧ (s_al σ h n).2.2.2.1 r = σ.2.2.2.1 r := ⟨u1_ne hr, u1_ne hr, u1_ne hr, u1_ne hr⟩
theorem m_al_new {σ : Sto} {h : j_Sh} {n : Nat} : (s_al σ h n).1 (s_n σ) = some h ∧ (s_al σ h n).2.1 (s_n σ) = (fun _ => none) ∧ (s_al σ h n).2.2.1 (s_n σ) = (fun _ => 0) ∧ (s_al σ h n).2.2.2.1 (s_n σ) = (fun _ => 0) := ⟨u1_same _ _ _, u1_same _ _ _, u1_same _ _ _, u1_same _ _ _⟩
theorem m_Wf_al {rn : Nat → Nat} {rx : Nat → Nat → Int32} {σ : Sto} {h : j_Sh} {n : Nat} (hb : s_n σ + 1 ≤ j_b) (hw : m_Wf rn rx σ) : m_Wf rn rx (s_al σ h n) := by
  refine ⟨fun r hr => ?_, hb, fun k hk => ?_, fun r k q hr hq => ?_⟩
  · by_cases e : r = s_n σ
    · exact Or.inl (by show r < s_n σ + 1; omega)
    · rw [(m_al_old e).1] at hr
      exact (hw.1 r hr).imp (fun z => by show r < s_n σ + 1; omega) id
  · have e : j_b + k ≠ s_n σ := by omega
    rw [(m_al_old e).1, (m_al_old e).2.2.1]
    exact hw.2.2.1 k hk
  · by_cases e : r = s_n σ
    · subst e
      rw [m_al_new.2.1] at hq
      cases hq
    · rw [(m_al_old e).2.1] at hq
      have hr' : r < s_n σ + 1 := hr
      exact (hw.2.2.2 r k q (by omega) hq).imp (fun z => by show q < s_n σ + 1; omega) id
theorem m_al_ws {cA : FieldType → ClassId} {ρ τ rn : Nat → Nat} {rx : Nat → Nat → Int32} {σ : Sto} {h : j_Sh} {n q : Nat} {e : va_E} (hw : m_Wf rn rx σ) (he : e = m_E cA (u1 ρ (s_n σ) q) τ (s_al σ h n) (s_n σ)) : m_ws cA ρ τ σ ++ [(q, e)] = m_ws cA (u1 ρ (s_n σ) q) τ (s_al σ h n) := by
  refine m_ws_push (k := 1) hw rfl (fun r hr => u1_ne (Nat.ne_of_lt hr)) (fun r hr => (m_al_old (Nat.ne_of_lt hr)).1) (fun r hr => (m_al_old (Nat.ne_of_lt hr)).2.1) (fun r hr => (m_al_old (Nat.ne_of_lt hr)).2.2.1) (fun r hr => (m_al_old (Nat.ne_of_lt hr)).2.2.2) rfl (fun i hi => ?_)
  have : i = 0 := by omega
  subst this
  rw [Nat.add_zero, u1_same, ← he]
  rfl
theorem m_new (hS : m_St p R s m args c dC dI cA τ rn rx A nL own cc) {ci n idx : Nat} (hci : ci < 8) (hn : n = j_nf ci) (hcl : Jvm.Cond.classLink (j_CN own) idx (j_CN ci) ∈ j_ws) (hin : Jvm.Cond.instantiable (j_CN ci) (j_nf ci) ∈ j_ws) (hini : Jvm.Cond.initialized (j_CN ci) ∈ j_ws) (hu : ∀ w ∈ u_ws (j_CN ci) (j_T ci) (j_nf ci), w ∈ j_ws) (hz : ∀ j, j < j_nf ci → defaultValue (j_ty ci j) = (if j_ty ci j = .long then .long 0 else if refKind (j_ty ci j) then .null else .int 0)) (hb : s_n σ + 1 ≤ j_b) (hRc : s_n σ + 1 ≤ R.cells + nb) (hRs : s_l σ + n ≤ R.slots + lb) (hdg : decode cc pc = .ok (.new idx, 3)) (kk : m_at p l e R s m args below meth c Q dC dI cA τ rn rx A nL nb lb ρ0 (pc + 3) (L) (.ref (s_n σ) :: st) (s_al σ (.inl ci) n)) : m_at p l e R s m args below meth c Q dC dI cA τ rn rx A nL nb lb ρ0 (pc) (L) (st) (σ) := by
  intro ρ H locs cells slots ls hI hc hs hL hw
  subst hn
  have hal := fun (q : Nat) (H1 : Heap) (e9 : va_E) (he : e9 = m_E cA (u1 ρ (s_n σ) q) τ (s_al σ (.inl ci) (j_nf ci)) (s_n σ)) (g1 : va_P (dC, dI) j_cls (m_ws cA ρ τ σ ++ [(q, e9)]) H1) (g2 : va_D A (m_ws cA ρ τ σ ++ [(q, e9)])) (g3 : va_S A s.heap H1 locs) => by
    rw [m_al_ws hI.2.2.2 he] at g1 g2
    have hρ : ∀ r, r < s_n σ → u1 ρ (s_n σ) q r = ρ r := fun r hr => u1_ne (Nat.ne_of_lt hr)
    have h9 := kk (u1 ρ (s_n σ) q) H1 locs (cells + 1) (slots + j_nf ci) ls ⟨g1, g2, g3, m_Wf_al (Nat.le_trans hb (Nat.le_refl _)) hI.2.2.2⟩ ⟨by show cells + 1 + nb = s_n σ + 1; omega, fun r hr => (hρ r (by omega)).trans (hc.2 r hr)⟩ (by show slots + j_nf ci + lb = s_l σ + j_nf ci; omega) (m_LR_ext hL (Nat.le_succ _) hI.2.2.2.2.1 hρ) (m_wr (Or.inl (Nat.lt_succ_self _)) (fun v hv => m_ok_le (Nat.le_succ _) (hw v hv)))
    rw [List.map_cons, show m_v (u1 ρ (s_n σ) q) τ (.ref (s_n σ)) = .ref q from by show Value.ref (m_ad _ τ _) = _; rw [m_ad_lt (by omega), u1_same], List.map_congr_left (g := m_v ρ τ) (fun v hv => m_v_ext hρ hI.2.2.2.2.1 (hw v hv))] at h9
    exact h9
  refine va_new (ci := ci) (fs := m_fs (fun _ => 0) τ (s_al σ (.inl ci) (j_nf ci)) (s_n σ) ci) hS.1 hS.2.1 hS.2.2.2.1 hu (j_ty ci) (j_ty_ok hci) hS.2.2.1 (hS.2.2.2.1 _ hcl) (hS.2.2.2.1 _ hin) (hS.2.2.2.1 _ hini) hS.2.2.2.2.1 hI.1 hI.2.1 hI.2.2.1 hS.2.2.2.2.2.2.1 (j_cls_get hci) (fun j hj => ?_) (by omega) (by omega) hdg (fun q H1 g1 g2 g3 => hal q H1 _ ?_ g1 g2 g3)
  · unfold vp_V
    rw [List.getD_eq_getElem?_getD, m_fs_get hj, hz j hj]
    unfold m_f
    rw [m_al_new.2.1, m_al_new.2.2.1, m_al_new.2.2.2]
    cases j_ty ci j <;> rfl
  · rw [m_E_obj m_al_new.1]
    congr 2
    unfold m_fs
    refine List.map_congr_left fun k hk => ?_
    unfold m_f
    rw [m_al_new.2.1, m_al_new.2.2.1, m_al_new.2.2.2]
    cases j_ty ci k <;> rfl
theorem m_newa (hS : m_St p R s m args c dC dI cA τ rn rx A nL own cc) {aty : ArrayType} {ty : FieldType} {t0 : Nat} {n : Int32} (hty : newarray.typeOf aty = ty) (ht : (m_tys cA)[t0]? = some (cA ty, ty)) (harr : Jvm.Cond.arrayClass ty ∈ j_ws) (hz : ∀ (cX : ClassId) (N : Nat) (σ' : Sto) (r : Nat) (ρ' : Nat → Nat), σ'.2.1 r = (fun _ => none) → σ'.2.2.1 r = (fun _ => 0) → σ'.2.2.2.1 r = (fun _ => 0) → vp_cell cX (N, m_ar ρ' τ σ' r ty) = arrV cX N (fun _ => defaultValue ty)) (hra : ∀ cX, va_RA s cX ty ↔ s.vm.findClass ("[" ++ ty.toString) = some cX) (hcb : componentBytes ty ≤ 8) (hn : ¬ n < 0) (hn2 : n.toNatClampNeg ≤ 100000) (hb : s_n σ + 1 ≤ j_b) (hRc : s_n σ + 1 ≤ R.cells + nb) (hRs : s_l σ + n.toNatClampNeg ≤ R.slots + lb) (hdg : decode cc pc = .ok (.newarray aty, 2)) (kk : m_at p l e R s m args below meth c Q dC dI cA τ rn rx A nL nb lb ρ0 (pc + 2) (L) (.ref (s_n σ) :: st) (s_al σ (.inr (ty, n.toNatClampNeg)) n.toNatClampNeg)) : m_at p l e R s m args below meth c Q dC dI cA τ rn rx A nL nb lb ρ0 (pc) (L) (.int n :: st) (σ) := by
  intro ρ H locs cells slots ls hI hc hs hL hw
  subst hty
  have hal := fun (q : Nat) (H1 : Heap) (e9 : va_E) (he : e9 = m_E cA (u1 ρ (s_n σ) q) τ (s_al σ (.inr (newarray.typeOf aty, n.toNatClampNeg)) n.toNatClampNeg) (s_n σ)) (g1 : va_P (dC, dI) j_cls (m_ws cA ρ τ σ ++ [(q, e9)]) H1) (g2 : va_D A (m_ws cA ρ τ σ ++ [(q, e9)])) (g3 : va_S A s.heap H1 locs) => by
    rw [m_al_ws hI.2.2.2 he] at g1 g2
    have hρ : ∀ r, r < s_n σ → u1 ρ (s_n σ) q r = ρ r := fun r hr => u1_ne (Nat.ne_of_lt hr)
    have h9 := kk (u1 ρ (s_n σ) q) H1 locs (cells + 1) (slots + n.toNatClampNeg) ls ⟨g1, g2, g3, m_Wf_al (Nat.le_trans hb (Nat.le_refl _)) hI.2.2.2⟩ ⟨by show cells + 1 + nb = s_n σ + 1; omega, fun r hr => (hρ r (by omega)).trans (hc.2 r hr)⟩ (by show slots + n.toNatClampNeg + lb = s_l σ + n.toNatClampNeg; omega) (m_LR_ext hL (Nat.le_succ _) hI.2.2.2.2.1 hρ) (m_wr (Or.inl (Nat.lt_succ_self _)) (fun v hv => m_ok_le (Nat.le_succ _) (m_wt hw v hv)))
    rw [List.map_cons, show m_v (u1 ρ (s_n σ) q) τ (.ref (s_n σ)) = .ref q from by show Value.ref (m_ad _ τ _) = _; rw [m_ad_lt (by omega), u1_same], List.map_congr_left (g := m_v ρ τ) (fun v hv => m_v_ext hρ hI.2.2.2.2.1 (m_wt hw v hv))] at h9
    exact h9
  rw [List.map_cons]
  refine va_newa (a0 := (n.toNatClampNeg, m_ar ρ τ (s_al σ (.inr (newarray.typeOf aty, n.toNatClampNeg)) n.toNatClampNeg) (s_n σ) (newarray.typeOf aty))) hS.1 hS.2.1 (hS.2.2.2.1 _ harr) rfl hS.2.2.2.2.1 hI.1 hI.2.1 hI.2.2.1 hS.2.2.2.2.2.2.1 (fun cX => hz cX _ _ _ ρ m_al_new.2.1 m_al_new.2.2.1 m_al_new.2.2.2) hn rfl (Nat.le_trans (Nat.mul_le_mul hn2 hcb) (Nat.le_of_ble_eq_true rfl)) (by omega) (by omega) hdg (fun q cX H1 gk g1 g2 g3 => hal q H1 _ ?_ g1 g2 g3)
  have e1 := (hra _).mp (gk.2 (m_tys cA).length _ (by rw [List.getElem?_append_right (Nat.le_refl _), Nat.sub_self]; rfl)).2
  have e2 := (hra _).mp (hS.2.2.2.2.1.2 t0 _ ht).2
  have e3 : cX = cA (newarray.typeOf aty) := Option.some.inj (e1.symm.trans e2)
  rw [m_E_arr m_al_new.1, e3]
  congr 3
  unfold m_ar m_rf
  rw [m_al_new.2.1, m_al_new.2.2.1, m_al_new.2.2.2]
  cases newarray.typeOf aty <;> rfl
theorem m_newq (hS : m_St p R s m args c dC dI cA τ rn rx A nL own cc) {n : Int32} {idx : Nat} (hcl : Jvm.Cond.classLink (j_CN own) idx RX0 ∈ j_ws) (hov : Jvm.Cond.arrayOver (.object RX0) ∈ lw_tbl) (hn : ¬ n < 0) (hn2 : n.toNatClampNeg ≤ 100000) (hb : s_n σ + 1 ≤ j_b) (hRc : s_n σ + 1 ≤ R.cells + nb) (hRs : s_l σ + n.toNatClampNeg ≤ R.slots + lb) (hdg : decode cc pc = .ok (.anewarray idx, 3)) (kk : m_at p l e R s m args below meth c Q dC dI cA τ rn rx A nL nb lb ρ0 (pc + 3) (L) (.ref (s_n σ) :: st) (s_al σ (.inr (.object RX0, n.toNatClampNeg)) n.toNatClampNeg)) : m_at p l e R s m args below meth c Q dC dI cA τ rn rx A nL nb lb ρ0 (pc) (L) (.int n :: st) (σ) := by
  intro ρ H locs cells slots ls hI hc hs hL hw
  have hal := fun (q : Nat) (H1 : Heap) (e9 : va_E) (he : e9 = m_E cA (u1 ρ (s_n σ) q) τ (s_al σ (.inr (.object RX0, n.toNatClampNeg)) n.toNatClampNeg) (s_n σ)) (g1 : va_P (dC, dI) j_cls (m_ws cA ρ τ σ ++ [(q, e9)]) H1) (g2 : va_D A (m_ws cA ρ τ σ ++ [(q, e9)])) (g3 : va_S A s.heap H1 locs) => by
    rw [m_al_ws hI.2.2.2 he] at g1 g2
    have hρ : ∀ r, r < s_n σ → u1 ρ (s_n σ) q r = ρ r := fun r hr => u1_ne (Nat.ne_of_lt hr)
    have h9 := kk (u1 ρ (s_n σ) q) H1 locs (cells + 1) (slots + n.toNatClampNeg) ls ⟨g1, g2, g3, m_Wf_al (Nat.le_trans hb (Nat.le_refl _)) hI.2.2.2⟩ ⟨by show cells + 1 + nb = s_n σ + 1; omega, fun r hr => (hρ r (by omega)).trans (hc.2 r hr)⟩ (by show slots + n.toNatClampNeg + lb = s_l σ + n.toNatClampNeg; omega) (m_LR_ext hL (Nat.le_succ _) hI.2.2.2.2.1 hρ) (m_wr (Or.inl (Nat.lt_succ_self _)) (fun v hv => m_ok_le (Nat.le_succ _) (m_wt hw v hv)))
    rw [List.map_cons, show m_v (u1 ρ (s_n σ) q) τ (.ref (s_n σ)) = .ref q from by show Value.ref (m_ad _ τ _) = _; rw [m_ad_lt (by omega), u1_same], List.map_congr_left (g := m_v ρ τ) (fun v hv => m_v_ext hρ hI.2.2.2.2.1 (m_wt hw v hv))] at h9
    exact h9
  rw [List.map_cons]
  refine va_newq (C := RX0) hS.1 hS.2.1 hS.2.2.1 (hS.2.2.2.1 _ hcl) (hS.2.2.2.2.2.1.1.1 _ hov rfl) hS.2.2.2.2.1 hI.1 hI.2.1 hI.2.2.1 hS.2.2.2.2.2.2.1 hn rfl (by omega) (by omega) (by omega) hdg (fun q cX H1 gk g1 g2 g3 => hal q H1 _ ?_ g1 g2 g3)
  have e1 := (gk.2 (m_tys cA).length _ (by rw [List.getElem?_append_right (Nat.le_refl _), Nat.sub_self]; rfl)).2
  have e2 := (hS.2.2.2.2.1.2 4 _ rfl).2
  obtain ⟨_, _, -, -, -, f1⟩ := e1
  obtain ⟨_, _, -, -, -, f2⟩ := e2
  have e3 : cX = cA (.object RX0) := Option.some.inj (f1.symm.trans f2)
  rw [m_E_arr m_al_new.1, e3]
  congr 3
  unfold m_ar m_rf
  rw [m_al_new.2.1]
  rfl
theorem m_outer (c : ClassId) (N h0 : Nat) : ∀ i : Nat, Jvm.Free.Multi.outerC c N h0 i = arrV c N (fun j => va_rf (if j < i then some (h0 + 1 + j) else none))
  | 0 => by
    show ({ cls := c, slots := Array.replicate N .null, vm := .none } : Cell) = _
    rw [arrV_new]
    refine congrArg (arrV c N) (funext fun j => ?_)
    simp [va_rf]
  | i + 1 => by
    show (Jvm.Free.Multi.outerC c N h0 i).setSlot i (.ref (h0 + 1 + i)) = _
    rw [m_outer c N h0 i, arrV_store]
    refine congrArg (arrV c N) (funext fun j => ?_)
    by_cases e : j = i
    · subst e
      simp [updV, va_rf]
    · by_cases h : j < i
      · simp [updV, e, h, Nat.lt_succ_of_lt h]
      · simp [updV, e, h, show ¬ j < i + 1 by omega]
theorem m_mnew (hS : m_St p R s m args c dC dI cA τ rn rx A nL own cc) {n k : Int32} {idx : Nat} (hcl : Jvm.Cond.classLink (j_CN own) idx "[[I" ∈ j_ws) (hov : Jvm.Cond.arrayOver (.array .int) ∈ lw_tbl) (har : Jvm.Cond.arrayClass .int ∈ j_ws) (hn : ¬ n < 0) (hk : ¬ k < 0) (hn2 : n.toNatClampNeg ≤ 1000) (hk2 : k.toNatClampNeg ≤ 1000) (hb : s_n σ + 1 + n.toNatClampNeg ≤ j_b) (hRc : s_n σ + 1 + n.toNatClampNeg ≤ R.cells + nb) (hRs : s_l σ + n.toNatClampNeg + n.toNatClampNeg * k.toNatClampNeg ≤ R.slots + lb) (hdg : decode cc pc = .ok (.multianewarray idx 2, 4)) (kk : m_at p l e R s m args below meth c Q dC dI cA τ rn rx A nL nb lb ρ0 (pc + 4) (L) (.ref (s_n σ) :: st) (s_mn σ n.toNatClampNeg k.toNatClampNeg)) : m_at p l e R s m args below meth c Q dC dI cA τ rn rx A nL nb lb ρ0 (pc) (L) (.int k :: .int n :: st) (σ) := by
  intro ρ H locs cells slots ls hI hc hs hL hw
  generalize hN : n.toNatClampNeg = N at hn2 hb hRc hRs kk
  generalize hM : k.toNatClampNeg = M at hk2 hRs kk
  have hcA : s.vm.findClass (FieldType.array .int).toString = some (cA .int) := (hS.2.2.2.2.1.2 0 _ rfl).2
  intro T hT Xs
  have hb9 : s.heap.size ≤ H.size := hI.2.2.1.1
  have hRl := hS.2.2.2.2.2.2.2.2.2
  subst hN
  subst hM
  obtain ⟨vm₁, cX, comp, -, fA, fC, hO, -, X', step⟩ := Xs.multianewarray2F (ty := .int) hS.1 hS.2.2.1 (hS.2.2.2.1 _ hcl) (show (Jvm.Cond.arrayOver (.array .int)).before args s = true from hS.2.2.2.2.2.1.1.1 _ hov rfl) (hS.2.2.2.1 _ har) (g := F0 m pc ls (.int k :: .int n :: st.map (m_v ρ τ))) rfl (by rw [hS.2.1]; exact hdg) rfl hn hk (by omega) (Nat.le_trans (Nat.mul_le_mul hk2 (show componentBytes .int ≤ 8 by decide)) (Nat.le_of_ble_eq_true rfl)) (by omega) rfl rfl (by omega) (by omega)
  have ec : some (cA .int) = some comp := hcA.symm.trans fC
  cases ec
  have eX : cX = cA (.array .int) := Option.some.inj (fA.symm.trans (hS.2.2.2.2.1.2 5 _ rfl).2)
  subst eX
  generalize hF : Jvm.Free.Multi.fill (T.setVm vm₁) (cA (.array .int)) (cA .int) n.toNatClampNeg k.toNatClampNeg (defaultValue .int) n.toNatClampNeg = F at X' step
  have hTh : (T.setVm vm₁).heap = H := hT
  obtain ⟨f1, f2, -, -⟩ := Jvm.Free.Multi.fill_facts (T.setVm vm₁) (cA (.array .int)) (cA .int) n.toNatClampNeg k.toNatClampNeg (defaultValue .int) n.toNatClampNeg
  rw [hF, hTh] at f1 f2
  have hold : ∀ x : Nat, x < H.size → F.heap[x]? = H[x]? := fun x hx => by
    have := Jvm.Free.Multi.fill_old (T.setVm vm₁) (cA (.array .int)) (cA .int) n.toNatClampNeg k.toNatClampNeg (defaultValue .int) (a := x) (by rw [hTh]; exact hx) n.toNatClampNeg
    rw [hF, hTh] at this
    exact this
  have hrow : ∀ j : Nat, j < n.toNatClampNeg → F.heap[H.size + 1 + j]? = some (vp_cell (cA .int) (k.toNatClampNeg, .inl (fun _ => 0))) := fun j hj => by
    have := Jvm.Free.Multi.fill_inner (T.setVm vm₁) (cA (.array .int)) (cA .int) n.toNatClampNeg k.toNatClampNeg (defaultValue .int) n.toNatClampNeg j hj
    rw [hF, hTh] at this
    rw [this, vp_cell_i, ← arrV_new]
    rfl
  have hout : Jvm.Free.Multi.outerC (cA (.array .int)) n.toNatClampNeg H.size n.toNatClampNeg = vp_cell (cA (.array .int)) (n.toNatClampNeg, .inr (.inr (.inr (.inr (fun i => if i < n.toNatClampNeg then some (H.size + 1 + i) else none))))) := by
    rw [vp_cell_q]
    exact m_outer (cA (.array .int)) n.toNatClampNeg H.size n.toNatClampNeg
  rw [hout] at f2
  generalize hn9 : n.toNatClampNeg = N at *
  generalize hk9 : k.toNatClampNeg = M at *
  generalize hσ' : s_mn σ N M = σ' at kk
  obtain ⟨ρ', hρ'⟩ : ∃ z : Nat → Nat, z = fun r => if r < s_n σ then ρ r else H.size + (r - s_n σ) := ⟨_, rfl⟩
  have hρ : ∀ r, r < s_n σ → ρ' r = ρ r := fun r hr => by rw [hρ']; exact if_pos hr
  have hρ2 : ∀ i, ρ' (s_n σ + i) = H.size + i := fun i => by rw [hρ']; show (if s_n σ + i < s_n σ then _ else _) = _; rw [if_neg (by omega), Nat.add_sub_cancel_left]
  have s1 : ∀ r, r < s_n σ → σ'.1 r = σ.1 r := fun r hr => by rw [← hσ']; show (if r < s_n σ then _ else _) = _; rw [if_pos hr]
  have s1' : σ'.1 (s_n σ) = some (.inr (.array .int, N)) := by rw [← hσ']; show (if s_n σ < s_n σ then _ else if s_n σ = s_n σ then _ else _) = _; rw [if_neg (Nat.lt_irrefl _), if_pos rfl]
  have s1'' : ∀ i, i < N → σ'.1 (s_n σ + 1 + i) = some (.inr (.int, M)) := fun i hi => by rw [← hσ']; show (if s_n σ + 1 + i < s_n σ then _ else if s_n σ + 1 + i = s_n σ then _ else if s_n σ + 1 + i < s_n σ + 1 + N then _ else _) = _; rw [if_neg (by omega), if_neg (by omega), if_pos (by omega)]
  have s1x : ∀ r, s_n σ + 1 + N ≤ r → σ'.1 r = σ.1 r := fun r hr => by rw [← hσ']; show (if r < s_n σ then _ else if r = s_n σ then _ else if r < s_n σ + 1 + N then _ else _) = _; rw [if_neg (by omega), if_neg (by omega), if_neg (by omega)]
  have s2 : ∀ r, r < s_n σ → σ'.2.1 r = σ.2.1 r := fun r hr => by rw [← hσ']; funext i; show (if r = s_n σ then _ else if s_n σ < r ∧ r < s_n σ + 1 + N then _ else _) = _; rw [if_neg (by omega), if_neg (by omega)]
  have s2' : ∀ i, σ'.2.1 (s_n σ) i = if i < N then some (s_n σ + 1 + i) else none := fun i => by rw [← hσ']; show (if s_n σ = s_n σ then _ else _) = _; rw [if_pos rfl]
  have s2'' : ∀ r i, s_n σ < r → r < s_n σ + 1 + N → σ'.2.1 r i = none := fun r i h1 h2 => by rw [← hσ']; show (if r = s_n σ then _ else if s_n σ < r ∧ r < s_n σ + 1 + N then _ else _) = _; rw [if_neg (by omega), if_pos ⟨h1, h2⟩]
  have s3 : ∀ r, ¬ (s_n σ ≤ r ∧ r < s_n σ + 1 + N) → σ'.2.2.1 r = σ.2.2.1 r := fun r hr => by rw [← hσ']; funext i; exact if_neg hr
  have s3' : ∀ r, (s_n σ ≤ r ∧ r < s_n σ + 1 + N) → σ'.2.2.1 r = fun _ => 0 := fun r hr => by rw [← hσ']; funext i; exact if_pos hr
  have s4 : ∀ r, ¬ (s_n σ ≤ r ∧ r < s_n σ + 1 + N) → σ'.2.2.2.1 r = σ.2.2.2.1 r := fun r hr => by rw [← hσ']; funext i; exact if_neg hr
  have s5 : s_n σ' = s_n σ + 1 + N := by rw [← hσ']; rfl
  have s6 : s_l σ' = s_l σ + N + N * M := by rw [← hσ']; rfl
  have hro : ∀ i, i < 5 → ¬ (s_n σ ≤ j_b + i ∧ j_b + i < s_n σ + 1 + N) := fun i _ z => by omega
  have hwf : m_Wf rn rx σ' := by
    refine ⟨fun r hr => ?_, by rw [s5]; exact hb, fun i hi => ?_, fun r i q hr hq => ?_⟩
    · by_cases h1 : r < s_n σ'
      · exact Or.inl h1
      · rw [s1x r (by omega)] at hr
        exact (hI.2.2.2.1 r hr).elim (fun z => by omega) Or.inr
    · rw [s1x _ (by omega), s3 _ (hro i hi)]
      exact hI.2.2.2.2.2.1 i hi
    · rw [s5] at hr ⊢
      by_cases h1 : r < s_n σ
      · rw [s2 r h1] at hq
        exact (hI.2.2.2.2.2.2 r i q h1 hq).imp (fun z => by omega) id
      · by_cases h2 : r = s_n σ
        · subst h2
          rw [s2'] at hq
          split at hq
          · cases hq
            exact Or.inl (by omega)
          · cases hq
        · rw [s2'' r i (by omega) hr] at hq
          cases hq
  have hEo : m_E cA ρ' τ σ' (s_n σ) = .inl (cA (.array .int), N, .inr (.inr (.inr (.inr (fun i => if i < N then some (H.size + 1 + i) else none))))) := by
    rw [m_E_arr s1']
    show Sum.inl (cA (.array .int), N, Sum.inr (Sum.inr (Sum.inr (Sum.inr (fun i => m_rf ρ' τ (σ'.2.1 (s_n σ) i)))))) = _
    congr 7
    funext i
    rw [s2']
    split
    · show some (m_ad ρ' τ (s_n σ + 1 + i)) = _
      rw [m_ad_lt (by omega), Nat.add_assoc, hρ2, Nat.add_assoc]
    · rfl
  have hEr : ∀ i, i < N → m_E cA ρ' τ σ' (s_n σ + 1 + i) = .inl (cA .int, M, .inl (fun _ => 0)) := fun i hi => by
    rw [m_E_arr (s1'' i hi)]
    show Sum.inl (cA .int, M, Sum.inl (σ'.2.2.1 (s_n σ + 1 + i))) = _
    rw [s3' _ (by omega)]
  have hws : m_ws cA ρ τ σ ++ ((H.size, m_E cA ρ' τ σ' (s_n σ)) :: (List.range N).map (fun i => (H.size + 1 + i, m_E cA ρ' τ σ' (s_n σ + 1 + i)))) = m_ws cA ρ' τ σ' := by
    refine m_ws_push (k := 1 + N) hI.2.2.2 (by rw [s5]; omega) hρ s1 s2 (fun r hr => s3 r (by omega)) (fun r hr => s4 r (by omega)) (by simp; omega) (fun i hi => ?_)
    cases i with
    | zero => rw [hρ2 0]; rfl
    | succ i =>
      rw [List.getElem?_cons_succ, List.getElem?_map, List.getElem?_range (by omega), hρ2, Option.map_some, show s_n σ + (i + 1) = s_n σ + 1 + i by omega, show H.size + (i + 1) = H.size + 1 + i by omega]
  have hPn : va_P (dC, dI) j_cls (m_ws cA ρ' τ σ') F.heap := by
    rw [← hws]
    refine (hI.1.kept (fun k x hx => hold x.1 ((hI.1 k x hx).lt))).app (fun j x hx => ?_)
    cases j with
    | zero => cases hx; rw [hEo]; exact f2
    | succ j =>
      rw [List.getElem?_cons_succ, List.getElem?_map] at hx
      by_cases hj : j < N
      · rw [List.getElem?_range hj] at hx
        cases hx
        show va_at (dC, dI) j_cls (H.size + 1 + j, m_E cA ρ' τ σ' (s_n σ + 1 + j)) F.heap
        rw [hEr j hj]
        exact hrow j hj
      · rw [List.getElem?_eq_none (by rw [List.length_range]; omega)] at hx
        cases hx
  have hDn : va_D A (m_ws cA ρ' τ σ') := by
    refine ⟨fun i j x y hi hj hxy => ?_, fun i x hi => ?_⟩
    · obtain ⟨i1, rfl⟩ := m_ws_some hi
      obtain ⟨j1, rfl⟩ := m_ws_some hj
      have old : ∀ a, a < s_n σ → ρ a < H.size := fun a ha => (hI.1 a _ (m_ws_get ha)).lt
      have hxy' : ρ' i = ρ' j := hxy
      by_cases h1 : i < s_n σ <;> by_cases h2 : j < s_n σ
      · rw [hρ i h1, hρ j h2] at hxy'
        exact hI.2.1.1 i j _ _ (m_ws_get h1) (m_ws_get h2) hxy'
      · have e2 := hρ2 (j - s_n σ)
        rw [show s_n σ + (j - s_n σ) = j by omega] at e2
        have := old i h1
        rw [hρ i h1] at hxy'
        omega
      · have e2 := hρ2 (i - s_n σ)
        rw [show s_n σ + (i - s_n σ) = i by omega] at e2
        have := old j h2
        rw [hρ j h2] at hxy'
        omega
      · have e2 := hρ2 (i - s_n σ)
        rw [show s_n σ + (i - s_n σ) = i by omega] at e2
        have e3 := hρ2 (j - s_n σ)
        rw [show s_n σ + (j - s_n σ) = j by omega] at e3
        omega
    · obtain ⟨i1, rfl⟩ := m_ws_some hi
      show A (ρ' i)
      by_cases h1 : i < s_n σ
      · rw [hρ i h1]
        exact hI.2.1.2 i _ (m_ws_get h1)
      · have e2 := hρ2 (i - s_n σ)
        rw [show s_n σ + (i - s_n σ) = i by omega] at e2
        exact hS.2.2.2.2.2.2.1 _ (by omega)
  have hSn : va_S A s.heap F.heap locs := ⟨by rw [f1]; omega, fun x h1 h2 => (hold x (Nat.lt_of_lt_of_le h1 hI.2.2.1.1)).trans (hI.2.2.1.2.1 x h1 h2), hI.2.2.1.2.2⟩
  have hlt9 : s_n σ < s_n σ' := by omega
  have hcc9 : cells + 1 + N + nb = s_n σ' ∧ ∀ r, r < nb → ρ' r = ρ0 r := ⟨by omega, fun r hr => (hρ r (by omega)).trans (hc.2 r hr)⟩
  have hss9 : slots + N + N * M + lb = s_l σ' := by omega
  obtain ⟨t, a1, b1⟩ := kk ρ' F.heap locs (cells + 1 + N) (slots + N + N * M) ls ⟨hPn, hDn, hSn, hwf⟩ hcc9 hss9 (m_LR_ext hL (Nat.le_of_lt hlt9) hI.2.2.2.2.1 hρ) (m_wr (Or.inl hlt9) (fun v hv => m_ok_le (Nat.le_of_lt hlt9) (m_wt (m_wt hw) v hv))) F rfl X'
  refine ⟨t, step t ?_, b1⟩
  have e : T.heap.size = H.size := by rw [hT]
  rw [e]
  rw [List.map_cons, show m_v ρ' τ (.ref (s_n σ)) = .ref H.size from by show Value.ref (m_ad ρ' τ _) = _; rw [m_ad_lt (by omega)]; exact congrArg Value.ref (hρ2 0), List.map_congr_left (g := m_v ρ τ) (fun v hv => m_v_ext hρ hI.2.2.2.2.1 (m_wt (m_wt hw) v hv))] at a1
  exact a1
end SIMOPS3
end
section
/-! ===== THE MACHINE FOLLOWS THE LITTLE MACHINE, part 4: the pool, checked by program ===== -/
theorem j_mem {w : Jvm.Cond} (p : Nat) (h : (decide (lw_tbl[p]? = some w) && goodWord w) = true) : w ∈ j_ws := by
  simp only [Bool.and_eq_true, decide_eq_true_eq] at h
  exact List.mem_filter.mpr ⟨List.mem_of_getElem? h.1, h.2⟩
theorem m_hasN {p : Nat} {w : Jvm.Cond} (h : (decide (lw_tbl[p]? = some w) && j_isN w) = true) : w ∈ lw_tbl := by
  simp only [Bool.and_eq_true, decide_eq_true_eq] at h
  exact List.mem_of_getElem? h.1
def j_hasN (p : Nat) (w : Jvm.Cond) : Bool := decide (lw_tbl[p]? = some w) && j_isN w
def j_has (p : Nat) (w : Jvm.Cond) : Bool := decide (lw_tbl[p]? = some w) && goodWord w
abbrev mN (k : Nat) : MethodName := j_mN.getD k Lib.objectInit
abbrev mB (k : Nat) : ByteArray := j_mB.getD k ⟨#[]⟩
abbrev mL (k : Nat) : Nat := j_mL.getD k 0
abbrev mR (k : Nat) : Option FieldType := j_mR.getD k none
/-- fields: whose pool, its number, class, place; where the word stands -/
def j_fls : List (Nat × Nat × Nat × Nat × Nat) := [(4, 9, 4, 0, 115), (6, 85, 4, 0, 116), (4, 15, 4, 1, 117), (6, 96, 4, 1, 118), (1, 11, 1, 0, 137), (2, 69, 1, 0, 138), (6, 139, 1, 0, 139), (0, 62, 1, 0, 140), (1, 15, 1, 1, 141), (0, 97, 1, 1, 142), (1, 18, 1, 2, 143), (0, 100, 1, 2, 144), (1, 21, 1, 3, 145), (2, 81, 1, 3, 146), (1, 25, 1, 4, 147), (2, 84, 1, 4, 148), (1, 28, 1, 5, 149), (2, 61, 1, 5, 150), (6, 182, 1, 5, 151), (0, 9, 0, 0, 171), (6, 289, 0, 0, 172), (0, 15, 0, 1, 173), (6, 199, 0, 1, 174), (0, 18, 0, 2, 175), (6, 253, 0, 2, 176), (0, 34, 0, 3, 177), (6, 133, 0, 3, 178), (0, 21, 0, 4, 179), (6, 172, 0, 4, 180), (0, 25, 0, 5, 181), (6, 169, 0, 5, 182), (0, 28, 0, 6, 183), (6, 322, 0, 6, 184), (0, 31, 0, 7, 185), (6, 325, 0, 7, 186), (0, 37, 0, 8, 187), (6, 157, 0, 8, 188), (0, 40, 0, 9, 189), (2, 12, 2, 0, 211), (6, 121, 2, 0, 212), (2, 21, 2, 1, 213), (6, 126, 2, 1, 214), (2, 25, 2, 2, 215), (2, 29, 2, 3, 216), (2, 33, 2, 4, 217), (3, 12, 3, 0, 242), (3, 18, 3, 1, 243), (3, 22, 3, 2, 244), (3, 48, 3, 3, 245), (3, 51, 3, 4, 246), (6, 229, 3, 4, 247), (3, 40, 3, 5, 248), (6, 231, 3, 5, 249), (3, 54, 3, 6, 250), (6, 222, 3, 6, 251), (3, 57, 3, 7, 252), (6, 286, 3, 7, 253), (3, 60, 3, 8, 254), (6, 283, 3, 8, 255), (5, 12, 5, 0, 284), (5, 28, 5, 1, 285), (5, 36, 5, 2, 286), (5, 53, 5, 3, 287), (6, 275, 5, 3, 288), (6, 14, 6, 0, 298), (6, 20, 6, 1, 299), (6, 26, 6, 2, 300), (6, 33, 6, 3, 301), (6, 40, 6, 4, 302), (6, 44, 6, 5, 303), (6, 48, 6, 6, 304), (6, 51, 6, 7, 305), (6, 58, 6, 8, 306), (6, 65, 6, 9, 307), (6, 69, 6, 10, 308), (6, 130, 6, 11, 309), (6, 312, 6, 12, 310), (6, 88, 6, 13, 311), (6, 298, 6, 14, 312), (6, 73, 6, 15, 313), (7, 69, 7, 0, 881), (7, 7, 7, 1, 882), (7, 77, 7, 2, 883), (7, 80, 7, 3, 884), (7, 61, 7, 4, 885), (7, 13, 7, 5, 886), (7, 16, 7, 6, 887), (7, 19, 7, 7, 888), (7, 22, 7, 8, 889), (7, 25, 7, 9, 890), (7, 143, 7, 10, 891), (7, 146, 7, 11, 892), (7, 29, 7, 12, 893), (7, 149, 7, 13, 894), (7, 32, 7, 14, 895), (7, 101, 7, 15, 896), (7, 107, 7, 16, 897), (7, 113, 7, 17, 898), (7, 116, 7, 18, 899), (7, 122, 7, 19, 900), (7, 128, 7, 20, 901), (7, 35, 7, 21, 902), (7, 38, 7, 22, 903), (7, 41, 7, 23, 904), (7, 44, 7, 24, 905), (7, 47, 7, 25, 906), (7, 194, 7, 26, 907), (7, 201, 7, 27, 908), (7, 51, 7, 28, 909), (7, 225, 7, 29, 910), (7, 219, 7, 30, 911), (7, 54, 7, 31, 912), (7, 258, 7, 32, 913), (7, 261, 7, 33, 914), (7, 264, 7, 34, 915), (7, 267, 7, 35, 916), (7, 270, 7, 36, 917), (7, 58, 7, 37, 918), (7, 337, 7, 38, 919)]
def j_flB (e : Nat × Nat × Nat × Nat × Nat) : Bool := j_has e.2.2.2.2 (.fieldLink (j_CN e.1) e.2.1 (j_T e.2.2.1 e.2.2.2.1).1 (j_T e.2.2.1 e.2.2.2.1).2.1 (j_T e.2.2.1 e.2.2.2.1).2.2.1)
set_option maxRecDepth 1000000 in
theorem j_fls_ok : j_fls.all j_flB = true := by decide +kernel
/-- methods: whose pool, its number, method, how it is called; where the words stand -/
def j_lk0 : List (Nat × Nat × Nat × Nat × Nat × Nat × Nat) := [(0, 3, 0, 9, 170, 0, 0), (0, 43, 235, 1, 738, 113, 0), (0, 49, 10, 0, 523, 524, 525), (0, 53, 11, 0, 527, 529, 11), (0, 56, 37, 0, 645, 540, 541), (0, 65, 20, 1, 625, 626, 0), (0, 71, 5, 0, 573, 508, 509), (0, 74, 38, 0, 574, 575, 576), (0, 77, 22, 0, 582, 584, 14), (0, 81, 23, 0, 586, 588, 15), (0, 85, 24, 0, 590, 592, 16), (0, 89, 27, 0, 602, 604, 17), (0, 93, 21, 0, 606, 547, 548), (0, 103, 0, 6, 607, 0, 0), (0, 108, 26, 0, 616, 599, 600), (0, 112, 25, 0, 702, 570, 571), (0, 116, 28, 0, 703, 613, 614), (0, 120, 31, 1, 747, 748, 0), (1, 3, 0, 9, 136, 0, 0), (1, 31, 33, 0, 480, 434, 435)]
def j_lk1 : List (Nat × Nat × Nat × Nat × Nat × Nat × Nat) := [(1, 35, 0, 8, 481, 0, 0), (1, 41, 0, 6, 543, 0, 0), (1, 53, 36, 0, 762, 461, 462), (1, 57, 41, 0, 763, 765, 24), (1, 61, 38, 0, 767, 575, 576), (2, 3, 0, 9, 130, 0, 0), (2, 11, 32, 3, 133, 134, 0), (2, 20, 0, 3, 167, 168, 0), (2, 36, 44, 0, 417, 419, 4), (2, 40, 45, 0, 437, 439, 8), (2, 43, 46, 0, 446, 448, 9), (2, 46, 48, 0, 421, 423, 5), (2, 49, 49, 0, 425, 427, 6), (2, 53, 50, 0, 429, 431, 7), (2, 57, 33, 0, 433, 434, 435), (2, 65, 125, 4, 443, 444, 0), (2, 72, 1, 0, 450, 451, 452), (2, 75, 47, 0, 454, 456, 10), (2, 87, 36, 0, 460, 461, 462), (2, 91, 7, 0, 464, 465, 466)]
def j_lk2 : List (Nat × Nat × Nat × Nat × Nat × Nat × Nat) := [(2, 94, 2, 0, 468, 469, 470), (3, 3, 0, 9, 239, 0, 0), (3, 11, 0, 3, 241, 168, 0), (3, 26, 0, 8, 811, 0, 0), (3, 32, 56, 0, 674, 676, 20), (3, 36, 57, 1, 679, 680, 0), (3, 44, 3, 0, 678, 483, 484), (3, 63, 58, 0, 682, 684, 21), (3, 67, 13, 0, 694, 695, 696), (3, 71, 29, 0, 698, 699, 700), (3, 75, 17, 0, 686, 687, 688), (3, 79, 18, 0, 690, 691, 692), (4, 3, 0, 9, 111, 0, 0), (4, 19, 235, 1, 112, 113, 0), (5, 3, 0, 9, 281, 0, 0), (5, 11, 0, 3, 283, 168, 0), (5, 18, 3, 0, 781, 483, 484), (5, 22, 0, 7, 782, 0, 0), (5, 32, 14, 0, 785, 634, 635), (5, 39, 66, 0, 786, 788, 25)]
def j_lk3 : List (Nat × Nat × Nat × Nat × Nat × Nat × Nat) := [(5, 43, 13, 0, 790, 695, 696), (5, 46, 29, 0, 791, 699, 700), (5, 50, 67, 0, 792, 794, 26), (5, 56, 38, 0, 796, 575, 576), (5, 61, 36, 0, 797, 461, 462), (5, 65, 7, 0, 798, 465, 466), (6, 1, 0, 9, 101, 0, 0), (6, 11, 59, 2, 108, 109, 0), (6, 25, 42, 3, 127, 128, 0), (6, 32, 32, 3, 230, 134, 0), (6, 39, 0, 3, 232, 168, 0), (6, 57, 51, 3, 236, 237, 0), (6, 64, 64, 3, 278, 279, 0), (6, 77, 113, 0, 351, 353, 0), (6, 81, 115, 0, 371, 373, 2), (6, 92, 114, 0, 375, 377, 3), (6, 99, 60, 0, 355, 356, 357), (6, 103, 112, 0, 359, 361, 1), (6, 107, 117, 1, 391, 392, 0), (6, 111, 0, 8, 394, 0, 0)]
def j_lk4 : List (Nat × Nat × Nat × Nat × Nat × Nat × Nat) := [(6, 117, 43, 0, 413, 414, 415), (6, 122, 34, 0, 476, 477, 478), (6, 127, 3, 0, 482, 483, 484), (6, 135, 35, 0, 490, 491, 492), (6, 136, 8, 0, 494, 495, 496), (6, 142, 7, 0, 502, 465, 466), (6, 145, 5, 0, 507, 508, 509), (6, 146, 12, 0, 511, 512, 513), (6, 150, 9, 0, 519, 520, 521), (6, 154, 121, 0, 531, 533, 12), (6, 160, 21, 0, 546, 547, 548), (6, 163, 39, 0, 550, 551, 552), (6, 166, 122, 0, 554, 556, 13), (6, 175, 118, 1, 566, 567, 0), (6, 178, 25, 0, 569, 570, 571), (6, 183, 26, 0, 598, 599, 600), (6, 187, 28, 0, 612, 613, 614), (6, 191, 19, 0, 621, 622, 623), (6, 195, 61, 0, 363, 364, 365), (6, 202, 14, 0, 633, 634, 635)]
def j_lk5 : List (Nat × Nat × Nat × Nat × Nat × Nat × Nat) := [(6, 206, 16, 0, 641, 642, 643), (6, 209, 119, 0, 650, 652, 18), (6, 212, 120, 0, 658, 660, 19), (6, 215, 52, 0, 666, 667, 668), (6, 218, 54, 0, 670, 671, 672), (6, 225, 55, 0, 708, 709, 710), (6, 234, 124, 0, 712, 714, 22), (6, 238, 13, 0, 720, 695, 696), (6, 241, 123, 0, 721, 723, 23), (6, 244, 6, 0, 535, 536, 537), (6, 247, 37, 0, 539, 540, 541), (6, 250, 4, 0, 734, 735, 736), (6, 256, 30, 0, 743, 744, 745), (6, 260, 29, 0, 725, 699, 700), (6, 264, 40, 0, 758, 759, 760), (6, 268, 36, 0, 776, 461, 462), (6, 271, 65, 0, 777, 778, 779), (6, 276, 116, 0, 803, 805, 27), (6, 279, 53, 0, 807, 808, 809), (6, 292, 235, 1, 820, 113, 0)]
def j_lk6 : List (Nat × Nat × Nat × Nat × Nat × Nat × Nat) := [(6, 301, 15, 0, 837, 838, 839), (6, 304, 234, 1, 841, 842, 0), (6, 309, 62, 0, 847, 848, 849), (6, 319, 108, 0, 865, 834, 835), (6, 328, 63, 0, 866, 867, 868), (7, 1, 0, 9, 876, 0, 0), (7, 65, 163, 0, 877, 879, 28), (7, 73, 127, 1, 1009, 1010, 0), (7, 83, 139, 1, 1028, 1029, 0), (7, 87, 131, 0, 1031, 1033, 29), (7, 91, 140, 0, 1039, 1041, 30), (7, 95, 134, 0, 1043, 1045, 31), (7, 98, 147, 1, 1067, 1068, 0), (7, 104, 150, 0, 1082, 1084, 33), (7, 110, 153, 0, 1090, 1092, 35), (7, 119, 151, 1, 1098, 1099, 0), (7, 125, 152, 1, 1105, 1106, 0), (7, 131, 154, 0, 1086, 1088, 34), (7, 134, 155, 0, 1094, 1096, 36), (7, 137, 156, 0, 1101, 1103, 37)]
def j_lk7 : List (Nat × Nat × Nat × Nat × Nat × Nat × Nat) := [(7, 140, 157, 0, 1078, 1080, 32), (7, 152, 162, 0, 1124, 1126, 40), (7, 155, 165, 0, 1156, 1158, 45), (7, 159, 130, 1, 1164, 1165, 0), (7, 162, 160, 0, 1116, 1118, 38), (7, 165, 167, 0, 1120, 1122, 39), (7, 169, 161, 0, 1136, 1138, 41), (7, 172, 171, 0, 1140, 1142, 42), (7, 175, 168, 0, 1160, 1162, 46), (7, 178, 173, 0, 1148, 1150, 43), (7, 181, 174, 0, 1152, 1154, 44), (7, 184, 175, 0, 1167, 1169, 47), (7, 187, 177, 0, 1171, 1173, 48), (7, 191, 176, 0, 1175, 1177, 49), (7, 198, 180, 0, 1199, 1201, 53), (7, 204, 184, 1, 1219, 1220, 0), (7, 207, 181, 0, 1191, 1193, 51), (7, 210, 182, 0, 1195, 1197, 52), (7, 213, 185, 0, 1215, 1217, 56), (7, 216, 183, 0, 1203, 1205, 54)]
def j_lk8 : List (Nat × Nat × Nat × Nat × Nat × Nat × Nat) := [(7, 222, 186, 0, 1211, 1213, 55), (7, 228, 188, 0, 1187, 1189, 50), (7, 231, 187, 0, 1226, 1228, 57), (7, 238, 164, 0, 1234, 1236, 58), (7, 242, 193, 0, 1238, 1240, 59), (7, 246, 166, 0, 1248, 1250, 60), (7, 249, 196, 0, 1256, 1258, 61), (7, 252, 189, 0, 1300, 1302, 69), (7, 255, 200, 0, 1288, 1290, 66), (7, 273, 206, 0, 1280, 1282, 64), (7, 277, 201, 0, 1292, 1294, 67), (7, 280, 202, 0, 1296, 1298, 68), (7, 283, 205, 0, 1304, 1306, 70), (7, 286, 203, 0, 1284, 1286, 65), (7, 289, 204, 0, 1276, 1278, 63), (7, 292, 207, 0, 1272, 1274, 62), (7, 295, 136, 0, 1312, 1314, 71), (7, 299, 212, 0, 1328, 1330, 72), (7, 302, 129, 1, 1332, 1333, 0), (7, 305, 128, 1, 1351, 1352, 0)]
def j_lk9 : List (Nat × Nat × Nat × Nat × Nat × Nat × Nat) := [(7, 308, 216, 0, 1354, 1356, 74), (7, 312, 217, 0, 1347, 1349, 73), (7, 316, 220, 0, 1370, 1372, 76), (7, 319, 222, 0, 1374, 1376, 77), (7, 322, 223, 0, 1378, 1380, 78), (7, 325, 221, 0, 1366, 1368, 75), (7, 329, 225, 0, 1386, 1388, 79), (7, 332, 229, 0, 1402, 1404, 80), (7, 340, 231, 0, 1411, 1413, 81), (7, 348, 232, 0, 1416, 1418, 82), (8, 9, 68, 2, 98, 99, 0), (8, 12, 126, 2, 873, 874, 0), (8, 13, 69, 0, 347, 348, 349), (8, 17, 141, 0, 1024, 1025, 1026), (8, 18, 70, 0, 367, 368, 369), (8, 22, 142, 0, 1035, 1036, 1037), (8, 23, 71, 0, 379, 380, 381), (8, 26, 143, 0, 1047, 1048, 1049), (8, 27, 72, 0, 383, 384, 385), (8, 31, 144, 0, 1051, 1052, 1053)]
def j_lk10 : List (Nat × Nat × Nat × Nat × Nat × Nat × Nat) := [(8, 32, 73, 0, 387, 388, 389), (8, 36, 145, 0, 1055, 1056, 1057), (8, 37, 74, 0, 397, 398, 399), (8, 40, 146, 0, 1059, 1060, 1061), (8, 41, 75, 0, 401, 402, 403), (8, 44, 148, 0, 1063, 1064, 1065), (8, 45, 76, 0, 405, 406, 407), (8, 48, 149, 0, 1070, 1071, 1072), (8, 49, 77, 0, 409, 410, 411), (8, 52, 158, 0, 1074, 1075, 1076), (8, 53, 78, 0, 472, 473, 474), (8, 56, 159, 0, 1108, 1109, 1110), (8, 57, 79, 0, 486, 487, 488), (8, 60, 169, 0, 1112, 1113, 1114), (8, 61, 80, 0, 498, 499, 500), (8, 64, 170, 0, 1128, 1129, 1130), (8, 65, 81, 0, 503, 504, 505), (8, 68, 172, 0, 1132, 1133, 1134), (8, 69, 82, 0, 515, 516, 517), (8, 72, 178, 0, 1144, 1145, 1146)]
def j_lk11 : List (Nat × Nat × Nat × Nat × Nat × Nat × Nat) := [(8, 73, 83, 0, 558, 559, 560), (8, 77, 179, 0, 1179, 1180, 1181), (8, 78, 84, 0, 562, 563, 564), (8, 81, 190, 0, 1183, 1184, 1185), (8, 82, 85, 0, 594, 595, 596), (8, 85, 191, 0, 1207, 1208, 1209), (8, 86, 86, 0, 608, 609, 610), (8, 89, 192, 0, 1222, 1223, 1224), (8, 90, 87, 0, 617, 618, 619), (8, 93, 194, 0, 1230, 1231, 1232), (8, 94, 88, 0, 629, 630, 631), (8, 97, 195, 0, 1244, 1245, 1246), (8, 98, 89, 0, 637, 638, 639), (8, 101, 197, 0, 1252, 1253, 1254), (8, 102, 90, 0, 646, 647, 648), (8, 105, 198, 0, 1260, 1261, 1262), (8, 106, 91, 0, 654, 655, 656), (8, 109, 199, 0, 1264, 1265, 1266), (8, 110, 92, 0, 662, 663, 664), (8, 113, 208, 0, 1268, 1269, 1270)]
def j_lk12 : List (Nat × Nat × Nat × Nat × Nat × Nat × Nat) := [(8, 114, 93, 0, 704, 705, 706), (8, 117, 209, 0, 1308, 1309, 1310), (8, 118, 94, 0, 716, 717, 718), (8, 121, 210, 0, 1316, 1317, 1318), (8, 122, 95, 0, 726, 727, 728), (8, 125, 211, 0, 1320, 1321, 1322), (8, 126, 96, 0, 730, 731, 732), (8, 129, 213, 0, 1324, 1325, 1326), (8, 130, 97, 0, 739, 740, 741), (8, 133, 214, 0, 1335, 1336, 1337), (8, 134, 98, 0, 750, 751, 752), (8, 137, 215, 0, 1339, 1340, 1341), (8, 138, 99, 0, 754, 755, 756), (8, 141, 218, 0, 1343, 1344, 1345), (8, 142, 100, 0, 768, 769, 770), (8, 145, 219, 0, 1358, 1359, 1360), (8, 146, 101, 0, 772, 773, 774), (8, 149, 224, 0, 1362, 1363, 1364), (8, 150, 102, 0, 799, 800, 801), (8, 153, 226, 0, 1382, 1383, 1384)]
def j_lk13 : List (Nat × Nat × Nat × Nat × Nat × Nat × Nat) := [(8, 154, 103, 0, 812, 813, 814), (8, 157, 227, 0, 1390, 1391, 1392), (8, 158, 104, 0, 816, 817, 818), (8, 161, 228, 0, 1394, 1395, 1396), (8, 162, 105, 0, 821, 822, 823), (8, 165, 135, 0, 1012, 1013, 1014), (8, 166, 106, 0, 825, 826, 827), (8, 170, 137, 0, 1016, 1017, 1018), (8, 171, 107, 0, 829, 830, 831), (8, 174, 138, 0, 1020, 1021, 1022), (8, 175, 108, 0, 833, 834, 835), (8, 178, 230, 0, 1398, 1399, 1400), (8, 179, 109, 0, 851, 852, 853), (8, 182, 132, 0, 1001, 1002, 1003), (8, 183, 110, 0, 855, 856, 857), (8, 186, 133, 0, 1005, 1006, 1007), (8, 187, 111, 0, 859, 860, 861), (8, 190, 233, 0, 1406, 1407, 1408)]
def j_lks : List (Nat × Nat × Nat × Nat × Nat × Nat × Nat) := j_lk0 ++ (j_lk1 ++ (j_lk2 ++ (j_lk3 ++ (j_lk4 ++ (j_lk5 ++ (j_lk6 ++ (j_lk7 ++ (j_lk8 ++ (j_lk9 ++ (j_lk10 ++ (j_lk11 ++ (j_lk12 ++ (j_lk13)))))))))))))
def j_lkB (e : Nat × Nat × Nat × Nat × Nat × Nat × Nat) : Bool := match e with
  | (own, idx, k, 0, p, a, b) => j_has p (.methodLink (j_CN own) idx (mN k)) && j_has a (.instanceMethod (mN k)) && j_has b (.selects (mN k).cls (mN k) (mN k))
  | (own, idx, k, 1, p, a, _) => j_has p (.methodLink (j_CN own) idx (mN k)) && j_has a (.static (mN k))
  | (own, idx, k, 2, p, a, _) => j_has p (.methodLink (j_CN own) idx (mN k)) && j_has a (.instanceMethod (mN k)) && decide ((mN k).name = "<init>")
  | (own, idx, k, 3, p, a, _) => j_hasN p (.methodLinkNest (j_CN own) idx (mN k) "LastStirred") && j_has a (.instanceMethod (mN k)) && decide ((mN k).name = "<init>")
  | (own, idx, k, 4, p, a, _) => j_hasN p (.methodLinkNest (j_CN own) idx (mN k) "LastStirred") && j_has a (.static (mN k))
  | (own, idx, _, 6, p, _, _) => j_has p (.methodLink (j_CN own) idx Lib.Math.abs.name)
  | (own, idx, _, 7, p, _, _) => j_has p (.methodLink (j_CN own) idx Lib.Math.min.name)
  | (own, idx, _, 8, p, _, _) => j_has p (.methodLink (j_CN own) idx arraycopyName)
  | (own, idx, _, 9, p, _, _) => j_has p (.methodLink (j_CN own) idx Lib.objectInit)
  | _ => false
set_option maxRecDepth 1000000 in
theorem j_lkok0 : j_lk0.all j_lkB = true := by decide +kernel
set_option maxRecDepth 1000000 in
theorem j_lkok1 : j_lk1.all j_lkB = true := by decide +kernel
set_option maxRecDepth 1000000 in
theorem j_lkok2 : j_lk2.all j_lkB = true := by decide +kernel
set_option maxRecDepth 1000000 in
theorem j_lkok3 : j_lk3.all j_lkB = true := by decide +kernel
set_option maxRecDepth 1000000 in
theorem j_lkok4 : j_lk4.all j_lkB = true := by decide +kernel
set_option maxRecDepth 1000000 in
theorem j_lkok5 : j_lk5.all j_lkB = true := by decide +kernel
set_option maxRecDepth 1000000 in
theorem j_lkok6 : j_lk6.all j_lkB = true := by decide +kernel
set_option maxRecDepth 1000000 in
theorem j_lkok7 : j_lk7.all j_lkB = true := by decide +kernel
set_option maxRecDepth 1000000 in
theorem j_lkok8 : j_lk8.all j_lkB = true := by decide +kernel
set_option maxRecDepth 1000000 in
theorem j_lkok9 : j_lk9.all j_lkB = true := by decide +kernel
set_option maxRecDepth 1000000 in
theorem j_lkok10 : j_lk10.all j_lkB = true := by decide +kernel
set_option maxRecDepth 1000000 in
theorem j_lkok11 : j_lk11.all j_lkB = true := by decide +kernel
set_option maxRecDepth 1000000 in
theorem j_lkok12 : j_lk12.all j_lkB = true := by decide +kernel
set_option maxRecDepth 1000000 in
theorem j_lkok13 : j_lk13.all j_lkB = true := by decide +kernel
theorem j_lks_ok : j_lks.all j_lkB = true := by unfold j_lks; simp only [List.all_append, j_lkok0, j_lkok1, j_lkok2, j_lkok3, j_lkok4, j_lkok5, j_lkok6, j_lkok7, j_lkok8, j_lkok9, j_lkok10, j_lkok11, j_lkok12, j_lkok13, Bool.and_self]
/-- methods: where the words of their code, of their class stand -/
def j_mps : List (Nat × Nat) := [(169, 89), (453, 89), (471, 89), (485, 89), (737, 89), (510, 89), (538, 89), (467, 89), (497, 89), (522, 89), (526, 89), (530, 89), (514, 89), (697, 89), (636, 89), (840, 89), (644, 89), (689, 89), (693, 89), (624, 89), (627, 89), (549, 89), (585, 89), (589, 89), (593, 89), (572, 89), (601, 89), (605, 89), (615, 89), (701, 89), (746, 89), (749, 89), (135, 88), (436, 88), (479, 88), (493, 88), (463, 88), (542, 88), (577, 88), (553, 88), (761, 88), (766, 88), (129, 87), (416, 87), (420, 87), (440, 87), (449, 87), (457, 87), (424, 87), (428, 87), (432, 87), (238, 90), (669, 90), (810, 90), (673, 90), (711, 90), (677, 90), (681, 90), (685, 90), (110, 85), (358, 85), (366, 85), (850, 85), (869, 85), (280, 91), (780, 91), (789, 91), (795, 91), (100, 84), (350, 84), (370, 84), (382, 84), (386, 84), (390, 84), (400, 84), (404, 84), (408, 84), (412, 84), (475, 84), (489, 84), (501, 84), (506, 84), (518, 84), (561, 84), (565, 84), (597, 84), (611, 84), (620, 84), (632, 84), (640, 84), (649, 84), (657, 84), (665, 84), (707, 84), (719, 84), (729, 84), (733, 84), (742, 84), (753, 84), (757, 84), (771, 84), (775, 84), (802, 84), (815, 84), (819, 84), (824, 84), (828, 84), (832, 84), (836, 84), (854, 84), (858, 84), (862, 84), (362, 84), (354, 84), (378, 84), (374, 84), (806, 84), (393, 84), (568, 84), (653, 84), (661, 84), (534, 84), (557, 84), (724, 84), (715, 84), (445, 84), (875, 92), (1011, 92), (1353, 92), (1334, 92), (1166, 92), (1034, 92), (1004, 92), (1008, 92), (1046, 92), (1015, 92), (1315, 92), (1019, 92), (1023, 92), (1030, 92), (1042, 92), (1027, 92), (1038, 92), (1050, 92), (1054, 92), (1058, 92), (1062, 92), (1069, 92), (1066, 92), (1073, 92), (1085, 92), (1100, 92), (1107, 92), (1093, 92), (1089, 92), (1097, 92), (1104, 92), (1081, 92), (1077, 92), (1111, 92), (1119, 92), (1139, 92), (1127, 92), (880, 92), (1237, 92), (1159, 92), (1251, 92), (1123, 92), (1163, 92), (1115, 92), (1131, 92), (1143, 92), (1135, 92), (1151, 92), (1155, 92), (1170, 92), (1178, 92), (1174, 92), (1147, 92), (1182, 92), (1202, 92), (1194, 92), (1198, 92), (1206, 92), (1221, 92), (1218, 92), (1214, 92), (1229, 92), (1190, 92), (1303, 92), (1186, 92), (1210, 92), (1225, 92), (1241, 92), (1233, 92), (1247, 92), (1259, 92), (1255, 92), (1263, 92), (1267, 92), (1291, 92), (1295, 92), (1299, 92), (1287, 92), (1279, 92), (1307, 92), (1283, 92), (1275, 92), (1271, 92), (1311, 92), (1319, 92), (1323, 92), (1331, 92), (1327, 92), (1338, 92), (1342, 92), (1357, 92), (1350, 92), (1346, 92), (1361, 92), (1373, 92), (1369, 92), (1377, 92), (1381, 92), (1365, 92), (1389, 92), (1385, 92), (1393, 92), (1397, 92), (1405, 92), (1401, 92), (1414, 92), (1419, 92), (1409, 92), (843, 95), (114, 86)]
def j_mB1 (k : Nat) : Bool := j_has (j_mps.getD k (0, 0)).2 (.initialized (mN k).cls) && decide ((mN k).cls ≠ "java/lang/invoke/MethodHandle") && decide ((mN k).cls ≠ "java/lang/invoke/VarHandle") && plainName (mN k).cls && decide (mL k ≤ 20)
set_option maxRecDepth 1000000 in
theorem j_mps_ok : (List.range 236).all j_mB1 = true := by decide +kernel
theorem j_u0 : ∀ w ∈ u_ws (j_CN 0) (j_T 0) (j_nf 0), w ∈ j_ws := by decide +kernel
theorem j_u1 : ∀ w ∈ u_ws (j_CN 1) (j_T 1) (j_nf 1), w ∈ j_ws := by decide +kernel
theorem j_u2 : ∀ w ∈ u_ws (j_CN 2) (j_T 2) (j_nf 2), w ∈ j_ws := by decide +kernel
theorem j_u3 : ∀ w ∈ u_ws (j_CN 3) (j_T 3) (j_nf 3), w ∈ j_ws := by decide +kernel
theorem j_u4 : ∀ w ∈ u_ws (j_CN 4) (j_T 4) (j_nf 4), w ∈ j_ws := by decide +kernel
theorem j_u5 : ∀ w ∈ u_ws (j_CN 5) (j_T 5) (j_nf 5), w ∈ j_ws := by decide +kernel
set_option maxRecDepth 1000000 in
theorem j_u6 : ∀ w ∈ u_ws (j_CN 6) (j_T 6) (j_nf 6), w ∈ j_ws := by decide +kernel
set_option maxRecDepth 1000000 in
theorem j_u7 : ∀ w ∈ u_ws (j_CN 7) (j_T 7) (j_nf 7), w ∈ j_ws := by decide +kernel
theorem j_us {c : Nat} (hc : c < 8) : ∀ w ∈ u_ws (j_CN c) (j_T c) (j_nf c), w ∈ j_ws := m_c8 (P := fun c => ∀ w ∈ u_ws (j_CN c) (j_T c) (j_nf c), w ∈ j_ws) j_u0 j_u1 j_u2 j_u3 j_u4 j_u5 j_u6 j_u7 hc
theorem j_cat_ok {c : Nat} (hc : c < 8) : Jvm.Cond.instantiable (j_CN c) (j_nf c) ∈ j_ws ∧ Jvm.Cond.initialized (j_CN c) ∈ j_ws := m_c8 (P := fun c => Jvm.Cond.instantiable (j_CN c) (j_nf c) ∈ j_ws ∧ Jvm.Cond.initialized (j_CN c) ∈ j_ws) ⟨j_mem 166 (by decide +kernel), j_mem 89 (by decide +kernel)⟩ ⟨j_mem 132 (by decide +kernel), j_mem 88 (by decide +kernel)⟩ ⟨j_mem 126 (by decide +kernel), j_mem 87 (by decide +kernel)⟩ ⟨j_mem 235 (by decide +kernel), j_mem 90 (by decide +kernel)⟩ ⟨j_mem 105 (by decide +kernel), j_mem 85 (by decide +kernel)⟩ ⟨j_mem 277 (by decide +kernel), j_mem 91 (by decide +kernel)⟩ ⟨j_mem 97 (by decide +kernel), j_mem 84 (by decide +kernel)⟩ ⟨j_mem 872 (by decide +kernel), j_mem 92 (by decide +kernel)⟩ hc
theorem j_ca_int : Jvm.Cond.arrayClass .int ∈ j_ws := j_mem 124 (by decide +kernel)
theorem j_ca_byte : Jvm.Cond.arrayClass .byte ∈ j_ws := j_mem 999 (by decide +kernel)
theorem j_ca_bool : Jvm.Cond.arrayClass .boolean ∈ j_ws := j_mem 1000 (by decide +kernel)
theorem j_ca_long : Jvm.Cond.arrayClass .long ∈ j_ws := j_mem 275 (by decide +kernel)
theorem j_ao_obj : Jvm.Cond.arrayOver (.object RX0) ∈ lw_tbl := m_hasN (p := 233) (by decide +kernel)
theorem j_ao_arr : Jvm.Cond.arrayOver (.array .int) ∈ lw_tbl := m_hasN (p := 107) (by decide +kernel)
theorem j_w_nat : Jvm.Cond.native arraycopyName ∈ j_ws := j_mem 396 (by decide +kernel)
theorem j_w_sta : Jvm.Cond.static arraycopyName ∈ j_ws := j_mem 395 (by decide +kernel)
theorem j_w_ini : Jvm.Cond.initialized "java/lang/System" ∈ j_ws := j_mem 93 (by decide +kernel)
theorem j_w_oi : Jvm.Cond.instanceMethod Lib.objectInit ∈ j_ws := j_mem 102 (by decide +kernel)
theorem j_w_oc : Jvm.Cond.code Lib.objectInit ⟨#[0xb1]⟩ 1 none ∈ j_ws := j_mem 103 (by decide +kernel)
theorem j_w_abs : Jvm.Cond.static Lib.Math.abs.name ∈ j_ws ∧ Jvm.Cond.initialized "java/lang/Math" ∈ j_ws ∧ Jvm.Cond.code Lib.Math.abs.name Lib.Math.abs.code 1 (some .int) ∈ j_ws := ⟨j_mem 544 (by decide +kernel), j_mem 94 (by decide +kernel), j_mem 545 (by decide +kernel)⟩
theorem j_w_min : Jvm.Cond.static Lib.Math.min.name ∈ j_ws ∧ Jvm.Cond.initialized "java/lang/Math" ∈ j_ws ∧ Jvm.Cond.code Lib.Math.min.name Lib.Math.min.code 2 (some .int) ∈ j_ws := ⟨j_mem 783 (by decide +kernel), j_mem 94 (by decide +kernel), j_mem 784 (by decide +kernel)⟩
theorem j_ws_good : ∀ w ∈ j_ws, goodWord w = true := fun w h => (List.mem_filter.mp h).2

theorem j_tb_1 {w : Jvm.Cond} (i : Nat) (h : tables_1_1[i]? = some w) (hg : goodWord w = true) : w ∈ j_ws := List.mem_filter.mpr ⟨List.mem_append_right (k2_sels lw_privs) (show _ ∈ tables_1 from List.mem_append_left _ (List.mem_of_getElem? h)), hg⟩
theorem j_tb_2 {w : Jvm.Cond} (i : Nat) (h : tables_1_2[i]? = some w) (hg : goodWord w = true) : w ∈ j_ws := List.mem_filter.mpr ⟨List.mem_append_right (k2_sels lw_privs) (show _ ∈ tables_1 from List.mem_append_right _ (List.mem_append_left _ (List.mem_of_getElem? h))), hg⟩
theorem j_tb_3 {w : Jvm.Cond} (i : Nat) (h : tables_1_3[i]? = some w) (hg : goodWord w = true) : w ∈ j_ws := List.mem_filter.mpr ⟨List.mem_append_right (k2_sels lw_privs) (show _ ∈ tables_1 from List.mem_append_right _ (List.mem_append_right _ (List.mem_append_left _ (List.mem_of_getElem? h)))), hg⟩
theorem j_tb_4 {w : Jvm.Cond} (i : Nat) (h : tables_1_4[i]? = some w) (hg : goodWord w = true) : w ∈ j_ws := List.mem_filter.mpr ⟨List.mem_append_right (k2_sels lw_privs) (show _ ∈ tables_1 from List.mem_append_right _ (List.mem_append_right _ (List.mem_append_right _ (List.mem_append_left _ (List.mem_of_getElem? h))))), hg⟩
theorem j_tb_5 {w : Jvm.Cond} (i : Nat) (h : tables_1_5[i]? = some w) (hg : goodWord w = true) : w ∈ j_ws := List.mem_filter.mpr ⟨List.mem_append_right (k2_sels lw_privs) (show _ ∈ tables_1 from List.mem_append_right _ (List.mem_append_right _ (List.mem_append_right _ (List.mem_append_right _ (List.mem_append_left _ (List.mem_of_getElem? h)))))), hg⟩
theorem j_tb_6 {w : Jvm.Cond} (i : Nat) (h : tables_1_6[i]? = some w) (hg : goodWord w = true) : w ∈ j_ws := List.mem_filter.mpr ⟨List.mem_append_right (k2_sels lw_privs) (show _ ∈ tables_1 from List.mem_append_right _ (List.mem_append_right _ (List.mem_append_right _ (List.mem_append_right _ (List.mem_append_right _ (List.mem_of_getElem? h)))))), hg⟩
set_option maxRecDepth 1000000 in
theorem j_cd_0 : ∀ k, k < 10 → Jvm.Cond.code (mN (0 + k)) (mB (0 + k)) (mL (0 + k)) (mR (0 + k)) ∈ j_ws := fun k h => match k, h with
  | 0, _ => j_tb_1 86 rfl rfl
  | 1, _ => j_tb_2 130 rfl rfl
  | 2, _ => j_tb_2 148 rfl rfl
  | 3, _ => j_tb_2 162 rfl rfl
  | 4, _ => j_tb_3 174 rfl rfl
  | 5, _ => j_tb_2 187 rfl rfl
  | 6, _ => j_tb_2 215 rfl rfl
  | 7, _ => j_tb_2 144 rfl rfl
  | 8, _ => j_tb_2 174 rfl rfl
  | 9, _ => j_tb_2 199 rfl rfl
  | k + 10, h => absurd h (by omega)
set_option maxRecDepth 1000000 in
theorem j_cd_1 : ∀ k, k < 10 → Jvm.Cond.code (mN (10 + k)) (mB (10 + k)) (mL (10 + k)) (mR (10 + k)) ∈ j_ws := fun k h => match k, h with
  | 0, _ => j_tb_2 203 rfl rfl
  | 1, _ => j_tb_2 207 rfl rfl
  | 2, _ => j_tb_2 191 rfl rfl
  | 3, _ => j_tb_3 134 rfl rfl
  | 4, _ => j_tb_3 73 rfl rfl
  | 5, _ => j_tb_4 37 rfl rfl
  | 6, _ => j_tb_3 81 rfl rfl
  | 7, _ => j_tb_3 126 rfl rfl
  | 8, _ => j_tb_3 130 rfl rfl
  | 9, _ => j_tb_3 61 rfl rfl
  | k + 10, h => absurd h (by omega)
set_option maxRecDepth 1000000 in
theorem j_cd_2 : ∀ k, k < 10 → Jvm.Cond.code (mN (20 + k)) (mB (20 + k)) (mL (20 + k)) (mR (20 + k)) ∈ j_ws := fun k h => match k, h with
  | 0, _ => j_tb_3 64 rfl rfl
  | 1, _ => j_tb_2 226 rfl rfl
  | 2, _ => j_tb_3 22 rfl rfl
  | 3, _ => j_tb_3 26 rfl rfl
  | 4, _ => j_tb_3 30 rfl rfl
  | 5, _ => j_tb_3 9 rfl rfl
  | 6, _ => j_tb_3 38 rfl rfl
  | 7, _ => j_tb_3 42 rfl rfl
  | 8, _ => j_tb_3 52 rfl rfl
  | 9, _ => j_tb_3 138 rfl rfl
  | k + 10, h => absurd h (by omega)
set_option maxRecDepth 1000000 in
theorem j_cd_3 : ∀ k, k < 10 → Jvm.Cond.code (mN (30 + k)) (mB (30 + k)) (mL (30 + k)) (mR (30 + k)) ∈ j_ws := fun k h => match k, h with
  | 0, _ => j_tb_3 183 rfl rfl
  | 1, _ => j_tb_3 186 rfl rfl
  | 2, _ => j_tb_1 52 rfl rfl
  | 3, _ => j_tb_2 113 rfl rfl
  | 4, _ => j_tb_2 156 rfl rfl
  | 5, _ => j_tb_2 170 rfl rfl
  | 6, _ => j_tb_2 140 rfl rfl
  | 7, _ => j_tb_2 219 rfl rfl
  | 8, _ => j_tb_3 14 rfl rfl
  | 9, _ => j_tb_2 230 rfl rfl
  | k + 10, h => absurd h (by omega)
set_option maxRecDepth 1000000 in
theorem j_cd_4 : ∀ k, k < 10 → Jvm.Cond.code (mN (40 + k)) (mB (40 + k)) (mL (40 + k)) (mR (40 + k)) ∈ j_ws := fun k h => match k, h with
  | 0, _ => j_tb_3 198 rfl rfl
  | 1, _ => j_tb_3 203 rfl rfl
  | 2, _ => j_tb_1 46 rfl rfl
  | 3, _ => j_tb_2 93 rfl rfl
  | 4, _ => j_tb_2 97 rfl rfl
  | 5, _ => j_tb_2 117 rfl rfl
  | 6, _ => j_tb_2 126 rfl rfl
  | 7, _ => j_tb_2 134 rfl rfl
  | 8, _ => j_tb_2 101 rfl rfl
  | 9, _ => j_tb_2 105 rfl rfl
  | k + 10, h => absurd h (by omega)
set_option maxRecDepth 1000000 in
theorem j_cd_5 : ∀ k, k < 10 → Jvm.Cond.code (mN (50 + k)) (mB (50 + k)) (mL (50 + k)) (mR (50 + k)) ∈ j_ws := fun k h => match k, h with
  | 0, _ => j_tb_2 109 rfl rfl
  | 1, _ => j_tb_1 155 rfl rfl
  | 2, _ => j_tb_3 106 rfl rfl
  | 3, _ => j_tb_4 7 rfl rfl
  | 4, _ => j_tb_3 110 rfl rfl
  | 5, _ => j_tb_3 148 rfl rfl
  | 6, _ => j_tb_3 114 rfl rfl
  | 7, _ => j_tb_3 118 rfl rfl
  | 8, _ => j_tb_3 122 rfl rfl
  | 9, _ => j_tb_1 27 rfl rfl
  | k + 10, h => absurd h (by omega)
set_option maxRecDepth 1000000 in
theorem j_cd_6 : ∀ k, k < 10 → Jvm.Cond.code (mN (60 + k)) (mB (60 + k)) (mL (60 + k)) (mR (60 + k)) ∈ j_ws := fun k h => match k, h with
  | 0, _ => j_tb_2 35 rfl rfl
  | 1, _ => j_tb_2 43 rfl rfl
  | 2, _ => j_tb_4 47 rfl rfl
  | 3, _ => j_tb_4 66 rfl rfl
  | 4, _ => j_tb_1 197 rfl rfl
  | 5, _ => j_tb_3 217 rfl rfl
  | 6, _ => j_tb_3 226 rfl rfl
  | 7, _ => j_tb_3 232 rfl rfl
  | 8, _ => j_tb_1 17 rfl rfl
  | 9, _ => j_tb_2 27 rfl rfl
  | k + 10, h => absurd h (by omega)
set_option maxRecDepth 1000000 in
theorem j_cd_7 : ∀ k, k < 10 → Jvm.Cond.code (mN (70 + k)) (mB (70 + k)) (mL (70 + k)) (mR (70 + k)) ∈ j_ws := fun k h => match k, h with
  | 0, _ => j_tb_2 47 rfl rfl
  | 1, _ => j_tb_2 59 rfl rfl
  | 2, _ => j_tb_2 63 rfl rfl
  | 3, _ => j_tb_2 67 rfl rfl
  | 4, _ => j_tb_2 77 rfl rfl
  | 5, _ => j_tb_2 81 rfl rfl
  | 6, _ => j_tb_2 85 rfl rfl
  | 7, _ => j_tb_2 89 rfl rfl
  | 8, _ => j_tb_2 152 rfl rfl
  | 9, _ => j_tb_2 166 rfl rfl
  | k + 10, h => absurd h (by omega)
set_option maxRecDepth 1000000 in
theorem j_cd_8 : ∀ k, k < 10 → Jvm.Cond.code (mN (80 + k)) (mB (80 + k)) (mL (80 + k)) (mR (80 + k)) ∈ j_ws := fun k h => match k, h with
  | 0, _ => j_tb_2 178 rfl rfl
  | 1, _ => j_tb_2 183 rfl rfl
  | 2, _ => j_tb_2 195 rfl rfl
  | 3, _ => j_tb_2 238 rfl rfl
  | 4, _ => j_tb_3 2 rfl rfl
  | 5, _ => j_tb_3 34 rfl rfl
  | 6, _ => j_tb_3 48 rfl rfl
  | 7, _ => j_tb_3 57 rfl rfl
  | 8, _ => j_tb_3 69 rfl rfl
  | 9, _ => j_tb_3 77 rfl rfl
  | k + 10, h => absurd h (by omega)
set_option maxRecDepth 1000000 in
theorem j_cd_9 : ∀ k, k < 10 → Jvm.Cond.code (mN (90 + k)) (mB (90 + k)) (mL (90 + k)) (mR (90 + k)) ∈ j_ws := fun k h => match k, h with
  | 0, _ => j_tb_3 86 rfl rfl
  | 1, _ => j_tb_3 94 rfl rfl
  | 2, _ => j_tb_3 102 rfl rfl
  | 3, _ => j_tb_3 144 rfl rfl
  | 4, _ => j_tb_3 156 rfl rfl
  | 5, _ => j_tb_3 166 rfl rfl
  | 6, _ => j_tb_3 170 rfl rfl
  | 7, _ => j_tb_3 179 rfl rfl
  | 8, _ => j_tb_3 190 rfl rfl
  | 9, _ => j_tb_3 194 rfl rfl
  | k + 10, h => absurd h (by omega)
set_option maxRecDepth 1000000 in
theorem j_cd_10 : ∀ k, k < 10 → Jvm.Cond.code (mN (100 + k)) (mB (100 + k)) (mL (100 + k)) (mR (100 + k)) ∈ j_ws := fun k h => match k, h with
  | 0, _ => j_tb_3 208 rfl rfl
  | 1, _ => j_tb_3 212 rfl rfl
  | 2, _ => j_tb_3 239 rfl rfl
  | 3, _ => j_tb_4 12 rfl rfl
  | 4, _ => j_tb_4 16 rfl rfl
  | 5, _ => j_tb_4 21 rfl rfl
  | 6, _ => j_tb_4 25 rfl rfl
  | 7, _ => j_tb_4 29 rfl rfl
  | 8, _ => j_tb_4 33 rfl rfl
  | 9, _ => j_tb_4 51 rfl rfl
  | k + 10, h => absurd h (by omega)
set_option maxRecDepth 1000000 in
theorem j_cd_11 : ∀ k, k < 10 → Jvm.Cond.code (mN (110 + k)) (mB (110 + k)) (mL (110 + k)) (mR (110 + k)) ∈ j_ws := fun k h => match k, h with
  | 0, _ => j_tb_4 55 rfl rfl
  | 1, _ => j_tb_4 59 rfl rfl
  | 2, _ => j_tb_2 39 rfl rfl
  | 3, _ => j_tb_2 31 rfl rfl
  | 4, _ => j_tb_2 55 rfl rfl
  | 5, _ => j_tb_2 51 rfl rfl
  | 6, _ => j_tb_4 3 rfl rfl
  | 7, _ => j_tb_2 70 rfl rfl
  | 8, _ => j_tb_3 5 rfl rfl
  | 9, _ => j_tb_3 90 rfl rfl
  | k + 10, h => absurd h (by omega)
set_option maxRecDepth 1000000 in
theorem j_cd_12 : ∀ k, k < 10 → Jvm.Cond.code (mN (120 + k)) (mB (120 + k)) (mL (120 + k)) (mR (120 + k)) ∈ j_ws := fun k h => match k, h with
  | 0, _ => j_tb_3 98 rfl rfl
  | 1, _ => j_tb_2 211 rfl rfl
  | 2, _ => j_tb_2 234 rfl rfl
  | 3, _ => j_tb_3 161 rfl rfl
  | 4, _ => j_tb_3 152 rfl rfl
  | 5, _ => j_tb_2 122 rfl rfl
  | 6, _ => j_tb_4 72 rfl rfl
  | 7, _ => j_tb_4 208 rfl rfl
  | 8, _ => j_tb_6 70 rfl rfl
  | 9, _ => j_tb_6 51 rfl rfl
  | k + 10, h => absurd h (by omega)
set_option maxRecDepth 1000000 in
theorem j_cd_13 : ∀ k, k < 10 → Jvm.Cond.code (mN (130 + k)) (mB (130 + k)) (mL (130 + k)) (mR (130 + k)) ∈ j_ws := fun k h => match k, h with
  | 0, _ => j_tb_5 123 rfl rfl
  | 1, _ => j_tb_4 231 rfl rfl
  | 2, _ => j_tb_4 201 rfl rfl
  | 3, _ => j_tb_4 205 rfl rfl
  | 4, _ => j_tb_5 3 rfl rfl
  | 5, _ => j_tb_4 212 rfl rfl
  | 6, _ => j_tb_6 32 rfl rfl
  | 7, _ => j_tb_4 216 rfl rfl
  | 8, _ => j_tb_4 220 rfl rfl
  | 9, _ => j_tb_4 227 rfl rfl
  | k + 10, h => absurd h (by omega)
set_option maxRecDepth 1000000 in
theorem j_cd_14 : ∀ k, k < 10 → Jvm.Cond.code (mN (140 + k)) (mB (140 + k)) (mL (140 + k)) (mR (140 + k)) ∈ j_ws := fun k h => match k, h with
  | 0, _ => j_tb_4 239 rfl rfl
  | 1, _ => j_tb_4 224 rfl rfl
  | 2, _ => j_tb_4 235 rfl rfl
  | 3, _ => j_tb_5 7 rfl rfl
  | 4, _ => j_tb_5 11 rfl rfl
  | 5, _ => j_tb_5 15 rfl rfl
  | 6, _ => j_tb_5 19 rfl rfl
  | 7, _ => j_tb_5 26 rfl rfl
  | 8, _ => j_tb_5 23 rfl rfl
  | 9, _ => j_tb_5 30 rfl rfl
  | k + 10, h => absurd h (by omega)
set_option maxRecDepth 1000000 in
theorem j_cd_15 : ∀ k, k < 10 → Jvm.Cond.code (mN (150 + k)) (mB (150 + k)) (mL (150 + k)) (mR (150 + k)) ∈ j_ws := fun k h => match k, h with
  | 0, _ => j_tb_5 42 rfl rfl
  | 1, _ => j_tb_5 57 rfl rfl
  | 2, _ => j_tb_5 64 rfl rfl
  | 3, _ => j_tb_5 50 rfl rfl
  | 4, _ => j_tb_5 46 rfl rfl
  | 5, _ => j_tb_5 54 rfl rfl
  | 6, _ => j_tb_5 61 rfl rfl
  | 7, _ => j_tb_5 38 rfl rfl
  | 8, _ => j_tb_5 34 rfl rfl
  | 9, _ => j_tb_5 68 rfl rfl
  | k + 10, h => absurd h (by omega)
set_option maxRecDepth 1000000 in
theorem j_cd_16 : ∀ k, k < 10 → Jvm.Cond.code (mN (160 + k)) (mB (160 + k)) (mL (160 + k)) (mR (160 + k)) ∈ j_ws := fun k h => match k, h with
  | 0, _ => j_tb_5 76 rfl rfl
  | 1, _ => j_tb_5 96 rfl rfl
  | 2, _ => j_tb_5 84 rfl rfl
  | 3, _ => j_tb_4 77 rfl rfl
  | 4, _ => j_tb_5 194 rfl rfl
  | 5, _ => j_tb_5 116 rfl rfl
  | 6, _ => j_tb_5 208 rfl rfl
  | 7, _ => j_tb_5 80 rfl rfl
  | 8, _ => j_tb_5 120 rfl rfl
  | 9, _ => j_tb_5 72 rfl rfl
  | k + 10, h => absurd h (by omega)
set_option maxRecDepth 1000000 in
theorem j_cd_17 : ∀ k, k < 10 → Jvm.Cond.code (mN (170 + k)) (mB (170 + k)) (mL (170 + k)) (mR (170 + k)) ∈ j_ws := fun k h => match k, h with
  | 0, _ => j_tb_5 88 rfl rfl
  | 1, _ => j_tb_5 100 rfl rfl
  | 2, _ => j_tb_5 92 rfl rfl
  | 3, _ => j_tb_5 108 rfl rfl
  | 4, _ => j_tb_5 112 rfl rfl
  | 5, _ => j_tb_5 127 rfl rfl
  | 6, _ => j_tb_5 135 rfl rfl
  | 7, _ => j_tb_5 131 rfl rfl
  | 8, _ => j_tb_5 104 rfl rfl
  | 9, _ => j_tb_5 139 rfl rfl
  | k + 10, h => absurd h (by omega)
set_option maxRecDepth 1000000 in
theorem j_cd_18 : ∀ k, k < 10 → Jvm.Cond.code (mN (180 + k)) (mB (180 + k)) (mL (180 + k)) (mR (180 + k)) ∈ j_ws := fun k h => match k, h with
  | 0, _ => j_tb_5 159 rfl rfl
  | 1, _ => j_tb_5 151 rfl rfl
  | 2, _ => j_tb_5 155 rfl rfl
  | 3, _ => j_tb_5 163 rfl rfl
  | 4, _ => j_tb_5 178 rfl rfl
  | 5, _ => j_tb_5 175 rfl rfl
  | 6, _ => j_tb_5 171 rfl rfl
  | 7, _ => j_tb_5 186 rfl rfl
  | 8, _ => j_tb_5 147 rfl rfl
  | 9, _ => j_tb_6 20 rfl rfl
  | k + 10, h => absurd h (by omega)
set_option maxRecDepth 1000000 in
theorem j_cd_19 : ∀ k, k < 10 → Jvm.Cond.code (mN (190 + k)) (mB (190 + k)) (mL (190 + k)) (mR (190 + k)) ∈ j_ws := fun k h => match k, h with
  | 0, _ => j_tb_5 143 rfl rfl
  | 1, _ => j_tb_5 167 rfl rfl
  | 2, _ => j_tb_5 182 rfl rfl
  | 3, _ => j_tb_5 198 rfl rfl
  | 4, _ => j_tb_5 190 rfl rfl
  | 5, _ => j_tb_5 204 rfl rfl
  | 6, _ => j_tb_5 216 rfl rfl
  | 7, _ => j_tb_5 212 rfl rfl
  | 8, _ => j_tb_5 220 rfl rfl
  | 9, _ => j_tb_5 224 rfl rfl
  | k + 10, h => absurd h (by omega)
set_option maxRecDepth 1000000 in
theorem j_cd_20 : ∀ k, k < 10 → Jvm.Cond.code (mN (200 + k)) (mB (200 + k)) (mL (200 + k)) (mR (200 + k)) ∈ j_ws := fun k h => match k, h with
  | 0, _ => j_tb_6 8 rfl rfl
  | 1, _ => j_tb_6 12 rfl rfl
  | 2, _ => j_tb_6 16 rfl rfl
  | 3, _ => j_tb_6 4 rfl rfl
  | 4, _ => j_tb_5 236 rfl rfl
  | 5, _ => j_tb_6 24 rfl rfl
  | 6, _ => j_tb_6 0 rfl rfl
  | 7, _ => j_tb_5 232 rfl rfl
  | 8, _ => j_tb_5 228 rfl rfl
  | 9, _ => j_tb_6 28 rfl rfl
  | k + 10, h => absurd h (by omega)
set_option maxRecDepth 1000000 in
theorem j_cd_21 : ∀ k, k < 10 → Jvm.Cond.code (mN (210 + k)) (mB (210 + k)) (mL (210 + k)) (mR (210 + k)) ∈ j_ws := fun k h => match k, h with
  | 0, _ => j_tb_6 36 rfl rfl
  | 1, _ => j_tb_6 40 rfl rfl
  | 2, _ => j_tb_6 48 rfl rfl
  | 3, _ => j_tb_6 44 rfl rfl
  | 4, _ => j_tb_6 55 rfl rfl
  | 5, _ => j_tb_6 59 rfl rfl
  | 6, _ => j_tb_6 74 rfl rfl
  | 7, _ => j_tb_6 67 rfl rfl
  | 8, _ => j_tb_6 63 rfl rfl
  | 9, _ => j_tb_6 78 rfl rfl
  | k + 10, h => absurd h (by omega)
set_option maxRecDepth 1000000 in
theorem j_cd_22 : ∀ k, k < 10 → Jvm.Cond.code (mN (220 + k)) (mB (220 + k)) (mL (220 + k)) (mR (220 + k)) ∈ j_ws := fun k h => match k, h with
  | 0, _ => j_tb_6 90 rfl rfl
  | 1, _ => j_tb_6 86 rfl rfl
  | 2, _ => j_tb_6 94 rfl rfl
  | 3, _ => j_tb_6 98 rfl rfl
  | 4, _ => j_tb_6 82 rfl rfl
  | 5, _ => j_tb_6 106 rfl rfl
  | 6, _ => j_tb_6 102 rfl rfl
  | 7, _ => j_tb_6 110 rfl rfl
  | 8, _ => j_tb_6 114 rfl rfl
  | 9, _ => j_tb_6 122 rfl rfl
  | k + 10, h => absurd h (by omega)
set_option maxRecDepth 1000000 in
theorem j_cd_23 : ∀ k, k < 6 → Jvm.Cond.code (mN (230 + k)) (mB (230 + k)) (mL (230 + k)) (mR (230 + k)) ∈ j_ws := fun k h => match k, h with
  | 0, _ => j_tb_6 118 rfl rfl
  | 1, _ => j_tb_6 131 rfl rfl
  | 2, _ => j_tb_6 136 rfl rfl
  | 3, _ => j_tb_6 126 rfl rfl
  | 4, _ => j_tb_4 40 rfl rfl
  | 5, _ => j_tb_1 31 rfl rfl
  | k + 6, h => absurd h (by omega)
theorem j_cds : ∀ k, k < 236 → Jvm.Cond.code (mN k) (mB k) (mL k) (mR k) ∈ j_ws := by
  intro k hk
  by_cases h0 : k < 10
  · have := j_cd_0 (k - 0) (by omega)
    rwa [show 0 + (k - 0) = k by omega] at this
  by_cases h10 : k < 20
  · have := j_cd_1 (k - 10) (by omega)
    rwa [show 10 + (k - 10) = k by omega] at this
  by_cases h20 : k < 30
  · have := j_cd_2 (k - 20) (by omega)
    rwa [show 20 + (k - 20) = k by omega] at this
  by_cases h30 : k < 40
  · have := j_cd_3 (k - 30) (by omega)
    rwa [show 30 + (k - 30) = k by omega] at this
  by_cases h40 : k < 50
  · have := j_cd_4 (k - 40) (by omega)
    rwa [show 40 + (k - 40) = k by omega] at this
  by_cases h50 : k < 60
  · have := j_cd_5 (k - 50) (by omega)
    rwa [show 50 + (k - 50) = k by omega] at this
  by_cases h60 : k < 70
  · have := j_cd_6 (k - 60) (by omega)
    rwa [show 60 + (k - 60) = k by omega] at this
  by_cases h70 : k < 80
  · have := j_cd_7 (k - 70) (by omega)
    rwa [show 70 + (k - 70) = k by omega] at this
  by_cases h80 : k < 90
  · have := j_cd_8 (k - 80) (by omega)
    rwa [show 80 + (k - 80) = k by omega] at this
  by_cases h90 : k < 100
  · have := j_cd_9 (k - 90) (by omega)
    rwa [show 90 + (k - 90) = k by omega] at this
  by_cases h100 : k < 110
  · have := j_cd_10 (k - 100) (by omega)
    rwa [show 100 + (k - 100) = k by omega] at this
  by_cases h110 : k < 120
  · have := j_cd_11 (k - 110) (by omega)
    rwa [show 110 + (k - 110) = k by omega] at this
  by_cases h120 : k < 130
  · have := j_cd_12 (k - 120) (by omega)
    rwa [show 120 + (k - 120) = k by omega] at this
  by_cases h130 : k < 140
  · have := j_cd_13 (k - 130) (by omega)
    rwa [show 130 + (k - 130) = k by omega] at this
  by_cases h140 : k < 150
  · have := j_cd_14 (k - 140) (by omega)
    rwa [show 140 + (k - 140) = k by omega] at this
  by_cases h150 : k < 160
  · have := j_cd_15 (k - 150) (by omega)
    rwa [show 150 + (k - 150) = k by omega] at this
  by_cases h160 : k < 170
  · have := j_cd_16 (k - 160) (by omega)
    rwa [show 160 + (k - 160) = k by omega] at this
  by_cases h170 : k < 180
  · have := j_cd_17 (k - 170) (by omega)
    rwa [show 170 + (k - 170) = k by omega] at this
  by_cases h180 : k < 190
  · have := j_cd_18 (k - 180) (by omega)
    rwa [show 180 + (k - 180) = k by omega] at this
  by_cases h190 : k < 200
  · have := j_cd_19 (k - 190) (by omega)
    rwa [show 190 + (k - 190) = k by omega] at this
  by_cases h200 : k < 210
  · have := j_cd_20 (k - 200) (by omega)
    rwa [show 200 + (k - 200) = k by omega] at this
  by_cases h210 : k < 220
  · have := j_cd_21 (k - 210) (by omega)
    rwa [show 210 + (k - 210) = k by omega] at this
  by_cases h220 : k < 230
  · have := j_cd_22 (k - 220) (by omega)
    rwa [show 220 + (k - 220) = k by omega] at this
  by_cases h230 : k < 240
  · have := j_cd_23 (k - 230) (by omega)
    rwa [show 230 + (k - 230) = k by omega] at this
  omega
/-- the length of an instruction (switches: not told) -/
def j_il : Instr → Nat
  | .bipush _ | .iload _ | .lload _ | .aload _ | .istore _ | .lstore _ | .astore _ | .newarray _ => 2
  | .sipush _ | .ldc_w _ | .ldc2_w _ | .iinc _ _ | .ifCond _ _ | .if_icmp _ _ | .goto _ | .getfield _ | .putfield _ | .getstatic _ | .new _ | .anewarray _ | .invokevirtual _ | .invokestatic _ | .invokespecial _ => 3
  | .multianewarray _ _ => 4
  | _ => 1
def j_isw : Instr → Bool
  | .tableswitch .. | .lookupswitch .. => true
  | _ => false
def j_kd (c k : Nat) : Nat := match j_ty c k with
  | .int => 0
  | .long => 1
  | .boolean => 3
  | .object _ => 2
  | .array _ => 2
  | _ => 9
def j_rt (t : Option FieldType) : Nat := match t with
  | none => 0
  | some .int => 1
  | some .boolean => 1
  | some .long => 2
  | _ => 9
def j_np (y : MethodName) : Option Nat := (parseMethodDescriptor y.desc).map (fun d => d.parameters.length)
def j_lkA (l own idx k kind : Nat) : Bool := match j_lks[l]? with
  | some (o, i, m, kd, _) => decide (o = own ∧ i = idx ∧ m = k ∧ kd = kind)
  | none => false
def j_okE (k own pc : Nat) (i : Instr) (q : List Nat) : Bool := match i with
  | .bipush n => decide ((Int8.ofInt n).toInt32 = j_k n)
  | .sipush n => decide ((Int16.ofInt n).toInt32 = j_k n)
  | .ldc_w idx => match q with
    | [c, p] => j_has p (.constant (j_CN own) idx (j_ci c))
    | _ => false
  | .ldc2_w idx => match q with
    | [c, p] => j_has p (.constantLong (j_CN own) idx (j_cJ c))
    | _ => false
  | .ifCond _ off | .if_icmp _ off | .goto off => match q with
    | [t] => decide ((pc : Int) + off = (t : Int))
    | _ => false
  | .tableswitch d lo hi offs => match q with
    | t :: ts => decide ((pc : Int) + d = (t : Int)) && decide (-1000 ≤ lo) && decide (lo ≤ 1000) && decide (ts.length ≤ 1000) && decide (hi = lo + ts.length - 1) && decide (offs.toList = ts.map (fun (x : Nat) => ((x : Int) - (pc : Int))))
    | _ => false
  | .lookupswitch d ps => match q with
    | [t, a, b] => decide ((pc : Int) + d = (t : Int)) && decide (ps.toList = [(0, (a : Int) - (pc : Int)), (1, (b : Int) - (pc : Int))])
    | _ => false
  | .getfield idx => match q with
    | [c, f, kd, l] => decide (c < 8) && decide (f < j_nf c) && decide (kd = j_kd c f) && (match j_fls[l]? with
      | some (o, i, c', f', _) => decide (o = own ∧ i = idx ∧ c' = c ∧ f' = f)
      | none => false)
    | _ => false
  | .putfield idx => match q with
    | [c, f, kd, l] => decide (c < 8) && decide (f < j_nf c) && decide (kd = j_kd c f) && (match j_fls[l]? with
      | some (o, i, c', f', _) => decide (o = own ∧ i = idx ∧ c' = c ∧ f' = f)
      | none => false) && (decide ((j_T c f).2.2.2 = false) || (decide ((mN k).name = "<init>") && decide ((j_T c f).1 = j_CN own)))
    | _ => false
  | .getstatic idx => match q with
    | [t, p] => decide (t < 4) && j_has p (.fieldLink (j_CN own) idx (j_sC t) (j_sN t) "[I")
    | _ => false
  | .new idx => match q with
    | [c, n, p] => decide (c < 8) && decide (n = j_nf c) && j_has p (.classLink (j_CN own) idx (j_CN c))
    | _ => false
  | .newarray ty => match newarray.typeOf ty with
    | .int | .byte | .boolean | .long => true
    | _ => false
  | .anewarray idx => match q with
    | [p] => j_has p (.classLink (j_CN own) idx RX0)
    | _ => false
  | .multianewarray idx d => match q with
    | [p] => decide (d = 2) && j_has p (.classLink (j_CN own) idx "[[I")
    | _ => false
  | .invokevirtual idx => match q with
    | [m, na, rt, c, l] => decide (m < 236) && decide (c < 8) && decide (j_CN c = (mN m).cls) && decide (j_np (mN m) = some na) && decide (rt = j_rt (mR m)) && j_lkA l own idx m 0
    | _ => false
  | .invokestatic idx => match q with
    | [m, na, rt, l] => decide (m < 236) && decide (j_np (mN m) = some na) && decide (rt = j_rt (mR m)) && (j_lkA l own idx m 1 || j_lkA l own idx m 4)
    | [l] => j_lkA l own idx 0 8
    | [l, _] => j_lkA l own idx 0 6
    | [l, _, _] => j_lkA l own idx 0 7
    | _ => false
  | .invokespecial idx => match q with
    | [m, na, rt, l] => decide (m < 236) && decide (j_np (mN m) = some na) && decide (rt = j_rt (mR m)) && decide (mR m = none) && (j_lkA l own idx m 2 || j_lkA l own idx m 3)
    | [l] => j_lkA l own idx 0 9
    | _ => false
  | .ireturn => match q with
    | [0] => decide (mR k = some .int)
    | [1] => decide (mR k = some .boolean)
    | _ => false
  | .return_ => decide (mR k = none)
  | .lreturn => decide (mR k = some .long)
  | _ => true
def j_dec (b : ByteArray) (pc : Nat) (i : Instr) : Bool := match decode b pc with
  | .ok (i', n) => decide (i' = i) && (decide (n = j_il i) || j_isw i)
  | .error _ => false
def j_chk (k own : Nat) : Bool := (j_code k).all fun e => j_dec (mB k) e.1 e.2.1 && j_okE k own e.1 e.2.1 e.2.2
def j_own : List Nat := [0, 0, 0, 0, 0, 0, 0, 0, 0, 0, 0, 0, 0, 0, 0, 0, 0, 0, 0, 0, 0, 0, 0, 0, 0, 0, 0, 0, 0, 0, 0, 0, 1, 1, 1, 1, 1, 1, 1, 1, 1, 1, 2, 2, 2, 2, 2, 2, 2, 2, 2, 3, 3, 3, 3, 3, 3, 3, 3, 4, 4, 4, 4, 4, 5, 5, 5, 5, 6, 6, 6, 6, 6, 6, 6, 6, 6, 6, 6, 6, 6, 6, 6, 6, 6, 6, 6, 6, 6, 6, 6, 6, 6, 6, 6, 6, 6, 6, 6, 6, 6, 6, 6, 6, 6, 6, 6, 6, 6, 6, 6, 6, 6, 6, 6, 6, 6, 6, 6, 6, 6, 6, 6, 6, 6, 6, 7, 7, 7, 7, 7, 7, 7, 7, 7, 7, 7, 7, 7, 7, 7, 7, 7, 7, 7, 7, 7, 7, 7, 7, 7, 7, 7, 7, 7, 7, 7, 7, 7, 7, 7, 7, 7, 7, 7, 7, 7, 7, 7, 7, 7, 7, 7, 7, 7, 7, 7, 7, 7, 7, 7, 7, 7, 7, 7, 7, 7, 7, 7, 7, 7, 7, 7, 7, 7, 7, 7, 7, 7, 7, 7, 7, 7, 7, 7, 7, 7, 7, 7, 7, 7, 7, 7, 7, 7, 7, 7, 7, 7, 7, 7, 7, 7, 7, 7, 7, 7, 7, 7, 7, 7, 7, 7, 7, 9, 11, 8]
end
section
/-! ===== THE MACHINE FOLLOWS THE LITTLE MACHINE, part 5: the code, checked by program ===== -/
set_option maxRecDepth 1000000 in
theorem j_chk_0 : j_chk 0 0 = true := by decide +kernel
set_option maxRecDepth 1000000 in
theorem j_chk_1 : j_chk 1 0 = true := by decide +kernel
set_option maxRecDepth 1000000 in
theorem j_chk_2 : j_chk 2 0 = true := by decide +kernel
set_option maxRecDepth 1000000 in
theorem j_chk_3 : j_chk 3 0 = true := by decide +kernel
set_option maxRecDepth 1000000 in
theorem j_chk_4 : j_chk 4 0 = true := by decide +kernel
set_option maxRecDepth 1000000 in
theorem j_chk_5 : j_chk 5 0 = true := by decide +kernel
set_option maxRecDepth 1000000 in
theorem j_chk_6 : j_chk 6 0 = true := by decide +kernel
set_option maxRecDepth 1000000 in
theorem j_chk_7 : j_chk 7 0 = true := by decide +kernel
set_option maxRecDepth 1000000 in
theorem j_chk_8 : j_chk 8 0 = true := by decide +kernel
set_option maxRecDepth 1000000 in
theorem j_chk_9 : j_chk 9 0 = true := by decide +kernel
set_option maxRecDepth 1000000 in
theorem j_chk_10 : j_chk 10 0 = true := by decide +kernel
set_option maxRecDepth 1000000 in
theorem j_chk_11 : j_chk 11 0 = true := by decide +kernel
set_option maxRecDepth 1000000 in
theorem j_chk_12 : j_chk 12 0 = true := by decide +kernel
set_option maxRecDepth 1000000 in
theorem j_chk_13 : j_chk 13 0 = true := by decide +kernel
set_option maxRecDepth 1000000 in
theorem j_chk_14 : j_chk 14 0 = true := by decide +kernel
set_option maxRecDepth 1000000 in
theorem j_chk_15 : j_chk 15 0 = true := by decide +kernel
set_option maxRecDepth 1000000 in
theorem j_chk_16 : j_chk 16 0 = true := by decide +kernel
set_option maxRecDepth 1000000 in
theorem j_chk_17 : j_chk 17 0 = true := by decide +kernel
set_option maxRecDepth 1000000 in
theorem j_chk_18 : j_chk 18 0 = true := by decide +kernel
set_option maxRecDepth 1000000 in
theorem j_chk_19 : j_chk 19 0 = true := by decide +kernel
set_option maxRecDepth 1000000 in
theorem j_chk_20 : j_chk 20 0 = true := by decide +kernel
set_option maxRecDepth 1000000 in
theorem j_chk_21 : j_chk 21 0 = true := by decide +kernel
set_option maxRecDepth 1000000 in
theorem j_chk_22 : j_chk 22 0 = true := by decide +kernel
set_option maxRecDepth 1000000 in
theorem j_chk_23 : j_chk 23 0 = true := by decide +kernel
set_option maxRecDepth 1000000 in
theorem j_chk_24 : j_chk 24 0 = true := by decide +kernel
set_option maxRecDepth 1000000 in
theorem j_chk_25 : j_chk 25 0 = true := by decide +kernel
set_option maxRecDepth 1000000 in
theorem j_chk_26 : j_chk 26 0 = true := by decide +kernel
set_option maxRecDepth 1000000 in
theorem j_chk_27 : j_chk 27 0 = true := by decide +kernel
set_option maxRecDepth 1000000 in
theorem j_chk_28 : j_chk 28 0 = true := by decide +kernel
set_option maxRecDepth 1000000 in
theorem j_chk_29 : j_chk 29 0 = true := by decide +kernel
set_option maxRecDepth 1000000 in
theorem j_chk_30 : j_chk 30 0 = true := by decide +kernel
set_option maxRecDepth 1000000 in
theorem j_chk_31 : j_chk 31 0 = true := by decide +kernel
set_option maxRecDepth 1000000 in
theorem j_chk_32 : j_chk 32 1 = true := by decide +kernel
set_option maxRecDepth 1000000 in
theorem j_chk_33 : j_chk 33 1 = true := by decide +kernel
set_option maxRecDepth 1000000 in
theorem j_chk_34 : j_chk 34 1 = true := by decide +kernel
set_option maxRecDepth 1000000 in
theorem j_chk_35 : j_chk 35 1 = true := by decide +kernel
set_option maxRecDepth 1000000 in
theorem j_chk_36 : j_chk 36 1 = true := by decide +kernel
set_option maxRecDepth 1000000 in
theorem j_chk_37 : j_chk 37 1 = true := by decide +kernel
set_option maxRecDepth 1000000 in
theorem j_chk_38 : j_chk 38 1 = true := by decide +kernel
set_option maxRecDepth 1000000 in
theorem j_chk_39 : j_chk 39 1 = true := by decide +kernel
set_option maxRecDepth 1000000 in
theorem j_chk_40 : j_chk 40 1 = true := by decide +kernel
set_option maxRecDepth 1000000 in
theorem j_chk_41 : j_chk 41 1 = true := by decide +kernel
set_option maxRecDepth 1000000 in
theorem j_chk_42 : j_chk 42 2 = true := by decide +kernel
set_option maxRecDepth 1000000 in
theorem j_chk_43 : j_chk 43 2 = true := by decide +kernel
set_option maxRecDepth 1000000 in
theorem j_chk_44 : j_chk 44 2 = true := by decide +kernel
set_option maxRecDepth 1000000 in
theorem j_chk_45 : j_chk 45 2 = true := by decide +kernel
set_option maxRecDepth 1000000 in
theorem j_chk_46 : j_chk 46 2 = true := by decide +kernel
set_option maxRecDepth 1000000 in
theorem j_chk_47 : j_chk 47 2 = true := by decide +kernel
set_option maxRecDepth 1000000 in
theorem j_chk_48 : j_chk 48 2 = true := by decide +kernel
set_option maxRecDepth 1000000 in
theorem j_chk_49 : j_chk 49 2 = true := by decide +kernel
set_option maxRecDepth 1000000 in
theorem j_chk_50 : j_chk 50 2 = true := by decide +kernel
set_option maxRecDepth 1000000 in
theorem j_chk_51 : j_chk 51 3 = true := by decide +kernel
set_option maxRecDepth 1000000 in
theorem j_chk_52 : j_chk 52 3 = true := by decide +kernel
set_option maxRecDepth 1000000 in
theorem j_chk_53 : j_chk 53 3 = true := by decide +kernel
set_option maxRecDepth 1000000 in
theorem j_chk_54 : j_chk 54 3 = true := by decide +kernel
set_option maxRecDepth 1000000 in
theorem j_chk_55 : j_chk 55 3 = true := by decide +kernel
set_option maxRecDepth 1000000 in
theorem j_chk_56 : j_chk 56 3 = true := by decide +kernel
set_option maxRecDepth 1000000 in
theorem j_chk_57 : j_chk 57 3 = true := by decide +kernel
set_option maxRecDepth 1000000 in
theorem j_chk_58 : j_chk 58 3 = true := by decide +kernel
set_option maxRecDepth 1000000 in
theorem j_chk_59 : j_chk 59 4 = true := by decide +kernel
set_option maxRecDepth 1000000 in
theorem j_chk_60 : j_chk 60 4 = true := by decide +kernel
set_option maxRecDepth 1000000 in
theorem j_chk_61 : j_chk 61 4 = true := by decide +kernel
set_option maxRecDepth 1000000 in
theorem j_chk_62 : j_chk 62 4 = true := by decide +kernel
set_option maxRecDepth 1000000 in
theorem j_chk_63 : j_chk 63 4 = true := by decide +kernel
set_option maxRecDepth 1000000 in
theorem j_chk_64 : j_chk 64 5 = true := by decide +kernel
set_option maxRecDepth 1000000 in
theorem j_chk_65 : j_chk 65 5 = true := by decide +kernel
set_option maxRecDepth 1000000 in
theorem j_chk_66 : j_chk 66 5 = true := by decide +kernel
set_option maxRecDepth 1000000 in
theorem j_chk_67 : j_chk 67 5 = true := by decide +kernel
set_option maxRecDepth 1000000 in
theorem j_chk_68 : j_chk 68 6 = true := by decide +kernel
set_option maxRecDepth 1000000 in
theorem j_chk_69 : j_chk 69 6 = true := by decide +kernel
set_option maxRecDepth 1000000 in
theorem j_chk_70 : j_chk 70 6 = true := by decide +kernel
set_option maxRecDepth 1000000 in
theorem j_chk_71 : j_chk 71 6 = true := by decide +kernel
set_option maxRecDepth 1000000 in
theorem j_chk_72 : j_chk 72 6 = true := by decide +kernel
set_option maxRecDepth 1000000 in
theorem j_chk_73 : j_chk 73 6 = true := by decide +kernel
set_option maxRecDepth 1000000 in
theorem j_chk_74 : j_chk 74 6 = true := by decide +kernel
set_option maxRecDepth 1000000 in
theorem j_chk_75 : j_chk 75 6 = true := by decide +kernel
set_option maxRecDepth 1000000 in
theorem j_chk_76 : j_chk 76 6 = true := by decide +kernel
set_option maxRecDepth 1000000 in
theorem j_chk_77 : j_chk 77 6 = true := by decide +kernel
set_option maxRecDepth 1000000 in
theorem j_chk_78 : j_chk 78 6 = true := by decide +kernel
set_option maxRecDepth 1000000 in
theorem j_chk_79 : j_chk 79 6 = true := by decide +kernel
set_option maxRecDepth 1000000 in
theorem j_chk_80 : j_chk 80 6 = true := by decide +kernel
set_option maxRecDepth 1000000 in
theorem j_chk_81 : j_chk 81 6 = true := by decide +kernel
set_option maxRecDepth 1000000 in
theorem j_chk_82 : j_chk 82 6 = true := by decide +kernel
set_option maxRecDepth 1000000 in
theorem j_chk_83 : j_chk 83 6 = true := by decide +kernel
set_option maxRecDepth 1000000 in
theorem j_chk_84 : j_chk 84 6 = true := by decide +kernel
set_option maxRecDepth 1000000 in
theorem j_chk_85 : j_chk 85 6 = true := by decide +kernel
set_option maxRecDepth 1000000 in
theorem j_chk_86 : j_chk 86 6 = true := by decide +kernel
set_option maxRecDepth 1000000 in
theorem j_chk_87 : j_chk 87 6 = true := by decide +kernel
set_option maxRecDepth 1000000 in
theorem j_chk_88 : j_chk 88 6 = true := by decide +kernel
set_option maxRecDepth 1000000 in
theorem j_chk_89 : j_chk 89 6 = true := by decide +kernel
set_option maxRecDepth 1000000 in
theorem j_chk_90 : j_chk 90 6 = true := by decide +kernel
set_option maxRecDepth 1000000 in
theorem j_chk_91 : j_chk 91 6 = true := by decide +kernel
set_option maxRecDepth 1000000 in
theorem j_chk_92 : j_chk 92 6 = true := by decide +kernel
set_option maxRecDepth 1000000 in
theorem j_chk_93 : j_chk 93 6 = true := by decide +kernel
set_option maxRecDepth 1000000 in
theorem j_chk_94 : j_chk 94 6 = true := by decide +kernel
set_option maxRecDepth 1000000 in
theorem j_chk_95 : j_chk 95 6 = true := by decide +kernel
set_option maxRecDepth 1000000 in
theorem j_chk_96 : j_chk 96 6 = true := by decide +kernel
set_option maxRecDepth 1000000 in
theorem j_chk_97 : j_chk 97 6 = true := by decide +kernel
set_option maxRecDepth 1000000 in
theorem j_chk_98 : j_chk 98 6 = true := by decide +kernel
set_option maxRecDepth 1000000 in
theorem j_chk_99 : j_chk 99 6 = true := by decide +kernel
set_option maxRecDepth 1000000 in
theorem j_chk_100 : j_chk 100 6 = true := by decide +kernel
set_option maxRecDepth 1000000 in
theorem j_chk_101 : j_chk 101 6 = true := by decide +kernel
set_option maxRecDepth 1000000 in
theorem j_chk_102 : j_chk 102 6 = true := by decide +kernel
set_option maxRecDepth 1000000 in
theorem j_chk_103 : j_chk 103 6 = true := by decide +kernel
set_option maxRecDepth 1000000 in
theorem j_chk_104 : j_chk 104 6 = true := by decide +kernel
set_option maxRecDepth 1000000 in
theorem j_chk_105 : j_chk 105 6 = true := by decide +kernel
set_option maxRecDepth 1000000 in
theorem j_chk_106 : j_chk 106 6 = true := by decide +kernel
set_option maxRecDepth 1000000 in
theorem j_chk_107 : j_chk 107 6 = true := by decide +kernel
set_option maxRecDepth 1000000 in
theorem j_chk_108 : j_chk 108 6 = true := by decide +kernel
set_option maxRecDepth 1000000 in
theorem j_chk_109 : j_chk 109 6 = true := by decide +kernel
set_option maxRecDepth 1000000 in
theorem j_chk_110 : j_chk 110 6 = true := by decide +kernel
set_option maxRecDepth 1000000 in
theorem j_chk_111 : j_chk 111 6 = true := by decide +kernel
set_option maxRecDepth 1000000 in
theorem j_chk_112 : j_chk 112 6 = true := by decide +kernel
set_option maxRecDepth 1000000 in
theorem j_chk_113 : j_chk 113 6 = true := by decide +kernel
set_option maxRecDepth 1000000 in
theorem j_chk_114 : j_chk 114 6 = true := by decide +kernel
set_option maxRecDepth 1000000 in
theorem j_chk_115 : j_chk 115 6 = true := by decide +kernel
set_option maxRecDepth 1000000 in
theorem j_chk_116 : j_chk 116 6 = true := by decide +kernel
set_option maxRecDepth 1000000 in
theorem j_chk_117 : j_chk 117 6 = true := by decide +kernel
set_option maxRecDepth 1000000 in
theorem j_chk_118 : j_chk 118 6 = true := by decide +kernel
set_option maxRecDepth 1000000 in
theorem j_chk_119 : j_chk 119 6 = true := by decide +kernel
set_option maxRecDepth 1000000 in
theorem j_chk_120 : j_chk 120 6 = true := by decide +kernel
set_option maxRecDepth 1000000 in
theorem j_chk_121 : j_chk 121 6 = true := by decide +kernel
set_option maxRecDepth 1000000 in
theorem j_chk_122 : j_chk 122 6 = true := by decide +kernel
set_option maxRecDepth 1000000 in
theorem j_chk_123 : j_chk 123 6 = true := by decide +kernel
set_option maxRecDepth 1000000 in
theorem j_chk_124 : j_chk 124 6 = true := by decide +kernel
set_option maxRecDepth 1000000 in
theorem j_chk_125 : j_chk 125 6 = true := by decide +kernel
set_option maxRecDepth 1000000 in
theorem j_chk_126 : j_chk 126 7 = true := by decide +kernel
set_option maxRecDepth 1000000 in
theorem j_chk_127 : j_chk 127 7 = true := by decide +kernel
set_option maxRecDepth 1000000 in
theorem j_chk_128 : j_chk 128 7 = true := by decide +kernel
set_option maxRecDepth 1000000 in
theorem j_chk_129 : j_chk 129 7 = true := by decide +kernel
set_option maxRecDepth 1000000 in
theorem j_chk_130 : j_chk 130 7 = true := by decide +kernel
set_option maxRecDepth 1000000 in
theorem j_chk_131 : j_chk 131 7 = true := by decide +kernel
set_option maxRecDepth 1000000 in
theorem j_chk_132 : j_chk 132 7 = true := by decide +kernel
set_option maxRecDepth 1000000 in
theorem j_chk_133 : j_chk 133 7 = true := by decide +kernel
set_option maxRecDepth 1000000 in
theorem j_chk_134 : j_chk 134 7 = true := by decide +kernel
set_option maxRecDepth 1000000 in
theorem j_chk_135 : j_chk 135 7 = true := by decide +kernel
set_option maxRecDepth 1000000 in
theorem j_chk_136 : j_chk 136 7 = true := by decide +kernel
set_option maxRecDepth 1000000 in
theorem j_chk_137 : j_chk 137 7 = true := by decide +kernel
set_option maxRecDepth 1000000 in
theorem j_chk_138 : j_chk 138 7 = true := by decide +kernel
set_option maxRecDepth 1000000 in
theorem j_chk_139 : j_chk 139 7 = true := by decide +kernel
set_option maxRecDepth 1000000 in
theorem j_chk_140 : j_chk 140 7 = true := by decide +kernel
set_option maxRecDepth 1000000 in
theorem j_chk_141 : j_chk 141 7 = true := by decide +kernel
set_option maxRecDepth 1000000 in
theorem j_chk_142 : j_chk 142 7 = true := by decide +kernel
set_option maxRecDepth 1000000 in
theorem j_chk_143 : j_chk 143 7 = true := by decide +kernel
set_option maxRecDepth 1000000 in
theorem j_chk_144 : j_chk 144 7 = true := by decide +kernel
set_option maxRecDepth 1000000 in
theorem j_chk_145 : j_chk 145 7 = true := by decide +kernel
set_option maxRecDepth 1000000 in
theorem j_chk_146 : j_chk 146 7 = true := by decide +kernel
set_option maxRecDepth 1000000 in
theorem j_chk_147 : j_chk 147 7 = true := by decide +kernel
set_option maxRecDepth 1000000 in
theorem j_chk_148 : j_chk 148 7 = true := by decide +kernel
set_option maxRecDepth 1000000 in
theorem j_chk_149 : j_chk 149 7 = true := by decide +kernel
set_option maxRecDepth 1000000 in
theorem j_chk_150 : j_chk 150 7 = true := by decide +kernel
set_option maxRecDepth 1000000 in
theorem j_chk_151 : j_chk 151 7 = true := by decide +kernel
set_option maxRecDepth 1000000 in
theorem j_chk_152 : j_chk 152 7 = true := by decide +kernel
set_option maxRecDepth 1000000 in
theorem j_chk_153 : j_chk 153 7 = true := by decide +kernel
set_option maxRecDepth 1000000 in
theorem j_chk_154 : j_chk 154 7 = true := by decide +kernel
set_option maxRecDepth 1000000 in
theorem j_chk_155 : j_chk 155 7 = true := by decide +kernel
set_option maxRecDepth 1000000 in
theorem j_chk_156 : j_chk 156 7 = true := by decide +kernel
set_option maxRecDepth 1000000 in
theorem j_chk_157 : j_chk 157 7 = true := by decide +kernel
set_option maxRecDepth 1000000 in
theorem j_chk_158 : j_chk 158 7 = true := by decide +kernel
set_option maxRecDepth 1000000 in
theorem j_chk_159 : j_chk 159 7 = true := by decide +kernel
set_option maxRecDepth 1000000 in
theorem j_chk_160 : j_chk 160 7 = true := by decide +kernel
set_option maxRecDepth 1000000 in
theorem j_chk_161 : j_chk 161 7 = true := by decide +kernel
set_option maxRecDepth 1000000 in
theorem j_chk_162 : j_chk 162 7 = true := by decide +kernel
set_option maxRecDepth 1000000 in
theorem j_chk_163 : j_chk 163 7 = true := by decide +kernel
set_option maxRecDepth 1000000 in
theorem j_chk_164 : j_chk 164 7 = true := by decide +kernel
set_option maxRecDepth 1000000 in
theorem j_chk_165 : j_chk 165 7 = true := by decide +kernel
set_option maxRecDepth 1000000 in
theorem j_chk_166 : j_chk 166 7 = true := by decide +kernel
set_option maxRecDepth 1000000 in
theorem j_chk_167 : j_chk 167 7 = true := by decide +kernel
set_option maxRecDepth 1000000 in
theorem j_chk_168 : j_chk 168 7 = true := by decide +kernel
set_option maxRecDepth 1000000 in
theorem j_chk_169 : j_chk 169 7 = true := by decide +kernel
set_option maxRecDepth 1000000 in
theorem j_chk_170 : j_chk 170 7 = true := by decide +kernel
set_option maxRecDepth 1000000 in
theorem j_chk_171 : j_chk 171 7 = true := by decide +kernel
set_option maxRecDepth 1000000 in
theorem j_chk_172 : j_chk 172 7 = true := by decide +kernel
set_option maxRecDepth 1000000 in
theorem j_chk_173 : j_chk 173 7 = true := by decide +kernel
set_option maxRecDepth 1000000 in
theorem j_chk_174 : j_chk 174 7 = true := by decide +kernel
set_option maxRecDepth 1000000 in
theorem j_chk_175 : j_chk 175 7 = true := by decide +kernel
set_option maxRecDepth 1000000 in
theorem j_chk_176 : j_chk 176 7 = true := by decide +kernel
set_option maxRecDepth 1000000 in
theorem j_chk_177 : j_chk 177 7 = true := by decide +kernel
set_option maxRecDepth 1000000 in
theorem j_chk_178 : j_chk 178 7 = true := by decide +kernel
set_option maxRecDepth 1000000 in
theorem j_chk_179 : j_chk 179 7 = true := by decide +kernel
set_option maxRecDepth 1000000 in
theorem j_chk_180 : j_chk 180 7 = true := by decide +kernel
set_option maxRecDepth 1000000 in
theorem j_chk_181 : j_chk 181 7 = true := by decide +kernel
set_option maxRecDepth 1000000 in
theorem j_chk_182 : j_chk 182 7 = true := by decide +kernel
set_option maxRecDepth 1000000 in
theorem j_chk_183 : j_chk 183 7 = true := by decide +kernel
set_option maxRecDepth 1000000 in
theorem j_chk_184 : j_chk 184 7 = true := by decide +kernel
set_option maxRecDepth 1000000 in
theorem j_chk_185 : j_chk 185 7 = true := by decide +kernel
set_option maxRecDepth 1000000 in
theorem j_chk_186 : j_chk 186 7 = true := by decide +kernel
set_option maxRecDepth 1000000 in
theorem j_chk_187 : j_chk 187 7 = true := by decide +kernel
set_option maxRecDepth 1000000 in
theorem j_chk_188 : j_chk 188 7 = true := by decide +kernel
set_option maxRecDepth 1000000 in
theorem j_chk_189 : j_chk 189 7 = true := by decide +kernel
set_option maxRecDepth 1000000 in
theorem j_chk_190 : j_chk 190 7 = true := by decide +kernel
set_option maxRecDepth 1000000 in
theorem j_chk_191 : j_chk 191 7 = true := by decide +kernel
set_option maxRecDepth 1000000 in
theorem j_chk_192 : j_chk 192 7 = true := by decide +kernel
set_option maxRecDepth 1000000 in
theorem j_chk_193 : j_chk 193 7 = true := by decide +kernel
set_option maxRecDepth 1000000 in
theorem j_chk_194 : j_chk 194 7 = true := by decide +kernel
set_option maxRecDepth 1000000 in
theorem j_chk_195 : j_chk 195 7 = true := by decide +kernel
set_option maxRecDepth 1000000 in
theorem j_chk_196 : j_chk 196 7 = true := by decide +kernel
set_option maxRecDepth 1000000 in
theorem j_chk_197 : j_chk 197 7 = true := by decide +kernel
set_option maxRecDepth 1000000 in
theorem j_chk_198 : j_chk 198 7 = true := by decide +kernel
set_option maxRecDepth 1000000 in
theorem j_chk_199 : j_chk 199 7 = true := by decide +kernel
set_option maxRecDepth 1000000 in
theorem j_chk_200 : j_chk 200 7 = true := by decide +kernel
set_option maxRecDepth 1000000 in
theorem j_chk_201 : j_chk 201 7 = true := by decide +kernel
set_option maxRecDepth 1000000 in
theorem j_chk_202 : j_chk 202 7 = true := by decide +kernel
set_option maxRecDepth 1000000 in
theorem j_chk_203 : j_chk 203 7 = true := by decide +kernel
set_option maxRecDepth 1000000 in
theorem j_chk_204 : j_chk 204 7 = true := by decide +kernel
set_option maxRecDepth 1000000 in
theorem j_chk_205 : j_chk 205 7 = true := by decide +kernel
set_option maxRecDepth 1000000 in
theorem j_chk_206 : j_chk 206 7 = true := by decide +kernel
set_option maxRecDepth 1000000 in
theorem j_chk_207 : j_chk 207 7 = true := by decide +kernel
set_option maxRecDepth 1000000 in
theorem j_chk_208 : j_chk 208 7 = true := by decide +kernel
set_option maxRecDepth 1000000 in
theorem j_chk_209 : j_chk 209 7 = true := by decide +kernel
set_option maxRecDepth 1000000 in
theorem j_chk_210 : j_chk 210 7 = true := by decide +kernel
set_option maxRecDepth 1000000 in
theorem j_chk_211 : j_chk 211 7 = true := by decide +kernel
set_option maxRecDepth 1000000 in
theorem j_chk_212 : j_chk 212 7 = true := by decide +kernel
set_option maxRecDepth 1000000 in
theorem j_chk_213 : j_chk 213 7 = true := by decide +kernel
set_option maxRecDepth 1000000 in
theorem j_chk_214 : j_chk 214 7 = true := by decide +kernel
set_option maxRecDepth 1000000 in
theorem j_chk_215 : j_chk 215 7 = true := by decide +kernel
set_option maxRecDepth 1000000 in
theorem j_chk_216 : j_chk 216 7 = true := by decide +kernel
set_option maxRecDepth 1000000 in
theorem j_chk_217 : j_chk 217 7 = true := by decide +kernel
set_option maxRecDepth 1000000 in
theorem j_chk_218 : j_chk 218 7 = true := by decide +kernel
set_option maxRecDepth 1000000 in
theorem j_chk_219 : j_chk 219 7 = true := by decide +kernel
set_option maxRecDepth 1000000 in
theorem j_chk_220 : j_chk 220 7 = true := by decide +kernel
set_option maxRecDepth 1000000 in
theorem j_chk_221 : j_chk 221 7 = true := by decide +kernel
set_option maxRecDepth 1000000 in
theorem j_chk_222 : j_chk 222 7 = true := by decide +kernel
set_option maxRecDepth 1000000 in
theorem j_chk_223 : j_chk 223 7 = true := by decide +kernel
set_option maxRecDepth 1000000 in
theorem j_chk_224 : j_chk 224 7 = true := by decide +kernel
set_option maxRecDepth 1000000 in
theorem j_chk_225 : j_chk 225 7 = true := by decide +kernel
set_option maxRecDepth 1000000 in
theorem j_chk_226 : j_chk 226 7 = true := by decide +kernel
set_option maxRecDepth 1000000 in
theorem j_chk_227 : j_chk 227 7 = true := by decide +kernel
set_option maxRecDepth 1000000 in
theorem j_chk_228 : j_chk 228 7 = true := by decide +kernel
set_option maxRecDepth 1000000 in
theorem j_chk_229 : j_chk 229 7 = true := by decide +kernel
set_option maxRecDepth 1000000 in
theorem j_chk_230 : j_chk 230 7 = true := by decide +kernel
set_option maxRecDepth 1000000 in
theorem j_chk_231 : j_chk 231 7 = true := by decide +kernel
set_option maxRecDepth 1000000 in
theorem j_chk_232 : j_chk 232 7 = true := by decide +kernel
set_option maxRecDepth 1000000 in
theorem j_chk_233 : j_chk 233 7 = true := by decide +kernel
set_option maxRecDepth 1000000 in
theorem j_chk_234 : j_chk 234 9 = true := by decide +kernel
set_option maxRecDepth 1000000 in
theorem j_chk_235 : j_chk 235 11 = true := by decide +kernel
end
section
/-! ===== THE MACHINE FOLLOWS THE LITTLE MACHINE, part 5b: the law's code, checked by program ===== -/
theorem j_allc {α : Type} (f : α → Bool) (n : Nat) (l : List α) (h1 : (l.take n).all f = true) (h2 : (l.drop n).all f = true) : l.all f = true := by
  rw [← List.take_append_drop n l, List.all_append, h1, h2]
  rfl
def j_chF (k own : Nat) (e : Nat × Instr × List Nat) : Bool := j_dec (mB k) e.1 e.2.1 && j_okE k own e.1 e.2.1 e.2.2
set_option maxRecDepth 1000000 in
theorem j_chL_0 : ((k_236.drop 0).take 70).all (j_chF 236 8) = true := by decide +kernel
set_option maxRecDepth 1000000 in
theorem j_chL_70 : ((k_236.drop 70).take 70).all (j_chF 236 8) = true := by decide +kernel
set_option maxRecDepth 1000000 in
theorem j_chL_140 : ((k_236.drop 140).take 70).all (j_chF 236 8) = true := by decide +kernel
set_option maxRecDepth 1000000 in
theorem j_chL_210 : ((k_236.drop 210).take 70).all (j_chF 236 8) = true := by decide +kernel
set_option maxRecDepth 1000000 in
theorem j_chL_280 : ((k_236.drop 280).take 70).all (j_chF 236 8) = true := by decide +kernel
set_option maxRecDepth 1000000 in
theorem j_chL_350 : ((k_236.drop 350).take 70).all (j_chF 236 8) = true := by decide +kernel
set_option maxRecDepth 1000000 in
theorem j_chL_420 : ((k_236.drop 420).take 70).all (j_chF 236 8) = true := by decide +kernel
set_option maxRecDepth 1000000 in
theorem j_chL_490 : ((k_236.drop 490).take 70).all (j_chF 236 8) = true := by decide +kernel
set_option maxRecDepth 1000000 in
theorem j_chL_560 : ((k_236.drop 560).take 70).all (j_chF 236 8) = true := by decide +kernel
set_option maxRecDepth 1000000 in
theorem j_chL_630 : ((k_236.drop 630).take 70).all (j_chF 236 8) = true := by decide +kernel
set_option maxRecDepth 1000000 in
theorem j_chL_700 : ((k_236.drop 700).take 70).all (j_chF 236 8) = true := by decide +kernel
set_option maxRecDepth 1000000 in
theorem j_chL_770 : (k_236.drop 770).all (j_chF 236 8) = true := by decide +kernel
end
section
/-! ===== part 5c: the law, whole ===== -/
set_option maxRecDepth 1000000 in
theorem j_chk_236 : j_chk 236 8 = true := by
  show k_236.all (j_chF 236 8) = true
  refine j_allc _ 70 _ j_chL_0 ?_
  refine j_allc _ 70 _ j_chL_70 ?_
  rw [List.drop_drop]
  refine j_allc _ 70 _ j_chL_140 ?_
  rw [List.drop_drop]
  refine j_allc _ 70 _ j_chL_210 ?_
  rw [List.drop_drop]
  refine j_allc _ 70 _ j_chL_280 ?_
  rw [List.drop_drop]
  refine j_allc _ 70 _ j_chL_350 ?_
  rw [List.drop_drop]
  refine j_allc _ 70 _ j_chL_420 ?_
  rw [List.drop_drop]
  refine j_allc _ 70 _ j_chL_490 ?_
  rw [List.drop_drop]
  refine j_allc _ 70 _ j_chL_560 ?_
  rw [List.drop_drop]
  refine j_allc _ 70 _ j_chL_630 ?_
  rw [List.drop_drop]
  refine j_allc _ 70 _ j_chL_700 ?_
  rw [List.drop_drop]
  exact j_chL_770
end
section
/-! ===== part 5d: all checks at hand ===== -/
set_option maxRecDepth 1000000 in
theorem j_chs_0 : ∀ k, k < 40 → j_chk (0 + k) (j_own.getD (0 + k) 0) = true := fun k h => match k, h with
  | 0, _ => j_chk_0
  | 1, _ => j_chk_1
  | 2, _ => j_chk_2
  | 3, _ => j_chk_3
  | 4, _ => j_chk_4
  | 5, _ => j_chk_5
  | 6, _ => j_chk_6
  | 7, _ => j_chk_7
  | 8, _ => j_chk_8
  | 9, _ => j_chk_9
  | 10, _ => j_chk_10
  | 11, _ => j_chk_11
  | 12, _ => j_chk_12
  | 13, _ => j_chk_13
  | 14, _ => j_chk_14
  | 15, _ => j_chk_15
  | 16, _ => j_chk_16
  | 17, _ => j_chk_17
  | 18, _ => j_chk_18
  | 19, _ => j_chk_19
  | 20, _ => j_chk_20
  | 21, _ => j_chk_21
  | 22, _ => j_chk_22
  | 23, _ => j_chk_23
  | 24, _ => j_chk_24
  | 25, _ => j_chk_25
  | 26, _ => j_chk_26
  | 27, _ => j_chk_27
  | 28, _ => j_chk_28
  | 29, _ => j_chk_29
  | 30, _ => j_chk_30
  | 31, _ => j_chk_31
  | 32, _ => j_chk_32
  | 33, _ => j_chk_33
  | 34, _ => j_chk_34
  | 35, _ => j_chk_35
  | 36, _ => j_chk_36
  | 37, _ => j_chk_37
  | 38, _ => j_chk_38
  | 39, _ => j_chk_39
  | k + 40, h => absurd h (by omega)
set_option maxRecDepth 1000000 in
theorem j_chs_1 : ∀ k, k < 40 → j_chk (40 + k) (j_own.getD (40 + k) 0) = true := fun k h => match k, h with
  | 0, _ => j_chk_40
  | 1, _ => j_chk_41
  | 2, _ => j_chk_42
  | 3, _ => j_chk_43
  | 4, _ => j_chk_44
  | 5, _ => j_chk_45
  | 6, _ => j_chk_46
  | 7, _ => j_chk_47
  | 8, _ => j_chk_48
  | 9, _ => j_chk_49
  | 10, _ => j_chk_50
  | 11, _ => j_chk_51
  | 12, _ => j_chk_52
  | 13, _ => j_chk_53
  | 14, _ => j_chk_54
  | 15, _ => j_chk_55
  | 16, _ => j_chk_56
  | 17, _ => j_chk_57
  | 18, _ => j_chk_58
  | 19, _ => j_chk_59
  | 20, _ => j_chk_60
  | 21, _ => j_chk_61
  | 22, _ => j_chk_62
  | 23, _ => j_chk_63
  | 24, _ => j_chk_64
  | 25, _ => j_chk_65
  | 26, _ => j_chk_66
  | 27, _ => j_chk_67
  | 28, _ => j_chk_68
  | 29, _ => j_chk_69
  | 30, _ => j_chk_70
  | 31, _ => j_chk_71
  | 32, _ => j_chk_72
  | 33, _ => j_chk_73
  | 34, _ => j_chk_74
  | 35, _ => j_chk_75
  | 36, _ => j_chk_76
  | 37, _ => j_chk_77
  | 38, _ => j_chk_78
  | 39, _ => j_chk_79
  | k + 40, h => absurd h (by omega)
set_option maxRecDepth 1000000 in
theorem j_chs_2 : ∀ k, k < 40 → j_chk (80 + k) (j_own.getD (80 + k) 0) = true := fun k h => match k, h with
  | 0, _ => j_chk_80
  | 1, _ => j_chk_81
  | 2, _ => j_chk_82
  | 3, _ => j_chk_83
  | 4, _ => j_chk_84
  | 5, _ => j_chk_85
  | 6, _ => j_chk_86
  | 7, _ => j_chk_87
  | 8, _ => j_chk_88
  | 9, _ => j_chk_89
  | 10, _ => j_chk_90
  | 11, _ => j_chk_91
  | 12, _ => j_chk_92
  | 13, _ => j_chk_93
  | 14, _ => j_chk_94
  | 15, _ => j_chk_95
  | 16, _ => j_chk_96
  | 17, _ => j_chk_97
  | 18, _ => j_chk_98
  | 19, _ => j_chk_99
  | 20, _ => j_chk_100
  | 21, _ => j_chk_101
  | 22, _ => j_chk_102
  | 23, _ => j_chk_103
  | 24, _ => j_chk_104
  | 25, _ => j_chk_105
  | 26, _ => j_chk_106
  | 27, _ => j_chk_107
  | 28, _ => j_chk_108
  | 29, _ => j_chk_109
  | 30, _ => j_chk_110
  | 31, _ => j_chk_111
  | 32, _ => j_chk_112
  | 33, _ => j_chk_113
  | 34, _ => j_chk_114
  | 35, _ => j_chk_115
  | 36, _ => j_chk_116
  | 37, _ => j_chk_117
  | 38, _ => j_chk_118
  | 39, _ => j_chk_119
  | k + 40, h => absurd h (by omega)
set_option maxRecDepth 1000000 in
theorem j_chs_3 : ∀ k, k < 40 → j_chk (120 + k) (j_own.getD (120 + k) 0) = true := fun k h => match k, h with
  | 0, _ => j_chk_120
  | 1, _ => j_chk_121
  | 2, _ => j_chk_122
  | 3, _ => j_chk_123
  | 4, _ => j_chk_124
  | 5, _ => j_chk_125
  | 6, _ => j_chk_126
  | 7, _ => j_chk_127
  | 8, _ => j_chk_128
  | 9, _ => j_chk_129
  | 10, _ => j_chk_130
  | 11, _ => j_chk_131
  | 12, _ => j_chk_132
  | 13, _ => j_chk_133
  | 14, _ => j_chk_134
  | 15, _ => j_chk_135
  | 16, _ => j_chk_136
  | 17, _ => j_chk_137
  | 18, _ => j_chk_138
  | 19, _ => j_chk_139
  | 20, _ => j_chk_140
  | 21, _ => j_chk_141
  | 22, _ => j_chk_142
  | 23, _ => j_chk_143
  | 24, _ => j_chk_144
  | 25, _ => j_chk_145
  | 26, _ => j_chk_146
  | 27, _ => j_chk_147
  | 28, _ => j_chk_148
  | 29, _ => j_chk_149
  | 30, _ => j_chk_150
  | 31, _ => j_chk_151
  | 32, _ => j_chk_152
  | 33, _ => j_chk_153
  | 34, _ => j_chk_154
  | 35, _ => j_chk_155
  | 36, _ => j_chk_156
  | 37, _ => j_chk_157
  | 38, _ => j_chk_158
  | 39, _ => j_chk_159
  | k + 40, h => absurd h (by omega)
set_option maxRecDepth 1000000 in
theorem j_chs_4 : ∀ k, k < 40 → j_chk (160 + k) (j_own.getD (160 + k) 0) = true := fun k h => match k, h with
  | 0, _ => j_chk_160
  | 1, _ => j_chk_161
  | 2, _ => j_chk_162
  | 3, _ => j_chk_163
  | 4, _ => j_chk_164
  | 5, _ => j_chk_165
  | 6, _ => j_chk_166
  | 7, _ => j_chk_167
  | 8, _ => j_chk_168
  | 9, _ => j_chk_169
  | 10, _ => j_chk_170
  | 11, _ => j_chk_171
  | 12, _ => j_chk_172
  | 13, _ => j_chk_173
  | 14, _ => j_chk_174
  | 15, _ => j_chk_175
  | 16, _ => j_chk_176
  | 17, _ => j_chk_177
  | 18, _ => j_chk_178
  | 19, _ => j_chk_179
  | 20, _ => j_chk_180
  | 21, _ => j_chk_181
  | 22, _ => j_chk_182
  | 23, _ => j_chk_183
  | 24, _ => j_chk_184
  | 25, _ => j_chk_185
  | 26, _ => j_chk_186
  | 27, _ => j_chk_187
  | 28, _ => j_chk_188
  | 29, _ => j_chk_189
  | 30, _ => j_chk_190
  | 31, _ => j_chk_191
  | 32, _ => j_chk_192
  | 33, _ => j_chk_193
  | 34, _ => j_chk_194
  | 35, _ => j_chk_195
  | 36, _ => j_chk_196
  | 37, _ => j_chk_197
  | 38, _ => j_chk_198
  | 39, _ => j_chk_199
  | k + 40, h => absurd h (by omega)
set_option maxRecDepth 1000000 in
theorem j_chs_5 : ∀ k, k < 36 → j_chk (200 + k) (j_own.getD (200 + k) 0) = true := fun k h => match k, h with
  | 0, _ => j_chk_200
  | 1, _ => j_chk_201
  | 2, _ => j_chk_202
  | 3, _ => j_chk_203
  | 4, _ => j_chk_204
  | 5, _ => j_chk_205
  | 6, _ => j_chk_206
  | 7, _ => j_chk_207
  | 8, _ => j_chk_208
  | 9, _ => j_chk_209
  | 10, _ => j_chk_210
  | 11, _ => j_chk_211
  | 12, _ => j_chk_212
  | 13, _ => j_chk_213
  | 14, _ => j_chk_214
  | 15, _ => j_chk_215
  | 16, _ => j_chk_216
  | 17, _ => j_chk_217
  | 18, _ => j_chk_218
  | 19, _ => j_chk_219
  | 20, _ => j_chk_220
  | 21, _ => j_chk_221
  | 22, _ => j_chk_222
  | 23, _ => j_chk_223
  | 24, _ => j_chk_224
  | 25, _ => j_chk_225
  | 26, _ => j_chk_226
  | 27, _ => j_chk_227
  | 28, _ => j_chk_228
  | 29, _ => j_chk_229
  | 30, _ => j_chk_230
  | 31, _ => j_chk_231
  | 32, _ => j_chk_232
  | 33, _ => j_chk_233
  | 34, _ => j_chk_234
  | 35, _ => j_chk_235
  | k + 36, h => absurd h (by omega)
theorem j_chks : ∀ k, k < 236 → j_chk k (j_own.getD k 0) = true := by
  intro k hk
  by_cases h0 : k < 40
  · have := j_chs_0 (k - 0) (by omega)
    rwa [show 0 + (k - 0) = k by omega] at this
  by_cases h40 : k < 80
  · have := j_chs_1 (k - 40) (by omega)
    rwa [show 40 + (k - 40) = k by omega] at this
  by_cases h80 : k < 120
  · have := j_chs_2 (k - 80) (by omega)
    rwa [show 80 + (k - 80) = k by omega] at this
  by_cases h120 : k < 160
  · have := j_chs_3 (k - 120) (by omega)
    rwa [show 120 + (k - 120) = k by omega] at this
  by_cases h160 : k < 200
  · have := j_chs_4 (k - 160) (by omega)
    rwa [show 160 + (k - 160) = k by omega] at this
  by_cases h200 : k < 240
  · have := j_chs_5 (k - 200) (by omega)
    rwa [show 200 + (k - 200) = k by omega] at this
  omega
end
section
/-! ===== THE MACHINE FOLLOWS THE LITTLE MACHINE, part 6: calls ===== -/
def m_rm (d mc ms : Nat) : Room := { frames := d, cells := mc, slots := ms, locals := 40 * d }
def m_wm (k : Nat) : List Jvm.Cond := Jvm.Cond.code (mN k) (mB k) (mL k) (mR k) :: j_ws
def m_agr (σ : Sto) (ρ u : Nat → Nat) : Prop := ∀ r, r < s_n σ → u r = ρ r
def m_B (dC : Nat → ClassId) (dI : Nat → Nat → Nat) (cA : FieldType → ClassId) (τ rn : Nat → Nat) (rx : Nat → Nat → Int32) (σ : Sto) (A1 : Nat → Prop) (u : Nat → Nat) (t : State) : Prop := va_P (dC, dI) j_cls (m_ws cA u τ σ) t.heap ∧ va_K (dC, dI) j_cls (m_tys cA) t ∧ va_D A1 (m_ws cA u τ σ) ∧ m_Wf rn rx σ
def m_Qc (dC : Nat → ClassId) (dI : Nat → Nat → Nat) (cA : FieldType → ClassId) (τ rn : Nat → Nat) (rx : Nat → Nat → Int32) (ρ : Nat → Nat) (σ σ' : Sto) (A1 : Nat → Prop) (v : Option Value) : Array Value → State → Outcome → State → Prop := match v with
  | none => va_Qv (m_agr σ ρ) (m_B dC dI cA τ rn rx σ' A1) A1
  | some (.int x) => va_Qi (fun r u => r = x ∧ m_agr σ ρ u) (m_B dC dI cA τ rn rx σ' A1) A1
  | some (.long x) => va_Ql (fun r u => r = x ∧ m_agr σ ρ u) (m_B dC dI cA τ rn rx σ' A1) A1
  | _ => fun _ _ _ _ => False
def m_Pb (dC : Nat → ClassId) (dI : Nat → Nat → Nat) (cA : FieldType → ClassId) (τ rn : Nat → Nat) (rx : Nat → Nat → Int32) (ρ : Nat → Nat) (σ : Sto) (sz : Nat) (U : State) : Prop := U.heap.size = sz ∧ va_P (dC, dI) j_cls (m_ws cA ρ τ σ) U.heap ∧ va_K (dC, dI) j_cls (m_tys cA) U ∧ va_D (fun _ => True) (m_ws cA ρ τ σ) ∧ m_G τ rn rx (va_A (m_ws cA ρ τ σ) sz) U U.heap
/-- the contract of a run of the little machine -/
def m_Ct (l : Launch) (d k : Nat) (as : List Value) (σ : Sto) (v : Option Value) (σ' : Sto) : Prop := s_n σ ≤ s_n σ' ∧ s_l σ ≤ s_l σ' ∧ ∀ (rn : Nat → Nat) (rx : Nat → Nat → Int32), m_Wf rn rx σ → (∀ v ∈ as, m_ok (s_n σ) v) → s_n σ' ≤ j_b → ∀ (dC : Nat → ClassId) (dI : Nat → Nat → Nat) (cA : FieldType → ClassId) (τ ρ : Nat → Nat) (sz : Nat),
  Met l (mN k) (m_wm k) (m_rm d (s_n σ' - s_n σ) (s_l σ' - s_l σ)) (va_Pc (as.map (m_v ρ τ)) (m_Pb dC dI cA τ rn rx ρ σ sz)) (m_Qc dC dI cA τ rn rx ρ σ σ' (va_A (m_ws cA ρ τ σ) sz) v) (s_n σ' - s_n σ) (s_l σ' - s_l σ) (va_A (m_ws cA ρ τ σ) sz)
theorem m_blind {dC : Nat → ClassId} {dI : Nat → Nat → Nat} {cA : FieldType → ClassId} {τ rn : Nat → Nat} {rx : Nat → Nat → Int32} {ρ : Nat → Nat} {σ : Sto} {sz : Nat} {as : List Value} : FrameBlind (va_Pc as (m_Pb dC dI cA τ rn rx ρ σ sz)) := fun a U g mk q => ⟨q.1, q.2.1, q.2.2.1, va_K.moved (u := U) (U := U.calling g mk a) (Vm.Alike.refl U.vm) q.2.2.2.1, q.2.2.2.2.1, m_G.same (u := U) (U := U.calling g mk a) rfl q.2.2.2.2.2⟩
theorem m_has {p : Nat} {w : Jvm.Cond} (h : j_has p w = true) : w ∈ j_ws := j_mem p h
theorem m_mp {k : Nat} (hk : k < 236) : Jvm.Cond.code (mN k) (mB k) (mL k) (mR k) ∈ j_ws ∧ Jvm.Cond.initialized (mN k).cls ∈ j_ws ∧ (mN k).cls ≠ "java/lang/invoke/MethodHandle" ∧ (mN k).cls ≠ "java/lang/invoke/VarHandle" ∧ plainName (mN k).cls = true ∧ mL k ≤ 20 := by
  have h := List.all_eq_true.mp j_mps_ok k (List.mem_range.mpr hk)
  unfold j_mB1 at h
  simp only [Bool.and_eq_true, decide_eq_true_eq] at h
  obtain ⟨⟨⟨⟨h2, h3⟩, h4⟩, h5⟩, h6⟩ := h
  exact ⟨j_cds k hk, m_has h2, h3, h4, h5, h6⟩
theorem m_goodW {k : Nat} (hk : k < 236) : GoodIn j_ws (m_wm k) := fun w hw => by
  have : w ∈ j_ws := (List.mem_cons.mp hw).elim (fun e => e ▸ (m_mp hk).1) id
  exact ⟨this, good_of_word (j_ws_good w this)⟩
theorem m_goodX {k : Nat} (hk : k < 236) {ws : List Jvm.Cond} (h : ∀ w ∈ ws, w ∈ j_ws) : GoodIn j_ws (ws ++ m_wm k) := fun w hw => (List.mem_append.mp hw).elim (fun z => ⟨h w z, good_of_word (j_ws_good w (h w z))⟩) (m_goodW hk w)
section SIMCALL
variable {p : Program} {l : Launch} {e : Env} {R : Room} {s : State} {m : MethodId} {args : Array Value} {below : List Frame} {meth : Method} {c : Code} {Q : State → Prop} {dC : Nat → ClassId} {dI : Nat → Nat → Nat} {cA : FieldType → ClassId} {τ rn : Nat → Nat} {rx : Nat → Nat → Int32} {A : Nat → Prop} {nL nb lb own : Nat} {ρ0 : Nat → Nat} {cc : ByteArray} {pc : Nat} {L : j_L} {st : List Value} {σ : Sto}

theorem m_after (hS : m_St p R s m args c dC dI cA τ rn rx A nL own cc) {d k : Nat} {as st' stk : List Value} {v : Option Value} {σ' : Sto} {ρ : Nat → Nat} {H : Heap} {locs : List Loc} {cells slots : Nat} {ls : Array Slot} (hI : m_Inv dC dI cA τ rn rx A s ρ σ H locs) (hc : cells + nb = s_n σ ∧ ∀ r, r < nb → ρ r = ρ0 r) (hs : slots + lb = s_l σ) (hL : m_LR ρ τ nL (s_n σ) ls L) (hct : m_Ct l d k as σ v σ') (has : ∀ v ∈ as, m_ok (s_n σ) v) (hbn : s_n σ' ≤ j_b) (hst : ∀ v ∈ st', m_ok (s_n σ) v) (hrun : va_Run p l e R s m args below meth c H locs cells slots (s_n σ' - s_n σ) (s_l σ' - s_l σ) (F0 m pc ls stk) (st'.map (m_v ρ τ)) (m_Qc dC dI cA τ rn rx ρ σ σ' (va_A (m_ws cA ρ τ σ) H.size) v (as.map (m_v ρ τ)).toArray) (va_A (m_ws cA ρ τ σ) H.size)) (kk : m_at p l e R s m args below meth c Q dC dI cA τ rn rx A nL nb lb ρ0 (pc + 3) (L) (v.toList ++ st') (σ')) : W p l e R s m args below meth c H locs cells slots Q (F0 m pc ls stk) := by
  have hfree : ∀ q, va_A (m_ws cA ρ τ σ) H.size q → A q := fun q hq => hq.elim (fun ⟨k, e, h⟩ => hI.2.1.2 k (q, e) h) (fun h => hS.2.2.2.2.2.2.1 q (Nat.le_trans hI.2.2.1.1 h))
  obtain ⟨hn1, hn2, hrest⟩ := hct
  have fin : ∀ (u : Nat → Nat) (t : State) (H1 : Heap) (locs1 : List Loc) (z : List Value), (∀ x ∈ z, m_ok 0 x) → t.heap = H1 → s.vm.Alike t.vm → m_agr σ ρ u → m_B dC dI cA τ rn rx σ' (va_A (m_ws cA ρ τ σ) H.size) u t → va_S A s.heap H1 locs1 → v.toList = z → z.map (m_v u τ) = z → W p l e R s m args below meth c H1 locs1 (cells + (s_n σ' - s_n σ)) (slots + (s_l σ' - s_l σ)) Q (F0 m (pc + 3) ls (z ++ st'.map (m_v ρ τ))) := by
    intro u t H1 locs1 z hz ht hvm ha hB hS1 hv hz2
    have h9 := kk u H1 locs1 (cells + (s_n σ' - s_n σ)) (slots + (s_l σ' - s_l σ)) ls ⟨by rw [← ht]; exact hB.1, hB.2.2.1.weaken (fun _ q _ h => hfree q.1 h), hS1, hB.2.2.2⟩ ⟨by omega, fun r hr => (ha r (by omega)).trans (hc.2 r hr)⟩ (by omega) (m_LR_ext hL hn1 hI.2.2.2.2.1 ha) (fun x hx => by
      rcases List.mem_append.mp hx with h | h
      · rw [hv] at h
        exact m_ok_le (Nat.zero_le _) (hz x h)
      · exact m_ok_le hn1 (hst x h))
    rw [hv, List.map_append, hz2, List.map_congr_left (g := m_v ρ τ) (fun x hx => m_v_ext ha hI.2.2.2.2.1 (hst x hx))] at h9
    exact h9
  cases v with
  | none => exact va_callv (a := (as.map (m_v ρ τ)).toArray) hrun hI.2.2.1 (fun q _ h => hfree q h) hfree (fun u t H1 locs1 ht hvm ha hB _ _ hS1 => fin u t H1 locs1 [] (fun _ h => by cases h) ht hvm ha hB hS1 rfl rfl)
  | some x =>
    cases x with
    | int x => exact va_calli (a := (as.map (m_v ρ τ)).toArray) hrun hI.2.2.1 (fun q _ h => hfree q h) hfree (fun r u t H1 locs1 ht hvm ha hB _ _ hS1 => by
        obtain ⟨rfl, ha⟩ := ha
        exact fin u t H1 locs1 [.int r] (fun v h => by rw [List.mem_singleton.mp h]; trivial) ht hvm ha hB hS1 rfl rfl)
    | long x => exact va_calll (a := (as.map (m_v ρ τ)).toArray) hrun hI.2.2.1 (fun q _ h => hfree q h) hfree (fun r u t H1 locs1 ht hvm ha hB _ _ hS1 => by
        obtain ⟨rfl, ha⟩ := ha
        exact fin u t H1 locs1 [.long r] (fun v h => by rw [List.mem_singleton.mp h]; trivial) ht hvm ha hB hS1 rfl rfl)
    | _ =>
      intro T hT X
      obtain ⟨_, _, _, _, _, _, _, _, _, _, h, _⟩ := hrun T hT X
      exact h.elim
theorem m_pre (hS : m_St p R s m args c dC dI cA τ rn rx A nL own cc) {ρ : Nat → Nat} {H : Heap} {locs : List Loc} (hI : m_Inv dC dI cA τ rn rx A s ρ σ H locs) (av : List Value) : ∀ U : State, U.heap = H → s.WarmedH U.vm → va_Pc av (m_Pb dC dI cA τ rn rx ρ σ H.size) av.toArray U := fun U hU hW => by
  have hfree : ∀ q, va_A (m_ws cA ρ τ σ) H.size q → A q := fun q hq => hq.elim (fun ⟨k, e, h⟩ => hI.2.1.2 k (q, e) h) (fun h => hS.2.2.2.2.2.2.1 q (Nat.le_trans hI.2.2.1.1 h))
  refine ⟨rfl, by rw [hU], by rw [hU]; exact hI.1, va_K.moved hW.alike hS.2.2.2.2.1, hI.2.1.weaken (fun _ _ _ _ => trivial), ?_⟩
  rw [hU]
  exact m_G.warm hW (m_G.kept hS.2.2.2.2.2.1 hI.2.2.1.2.1 hfree)
theorem m_call0 (hS : m_St p R s m args c dC dI cA τ rn rx A nL own cc) {d k na idx : Nat} {v : Option Value} {σ' : Sto} {ta st' : List Value} (hk : k < 236) (hnp : j_np (mN k) = some na) (hna : ta.length = na) (hcat : (st'.map fun v => v.category).sum ≤ 8) (hfr : d + 1 ≤ R.frames) (hlo : 40 * d + 40 ≤ R.locals) (hbn : s_n σ' ≤ j_b) (hRc : s_n σ' ≤ R.cells + nb) (hRs : s_l σ' ≤ R.slots + lb) {r ci : Nat} (hci : ci < 8) (hcn : j_CN ci = (mN k).cls) (hr : σ.1 r = some (.inl ci))  (hl : Jvm.Cond.methodLink (j_CN own) idx (mN k) ∈ j_ws) (hl2 : Jvm.Cond.instanceMethod (mN k) ∈ j_ws) (hl3 : Jvm.Cond.selects (mN k).cls (mN k) (mN k) ∈ j_ws) (hct : m_Ct l d k (.ref r :: ta.reverse) σ v σ') (hdg : decode cc pc = .ok (.invokevirtual idx, 3)) (kk : m_at p l e R s m args below meth c Q dC dI cA τ rn rx A nL nb lb ρ0 (pc + 3) (L) (v.toList ++ st') (σ')) : m_at p l e R s m args below meth c Q dC dI cA τ rn rx A nL nb lb ρ0 (pc) (L) (ta ++ .ref r :: st') (σ) := by
  intro ρ H locs cells slots ls hI hc hs hL hw
  have hst : ∀ v ∈ st', m_ok (s_n σ) v := fun v hv => hw v (List.mem_append_right _ (List.mem_cons_of_mem _ hv))
  have has : ∀ v ∈ (.ref r :: ta.reverse), m_ok (s_n σ) v := fun v hv => (List.mem_cons.mp hv).elim (fun e => by rw [e]; exact hw _ (List.mem_append_right _ List.mem_cons_self)) (fun h => hw v (List.mem_append_left _ (List.mem_reverse.mp h)))
  have hrn := m_inr' hI.2.2.2 hr
  have hrb : r < j_b := Nat.lt_of_lt_of_le hrn hI.2.2.2.2.1
  have e1 : m_v ρ τ (.ref r) = .ref (ρ r) := by show Value.ref (m_ad ρ τ r) = _; rw [m_ad_lt hrb]
  have hcm : ((st'.map (m_v ρ τ)).map fun v => v.category) = st'.map fun v => v.category := by rw [List.map_map]; exact List.map_congr_left fun v _ => m_v_cat ρ τ v
  obtain ⟨g1, g2, g3, g4, g5, g6⟩ := m_mp hk
  have hdd : (mN k).cls ≠ "java/lang/invoke/MethodHandle" ∧ (mN k).cls ≠ "java/lang/invoke/VarHandle" ∧ (parseMethodDescriptor (mN k).desc).map (fun d => d.parameters.length) = some na := ⟨g3, g4, hnp⟩
  have hRR : (m_rm d (s_n σ' - s_n σ) (s_l σ' - s_l σ)).frames + 1 ≤ R.frames ∧ 8 + (mL k + 11) + (m_rm d (s_n σ' - s_n σ) (s_l σ' - s_l σ)).locals ≤ R.locals := ⟨hfr, by show 8 + (mL k + 11) + 40 * d ≤ _; omega⟩
  have hlen : ((ta.reverse.map (m_v ρ τ)).length) = na := by simp [hna]
  have hrm : 2 * (F0 m pc ls ((ta ++ .ref r :: st').map (m_v ρ τ))).monitorRoom + ((st'.map (m_v ρ τ)).map fun v => v.category).sum ≤ 8 := lv_room (by rw [hcm]; exact hcat)
  have hff : cells + (s_n σ' - s_n σ) ≤ R.cells ∧ slots + (s_l σ' - s_l σ) ≤ R.slots := by have := hct.1; have := hct.2.1; omega
  have hMet := hct.2.2 rn rx hI.2.2.2 has hbn dC dI cA τ ρ H.size
  have hmapst : (ta ++ .ref r :: st').map (m_v ρ τ) = (ta.reverse.map (m_v ρ τ)).reverse ++ .ref (ρ r) :: st'.map (m_v ρ τ) := by
    rw [List.map_append, List.map_reverse, List.reverse_reverse]
    rw [List.map_cons, e1]
  have e3 : (.ref r :: ta.reverse).map (m_v ρ τ) = .ref (ρ r) :: ta.reverse.map (m_v ρ τ) := by rw [List.map_cons, e1]
  have hpre := m_pre hS hI ((.ref r :: ta.reverse).map (m_v ρ τ))
  have hrec := va_recv hS.2.2.2.2.1 hI.1 (j_cls_get hci) ((m_ws_get hrn).trans (by rw [m_E_obj hr]))
  have hgd : GoodIn j_ws (wsV (j_CN own) idx (mN k).cls (mN k) (m_wm k)) := m_goodX hk (fun w hw => by
    rcases List.mem_cons.mp hw with rfl | hw
    · exact hl
    rcases List.mem_cons.mp hw with rfl | hw
    · exact hl2
    rcases List.mem_cons.mp hw with rfl | hw
    · exact hl3
    · rw [List.mem_singleton.mp hw]; exact g2)
  refine m_after hS hI hc hs hL hct has hbn hst ?_ kk
  rw [e3] at hMet hpre ⊢
  exact va_runV (C := (mN k).cls) (As := ta.reverse.map (m_v ρ τ)) (rest := st'.map (m_v ρ τ)) ⟨hS.1, hS.2.1, hS.2.2.2.2.2.2.2.1, hS.2.2.1, hS.2.2.2.1⟩ hMet (cwV na hS.2.2.2.1 hgd rfl rfl rfl ⟨rfl, hdd⟩ hRR) ⟨m_blind, by rw [← hcn]; exact hrec, hpre⟩ rfl hlen (m_LR_sz hL) hmapst hrm hdg hff
theorem m_call2 (hS : m_St p R s m args c dC dI cA τ rn rx A nL own cc) {d k na idx : Nat} {v : Option Value} {σ' : Sto} {ta st' : List Value} (hk : k < 236) (hnp : j_np (mN k) = some na) (hna : ta.length = na) (hcat : (st'.map fun v => v.category).sum ≤ 8) (hfr : d + 1 ≤ R.frames) (hlo : 40 * d + 40 ≤ R.locals) (hbn : s_n σ' ≤ j_b) (hRc : s_n σ' ≤ R.cells + nb) (hRs : s_l σ' ≤ R.slots + lb) {r : Nat}  (hl : Jvm.Cond.methodLink (j_CN own) idx (mN k) ∈ j_ws) (hl2 : Jvm.Cond.instanceMethod (mN k) ∈ j_ws) (hnm : (mN k).name = "<init>") (hret : mR k = none) (hct : m_Ct l d k (.ref r :: ta.reverse) σ v σ') (hdg : decode cc pc = .ok (.invokespecial idx, 3)) (kk : m_at p l e R s m args below meth c Q dC dI cA τ rn rx A nL nb lb ρ0 (pc + 3) (L) (v.toList ++ st') (σ')) : m_at p l e R s m args below meth c Q dC dI cA τ rn rx A nL nb lb ρ0 (pc) (L) (ta ++ .ref r :: st') (σ) := by
  intro ρ H locs cells slots ls hI hc hs hL hw
  have hst : ∀ v ∈ st', m_ok (s_n σ) v := fun v hv => hw v (List.mem_append_right _ (List.mem_cons_of_mem _ hv))
  have has : ∀ v ∈ (.ref r :: ta.reverse), m_ok (s_n σ) v := fun v hv => (List.mem_cons.mp hv).elim (fun e => by rw [e]; exact hw _ (List.mem_append_right _ List.mem_cons_self)) (fun h => hw v (List.mem_append_left _ (List.mem_reverse.mp h)))
  have hcm : ((st'.map (m_v ρ τ)).map fun v => v.category) = st'.map fun v => v.category := by rw [List.map_map]; exact List.map_congr_left fun v _ => m_v_cat ρ τ v
  obtain ⟨g1, g2, g3, g4, g5, g6⟩ := m_mp hk
  have hdd : (mN k).cls ≠ "java/lang/invoke/MethodHandle" ∧ (mN k).cls ≠ "java/lang/invoke/VarHandle" ∧ (parseMethodDescriptor (mN k).desc).map (fun d => d.parameters.length) = some na := ⟨g3, g4, hnp⟩
  have hRR : (m_rm d (s_n σ' - s_n σ) (s_l σ' - s_l σ)).frames + 1 ≤ R.frames ∧ 8 + (mL k + 11) + (m_rm d (s_n σ' - s_n σ) (s_l σ' - s_l σ)).locals ≤ R.locals := ⟨hfr, by show 8 + (mL k + 11) + 40 * d ≤ _; omega⟩
  have hlen : ((ta.reverse.map (m_v ρ τ)).length) = na := by simp [hna]
  have hrm : 2 * (F0 m pc ls ((ta ++ .ref r :: st').map (m_v ρ τ))).monitorRoom + ((st'.map (m_v ρ τ)).map fun v => v.category).sum ≤ 8 := lv_room (by rw [hcm]; exact hcat)
  have hff : cells + (s_n σ' - s_n σ) ≤ R.cells ∧ slots + (s_l σ' - s_l σ) ≤ R.slots := by have := hct.1; have := hct.2.1; omega
  have hMet := hct.2.2 rn rx hI.2.2.2 has hbn dC dI cA τ ρ H.size
  have hmapst : (ta ++ .ref r :: st').map (m_v ρ τ) = (ta.reverse.map (m_v ρ τ)).reverse ++ .ref (m_ad ρ τ r) :: st'.map (m_v ρ τ) := by
    rw [List.map_append, List.map_reverse, List.reverse_reverse]
    try rfl
  have e3 : (.ref r :: ta.reverse).map (m_v ρ τ) = .ref (m_ad ρ τ r) :: ta.reverse.map (m_v ρ τ) := rfl
  have hpre := m_pre hS hI ((.ref r :: ta.reverse).map (m_v ρ τ))
  have hwm : m_wm k = Jvm.Cond.code (mN k) (mB k) (mL k) none :: j_ws := by unfold m_wm; rw [hret]
  refine m_after hS hI hc hs hL hct has hbn hst ?_ kk
  rw [e3] at hMet hpre ⊢
  exact va_runI (As := ta.reverse.map (m_v ρ τ)) (rest := st'.map (m_v ρ τ)) ⟨hS.1, hS.2.1, hS.2.2.2.2.2.2.2.1, hS.2.2.1, hS.2.2.2.1⟩ hMet (cwI na hS.2.2.2.1 (m_goodW hk) hwm rfl rfl (hS.2.2.2.1 _ g2) (hS.2.2.2.1 _ hl) (hS.2.2.2.1 _ hl2) hnm hdd hRR) ⟨m_blind, hpre⟩ rfl hlen (m_LR_sz hL) hmapst hrm hdg hff
theorem m_call3 (hS : m_St p R s m args c dC dI cA τ rn rx A nL own cc) {d k na idx : Nat} {v : Option Value} {σ' : Sto} {ta st' : List Value} (hk : k < 236) (hnp : j_np (mN k) = some na) (hna : ta.length = na) (hcat : (st'.map fun v => v.category).sum ≤ 8) (hfr : d + 1 ≤ R.frames) (hlo : 40 * d + 40 ≤ R.locals) (hbn : s_n σ' ≤ j_b) (hRc : s_n σ' ≤ R.cells + nb) (hRs : s_l σ' ≤ R.slots + lb) {r : Nat}  (hl : Jvm.Cond.methodLinkNest (j_CN own) idx (mN k) "LastStirred" ∈ lw_tbl) (hl2 : Jvm.Cond.instanceMethod (mN k) ∈ j_ws) (hnm : (mN k).name = "<init>") (hret : mR k = none) (hct : m_Ct l d k (.ref r :: ta.reverse) σ v σ') (hdg : decode cc pc = .ok (.invokespecial idx, 3)) (kk : m_at p l e R s m args below meth c Q dC dI cA τ rn rx A nL nb lb ρ0 (pc + 3) (L) (v.toList ++ st') (σ')) : m_at p l e R s m args below meth c Q dC dI cA τ rn rx A nL nb lb ρ0 (pc) (L) (ta ++ .ref r :: st') (σ) := by
  intro ρ H locs cells slots ls hI hc hs hL hw
  have hst : ∀ v ∈ st', m_ok (s_n σ) v := fun v hv => hw v (List.mem_append_right _ (List.mem_cons_of_mem _ hv))
  have has : ∀ v ∈ (.ref r :: ta.reverse), m_ok (s_n σ) v := fun v hv => (List.mem_cons.mp hv).elim (fun e => by rw [e]; exact hw _ (List.mem_append_right _ List.mem_cons_self)) (fun h => hw v (List.mem_append_left _ (List.mem_reverse.mp h)))
  have hcm : ((st'.map (m_v ρ τ)).map fun v => v.category) = st'.map fun v => v.category := by rw [List.map_map]; exact List.map_congr_left fun v _ => m_v_cat ρ τ v
  obtain ⟨g1, g2, g3, g4, g5, g6⟩ := m_mp hk
  have hdd : (mN k).cls ≠ "java/lang/invoke/MethodHandle" ∧ (mN k).cls ≠ "java/lang/invoke/VarHandle" ∧ (parseMethodDescriptor (mN k).desc).map (fun d => d.parameters.length) = some na := ⟨g3, g4, hnp⟩
  have hRR : (m_rm d (s_n σ' - s_n σ) (s_l σ' - s_l σ)).frames + 1 ≤ R.frames ∧ 8 + (mL k + 11) + (m_rm d (s_n σ' - s_n σ) (s_l σ' - s_l σ)).locals ≤ R.locals := ⟨hfr, by show 8 + (mL k + 11) + 40 * d ≤ _; omega⟩
  have hlen : ((ta.reverse.map (m_v ρ τ)).length) = na := by simp [hna]
  have hrm : 2 * (F0 m pc ls ((ta ++ .ref r :: st').map (m_v ρ τ))).monitorRoom + ((st'.map (m_v ρ τ)).map fun v => v.category).sum ≤ 8 := lv_room (by rw [hcm]; exact hcat)
  have hff : cells + (s_n σ' - s_n σ) ≤ R.cells ∧ slots + (s_l σ' - s_l σ) ≤ R.slots := by have := hct.1; have := hct.2.1; omega
  have hMet := hct.2.2 rn rx hI.2.2.2 has hbn dC dI cA τ ρ H.size
  have hmapst : (ta ++ .ref r :: st').map (m_v ρ τ) = (ta.reverse.map (m_v ρ τ)).reverse ++ .ref (m_ad ρ τ r) :: st'.map (m_v ρ τ) := by
    rw [List.map_append, List.map_reverse, List.reverse_reverse]
    try rfl
  have e3 : (.ref r :: ta.reverse).map (m_v ρ τ) = .ref (m_ad ρ τ r) :: ta.reverse.map (m_v ρ τ) := rfl
  have hpre := m_pre hS hI ((.ref r :: ta.reverse).map (m_v ρ τ))
  have hwm : m_wm k = Jvm.Cond.code (mN k) (mB k) (mL k) none :: j_ws := by unfold m_wm; rw [hret]
  refine m_after hS hI hc hs hL hct has hbn hst ?_ kk
  rw [e3] at hMet hpre ⊢
  exact va_runIN (As := ta.reverse.map (m_v ρ τ)) (rest := st'.map (m_v ρ τ)) ⟨hS.1, hS.2.1, hS.2.2.2.2.2.2.2.1, hS.2.2.1, hS.2.2.2.1⟩ hMet ⟨va_cnB na hS.2.2.2.1 (m_goodW hk) hwm rfl rfl (hS.2.2.2.2.2.1.1.1 _ hl rfl) (hS.2.2.2.1 _ g2) hdd hRR, hnm, hS.2.2.2.1 _ hl2⟩ ⟨m_blind, hpre⟩ rfl hlen (m_LR_sz hL) hmapst hrm hdg hff
theorem m_call1 (hS : m_St p R s m args c dC dI cA τ rn rx A nL own cc) {d k na idx : Nat} {v : Option Value} {σ' : Sto} {ta st' : List Value} (hk : k < 236) (hnp : j_np (mN k) = some na) (hna : ta.length = na) (hcat : (st'.map fun v => v.category).sum ≤ 8) (hfr : d + 1 ≤ R.frames) (hlo : 40 * d + 40 ≤ R.locals) (hbn : s_n σ' ≤ j_b) (hRc : s_n σ' ≤ R.cells + nb) (hRs : s_l σ' ≤ R.slots + lb)  (hl : Jvm.Cond.methodLink (j_CN own) idx (mN k) ∈ j_ws) (hl2 : Jvm.Cond.static (mN k) ∈ j_ws) (hct : m_Ct l d k (ta.reverse) σ v σ') (hdg : decode cc pc = .ok (.invokestatic idx, 3)) (kk : m_at p l e R s m args below meth c Q dC dI cA τ rn rx A nL nb lb ρ0 (pc + 3) (L) (v.toList ++ st') (σ')) : m_at p l e R s m args below meth c Q dC dI cA τ rn rx A nL nb lb ρ0 (pc) (L) (ta ++ st') (σ) := by
  intro ρ H locs cells slots ls hI hc hs hL hw
  have hst : ∀ v ∈ st', m_ok (s_n σ) v := fun v hv => hw v (List.mem_append_right _ hv)
  have has : ∀ v ∈ (ta.reverse), m_ok (s_n σ) v := fun v hv => hw v (List.mem_append_left _ (List.mem_reverse.mp hv))
  have hcm : ((st'.map (m_v ρ τ)).map fun v => v.category) = st'.map fun v => v.category := by rw [List.map_map]; exact List.map_congr_left fun v _ => m_v_cat ρ τ v
  obtain ⟨g1, g2, g3, g4, g5, g6⟩ := m_mp hk
  have hdd : (mN k).cls ≠ "java/lang/invoke/MethodHandle" ∧ (mN k).cls ≠ "java/lang/invoke/VarHandle" ∧ (parseMethodDescriptor (mN k).desc).map (fun d => d.parameters.length) = some na := ⟨g3, g4, hnp⟩
  have hRR : (m_rm d (s_n σ' - s_n σ) (s_l σ' - s_l σ)).frames + 1 ≤ R.frames ∧ 8 + (mL k + 11) + (m_rm d (s_n σ' - s_n σ) (s_l σ' - s_l σ)).locals ≤ R.locals := ⟨hfr, by show 8 + (mL k + 11) + 40 * d ≤ _; omega⟩
  have hlen : ((ta.reverse.map (m_v ρ τ)).length) = na := by simp [hna]
  have hrm : 2 * (F0 m pc ls ((ta ++ st').map (m_v ρ τ))).monitorRoom + ((st'.map (m_v ρ τ)).map fun v => v.category).sum ≤ 8 := lv_room (by rw [hcm]; exact hcat)
  have hff : cells + (s_n σ' - s_n σ) ≤ R.cells ∧ slots + (s_l σ' - s_l σ) ≤ R.slots := by have := hct.1; have := hct.2.1; omega
  have hMet := hct.2.2 rn rx hI.2.2.2 has hbn dC dI cA τ ρ H.size
  have hmapst : (ta ++ st').map (m_v ρ τ) = (ta.reverse.map (m_v ρ τ)).reverse ++ st'.map (m_v ρ τ) := by
    rw [List.map_append, List.map_reverse, List.reverse_reverse]
  have hpre := m_pre hS hI ((ta.reverse).map (m_v ρ τ))
  have hgd : GoodIn j_ws (va_wsS (j_CN own) idx (mN k) (m_wm k)) := m_goodX hk (fun w hw => by
    rcases List.mem_cons.mp hw with rfl | hw
    · exact hl
    rcases List.mem_cons.mp hw with rfl | hw
    · exact hl2
    · rw [List.mem_singleton.mp hw]; exact g2)
  refine m_after hS hI hc hs hL hct has hbn hst ?_ kk
  exact va_runS (As := ta.reverse.map (m_v ρ τ)) (rest := st'.map (m_v ρ τ)) ⟨hS.1, hS.2.1, hS.2.2.2.2.2.2.2.1, hS.2.2.1, hS.2.2.2.1⟩ hMet (va_cwS na hS.2.2.2.1 hgd rfl rfl rfl hdd hRR) ⟨m_blind, hpre⟩ rfl hlen (m_LR_sz hL) hmapst hrm hdg hff
theorem m_call4 (hS : m_St p R s m args c dC dI cA τ rn rx A nL own cc) {d k na idx : Nat} {v : Option Value} {σ' : Sto} {ta st' : List Value} (hk : k < 236) (hnp : j_np (mN k) = some na) (hna : ta.length = na) (hcat : (st'.map fun v => v.category).sum ≤ 8) (hfr : d + 1 ≤ R.frames) (hlo : 40 * d + 40 ≤ R.locals) (hbn : s_n σ' ≤ j_b) (hRc : s_n σ' ≤ R.cells + nb) (hRs : s_l σ' ≤ R.slots + lb)  (hl : Jvm.Cond.methodLinkNest (j_CN own) idx (mN k) "LastStirred" ∈ lw_tbl) (hl2 : Jvm.Cond.static (mN k) ∈ j_ws) (hct : m_Ct l d k (ta.reverse) σ v σ') (hdg : decode cc pc = .ok (.invokestatic idx, 3)) (kk : m_at p l e R s m args below meth c Q dC dI cA τ rn rx A nL nb lb ρ0 (pc + 3) (L) (v.toList ++ st') (σ')) : m_at p l e R s m args below meth c Q dC dI cA τ rn rx A nL nb lb ρ0 (pc) (L) (ta ++ st') (σ) := by
  intro ρ H locs cells slots ls hI hc hs hL hw
  have hst : ∀ v ∈ st', m_ok (s_n σ) v := fun v hv => hw v (List.mem_append_right _ hv)
  have has : ∀ v ∈ (ta.reverse), m_ok (s_n σ) v := fun v hv => hw v (List.mem_append_left _ (List.mem_reverse.mp hv))
  have hcm : ((st'.map (m_v ρ τ)).map fun v => v.category) = st'.map fun v => v.category := by rw [List.map_map]; exact List.map_congr_left fun v _ => m_v_cat ρ τ v
  obtain ⟨g1, g2, g3, g4, g5, g6⟩ := m_mp hk
  have hdd : (mN k).cls ≠ "java/lang/invoke/MethodHandle" ∧ (mN k).cls ≠ "java/lang/invoke/VarHandle" ∧ (parseMethodDescriptor (mN k).desc).map (fun d => d.parameters.length) = some na := ⟨g3, g4, hnp⟩
  have hRR : (m_rm d (s_n σ' - s_n σ) (s_l σ' - s_l σ)).frames + 1 ≤ R.frames ∧ 8 + (mL k + 11) + (m_rm d (s_n σ' - s_n σ) (s_l σ' - s_l σ)).locals ≤ R.locals := ⟨hfr, by show 8 + (mL k + 11) + 40 * d ≤ _; omega⟩
  have hlen : ((ta.reverse.map (m_v ρ τ)).length) = na := by simp [hna]
  have hrm : 2 * (F0 m pc ls ((ta ++ st').map (m_v ρ τ))).monitorRoom + ((st'.map (m_v ρ τ)).map fun v => v.category).sum ≤ 8 := lv_room (by rw [hcm]; exact hcat)
  have hff : cells + (s_n σ' - s_n σ) ≤ R.cells ∧ slots + (s_l σ' - s_l σ) ≤ R.slots := by have := hct.1; have := hct.2.1; omega
  have hMet := hct.2.2 rn rx hI.2.2.2 has hbn dC dI cA τ ρ H.size
  have hmapst : (ta ++ st').map (m_v ρ τ) = (ta.reverse.map (m_v ρ τ)).reverse ++ st'.map (m_v ρ τ) := by
    rw [List.map_append, List.map_reverse, List.reverse_reverse]
  have hpre := m_pre hS hI ((ta.reverse).map (m_v ρ τ))
  refine m_after hS hI hc hs hL hct has hbn hst ?_ kk
  exact va_runSN (As := ta.reverse.map (m_v ρ τ)) (rest := st'.map (m_v ρ τ)) ⟨hS.1, hS.2.1, hS.2.2.2.2.2.2.2.1, hS.2.2.1, hS.2.2.2.1⟩ hMet ⟨va_cnB na hS.2.2.2.1 (m_goodW hk) rfl rfl rfl (hS.2.2.2.2.2.1.1.1 _ hl rfl) (hS.2.2.2.1 _ g2) hdd hRR, hS.2.2.2.1 _ hl2, trivial⟩ ⟨m_blind, hpre⟩ rfl hlen (m_LR_sz hL) hmapst hrm hdg hff
end SIMCALL
end
section
/-! ===== THE MACHINE FOLLOWS THE LITTLE MACHINE, part 7: one instruction, a stretch, a method ===== -/
def m_go (p : Program) (l : Launch) (e : Env) (R : Room) (s : State) (m : MethodId) (args : Array Value) (below : List Frame) (meth : Method) (c : Code) (Q : State → Prop) (dC : Nat → ClassId) (dI : Nat → Nat → Nat) (cA : FieldType → ClassId) (τ rn : Nat → Nat) (rx : Nat → Nat → Int32) (A : Nat → Prop) (nL nb lb : Nat) (ρ0 : Nat → Nat) (r0 : Rr) (pc : Nat) (L : j_L) (st : List Value) (σ : Sto) : Prop :=
  m_at p l e R s m args below meth c Q dC dI cA τ rn rx A nL nb lb ρ0 pc L st σ ∧ s_n σ ≤ s_n r0.2 ∧ s_l σ ≤ s_l r0.2
/-- where a method ends, with what -/
def m_end (k : Nat) (v : Option Value) (cc : ByteArray) (pc : Nat) (st : List Value) : Prop :=
  (decode cc pc = .ok (.return_, 1) ∧ mR k = none ∧ v = none ∧ st = []) ∨ (decode cc pc = .ok (.ireturn, 1) ∧ ∃ x : Int32, v = some (.int x) ∧ st = [.int x] ∧ (mR k = some .int ∨ (mR k = some .boolean ∧ (x = 0 ∨ x = 1)))) ∨ (decode cc pc = .ok (.lreturn, 1) ∧ ∃ x : Int64, v = some (.long x) ∧ st = [.long x] ∧ mR k = some .long)
theorem m_tst {cn : ClassFile.Cond} {x y : Int32} {a b : Option Rr} {r0 : Rr} (h : j_tst cn x y a b = some r0) : (j_P cn x y ∧ a = some r0) ∨ (¬ j_P cn x y ∧ b = some r0) := by
  unfold j_tst at h
  unfold j_P
  cases cn <;> dsimp only at h ⊢ <;> split at h
  · exact Or.inl ⟨by assumption, h⟩
  · exact Or.inr ⟨by assumption, h⟩
  · exact Or.inr ⟨fun z => z (by assumption), h⟩
  · exact Or.inl ⟨by assumption, h⟩
  · exact Or.inl ⟨by assumption, h⟩
  · exact Or.inr ⟨by assumption, h⟩
  · exact Or.inr ⟨fun z => z (by assumption), h⟩
  · exact Or.inl ⟨by assumption, h⟩
  · exact Or.inl ⟨by assumption, h⟩
  · exact Or.inr ⟨by assumption, h⟩
  · exact Or.inr ⟨fun z => z (by assumption), h⟩
  · exact Or.inl ⟨by assumption, h⟩
theorem m_kT {n : Int} (h1 : -1000 ≤ n) (h2 : n ≤ 3000) : (j_k n).toInt = n := by
  unfold j_k
  exact Int32.toInt_ofInt_of_le (by omega) (by omega)
theorem m_tsw {x : Int32} {d : Nat} {K : Nat → Option Rr} {r0 : Rr} : ∀ (ts : List Nat) (lo : Int), -1000 ≤ lo → lo + ts.length ≤ 3000 → j_sw x d K (j_tps lo ts) = some r0 → (K d = some r0 ∧ (x.toInt < lo ∨ lo + ts.length ≤ x.toInt)) ∨ ∃ (i t : Nat), ts[i]? = some t ∧ x.toInt = lo + i ∧ K t = some r0
  | [], lo, _, _, h => Or.inl ⟨h, by simp; omega⟩
  | t :: ts, lo, h1, h2, h => by
    unfold j_tps j_sw at h
    rw [List.length_cons] at h2 ⊢
    split at h
    next he => exact Or.inr ⟨0, t, rfl, by rw [he, m_kT h1 (by omega)]; omega, h⟩
    next he =>
      have hx : x.toInt ≠ lo := fun z => he (Int32.toInt_inj.mp (by rw [z, m_kT h1 (by omega)]))
      rcases m_tsw ts (lo + 1) (by omega) (by omega) h with ⟨a, b⟩ | ⟨i, t', a, b, c⟩
      · exact Or.inl ⟨a, by omega⟩
      · exact Or.inr ⟨i + 1, t', a, by omega, c⟩
theorem m_lk {l own idx k kind : Nat} (h : j_lkA l own idx k kind = true) : ∃ p a b, j_lkB (own, idx, k, kind, p, a, b) = true := by
  unfold j_lkA at h
  cases hl : j_lks[l]? with
  | none => rw [hl] at h; cases h
  | some e =>
    rw [hl] at h
    obtain ⟨o, i, m, kd, p, a, b⟩ := e
    simp only [decide_eq_true_eq] at h
    obtain ⟨rfl, rfl, rfl, rfl⟩ := h
    exact ⟨p, a, b, List.all_eq_true.mp j_lks_ok _ (List.mem_of_getElem? hl)⟩
theorem m_fl {l own idx c f : Nat} (h : (match j_fls[l]? with
      | some (o, i, c', f', _) => decide (o = own ∧ i = idx ∧ c' = c ∧ f' = f)
      | none => false) = true) : Jvm.Cond.fieldLink (j_CN own) idx (j_T c f).1 (j_T c f).2.1 (j_T c f).2.2.1 ∈ j_ws := by
  cases hl : j_fls[l]? with
  | none => rw [hl] at h; cases h
  | some e =>
    rw [hl] at h
    obtain ⟨o, i, m, kd, p⟩ := e
    simp only [decide_eq_true_eq] at h
    obtain ⟨rfl, rfl, rfl, rfl⟩ := h
    exact m_has (List.all_eq_true.mp j_fls_ok _ (List.mem_of_getElem? hl))
theorem m_kd0 {c k : Nat} (h : 0 = j_kd c k) : j_ty c k = .int := by
  unfold j_kd at h
  split at h <;> first | assumption | cases h
theorem m_kd1 {c k : Nat} (h : 1 = j_kd c k) : j_ty c k = .long := by
  unfold j_kd at h
  split at h <;> first | assumption | cases h
theorem m_kd3 {c k : Nat} (h : 3 = j_kd c k) : j_ty c k = .boolean := by
  unfold j_kd at h
  split at h <;> first | assumption | cases h
theorem m_kd2 {c k : Nat} (h : 2 = j_kd c k) : (∃ n, j_ty c k = .object n) ∨ ∃ t, j_ty c k = .array t := by
  unfold j_kd at h
  split at h <;> first | exact Or.inl ⟨_, by assumption⟩ | exact Or.inr ⟨_, by assumption⟩ | cases h
theorem m_kdx {c k kd : Nat} (h : kd = j_kd c k) (h1 : ¬ kd = 1) (h2 : ¬ kd = 2) (h9 : j_kd c k ≠ 9) : j_ty c k = .int ∨ j_ty c k = .boolean := by
  subst h
  unfold j_kd at h1 h2 h9
  split at h1 <;> first | exact Or.inl (by assumption) | exact Or.inr (by assumption) | exact absurd rfl h1 | (exact absurd (by assumption) (by simp_all))
/-- an array class, by the words of the tables -/
theorem m_drop {st : List Value} {na : Nat} {r : Nat} {st' : List Value} (h : st.drop na = .ref r :: st') : st = st.take na ++ .ref r :: st' := by rw [← h, List.take_append_drop]
theorem m_clo {call : Nat → List Value → Sto → Option Rr} {m rt : Nat} {as st : List Value} {σ : Sto} {K : List Value → Sto → Option Rr} {r0 : Rr} (h : j_cl call m rt as σ st K = some r0) : ∃ v σ', call m as σ = some (v, σ') ∧ K (v.toList ++ st) σ' = some r0 := by
  unfold j_cl at h
  split at h
  · unfold j_c0 at h
    split at h
    · rename_i t ht
      exact ⟨none, t, ht, h⟩
    · cases h
  · unfold j_c1 at h
    split at h
    · rename_i x t ht
      exact ⟨some (.int x), t, ht, h⟩
    · cases h
  · unfold j_c2 at h
    split at h
    · rename_i x t ht
      exact ⟨some (.long x), t, ht, h⟩
    · cases h
theorem j_kd9 {c f : Nat} (hc : c < 8) (hf : f < j_nf c) : j_kd c f ≠ 9 := m_c8 (P := fun c => ∀ f, f < j_nf c → j_kd c f ≠ 9) (by decide +kernel) (by decide +kernel) (by decide +kernel) (by decide +kernel) (by decide +kernel) (by decide +kernel) (by decide +kernel) (by decide +kernel) hc f hf
theorem j_dv {c : Nat} (hc : c < 8) : ∀ j, j < j_nf c → defaultValue (j_ty c j) = (if j_ty c j = .long then .long 0 else if refKind (j_ty c j) then .null else .int 0) := m_c8 (P := fun c => ∀ j, j < j_nf c → defaultValue (j_ty c j) = (if j_ty c j = .long then .long 0 else if refKind (j_ty c j) then .null else .int 0)) (by decide +kernel) (by decide +kernel) (by decide +kernel) (by decide +kernel) (by decide +kernel) (by decide +kernel) (by decide +kernel) (by decide +kernel) hc
section SIMSTP
variable {p : Program} {l : Launch} {e : Env} {R : Room} {s : State} {m : MethodId} {args : Array Value} {below : List Frame} {meth : Method} {c : Code} {Q : State → Prop} {dC : Nat → ClassId} {dI : Nat → Nat → Nat} {cA : FieldType → ClassId} {τ rn : Nat → Nat} {rx : Nat → Nat → Int32} {A : Nat → Prop} {nL nb lb own : Nat} {ρ0 : Nat → Nat} {cc : ByteArray} {pc : Nat} {L : j_L} {st : List Value} {σ : Sto}
variable {k d : Nat} {r0 : Rr} {call : Nat → List Value → Sto → Option Rr}

set_option maxHeartbeats 4000000 in
theorem m_s_iconst (hS : m_St p R s m args c dC dI cA τ rn rx A nL own cc) (hnm : (mN k).name = "<init>" → meth.name = "<init>") (hbn : s_n r0.2 ≤ j_b) (hRc : s_n r0.2 ≤ R.cells + nb) (hRs : s_l r0.2 ≤ R.slots + lb) (hfr : d + 1 ≤ R.frames) (hlo : 40 * d + 40 ≤ R.locals) (hcall : ∀ k' as σ v σ', k' < 236 → call k' as σ = some (v, σ') → m_Ct l d k' as σ v σ') (hend : ∀ pc L st, m_end k r0.1 cc pc st → m_at p l e R s m args below meth c Q dC dI cA τ rn rx A nL nb lb ρ0 (pc) (L) (st) (r0.2)) (n : Int) {q : List Nat} {K : Nat → j_L → List Value → Sto → Option Rr} (hE : j_okE k own pc (.iconst n) q = true) (hd0 : ∃ ln, decode cc pc = .ok ((.iconst n), ln) ∧ (ln = j_il (.iconst n) ∨ j_isw (.iconst n) = true)) (h : j_stp call (.iconst n) q pc L st σ K = some r0) (hK : ∀ pc' L' st' σ', K pc' L' st' σ' = some r0 → m_go p l e R s m args below meth c Q dC dI cA τ rn rx A nL nb lb ρ0 r0 (pc') (L') (st') (σ')) : m_go p l e R s m args below meth c Q dC dI cA τ rn rx A nL nb lb ρ0 r0 (pc) (L) (st) (σ) := by
    have hd1 : decode cc pc = .ok ((.iconst n), j_il (.iconst n)) := by obtain ⟨ln, h1, h2 | h2⟩ := hd0 <;> first | (rw [h1, h2]) | cases h2
    unfold j_stp at h
    unfold j_okE at hE
    dsimp only at h hE
    obtain ⟨a1, a2, a3⟩ := hK _ _ _ _ h
    exact ⟨m_iconst hS hd1 a1, a2, a3⟩
set_option maxHeartbeats 4000000 in
theorem m_s_bipush (hS : m_St p R s m args c dC dI cA τ rn rx A nL own cc) (hnm : (mN k).name = "<init>" → meth.name = "<init>") (hbn : s_n r0.2 ≤ j_b) (hRc : s_n r0.2 ≤ R.cells + nb) (hRs : s_l r0.2 ≤ R.slots + lb) (hfr : d + 1 ≤ R.frames) (hlo : 40 * d + 40 ≤ R.locals) (hcall : ∀ k' as σ v σ', k' < 236 → call k' as σ = some (v, σ') → m_Ct l d k' as σ v σ') (hend : ∀ pc L st, m_end k r0.1 cc pc st → m_at p l e R s m args below meth c Q dC dI cA τ rn rx A nL nb lb ρ0 (pc) (L) (st) (r0.2)) (n : Int) {q : List Nat} {K : Nat → j_L → List Value → Sto → Option Rr} (hE : j_okE k own pc (.bipush n) q = true) (hd0 : ∃ ln, decode cc pc = .ok ((.bipush n), ln) ∧ (ln = j_il (.bipush n) ∨ j_isw (.bipush n) = true)) (h : j_stp call (.bipush n) q pc L st σ K = some r0) (hK : ∀ pc' L' st' σ', K pc' L' st' σ' = some r0 → m_go p l e R s m args below meth c Q dC dI cA τ rn rx A nL nb lb ρ0 r0 (pc') (L') (st') (σ')) : m_go p l e R s m args below meth c Q dC dI cA τ rn rx A nL nb lb ρ0 r0 (pc) (L) (st) (σ) := by
    have hd1 : decode cc pc = .ok ((.bipush n), j_il (.bipush n)) := by obtain ⟨ln, h1, h2 | h2⟩ := hd0 <;> first | (rw [h1, h2]) | cases h2
    unfold j_stp at h
    unfold j_okE at hE
    dsimp only at h hE
    obtain ⟨a1, a2, a3⟩ := hK _ _ _ _ h
    exact ⟨m_bipush hS (of_decide_eq_true hE) hd1 a1, a2, a3⟩
set_option maxHeartbeats 4000000 in
theorem m_s_sipush (hS : m_St p R s m args c dC dI cA τ rn rx A nL own cc) (hnm : (mN k).name = "<init>" → meth.name = "<init>") (hbn : s_n r0.2 ≤ j_b) (hRc : s_n r0.2 ≤ R.cells + nb) (hRs : s_l r0.2 ≤ R.slots + lb) (hfr : d + 1 ≤ R.frames) (hlo : 40 * d + 40 ≤ R.locals) (hcall : ∀ k' as σ v σ', k' < 236 → call k' as σ = some (v, σ') → m_Ct l d k' as σ v σ') (hend : ∀ pc L st, m_end k r0.1 cc pc st → m_at p l e R s m args below meth c Q dC dI cA τ rn rx A nL nb lb ρ0 (pc) (L) (st) (r0.2)) (n : Int) {q : List Nat} {K : Nat → j_L → List Value → Sto → Option Rr} (hE : j_okE k own pc (.sipush n) q = true) (hd0 : ∃ ln, decode cc pc = .ok ((.sipush n), ln) ∧ (ln = j_il (.sipush n) ∨ j_isw (.sipush n) = true)) (h : j_stp call (.sipush n) q pc L st σ K = some r0) (hK : ∀ pc' L' st' σ', K pc' L' st' σ' = some r0 → m_go p l e R s m args below meth c Q dC dI cA τ rn rx A nL nb lb ρ0 r0 (pc') (L') (st') (σ')) : m_go p l e R s m args below meth c Q dC dI cA τ rn rx A nL nb lb ρ0 r0 (pc) (L) (st) (σ) := by
    have hd1 : decode cc pc = .ok ((.sipush n), j_il (.sipush n)) := by obtain ⟨ln, h1, h2 | h2⟩ := hd0 <;> first | (rw [h1, h2]) | cases h2
    unfold j_stp at h
    unfold j_okE at hE
    dsimp only at h hE
    obtain ⟨a1, a2, a3⟩ := hK _ _ _ _ h
    exact ⟨m_sipush hS (of_decide_eq_true hE) hd1 a1, a2, a3⟩
set_option maxHeartbeats 4000000 in
theorem m_s_lconst (hS : m_St p R s m args c dC dI cA τ rn rx A nL own cc) (hnm : (mN k).name = "<init>" → meth.name = "<init>") (hbn : s_n r0.2 ≤ j_b) (hRc : s_n r0.2 ≤ R.cells + nb) (hRs : s_l r0.2 ≤ R.slots + lb) (hfr : d + 1 ≤ R.frames) (hlo : 40 * d + 40 ≤ R.locals) (hcall : ∀ k' as σ v σ', k' < 236 → call k' as σ = some (v, σ') → m_Ct l d k' as σ v σ') (hend : ∀ pc L st, m_end k r0.1 cc pc st → m_at p l e R s m args below meth c Q dC dI cA τ rn rx A nL nb lb ρ0 (pc) (L) (st) (r0.2)) (n : Fin 2) {q : List Nat} {K : Nat → j_L → List Value → Sto → Option Rr} (hE : j_okE k own pc (.lconst n) q = true) (hd0 : ∃ ln, decode cc pc = .ok ((.lconst n), ln) ∧ (ln = j_il (.lconst n) ∨ j_isw (.lconst n) = true)) (h : j_stp call (.lconst n) q pc L st σ K = some r0) (hK : ∀ pc' L' st' σ', K pc' L' st' σ' = some r0 → m_go p l e R s m args below meth c Q dC dI cA τ rn rx A nL nb lb ρ0 r0 (pc') (L') (st') (σ')) : m_go p l e R s m args below meth c Q dC dI cA τ rn rx A nL nb lb ρ0 r0 (pc) (L) (st) (σ) := by
    have hd1 : decode cc pc = .ok ((.lconst n), j_il (.lconst n)) := by obtain ⟨ln, h1, h2 | h2⟩ := hd0 <;> first | (rw [h1, h2]) | cases h2
    unfold j_stp at h
    unfold j_okE at hE
    dsimp only at h hE
    obtain ⟨a1, a2, a3⟩ := hK _ _ _ _ h
    exact ⟨m_lconst hS hd1 a1, a2, a3⟩
set_option maxHeartbeats 4000000 in
theorem m_s_ldc_w (hS : m_St p R s m args c dC dI cA τ rn rx A nL own cc) (hnm : (mN k).name = "<init>" → meth.name = "<init>") (hbn : s_n r0.2 ≤ j_b) (hRc : s_n r0.2 ≤ R.cells + nb) (hRs : s_l r0.2 ≤ R.slots + lb) (hfr : d + 1 ≤ R.frames) (hlo : 40 * d + 40 ≤ R.locals) (hcall : ∀ k' as σ v σ', k' < 236 → call k' as σ = some (v, σ') → m_Ct l d k' as σ v σ') (hend : ∀ pc L st, m_end k r0.1 cc pc st → m_at p l e R s m args below meth c Q dC dI cA τ rn rx A nL nb lb ρ0 (pc) (L) (st) (r0.2)) (n : Nat) {q : List Nat} {K : Nat → j_L → List Value → Sto → Option Rr} (hE : j_okE k own pc (.ldc_w n) q = true) (hd0 : ∃ ln, decode cc pc = .ok ((.ldc_w n), ln) ∧ (ln = j_il (.ldc_w n) ∨ j_isw (.ldc_w n) = true)) (h : j_stp call (.ldc_w n) q pc L st σ K = some r0) (hK : ∀ pc' L' st' σ', K pc' L' st' σ' = some r0 → m_go p l e R s m args below meth c Q dC dI cA τ rn rx A nL nb lb ρ0 r0 (pc') (L') (st') (σ')) : m_go p l e R s m args below meth c Q dC dI cA τ rn rx A nL nb lb ρ0 r0 (pc) (L) (st) (σ) := by
    have hd1 : decode cc pc = .ok ((.ldc_w n), j_il (.ldc_w n)) := by obtain ⟨ln, h1, h2 | h2⟩ := hd0 <;> first | (rw [h1, h2]) | cases h2
    unfold j_stp at h
    unfold j_okE at hE
    dsimp only at h hE
    split at h
    · obtain ⟨a1, a2, a3⟩ := hK _ _ _ _ h
      exact ⟨m_ldcw hS (m_has hE) hd1 a1, a2, a3⟩
    · cases h
set_option maxHeartbeats 4000000 in
theorem m_s_ldc2_w (hS : m_St p R s m args c dC dI cA τ rn rx A nL own cc) (hnm : (mN k).name = "<init>" → meth.name = "<init>") (hbn : s_n r0.2 ≤ j_b) (hRc : s_n r0.2 ≤ R.cells + nb) (hRs : s_l r0.2 ≤ R.slots + lb) (hfr : d + 1 ≤ R.frames) (hlo : 40 * d + 40 ≤ R.locals) (hcall : ∀ k' as σ v σ', k' < 236 → call k' as σ = some (v, σ') → m_Ct l d k' as σ v σ') (hend : ∀ pc L st, m_end k r0.1 cc pc st → m_at p l e R s m args below meth c Q dC dI cA τ rn rx A nL nb lb ρ0 (pc) (L) (st) (r0.2)) (n : Nat) {q : List Nat} {K : Nat → j_L → List Value → Sto → Option Rr} (hE : j_okE k own pc (.ldc2_w n) q = true) (hd0 : ∃ ln, decode cc pc = .ok ((.ldc2_w n), ln) ∧ (ln = j_il (.ldc2_w n) ∨ j_isw (.ldc2_w n) = true)) (h : j_stp call (.ldc2_w n) q pc L st σ K = some r0) (hK : ∀ pc' L' st' σ', K pc' L' st' σ' = some r0 → m_go p l e R s m args below meth c Q dC dI cA τ rn rx A nL nb lb ρ0 r0 (pc') (L') (st') (σ')) : m_go p l e R s m args below meth c Q dC dI cA τ rn rx A nL nb lb ρ0 r0 (pc) (L) (st) (σ) := by
    have hd1 : decode cc pc = .ok ((.ldc2_w n), j_il (.ldc2_w n)) := by obtain ⟨ln, h1, h2 | h2⟩ := hd0 <;> first | (rw [h1, h2]) | cases h2
    unfold j_stp at h
    unfold j_okE at hE
    dsimp only at h hE
    split at h
    · obtain ⟨a1, a2, a3⟩ := hK _ _ _ _ h
      exact ⟨m_ldc2 hS (m_has hE) hd1 a1, a2, a3⟩
    · cases h
set_option maxHeartbeats 4000000 in
theorem m_s_iload (hS : m_St p R s m args c dC dI cA τ rn rx A nL own cc) (hnm : (mN k).name = "<init>" → meth.name = "<init>") (hbn : s_n r0.2 ≤ j_b) (hRc : s_n r0.2 ≤ R.cells + nb) (hRs : s_l r0.2 ≤ R.slots + lb) (hfr : d + 1 ≤ R.frames) (hlo : 40 * d + 40 ≤ R.locals) (hcall : ∀ k' as σ v σ', k' < 236 → call k' as σ = some (v, σ') → m_Ct l d k' as σ v σ') (hend : ∀ pc L st, m_end k r0.1 cc pc st → m_at p l e R s m args below meth c Q dC dI cA τ rn rx A nL nb lb ρ0 (pc) (L) (st) (r0.2)) (n : Nat) {q : List Nat} {K : Nat → j_L → List Value → Sto → Option Rr} (hE : j_okE k own pc (.iload n) q = true) (hd0 : ∃ ln, decode cc pc = .ok ((.iload n), ln) ∧ (ln = j_il (.iload n) ∨ j_isw (.iload n) = true)) (h : j_stp call (.iload n) q pc L st σ K = some r0) (hK : ∀ pc' L' st' σ', K pc' L' st' σ' = some r0 → m_go p l e R s m args below meth c Q dC dI cA τ rn rx A nL nb lb ρ0 r0 (pc') (L') (st') (σ')) : m_go p l e R s m args below meth c Q dC dI cA τ rn rx A nL nb lb ρ0 r0 (pc) (L) (st) (σ) := by
    have hd1 : decode cc pc = .ok ((.iload n), j_il (.iload n)) := by obtain ⟨ln, h1, h2 | h2⟩ := hd0 <;> first | (rw [h1, h2]) | cases h2
    unfold j_stp at h
    unfold j_okE at hE
    dsimp only at h hE
    unfold j_ldI at h
    split at h
    · rename_i x hx
      obtain ⟨a1, a2, a3⟩ := hK _ _ _ _ h
      exact ⟨m_iload hS hx hd1 a1, a2, a3⟩
    · cases h
set_option maxHeartbeats 4000000 in
theorem m_s_lload (hS : m_St p R s m args c dC dI cA τ rn rx A nL own cc) (hnm : (mN k).name = "<init>" → meth.name = "<init>") (hbn : s_n r0.2 ≤ j_b) (hRc : s_n r0.2 ≤ R.cells + nb) (hRs : s_l r0.2 ≤ R.slots + lb) (hfr : d + 1 ≤ R.frames) (hlo : 40 * d + 40 ≤ R.locals) (hcall : ∀ k' as σ v σ', k' < 236 → call k' as σ = some (v, σ') → m_Ct l d k' as σ v σ') (hend : ∀ pc L st, m_end k r0.1 cc pc st → m_at p l e R s m args below meth c Q dC dI cA τ rn rx A nL nb lb ρ0 (pc) (L) (st) (r0.2)) (n : Nat) {q : List Nat} {K : Nat → j_L → List Value → Sto → Option Rr} (hE : j_okE k own pc (.lload n) q = true) (hd0 : ∃ ln, decode cc pc = .ok ((.lload n), ln) ∧ (ln = j_il (.lload n) ∨ j_isw (.lload n) = true)) (h : j_stp call (.lload n) q pc L st σ K = some r0) (hK : ∀ pc' L' st' σ', K pc' L' st' σ' = some r0 → m_go p l e R s m args below meth c Q dC dI cA τ rn rx A nL nb lb ρ0 r0 (pc') (L') (st') (σ')) : m_go p l e R s m args below meth c Q dC dI cA τ rn rx A nL nb lb ρ0 r0 (pc) (L) (st) (σ) := by
    have hd1 : decode cc pc = .ok ((.lload n), j_il (.lload n)) := by obtain ⟨ln, h1, h2 | h2⟩ := hd0 <;> first | (rw [h1, h2]) | cases h2
    unfold j_stp at h
    unfold j_okE at hE
    dsimp only at h hE
    unfold j_ldJ at h
    split at h
    · rename_i x hx
      obtain ⟨a1, a2, a3⟩ := hK _ _ _ _ h
      exact ⟨m_lload hS hx hd1 a1, a2, a3⟩
    · cases h
set_option maxHeartbeats 4000000 in
theorem m_s_aload (hS : m_St p R s m args c dC dI cA τ rn rx A nL own cc) (hnm : (mN k).name = "<init>" → meth.name = "<init>") (hbn : s_n r0.2 ≤ j_b) (hRc : s_n r0.2 ≤ R.cells + nb) (hRs : s_l r0.2 ≤ R.slots + lb) (hfr : d + 1 ≤ R.frames) (hlo : 40 * d + 40 ≤ R.locals) (hcall : ∀ k' as σ v σ', k' < 236 → call k' as σ = some (v, σ') → m_Ct l d k' as σ v σ') (hend : ∀ pc L st, m_end k r0.1 cc pc st → m_at p l e R s m args below meth c Q dC dI cA τ rn rx A nL nb lb ρ0 (pc) (L) (st) (r0.2)) (n : Nat) {q : List Nat} {K : Nat → j_L → List Value → Sto → Option Rr} (hE : j_okE k own pc (.aload n) q = true) (hd0 : ∃ ln, decode cc pc = .ok ((.aload n), ln) ∧ (ln = j_il (.aload n) ∨ j_isw (.aload n) = true)) (h : j_stp call (.aload n) q pc L st σ K = some r0) (hK : ∀ pc' L' st' σ', K pc' L' st' σ' = some r0 → m_go p l e R s m args below meth c Q dC dI cA τ rn rx A nL nb lb ρ0 r0 (pc') (L') (st') (σ')) : m_go p l e R s m args below meth c Q dC dI cA τ rn rx A nL nb lb ρ0 r0 (pc) (L) (st) (σ) := by
    have hd1 : decode cc pc = .ok ((.aload n), j_il (.aload n)) := by obtain ⟨ln, h1, h2 | h2⟩ := hd0 <;> first | (rw [h1, h2]) | cases h2
    unfold j_stp at h
    unfold j_okE at hE
    dsimp only at h hE
    unfold j_ldA at h
    split at h
    · rename_i x hx
      obtain ⟨a1, a2, a3⟩ := hK _ _ _ _ h
      exact ⟨m_aload hS hx hd1 a1, a2, a3⟩
    · cases h
set_option maxHeartbeats 4000000 in
theorem m_s_iload_n (hS : m_St p R s m args c dC dI cA τ rn rx A nL own cc) (hnm : (mN k).name = "<init>" → meth.name = "<init>") (hbn : s_n r0.2 ≤ j_b) (hRc : s_n r0.2 ≤ R.cells + nb) (hRs : s_l r0.2 ≤ R.slots + lb) (hfr : d + 1 ≤ R.frames) (hlo : 40 * d + 40 ≤ R.locals) (hcall : ∀ k' as σ v σ', k' < 236 → call k' as σ = some (v, σ') → m_Ct l d k' as σ v σ') (hend : ∀ pc L st, m_end k r0.1 cc pc st → m_at p l e R s m args below meth c Q dC dI cA τ rn rx A nL nb lb ρ0 (pc) (L) (st) (r0.2)) (n : Fin 4) {q : List Nat} {K : Nat → j_L → List Value → Sto → Option Rr} (hE : j_okE k own pc (.iload_n n) q = true) (hd0 : ∃ ln, decode cc pc = .ok ((.iload_n n), ln) ∧ (ln = j_il (.iload_n n) ∨ j_isw (.iload_n n) = true)) (h : j_stp call (.iload_n n) q pc L st σ K = some r0) (hK : ∀ pc' L' st' σ', K pc' L' st' σ' = some r0 → m_go p l e R s m args below meth c Q dC dI cA τ rn rx A nL nb lb ρ0 r0 (pc') (L') (st') (σ')) : m_go p l e R s m args below meth c Q dC dI cA τ rn rx A nL nb lb ρ0 r0 (pc) (L) (st) (σ) := by
    have hd1 : decode cc pc = .ok ((.iload_n n), j_il (.iload_n n)) := by obtain ⟨ln, h1, h2 | h2⟩ := hd0 <;> first | (rw [h1, h2]) | cases h2
    unfold j_stp at h
    unfold j_okE at hE
    dsimp only at h hE
    unfold j_ldI at h
    split at h
    · rename_i x hx
      obtain ⟨a1, a2, a3⟩ := hK _ _ _ _ h
      exact ⟨m_iload_n hS hx hd1 a1, a2, a3⟩
    · cases h
set_option maxHeartbeats 4000000 in
theorem m_s_lload_n (hS : m_St p R s m args c dC dI cA τ rn rx A nL own cc) (hnm : (mN k).name = "<init>" → meth.name = "<init>") (hbn : s_n r0.2 ≤ j_b) (hRc : s_n r0.2 ≤ R.cells + nb) (hRs : s_l r0.2 ≤ R.slots + lb) (hfr : d + 1 ≤ R.frames) (hlo : 40 * d + 40 ≤ R.locals) (hcall : ∀ k' as σ v σ', k' < 236 → call k' as σ = some (v, σ') → m_Ct l d k' as σ v σ') (hend : ∀ pc L st, m_end k r0.1 cc pc st → m_at p l e R s m args below meth c Q dC dI cA τ rn rx A nL nb lb ρ0 (pc) (L) (st) (r0.2)) (n : Fin 4) {q : List Nat} {K : Nat → j_L → List Value → Sto → Option Rr} (hE : j_okE k own pc (.lload_n n) q = true) (hd0 : ∃ ln, decode cc pc = .ok ((.lload_n n), ln) ∧ (ln = j_il (.lload_n n) ∨ j_isw (.lload_n n) = true)) (h : j_stp call (.lload_n n) q pc L st σ K = some r0) (hK : ∀ pc' L' st' σ', K pc' L' st' σ' = some r0 → m_go p l e R s m args below meth c Q dC dI cA τ rn rx A nL nb lb ρ0 r0 (pc') (L') (st') (σ')) : m_go p l e R s m args below meth c Q dC dI cA τ rn rx A nL nb lb ρ0 r0 (pc) (L) (st) (σ) := by
    have hd1 : decode cc pc = .ok ((.lload_n n), j_il (.lload_n n)) := by obtain ⟨ln, h1, h2 | h2⟩ := hd0 <;> first | (rw [h1, h2]) | cases h2
    unfold j_stp at h
    unfold j_okE at hE
    dsimp only at h hE
    unfold j_ldJ at h
    split at h
    · rename_i x hx
      obtain ⟨a1, a2, a3⟩ := hK _ _ _ _ h
      exact ⟨m_lload_n hS hx hd1 a1, a2, a3⟩
    · cases h
set_option maxHeartbeats 4000000 in
theorem m_s_aload_n (hS : m_St p R s m args c dC dI cA τ rn rx A nL own cc) (hnm : (mN k).name = "<init>" → meth.name = "<init>") (hbn : s_n r0.2 ≤ j_b) (hRc : s_n r0.2 ≤ R.cells + nb) (hRs : s_l r0.2 ≤ R.slots + lb) (hfr : d + 1 ≤ R.frames) (hlo : 40 * d + 40 ≤ R.locals) (hcall : ∀ k' as σ v σ', k' < 236 → call k' as σ = some (v, σ') → m_Ct l d k' as σ v σ') (hend : ∀ pc L st, m_end k r0.1 cc pc st → m_at p l e R s m args below meth c Q dC dI cA τ rn rx A nL nb lb ρ0 (pc) (L) (st) (r0.2)) (n : Fin 4) {q : List Nat} {K : Nat → j_L → List Value → Sto → Option Rr} (hE : j_okE k own pc (.aload_n n) q = true) (hd0 : ∃ ln, decode cc pc = .ok ((.aload_n n), ln) ∧ (ln = j_il (.aload_n n) ∨ j_isw (.aload_n n) = true)) (h : j_stp call (.aload_n n) q pc L st σ K = some r0) (hK : ∀ pc' L' st' σ', K pc' L' st' σ' = some r0 → m_go p l e R s m args below meth c Q dC dI cA τ rn rx A nL nb lb ρ0 r0 (pc') (L') (st') (σ')) : m_go p l e R s m args below meth c Q dC dI cA τ rn rx A nL nb lb ρ0 r0 (pc) (L) (st) (σ) := by
    have hd1 : decode cc pc = .ok ((.aload_n n), j_il (.aload_n n)) := by obtain ⟨ln, h1, h2 | h2⟩ := hd0 <;> first | (rw [h1, h2]) | cases h2
    unfold j_stp at h
    unfold j_okE at hE
    dsimp only at h hE
    unfold j_ldA at h
    split at h
    · rename_i x hx
      obtain ⟨a1, a2, a3⟩ := hK _ _ _ _ h
      exact ⟨m_aload_n hS hx hd1 a1, a2, a3⟩
    · cases h
set_option maxHeartbeats 4000000 in
theorem m_s_istore (hS : m_St p R s m args c dC dI cA τ rn rx A nL own cc) (hnm : (mN k).name = "<init>" → meth.name = "<init>") (hbn : s_n r0.2 ≤ j_b) (hRc : s_n r0.2 ≤ R.cells + nb) (hRs : s_l r0.2 ≤ R.slots + lb) (hfr : d + 1 ≤ R.frames) (hlo : 40 * d + 40 ≤ R.locals) (hcall : ∀ k' as σ v σ', k' < 236 → call k' as σ = some (v, σ') → m_Ct l d k' as σ v σ') (hend : ∀ pc L st, m_end k r0.1 cc pc st → m_at p l e R s m args below meth c Q dC dI cA τ rn rx A nL nb lb ρ0 (pc) (L) (st) (r0.2)) (n : Nat) {q : List Nat} {K : Nat → j_L → List Value → Sto → Option Rr} (hE : j_okE k own pc (.istore n) q = true) (hd0 : ∃ ln, decode cc pc = .ok ((.istore n), ln) ∧ (ln = j_il (.istore n) ∨ j_isw (.istore n) = true)) (h : j_stp call (.istore n) q pc L st σ K = some r0) (hK : ∀ pc' L' st' σ', K pc' L' st' σ' = some r0 → m_go p l e R s m args below meth c Q dC dI cA τ rn rx A nL nb lb ρ0 r0 (pc') (L') (st') (σ')) : m_go p l e R s m args below meth c Q dC dI cA τ rn rx A nL nb lb ρ0 r0 (pc) (L) (st) (σ) := by
    have hd1 : decode cc pc = .ok ((.istore n), j_il (.istore n)) := by obtain ⟨ln, h1, h2 | h2⟩ := hd0 <;> first | (rw [h1, h2]) | cases h2
    unfold j_stp at h
    unfold j_okE at hE
    dsimp only at h hE
    split at h
    · split at h
      next hk =>
        obtain ⟨a1, a2, a3⟩ := hK _ _ _ _ h
        exact ⟨m_istore hS hk hd1 a1, a2, a3⟩
      next => cases h
    · cases h
set_option maxHeartbeats 4000000 in
theorem m_s_lstore (hS : m_St p R s m args c dC dI cA τ rn rx A nL own cc) (hnm : (mN k).name = "<init>" → meth.name = "<init>") (hbn : s_n r0.2 ≤ j_b) (hRc : s_n r0.2 ≤ R.cells + nb) (hRs : s_l r0.2 ≤ R.slots + lb) (hfr : d + 1 ≤ R.frames) (hlo : 40 * d + 40 ≤ R.locals) (hcall : ∀ k' as σ v σ', k' < 236 → call k' as σ = some (v, σ') → m_Ct l d k' as σ v σ') (hend : ∀ pc L st, m_end k r0.1 cc pc st → m_at p l e R s m args below meth c Q dC dI cA τ rn rx A nL nb lb ρ0 (pc) (L) (st) (r0.2)) (n : Nat) {q : List Nat} {K : Nat → j_L → List Value → Sto → Option Rr} (hE : j_okE k own pc (.lstore n) q = true) (hd0 : ∃ ln, decode cc pc = .ok ((.lstore n), ln) ∧ (ln = j_il (.lstore n) ∨ j_isw (.lstore n) = true)) (h : j_stp call (.lstore n) q pc L st σ K = some r0) (hK : ∀ pc' L' st' σ', K pc' L' st' σ' = some r0 → m_go p l e R s m args below meth c Q dC dI cA τ rn rx A nL nb lb ρ0 r0 (pc') (L') (st') (σ')) : m_go p l e R s m args below meth c Q dC dI cA τ rn rx A nL nb lb ρ0 r0 (pc) (L) (st) (σ) := by
    have hd1 : decode cc pc = .ok ((.lstore n), j_il (.lstore n)) := by obtain ⟨ln, h1, h2 | h2⟩ := hd0 <;> first | (rw [h1, h2]) | cases h2
    unfold j_stp at h
    unfold j_okE at hE
    dsimp only at h hE
    split at h
    · split at h
      next hk =>
        obtain ⟨a1, a2, a3⟩ := hK _ _ _ _ h
        exact ⟨m_lstore hS hk hd1 a1, a2, a3⟩
      next => cases h
    · cases h
set_option maxHeartbeats 4000000 in
theorem m_s_astore (hS : m_St p R s m args c dC dI cA τ rn rx A nL own cc) (hnm : (mN k).name = "<init>" → meth.name = "<init>") (hbn : s_n r0.2 ≤ j_b) (hRc : s_n r0.2 ≤ R.cells + nb) (hRs : s_l r0.2 ≤ R.slots + lb) (hfr : d + 1 ≤ R.frames) (hlo : 40 * d + 40 ≤ R.locals) (hcall : ∀ k' as σ v σ', k' < 236 → call k' as σ = some (v, σ') → m_Ct l d k' as σ v σ') (hend : ∀ pc L st, m_end k r0.1 cc pc st → m_at p l e R s m args below meth c Q dC dI cA τ rn rx A nL nb lb ρ0 (pc) (L) (st) (r0.2)) (n : Nat) {q : List Nat} {K : Nat → j_L → List Value → Sto → Option Rr} (hE : j_okE k own pc (.astore n) q = true) (hd0 : ∃ ln, decode cc pc = .ok ((.astore n), ln) ∧ (ln = j_il (.astore n) ∨ j_isw (.astore n) = true)) (h : j_stp call (.astore n) q pc L st σ K = some r0) (hK : ∀ pc' L' st' σ', K pc' L' st' σ' = some r0 → m_go p l e R s m args below meth c Q dC dI cA τ rn rx A nL nb lb ρ0 r0 (pc') (L') (st') (σ')) : m_go p l e R s m args below meth c Q dC dI cA τ rn rx A nL nb lb ρ0 r0 (pc) (L) (st) (σ) := by
    have hd1 : decode cc pc = .ok ((.astore n), j_il (.astore n)) := by obtain ⟨ln, h1, h2 | h2⟩ := hd0 <;> first | (rw [h1, h2]) | cases h2
    unfold j_stp at h
    unfold j_okE at hE
    dsimp only at h hE
    split at h
    · split at h
      next hk =>
        obtain ⟨a1, a2, a3⟩ := hK _ _ _ _ h
        exact ⟨m_astore hS hk hd1 a1, a2, a3⟩
      next => cases h
    · cases h
set_option maxHeartbeats 4000000 in
theorem m_s_istore_n (hS : m_St p R s m args c dC dI cA τ rn rx A nL own cc) (hnm : (mN k).name = "<init>" → meth.name = "<init>") (hbn : s_n r0.2 ≤ j_b) (hRc : s_n r0.2 ≤ R.cells + nb) (hRs : s_l r0.2 ≤ R.slots + lb) (hfr : d + 1 ≤ R.frames) (hlo : 40 * d + 40 ≤ R.locals) (hcall : ∀ k' as σ v σ', k' < 236 → call k' as σ = some (v, σ') → m_Ct l d k' as σ v σ') (hend : ∀ pc L st, m_end k r0.1 cc pc st → m_at p l e R s m args below meth c Q dC dI cA τ rn rx A nL nb lb ρ0 (pc) (L) (st) (r0.2)) (n : Fin 4) {q : List Nat} {K : Nat → j_L → List Value → Sto → Option Rr} (hE : j_okE k own pc (.istore_n n) q = true) (hd0 : ∃ ln, decode cc pc = .ok ((.istore_n n), ln) ∧ (ln = j_il (.istore_n n) ∨ j_isw (.istore_n n) = true)) (h : j_stp call (.istore_n n) q pc L st σ K = some r0) (hK : ∀ pc' L' st' σ', K pc' L' st' σ' = some r0 → m_go p l e R s m args below meth c Q dC dI cA τ rn rx A nL nb lb ρ0 r0 (pc') (L') (st') (σ')) : m_go p l e R s m args below meth c Q dC dI cA τ rn rx A nL nb lb ρ0 r0 (pc) (L) (st) (σ) := by
    have hd1 : decode cc pc = .ok ((.istore_n n), j_il (.istore_n n)) := by obtain ⟨ln, h1, h2 | h2⟩ := hd0 <;> first | (rw [h1, h2]) | cases h2
    unfold j_stp at h
    unfold j_okE at hE
    dsimp only at h hE
    split at h
    · split at h
      next hk =>
        obtain ⟨a1, a2, a3⟩ := hK _ _ _ _ h
        exact ⟨m_istore_n hS hk hd1 a1, a2, a3⟩
      next => cases h
    · cases h
set_option maxHeartbeats 4000000 in
theorem m_s_lstore_n (hS : m_St p R s m args c dC dI cA τ rn rx A nL own cc) (hnm : (mN k).name = "<init>" → meth.name = "<init>") (hbn : s_n r0.2 ≤ j_b) (hRc : s_n r0.2 ≤ R.cells + nb) (hRs : s_l r0.2 ≤ R.slots + lb) (hfr : d + 1 ≤ R.frames) (hlo : 40 * d + 40 ≤ R.locals) (hcall : ∀ k' as σ v σ', k' < 236 → call k' as σ = some (v, σ') → m_Ct l d k' as σ v σ') (hend : ∀ pc L st, m_end k r0.1 cc pc st → m_at p l e R s m args below meth c Q dC dI cA τ rn rx A nL nb lb ρ0 (pc) (L) (st) (r0.2)) (n : Fin 4) {q : List Nat} {K : Nat → j_L → List Value → Sto → Option Rr} (hE : j_okE k own pc (.lstore_n n) q = true) (hd0 : ∃ ln, decode cc pc = .ok ((.lstore_n n), ln) ∧ (ln = j_il (.lstore_n n) ∨ j_isw (.lstore_n n) = true)) (h : j_stp call (.lstore_n n) q pc L st σ K = some r0) (hK : ∀ pc' L' st' σ', K pc' L' st' σ' = some r0 → m_go p l e R s m args below meth c Q dC dI cA τ rn rx A nL nb lb ρ0 r0 (pc') (L') (st') (σ')) : m_go p l e R s m args below meth c Q dC dI cA τ rn rx A nL nb lb ρ0 r0 (pc) (L) (st) (σ) := by
    have hd1 : decode cc pc = .ok ((.lstore_n n), j_il (.lstore_n n)) := by obtain ⟨ln, h1, h2 | h2⟩ := hd0 <;> first | (rw [h1, h2]) | cases h2
    unfold j_stp at h
    unfold j_okE at hE
    dsimp only at h hE
    split at h
    · split at h
      next hk =>
        obtain ⟨a1, a2, a3⟩ := hK _ _ _ _ h
        exact ⟨m_lstore_n hS hk hd1 a1, a2, a3⟩
      next => cases h
    · cases h
set_option maxHeartbeats 4000000 in
theorem m_s_astore_n (hS : m_St p R s m args c dC dI cA τ rn rx A nL own cc) (hnm : (mN k).name = "<init>" → meth.name = "<init>") (hbn : s_n r0.2 ≤ j_b) (hRc : s_n r0.2 ≤ R.cells + nb) (hRs : s_l r0.2 ≤ R.slots + lb) (hfr : d + 1 ≤ R.frames) (hlo : 40 * d + 40 ≤ R.locals) (hcall : ∀ k' as σ v σ', k' < 236 → call k' as σ = some (v, σ') → m_Ct l d k' as σ v σ') (hend : ∀ pc L st, m_end k r0.1 cc pc st → m_at p l e R s m args below meth c Q dC dI cA τ rn rx A nL nb lb ρ0 (pc) (L) (st) (r0.2)) (n : Fin 4) {q : List Nat} {K : Nat → j_L → List Value → Sto → Option Rr} (hE : j_okE k own pc (.astore_n n) q = true) (hd0 : ∃ ln, decode cc pc = .ok ((.astore_n n), ln) ∧ (ln = j_il (.astore_n n) ∨ j_isw (.astore_n n) = true)) (h : j_stp call (.astore_n n) q pc L st σ K = some r0) (hK : ∀ pc' L' st' σ', K pc' L' st' σ' = some r0 → m_go p l e R s m args below meth c Q dC dI cA τ rn rx A nL nb lb ρ0 r0 (pc') (L') (st') (σ')) : m_go p l e R s m args below meth c Q dC dI cA τ rn rx A nL nb lb ρ0 r0 (pc) (L) (st) (σ) := by
    have hd1 : decode cc pc = .ok ((.astore_n n), j_il (.astore_n n)) := by obtain ⟨ln, h1, h2 | h2⟩ := hd0 <;> first | (rw [h1, h2]) | cases h2
    unfold j_stp at h
    unfold j_okE at hE
    dsimp only at h hE
    split at h
    · split at h
      next hk =>
        obtain ⟨a1, a2, a3⟩ := hK _ _ _ _ h
        exact ⟨m_astore_n hS hk hd1 a1, a2, a3⟩
      next => cases h
    · cases h
set_option maxHeartbeats 4000000 in
theorem m_s_iinc (hS : m_St p R s m args c dC dI cA τ rn rx A nL own cc) (hnm : (mN k).name = "<init>" → meth.name = "<init>") (hbn : s_n r0.2 ≤ j_b) (hRc : s_n r0.2 ≤ R.cells + nb) (hRs : s_l r0.2 ≤ R.slots + lb) (hfr : d + 1 ≤ R.frames) (hlo : 40 * d + 40 ≤ R.locals) (hcall : ∀ k' as σ v σ', k' < 236 → call k' as σ = some (v, σ') → m_Ct l d k' as σ v σ') (hend : ∀ pc L st, m_end k r0.1 cc pc st → m_at p l e R s m args below meth c Q dC dI cA τ rn rx A nL nb lb ρ0 (pc) (L) (st) (r0.2)) (n : Nat) (z : Int) {q : List Nat} {K : Nat → j_L → List Value → Sto → Option Rr} (hE : j_okE k own pc (.iinc n z) q = true) (hd0 : ∃ ln, decode cc pc = .ok ((.iinc n z), ln) ∧ (ln = j_il (.iinc n z) ∨ j_isw (.iinc n z) = true)) (h : j_stp call (.iinc n z) q pc L st σ K = some r0) (hK : ∀ pc' L' st' σ', K pc' L' st' σ' = some r0 → m_go p l e R s m args below meth c Q dC dI cA τ rn rx A nL nb lb ρ0 r0 (pc') (L') (st') (σ')) : m_go p l e R s m args below meth c Q dC dI cA τ rn rx A nL nb lb ρ0 r0 (pc) (L) (st) (σ) := by
    have hd1 : decode cc pc = .ok ((.iinc n z), j_il (.iinc n z)) := by obtain ⟨ln, h1, h2 | h2⟩ := hd0 <;> first | (rw [h1, h2]) | cases h2
    unfold j_stp at h
    unfold j_okE at hE
    dsimp only at h hE
    unfold j_ldI at h
    split at h
    · rename_i x hx
      obtain ⟨a1, a2, a3⟩ := hK _ _ _ _ h
      exact ⟨m_iinc hS hx hd1 a1, a2, a3⟩
    · cases h
set_option maxHeartbeats 4000000 in
theorem m_s_iadd (hS : m_St p R s m args c dC dI cA τ rn rx A nL own cc) (hnm : (mN k).name = "<init>" → meth.name = "<init>") (hbn : s_n r0.2 ≤ j_b) (hRc : s_n r0.2 ≤ R.cells + nb) (hRs : s_l r0.2 ≤ R.slots + lb) (hfr : d + 1 ≤ R.frames) (hlo : 40 * d + 40 ≤ R.locals) (hcall : ∀ k' as σ v σ', k' < 236 → call k' as σ = some (v, σ') → m_Ct l d k' as σ v σ') (hend : ∀ pc L st, m_end k r0.1 cc pc st → m_at p l e R s m args below meth c Q dC dI cA τ rn rx A nL nb lb ρ0 (pc) (L) (st) (r0.2))  {q : List Nat} {K : Nat → j_L → List Value → Sto → Option Rr} (hE : j_okE k own pc (.iadd) q = true) (hd0 : ∃ ln, decode cc pc = .ok ((.iadd), ln) ∧ (ln = j_il (.iadd) ∨ j_isw (.iadd) = true)) (h : j_stp call (.iadd) q pc L st σ K = some r0) (hK : ∀ pc' L' st' σ', K pc' L' st' σ' = some r0 → m_go p l e R s m args below meth c Q dC dI cA τ rn rx A nL nb lb ρ0 r0 (pc') (L') (st') (σ')) : m_go p l e R s m args below meth c Q dC dI cA τ rn rx A nL nb lb ρ0 r0 (pc) (L) (st) (σ) := by
    have hd1 : decode cc pc = .ok ((.iadd), j_il (.iadd)) := by obtain ⟨ln, h1, h2 | h2⟩ := hd0 <;> first | (rw [h1, h2]) | cases h2
    unfold j_stp at h
    unfold j_okE at hE
    dsimp only at h hE
    split at h
    · obtain ⟨a1, a2, a3⟩ := hK _ _ _ _ h
      exact ⟨m_iadd hS hd1 a1, a2, a3⟩
    · cases h
set_option maxHeartbeats 4000000 in
theorem m_s_isub (hS : m_St p R s m args c dC dI cA τ rn rx A nL own cc) (hnm : (mN k).name = "<init>" → meth.name = "<init>") (hbn : s_n r0.2 ≤ j_b) (hRc : s_n r0.2 ≤ R.cells + nb) (hRs : s_l r0.2 ≤ R.slots + lb) (hfr : d + 1 ≤ R.frames) (hlo : 40 * d + 40 ≤ R.locals) (hcall : ∀ k' as σ v σ', k' < 236 → call k' as σ = some (v, σ') → m_Ct l d k' as σ v σ') (hend : ∀ pc L st, m_end k r0.1 cc pc st → m_at p l e R s m args below meth c Q dC dI cA τ rn rx A nL nb lb ρ0 (pc) (L) (st) (r0.2))  {q : List Nat} {K : Nat → j_L → List Value → Sto → Option Rr} (hE : j_okE k own pc (.isub) q = true) (hd0 : ∃ ln, decode cc pc = .ok ((.isub), ln) ∧ (ln = j_il (.isub) ∨ j_isw (.isub) = true)) (h : j_stp call (.isub) q pc L st σ K = some r0) (hK : ∀ pc' L' st' σ', K pc' L' st' σ' = some r0 → m_go p l e R s m args below meth c Q dC dI cA τ rn rx A nL nb lb ρ0 r0 (pc') (L') (st') (σ')) : m_go p l e R s m args below meth c Q dC dI cA τ rn rx A nL nb lb ρ0 r0 (pc) (L) (st) (σ) := by
    have hd1 : decode cc pc = .ok ((.isub), j_il (.isub)) := by obtain ⟨ln, h1, h2 | h2⟩ := hd0 <;> first | (rw [h1, h2]) | cases h2
    unfold j_stp at h
    unfold j_okE at hE
    dsimp only at h hE
    split at h
    · obtain ⟨a1, a2, a3⟩ := hK _ _ _ _ h
      exact ⟨m_isub hS hd1 a1, a2, a3⟩
    · cases h
set_option maxHeartbeats 4000000 in
theorem m_s_imul (hS : m_St p R s m args c dC dI cA τ rn rx A nL own cc) (hnm : (mN k).name = "<init>" → meth.name = "<init>") (hbn : s_n r0.2 ≤ j_b) (hRc : s_n r0.2 ≤ R.cells + nb) (hRs : s_l r0.2 ≤ R.slots + lb) (hfr : d + 1 ≤ R.frames) (hlo : 40 * d + 40 ≤ R.locals) (hcall : ∀ k' as σ v σ', k' < 236 → call k' as σ = some (v, σ') → m_Ct l d k' as σ v σ') (hend : ∀ pc L st, m_end k r0.1 cc pc st → m_at p l e R s m args below meth c Q dC dI cA τ rn rx A nL nb lb ρ0 (pc) (L) (st) (r0.2))  {q : List Nat} {K : Nat → j_L → List Value → Sto → Option Rr} (hE : j_okE k own pc (.imul) q = true) (hd0 : ∃ ln, decode cc pc = .ok ((.imul), ln) ∧ (ln = j_il (.imul) ∨ j_isw (.imul) = true)) (h : j_stp call (.imul) q pc L st σ K = some r0) (hK : ∀ pc' L' st' σ', K pc' L' st' σ' = some r0 → m_go p l e R s m args below meth c Q dC dI cA τ rn rx A nL nb lb ρ0 r0 (pc') (L') (st') (σ')) : m_go p l e R s m args below meth c Q dC dI cA τ rn rx A nL nb lb ρ0 r0 (pc) (L) (st) (σ) := by
    have hd1 : decode cc pc = .ok ((.imul), j_il (.imul)) := by obtain ⟨ln, h1, h2 | h2⟩ := hd0 <;> first | (rw [h1, h2]) | cases h2
    unfold j_stp at h
    unfold j_okE at hE
    dsimp only at h hE
    split at h
    · obtain ⟨a1, a2, a3⟩ := hK _ _ _ _ h
      exact ⟨m_imul hS hd1 a1, a2, a3⟩
    · cases h
set_option maxHeartbeats 4000000 in
theorem m_s_iand (hS : m_St p R s m args c dC dI cA τ rn rx A nL own cc) (hnm : (mN k).name = "<init>" → meth.name = "<init>") (hbn : s_n r0.2 ≤ j_b) (hRc : s_n r0.2 ≤ R.cells + nb) (hRs : s_l r0.2 ≤ R.slots + lb) (hfr : d + 1 ≤ R.frames) (hlo : 40 * d + 40 ≤ R.locals) (hcall : ∀ k' as σ v σ', k' < 236 → call k' as σ = some (v, σ') → m_Ct l d k' as σ v σ') (hend : ∀ pc L st, m_end k r0.1 cc pc st → m_at p l e R s m args below meth c Q dC dI cA τ rn rx A nL nb lb ρ0 (pc) (L) (st) (r0.2))  {q : List Nat} {K : Nat → j_L → List Value → Sto → Option Rr} (hE : j_okE k own pc (.iand) q = true) (hd0 : ∃ ln, decode cc pc = .ok ((.iand), ln) ∧ (ln = j_il (.iand) ∨ j_isw (.iand) = true)) (h : j_stp call (.iand) q pc L st σ K = some r0) (hK : ∀ pc' L' st' σ', K pc' L' st' σ' = some r0 → m_go p l e R s m args below meth c Q dC dI cA τ rn rx A nL nb lb ρ0 r0 (pc') (L') (st') (σ')) : m_go p l e R s m args below meth c Q dC dI cA τ rn rx A nL nb lb ρ0 r0 (pc) (L) (st) (σ) := by
    have hd1 : decode cc pc = .ok ((.iand), j_il (.iand)) := by obtain ⟨ln, h1, h2 | h2⟩ := hd0 <;> first | (rw [h1, h2]) | cases h2
    unfold j_stp at h
    unfold j_okE at hE
    dsimp only at h hE
    split at h
    · obtain ⟨a1, a2, a3⟩ := hK _ _ _ _ h
      exact ⟨m_iand hS hd1 a1, a2, a3⟩
    · cases h
set_option maxHeartbeats 4000000 in
theorem m_s_ior (hS : m_St p R s m args c dC dI cA τ rn rx A nL own cc) (hnm : (mN k).name = "<init>" → meth.name = "<init>") (hbn : s_n r0.2 ≤ j_b) (hRc : s_n r0.2 ≤ R.cells + nb) (hRs : s_l r0.2 ≤ R.slots + lb) (hfr : d + 1 ≤ R.frames) (hlo : 40 * d + 40 ≤ R.locals) (hcall : ∀ k' as σ v σ', k' < 236 → call k' as σ = some (v, σ') → m_Ct l d k' as σ v σ') (hend : ∀ pc L st, m_end k r0.1 cc pc st → m_at p l e R s m args below meth c Q dC dI cA τ rn rx A nL nb lb ρ0 (pc) (L) (st) (r0.2))  {q : List Nat} {K : Nat → j_L → List Value → Sto → Option Rr} (hE : j_okE k own pc (.ior) q = true) (hd0 : ∃ ln, decode cc pc = .ok ((.ior), ln) ∧ (ln = j_il (.ior) ∨ j_isw (.ior) = true)) (h : j_stp call (.ior) q pc L st σ K = some r0) (hK : ∀ pc' L' st' σ', K pc' L' st' σ' = some r0 → m_go p l e R s m args below meth c Q dC dI cA τ rn rx A nL nb lb ρ0 r0 (pc') (L') (st') (σ')) : m_go p l e R s m args below meth c Q dC dI cA τ rn rx A nL nb lb ρ0 r0 (pc) (L) (st) (σ) := by
    have hd1 : decode cc pc = .ok ((.ior), j_il (.ior)) := by obtain ⟨ln, h1, h2 | h2⟩ := hd0 <;> first | (rw [h1, h2]) | cases h2
    unfold j_stp at h
    unfold j_okE at hE
    dsimp only at h hE
    split at h
    · obtain ⟨a1, a2, a3⟩ := hK _ _ _ _ h
      exact ⟨m_ior hS hd1 a1, a2, a3⟩
    · cases h
set_option maxHeartbeats 4000000 in
theorem m_s_ixor (hS : m_St p R s m args c dC dI cA τ rn rx A nL own cc) (hnm : (mN k).name = "<init>" → meth.name = "<init>") (hbn : s_n r0.2 ≤ j_b) (hRc : s_n r0.2 ≤ R.cells + nb) (hRs : s_l r0.2 ≤ R.slots + lb) (hfr : d + 1 ≤ R.frames) (hlo : 40 * d + 40 ≤ R.locals) (hcall : ∀ k' as σ v σ', k' < 236 → call k' as σ = some (v, σ') → m_Ct l d k' as σ v σ') (hend : ∀ pc L st, m_end k r0.1 cc pc st → m_at p l e R s m args below meth c Q dC dI cA τ rn rx A nL nb lb ρ0 (pc) (L) (st) (r0.2))  {q : List Nat} {K : Nat → j_L → List Value → Sto → Option Rr} (hE : j_okE k own pc (.ixor) q = true) (hd0 : ∃ ln, decode cc pc = .ok ((.ixor), ln) ∧ (ln = j_il (.ixor) ∨ j_isw (.ixor) = true)) (h : j_stp call (.ixor) q pc L st σ K = some r0) (hK : ∀ pc' L' st' σ', K pc' L' st' σ' = some r0 → m_go p l e R s m args below meth c Q dC dI cA τ rn rx A nL nb lb ρ0 r0 (pc') (L') (st') (σ')) : m_go p l e R s m args below meth c Q dC dI cA τ rn rx A nL nb lb ρ0 r0 (pc) (L) (st) (σ) := by
    have hd1 : decode cc pc = .ok ((.ixor), j_il (.ixor)) := by obtain ⟨ln, h1, h2 | h2⟩ := hd0 <;> first | (rw [h1, h2]) | cases h2
    unfold j_stp at h
    unfold j_okE at hE
    dsimp only at h hE
    split at h
    · obtain ⟨a1, a2, a3⟩ := hK _ _ _ _ h
      exact ⟨m_ixor hS hd1 a1, a2, a3⟩
    · cases h
set_option maxHeartbeats 4000000 in
theorem m_s_ishl (hS : m_St p R s m args c dC dI cA τ rn rx A nL own cc) (hnm : (mN k).name = "<init>" → meth.name = "<init>") (hbn : s_n r0.2 ≤ j_b) (hRc : s_n r0.2 ≤ R.cells + nb) (hRs : s_l r0.2 ≤ R.slots + lb) (hfr : d + 1 ≤ R.frames) (hlo : 40 * d + 40 ≤ R.locals) (hcall : ∀ k' as σ v σ', k' < 236 → call k' as σ = some (v, σ') → m_Ct l d k' as σ v σ') (hend : ∀ pc L st, m_end k r0.1 cc pc st → m_at p l e R s m args below meth c Q dC dI cA τ rn rx A nL nb lb ρ0 (pc) (L) (st) (r0.2))  {q : List Nat} {K : Nat → j_L → List Value → Sto → Option Rr} (hE : j_okE k own pc (.ishl) q = true) (hd0 : ∃ ln, decode cc pc = .ok ((.ishl), ln) ∧ (ln = j_il (.ishl) ∨ j_isw (.ishl) = true)) (h : j_stp call (.ishl) q pc L st σ K = some r0) (hK : ∀ pc' L' st' σ', K pc' L' st' σ' = some r0 → m_go p l e R s m args below meth c Q dC dI cA τ rn rx A nL nb lb ρ0 r0 (pc') (L') (st') (σ')) : m_go p l e R s m args below meth c Q dC dI cA τ rn rx A nL nb lb ρ0 r0 (pc) (L) (st) (σ) := by
    have hd1 : decode cc pc = .ok ((.ishl), j_il (.ishl)) := by obtain ⟨ln, h1, h2 | h2⟩ := hd0 <;> first | (rw [h1, h2]) | cases h2
    unfold j_stp at h
    unfold j_okE at hE
    dsimp only at h hE
    split at h
    · obtain ⟨a1, a2, a3⟩ := hK _ _ _ _ h
      exact ⟨m_ishl hS hd1 a1, a2, a3⟩
    · cases h
set_option maxHeartbeats 4000000 in
theorem m_s_ishr (hS : m_St p R s m args c dC dI cA τ rn rx A nL own cc) (hnm : (mN k).name = "<init>" → meth.name = "<init>") (hbn : s_n r0.2 ≤ j_b) (hRc : s_n r0.2 ≤ R.cells + nb) (hRs : s_l r0.2 ≤ R.slots + lb) (hfr : d + 1 ≤ R.frames) (hlo : 40 * d + 40 ≤ R.locals) (hcall : ∀ k' as σ v σ', k' < 236 → call k' as σ = some (v, σ') → m_Ct l d k' as σ v σ') (hend : ∀ pc L st, m_end k r0.1 cc pc st → m_at p l e R s m args below meth c Q dC dI cA τ rn rx A nL nb lb ρ0 (pc) (L) (st) (r0.2))  {q : List Nat} {K : Nat → j_L → List Value → Sto → Option Rr} (hE : j_okE k own pc (.ishr) q = true) (hd0 : ∃ ln, decode cc pc = .ok ((.ishr), ln) ∧ (ln = j_il (.ishr) ∨ j_isw (.ishr) = true)) (h : j_stp call (.ishr) q pc L st σ K = some r0) (hK : ∀ pc' L' st' σ', K pc' L' st' σ' = some r0 → m_go p l e R s m args below meth c Q dC dI cA τ rn rx A nL nb lb ρ0 r0 (pc') (L') (st') (σ')) : m_go p l e R s m args below meth c Q dC dI cA τ rn rx A nL nb lb ρ0 r0 (pc) (L) (st) (σ) := by
    have hd1 : decode cc pc = .ok ((.ishr), j_il (.ishr)) := by obtain ⟨ln, h1, h2 | h2⟩ := hd0 <;> first | (rw [h1, h2]) | cases h2
    unfold j_stp at h
    unfold j_okE at hE
    dsimp only at h hE
    split at h
    · obtain ⟨a1, a2, a3⟩ := hK _ _ _ _ h
      exact ⟨m_ishr hS hd1 a1, a2, a3⟩
    · cases h
set_option maxHeartbeats 4000000 in
theorem m_s_iushr (hS : m_St p R s m args c dC dI cA τ rn rx A nL own cc) (hnm : (mN k).name = "<init>" → meth.name = "<init>") (hbn : s_n r0.2 ≤ j_b) (hRc : s_n r0.2 ≤ R.cells + nb) (hRs : s_l r0.2 ≤ R.slots + lb) (hfr : d + 1 ≤ R.frames) (hlo : 40 * d + 40 ≤ R.locals) (hcall : ∀ k' as σ v σ', k' < 236 → call k' as σ = some (v, σ') → m_Ct l d k' as σ v σ') (hend : ∀ pc L st, m_end k r0.1 cc pc st → m_at p l e R s m args below meth c Q dC dI cA τ rn rx A nL nb lb ρ0 (pc) (L) (st) (r0.2))  {q : List Nat} {K : Nat → j_L → List Value → Sto → Option Rr} (hE : j_okE k own pc (.iushr) q = true) (hd0 : ∃ ln, decode cc pc = .ok ((.iushr), ln) ∧ (ln = j_il (.iushr) ∨ j_isw (.iushr) = true)) (h : j_stp call (.iushr) q pc L st σ K = some r0) (hK : ∀ pc' L' st' σ', K pc' L' st' σ' = some r0 → m_go p l e R s m args below meth c Q dC dI cA τ rn rx A nL nb lb ρ0 r0 (pc') (L') (st') (σ')) : m_go p l e R s m args below meth c Q dC dI cA τ rn rx A nL nb lb ρ0 r0 (pc) (L) (st) (σ) := by
    have hd1 : decode cc pc = .ok ((.iushr), j_il (.iushr)) := by obtain ⟨ln, h1, h2 | h2⟩ := hd0 <;> first | (rw [h1, h2]) | cases h2
    unfold j_stp at h
    unfold j_okE at hE
    dsimp only at h hE
    split at h
    · obtain ⟨a1, a2, a3⟩ := hK _ _ _ _ h
      exact ⟨m_iushr hS hd1 a1, a2, a3⟩
    · cases h
set_option maxHeartbeats 4000000 in
theorem m_s_ineg (hS : m_St p R s m args c dC dI cA τ rn rx A nL own cc) (hnm : (mN k).name = "<init>" → meth.name = "<init>") (hbn : s_n r0.2 ≤ j_b) (hRc : s_n r0.2 ≤ R.cells + nb) (hRs : s_l r0.2 ≤ R.slots + lb) (hfr : d + 1 ≤ R.frames) (hlo : 40 * d + 40 ≤ R.locals) (hcall : ∀ k' as σ v σ', k' < 236 → call k' as σ = some (v, σ') → m_Ct l d k' as σ v σ') (hend : ∀ pc L st, m_end k r0.1 cc pc st → m_at p l e R s m args below meth c Q dC dI cA τ rn rx A nL nb lb ρ0 (pc) (L) (st) (r0.2))  {q : List Nat} {K : Nat → j_L → List Value → Sto → Option Rr} (hE : j_okE k own pc (.ineg) q = true) (hd0 : ∃ ln, decode cc pc = .ok ((.ineg), ln) ∧ (ln = j_il (.ineg) ∨ j_isw (.ineg) = true)) (h : j_stp call (.ineg) q pc L st σ K = some r0) (hK : ∀ pc' L' st' σ', K pc' L' st' σ' = some r0 → m_go p l e R s m args below meth c Q dC dI cA τ rn rx A nL nb lb ρ0 r0 (pc') (L') (st') (σ')) : m_go p l e R s m args below meth c Q dC dI cA τ rn rx A nL nb lb ρ0 r0 (pc) (L) (st) (σ) := by
    have hd1 : decode cc pc = .ok ((.ineg), j_il (.ineg)) := by obtain ⟨ln, h1, h2 | h2⟩ := hd0 <;> first | (rw [h1, h2]) | cases h2
    unfold j_stp at h
    unfold j_okE at hE
    dsimp only at h hE
    split at h
    · obtain ⟨a1, a2, a3⟩ := hK _ _ _ _ h
      exact ⟨m_ineg hS hd1 a1, a2, a3⟩
    · cases h
set_option maxHeartbeats 4000000 in
theorem m_s_ladd (hS : m_St p R s m args c dC dI cA τ rn rx A nL own cc) (hnm : (mN k).name = "<init>" → meth.name = "<init>") (hbn : s_n r0.2 ≤ j_b) (hRc : s_n r0.2 ≤ R.cells + nb) (hRs : s_l r0.2 ≤ R.slots + lb) (hfr : d + 1 ≤ R.frames) (hlo : 40 * d + 40 ≤ R.locals) (hcall : ∀ k' as σ v σ', k' < 236 → call k' as σ = some (v, σ') → m_Ct l d k' as σ v σ') (hend : ∀ pc L st, m_end k r0.1 cc pc st → m_at p l e R s m args below meth c Q dC dI cA τ rn rx A nL nb lb ρ0 (pc) (L) (st) (r0.2))  {q : List Nat} {K : Nat → j_L → List Value → Sto → Option Rr} (hE : j_okE k own pc (.ladd) q = true) (hd0 : ∃ ln, decode cc pc = .ok ((.ladd), ln) ∧ (ln = j_il (.ladd) ∨ j_isw (.ladd) = true)) (h : j_stp call (.ladd) q pc L st σ K = some r0) (hK : ∀ pc' L' st' σ', K pc' L' st' σ' = some r0 → m_go p l e R s m args below meth c Q dC dI cA τ rn rx A nL nb lb ρ0 r0 (pc') (L') (st') (σ')) : m_go p l e R s m args below meth c Q dC dI cA τ rn rx A nL nb lb ρ0 r0 (pc) (L) (st) (σ) := by
    have hd1 : decode cc pc = .ok ((.ladd), j_il (.ladd)) := by obtain ⟨ln, h1, h2 | h2⟩ := hd0 <;> first | (rw [h1, h2]) | cases h2
    unfold j_stp at h
    unfold j_okE at hE
    dsimp only at h hE
    split at h
    · obtain ⟨a1, a2, a3⟩ := hK _ _ _ _ h
      exact ⟨m_ladd hS hd1 a1, a2, a3⟩
    · cases h
set_option maxHeartbeats 4000000 in
theorem m_s_lmul (hS : m_St p R s m args c dC dI cA τ rn rx A nL own cc) (hnm : (mN k).name = "<init>" → meth.name = "<init>") (hbn : s_n r0.2 ≤ j_b) (hRc : s_n r0.2 ≤ R.cells + nb) (hRs : s_l r0.2 ≤ R.slots + lb) (hfr : d + 1 ≤ R.frames) (hlo : 40 * d + 40 ≤ R.locals) (hcall : ∀ k' as σ v σ', k' < 236 → call k' as σ = some (v, σ') → m_Ct l d k' as σ v σ') (hend : ∀ pc L st, m_end k r0.1 cc pc st → m_at p l e R s m args below meth c Q dC dI cA τ rn rx A nL nb lb ρ0 (pc) (L) (st) (r0.2))  {q : List Nat} {K : Nat → j_L → List Value → Sto → Option Rr} (hE : j_okE k own pc (.lmul) q = true) (hd0 : ∃ ln, decode cc pc = .ok ((.lmul), ln) ∧ (ln = j_il (.lmul) ∨ j_isw (.lmul) = true)) (h : j_stp call (.lmul) q pc L st σ K = some r0) (hK : ∀ pc' L' st' σ', K pc' L' st' σ' = some r0 → m_go p l e R s m args below meth c Q dC dI cA τ rn rx A nL nb lb ρ0 r0 (pc') (L') (st') (σ')) : m_go p l e R s m args below meth c Q dC dI cA τ rn rx A nL nb lb ρ0 r0 (pc) (L) (st) (σ) := by
    have hd1 : decode cc pc = .ok ((.lmul), j_il (.lmul)) := by obtain ⟨ln, h1, h2 | h2⟩ := hd0 <;> first | (rw [h1, h2]) | cases h2
    unfold j_stp at h
    unfold j_okE at hE
    dsimp only at h hE
    split at h
    · obtain ⟨a1, a2, a3⟩ := hK _ _ _ _ h
      exact ⟨m_lmul hS hd1 a1, a2, a3⟩
    · cases h
set_option maxHeartbeats 4000000 in
theorem m_s_lcmp (hS : m_St p R s m args c dC dI cA τ rn rx A nL own cc) (hnm : (mN k).name = "<init>" → meth.name = "<init>") (hbn : s_n r0.2 ≤ j_b) (hRc : s_n r0.2 ≤ R.cells + nb) (hRs : s_l r0.2 ≤ R.slots + lb) (hfr : d + 1 ≤ R.frames) (hlo : 40 * d + 40 ≤ R.locals) (hcall : ∀ k' as σ v σ', k' < 236 → call k' as σ = some (v, σ') → m_Ct l d k' as σ v σ') (hend : ∀ pc L st, m_end k r0.1 cc pc st → m_at p l e R s m args below meth c Q dC dI cA τ rn rx A nL nb lb ρ0 (pc) (L) (st) (r0.2))  {q : List Nat} {K : Nat → j_L → List Value → Sto → Option Rr} (hE : j_okE k own pc (.lcmp) q = true) (hd0 : ∃ ln, decode cc pc = .ok ((.lcmp), ln) ∧ (ln = j_il (.lcmp) ∨ j_isw (.lcmp) = true)) (h : j_stp call (.lcmp) q pc L st σ K = some r0) (hK : ∀ pc' L' st' σ', K pc' L' st' σ' = some r0 → m_go p l e R s m args below meth c Q dC dI cA τ rn rx A nL nb lb ρ0 r0 (pc') (L') (st') (σ')) : m_go p l e R s m args below meth c Q dC dI cA τ rn rx A nL nb lb ρ0 r0 (pc) (L) (st) (σ) := by
    have hd1 : decode cc pc = .ok ((.lcmp), j_il (.lcmp)) := by obtain ⟨ln, h1, h2 | h2⟩ := hd0 <;> first | (rw [h1, h2]) | cases h2
    unfold j_stp at h
    unfold j_okE at hE
    dsimp only at h hE
    split at h
    · obtain ⟨a1, a2, a3⟩ := hK _ _ _ _ h
      exact ⟨m_lcmp hS hd1 a1, a2, a3⟩
    · cases h
set_option maxHeartbeats 4000000 in
theorem m_s_i2l (hS : m_St p R s m args c dC dI cA τ rn rx A nL own cc) (hnm : (mN k).name = "<init>" → meth.name = "<init>") (hbn : s_n r0.2 ≤ j_b) (hRc : s_n r0.2 ≤ R.cells + nb) (hRs : s_l r0.2 ≤ R.slots + lb) (hfr : d + 1 ≤ R.frames) (hlo : 40 * d + 40 ≤ R.locals) (hcall : ∀ k' as σ v σ', k' < 236 → call k' as σ = some (v, σ') → m_Ct l d k' as σ v σ') (hend : ∀ pc L st, m_end k r0.1 cc pc st → m_at p l e R s m args below meth c Q dC dI cA τ rn rx A nL nb lb ρ0 (pc) (L) (st) (r0.2))  {q : List Nat} {K : Nat → j_L → List Value → Sto → Option Rr} (hE : j_okE k own pc (.i2l) q = true) (hd0 : ∃ ln, decode cc pc = .ok ((.i2l), ln) ∧ (ln = j_il (.i2l) ∨ j_isw (.i2l) = true)) (h : j_stp call (.i2l) q pc L st σ K = some r0) (hK : ∀ pc' L' st' σ', K pc' L' st' σ' = some r0 → m_go p l e R s m args below meth c Q dC dI cA τ rn rx A nL nb lb ρ0 r0 (pc') (L') (st') (σ')) : m_go p l e R s m args below meth c Q dC dI cA τ rn rx A nL nb lb ρ0 r0 (pc) (L) (st) (σ) := by
    have hd1 : decode cc pc = .ok ((.i2l), j_il (.i2l)) := by obtain ⟨ln, h1, h2 | h2⟩ := hd0 <;> first | (rw [h1, h2]) | cases h2
    unfold j_stp at h
    unfold j_okE at hE
    dsimp only at h hE
    split at h
    · obtain ⟨a1, a2, a3⟩ := hK _ _ _ _ h
      exact ⟨m_i2l hS hd1 a1, a2, a3⟩
    · cases h
set_option maxHeartbeats 4000000 in
theorem m_s_l2i (hS : m_St p R s m args c dC dI cA τ rn rx A nL own cc) (hnm : (mN k).name = "<init>" → meth.name = "<init>") (hbn : s_n r0.2 ≤ j_b) (hRc : s_n r0.2 ≤ R.cells + nb) (hRs : s_l r0.2 ≤ R.slots + lb) (hfr : d + 1 ≤ R.frames) (hlo : 40 * d + 40 ≤ R.locals) (hcall : ∀ k' as σ v σ', k' < 236 → call k' as σ = some (v, σ') → m_Ct l d k' as σ v σ') (hend : ∀ pc L st, m_end k r0.1 cc pc st → m_at p l e R s m args below meth c Q dC dI cA τ rn rx A nL nb lb ρ0 (pc) (L) (st) (r0.2))  {q : List Nat} {K : Nat → j_L → List Value → Sto → Option Rr} (hE : j_okE k own pc (.l2i) q = true) (hd0 : ∃ ln, decode cc pc = .ok ((.l2i), ln) ∧ (ln = j_il (.l2i) ∨ j_isw (.l2i) = true)) (h : j_stp call (.l2i) q pc L st σ K = some r0) (hK : ∀ pc' L' st' σ', K pc' L' st' σ' = some r0 → m_go p l e R s m args below meth c Q dC dI cA τ rn rx A nL nb lb ρ0 r0 (pc') (L') (st') (σ')) : m_go p l e R s m args below meth c Q dC dI cA τ rn rx A nL nb lb ρ0 r0 (pc) (L) (st) (σ) := by
    have hd1 : decode cc pc = .ok ((.l2i), j_il (.l2i)) := by obtain ⟨ln, h1, h2 | h2⟩ := hd0 <;> first | (rw [h1, h2]) | cases h2
    unfold j_stp at h
    unfold j_okE at hE
    dsimp only at h hE
    split at h
    · obtain ⟨a1, a2, a3⟩ := hK _ _ _ _ h
      exact ⟨m_l2i hS hd1 a1, a2, a3⟩
    · cases h
set_option maxHeartbeats 4000000 in
theorem m_s_i2b (hS : m_St p R s m args c dC dI cA τ rn rx A nL own cc) (hnm : (mN k).name = "<init>" → meth.name = "<init>") (hbn : s_n r0.2 ≤ j_b) (hRc : s_n r0.2 ≤ R.cells + nb) (hRs : s_l r0.2 ≤ R.slots + lb) (hfr : d + 1 ≤ R.frames) (hlo : 40 * d + 40 ≤ R.locals) (hcall : ∀ k' as σ v σ', k' < 236 → call k' as σ = some (v, σ') → m_Ct l d k' as σ v σ') (hend : ∀ pc L st, m_end k r0.1 cc pc st → m_at p l e R s m args below meth c Q dC dI cA τ rn rx A nL nb lb ρ0 (pc) (L) (st) (r0.2))  {q : List Nat} {K : Nat → j_L → List Value → Sto → Option Rr} (hE : j_okE k own pc (.i2b) q = true) (hd0 : ∃ ln, decode cc pc = .ok ((.i2b), ln) ∧ (ln = j_il (.i2b) ∨ j_isw (.i2b) = true)) (h : j_stp call (.i2b) q pc L st σ K = some r0) (hK : ∀ pc' L' st' σ', K pc' L' st' σ' = some r0 → m_go p l e R s m args below meth c Q dC dI cA τ rn rx A nL nb lb ρ0 r0 (pc') (L') (st') (σ')) : m_go p l e R s m args below meth c Q dC dI cA τ rn rx A nL nb lb ρ0 r0 (pc) (L) (st) (σ) := by
    have hd1 : decode cc pc = .ok ((.i2b), j_il (.i2b)) := by obtain ⟨ln, h1, h2 | h2⟩ := hd0 <;> first | (rw [h1, h2]) | cases h2
    unfold j_stp at h
    unfold j_okE at hE
    dsimp only at h hE
    split at h
    · obtain ⟨a1, a2, a3⟩ := hK _ _ _ _ h
      exact ⟨m_i2b hS hd1 a1, a2, a3⟩
    · cases h
set_option maxHeartbeats 4000000 in
theorem m_s_dup2 (hS : m_St p R s m args c dC dI cA τ rn rx A nL own cc) (hnm : (mN k).name = "<init>" → meth.name = "<init>") (hbn : s_n r0.2 ≤ j_b) (hRc : s_n r0.2 ≤ R.cells + nb) (hRs : s_l r0.2 ≤ R.slots + lb) (hfr : d + 1 ≤ R.frames) (hlo : 40 * d + 40 ≤ R.locals) (hcall : ∀ k' as σ v σ', k' < 236 → call k' as σ = some (v, σ') → m_Ct l d k' as σ v σ') (hend : ∀ pc L st, m_end k r0.1 cc pc st → m_at p l e R s m args below meth c Q dC dI cA τ rn rx A nL nb lb ρ0 (pc) (L) (st) (r0.2))  {q : List Nat} {K : Nat → j_L → List Value → Sto → Option Rr} (hE : j_okE k own pc (.dup2) q = true) (hd0 : ∃ ln, decode cc pc = .ok ((.dup2), ln) ∧ (ln = j_il (.dup2) ∨ j_isw (.dup2) = true)) (h : j_stp call (.dup2) q pc L st σ K = some r0) (hK : ∀ pc' L' st' σ', K pc' L' st' σ' = some r0 → m_go p l e R s m args below meth c Q dC dI cA τ rn rx A nL nb lb ρ0 r0 (pc') (L') (st') (σ')) : m_go p l e R s m args below meth c Q dC dI cA τ rn rx A nL nb lb ρ0 r0 (pc) (L) (st) (σ) := by
    have hd1 : decode cc pc = .ok ((.dup2), j_il (.dup2)) := by obtain ⟨ln, h1, h2 | h2⟩ := hd0 <;> first | (rw [h1, h2]) | cases h2
    unfold j_stp at h
    unfold j_okE at hE
    dsimp only at h hE
    split at h
    · obtain ⟨a1, a2, a3⟩ := hK _ _ _ _ h
      exact ⟨m_dup2 hS hd1 a1, a2, a3⟩
    · cases h
set_option maxHeartbeats 4000000 in
theorem m_s_pop (hS : m_St p R s m args c dC dI cA τ rn rx A nL own cc) (hnm : (mN k).name = "<init>" → meth.name = "<init>") (hbn : s_n r0.2 ≤ j_b) (hRc : s_n r0.2 ≤ R.cells + nb) (hRs : s_l r0.2 ≤ R.slots + lb) (hfr : d + 1 ≤ R.frames) (hlo : 40 * d + 40 ≤ R.locals) (hcall : ∀ k' as σ v σ', k' < 236 → call k' as σ = some (v, σ') → m_Ct l d k' as σ v σ') (hend : ∀ pc L st, m_end k r0.1 cc pc st → m_at p l e R s m args below meth c Q dC dI cA τ rn rx A nL nb lb ρ0 (pc) (L) (st) (r0.2))  {q : List Nat} {K : Nat → j_L → List Value → Sto → Option Rr} (hE : j_okE k own pc (.pop) q = true) (hd0 : ∃ ln, decode cc pc = .ok ((.pop), ln) ∧ (ln = j_il (.pop) ∨ j_isw (.pop) = true)) (h : j_stp call (.pop) q pc L st σ K = some r0) (hK : ∀ pc' L' st' σ', K pc' L' st' σ' = some r0 → m_go p l e R s m args below meth c Q dC dI cA τ rn rx A nL nb lb ρ0 r0 (pc') (L') (st') (σ')) : m_go p l e R s m args below meth c Q dC dI cA τ rn rx A nL nb lb ρ0 r0 (pc) (L) (st) (σ) := by
    have hd1 : decode cc pc = .ok ((.pop), j_il (.pop)) := by obtain ⟨ln, h1, h2 | h2⟩ := hd0 <;> first | (rw [h1, h2]) | cases h2
    unfold j_stp at h
    unfold j_okE at hE
    dsimp only at h hE
    split at h
    · obtain ⟨a1, a2, a3⟩ := hK _ _ _ _ h
      exact ⟨m_pop hS hd1 a1, a2, a3⟩
    · cases h
set_option maxHeartbeats 4000000 in
theorem m_s_idiv (hS : m_St p R s m args c dC dI cA τ rn rx A nL own cc) (hnm : (mN k).name = "<init>" → meth.name = "<init>") (hbn : s_n r0.2 ≤ j_b) (hRc : s_n r0.2 ≤ R.cells + nb) (hRs : s_l r0.2 ≤ R.slots + lb) (hfr : d + 1 ≤ R.frames) (hlo : 40 * d + 40 ≤ R.locals) (hcall : ∀ k' as σ v σ', k' < 236 → call k' as σ = some (v, σ') → m_Ct l d k' as σ v σ') (hend : ∀ pc L st, m_end k r0.1 cc pc st → m_at p l e R s m args below meth c Q dC dI cA τ rn rx A nL nb lb ρ0 (pc) (L) (st) (r0.2))  {q : List Nat} {K : Nat → j_L → List Value → Sto → Option Rr} (hE : j_okE k own pc (.idiv) q = true) (hd0 : ∃ ln, decode cc pc = .ok ((.idiv), ln) ∧ (ln = j_il (.idiv) ∨ j_isw (.idiv) = true)) (h : j_stp call (.idiv) q pc L st σ K = some r0) (hK : ∀ pc' L' st' σ', K pc' L' st' σ' = some r0 → m_go p l e R s m args below meth c Q dC dI cA τ rn rx A nL nb lb ρ0 r0 (pc') (L') (st') (σ')) : m_go p l e R s m args below meth c Q dC dI cA τ rn rx A nL nb lb ρ0 r0 (pc) (L) (st) (σ) := by
    have hd1 : decode cc pc = .ok ((.idiv), j_il (.idiv)) := by obtain ⟨ln, h1, h2 | h2⟩ := hd0 <;> first | (rw [h1, h2]) | cases h2
    unfold j_stp at h
    unfold j_okE at hE
    dsimp only at h hE
    split at h
    · split at h
      next => cases h
      next hy =>
        obtain ⟨a1, a2, a3⟩ := hK _ _ _ _ h
        exact ⟨m_idiv hS hy hd1 a1, a2, a3⟩
    · cases h
set_option maxHeartbeats 4000000 in
theorem m_s_irem (hS : m_St p R s m args c dC dI cA τ rn rx A nL own cc) (hnm : (mN k).name = "<init>" → meth.name = "<init>") (hbn : s_n r0.2 ≤ j_b) (hRc : s_n r0.2 ≤ R.cells + nb) (hRs : s_l r0.2 ≤ R.slots + lb) (hfr : d + 1 ≤ R.frames) (hlo : 40 * d + 40 ≤ R.locals) (hcall : ∀ k' as σ v σ', k' < 236 → call k' as σ = some (v, σ') → m_Ct l d k' as σ v σ') (hend : ∀ pc L st, m_end k r0.1 cc pc st → m_at p l e R s m args below meth c Q dC dI cA τ rn rx A nL nb lb ρ0 (pc) (L) (st) (r0.2))  {q : List Nat} {K : Nat → j_L → List Value → Sto → Option Rr} (hE : j_okE k own pc (.irem) q = true) (hd0 : ∃ ln, decode cc pc = .ok ((.irem), ln) ∧ (ln = j_il (.irem) ∨ j_isw (.irem) = true)) (h : j_stp call (.irem) q pc L st σ K = some r0) (hK : ∀ pc' L' st' σ', K pc' L' st' σ' = some r0 → m_go p l e R s m args below meth c Q dC dI cA τ rn rx A nL nb lb ρ0 r0 (pc') (L') (st') (σ')) : m_go p l e R s m args below meth c Q dC dI cA τ rn rx A nL nb lb ρ0 r0 (pc) (L) (st) (σ) := by
    have hd1 : decode cc pc = .ok ((.irem), j_il (.irem)) := by obtain ⟨ln, h1, h2 | h2⟩ := hd0 <;> first | (rw [h1, h2]) | cases h2
    unfold j_stp at h
    unfold j_okE at hE
    dsimp only at h hE
    split at h
    · split at h
      next => cases h
      next hy =>
        obtain ⟨a1, a2, a3⟩ := hK _ _ _ _ h
        exact ⟨m_irem hS hy hd1 a1, a2, a3⟩
    · cases h
set_option maxHeartbeats 4000000 in
theorem m_s_ldiv (hS : m_St p R s m args c dC dI cA τ rn rx A nL own cc) (hnm : (mN k).name = "<init>" → meth.name = "<init>") (hbn : s_n r0.2 ≤ j_b) (hRc : s_n r0.2 ≤ R.cells + nb) (hRs : s_l r0.2 ≤ R.slots + lb) (hfr : d + 1 ≤ R.frames) (hlo : 40 * d + 40 ≤ R.locals) (hcall : ∀ k' as σ v σ', k' < 236 → call k' as σ = some (v, σ') → m_Ct l d k' as σ v σ') (hend : ∀ pc L st, m_end k r0.1 cc pc st → m_at p l e R s m args below meth c Q dC dI cA τ rn rx A nL nb lb ρ0 (pc) (L) (st) (r0.2))  {q : List Nat} {K : Nat → j_L → List Value → Sto → Option Rr} (hE : j_okE k own pc (.ldiv) q = true) (hd0 : ∃ ln, decode cc pc = .ok ((.ldiv), ln) ∧ (ln = j_il (.ldiv) ∨ j_isw (.ldiv) = true)) (h : j_stp call (.ldiv) q pc L st σ K = some r0) (hK : ∀ pc' L' st' σ', K pc' L' st' σ' = some r0 → m_go p l e R s m args below meth c Q dC dI cA τ rn rx A nL nb lb ρ0 r0 (pc') (L') (st') (σ')) : m_go p l e R s m args below meth c Q dC dI cA τ rn rx A nL nb lb ρ0 r0 (pc) (L) (st) (σ) := by
    have hd1 : decode cc pc = .ok ((.ldiv), j_il (.ldiv)) := by obtain ⟨ln, h1, h2 | h2⟩ := hd0 <;> first | (rw [h1, h2]) | cases h2
    unfold j_stp at h
    unfold j_okE at hE
    dsimp only at h hE
    split at h
    · split at h
      next => cases h
      next hy =>
        obtain ⟨a1, a2, a3⟩ := hK _ _ _ _ h
        exact ⟨m_ldiv hS hy hd1 a1, a2, a3⟩
    · cases h
set_option maxHeartbeats 4000000 in
theorem m_s_lrem (hS : m_St p R s m args c dC dI cA τ rn rx A nL own cc) (hnm : (mN k).name = "<init>" → meth.name = "<init>") (hbn : s_n r0.2 ≤ j_b) (hRc : s_n r0.2 ≤ R.cells + nb) (hRs : s_l r0.2 ≤ R.slots + lb) (hfr : d + 1 ≤ R.frames) (hlo : 40 * d + 40 ≤ R.locals) (hcall : ∀ k' as σ v σ', k' < 236 → call k' as σ = some (v, σ') → m_Ct l d k' as σ v σ') (hend : ∀ pc L st, m_end k r0.1 cc pc st → m_at p l e R s m args below meth c Q dC dI cA τ rn rx A nL nb lb ρ0 (pc) (L) (st) (r0.2))  {q : List Nat} {K : Nat → j_L → List Value → Sto → Option Rr} (hE : j_okE k own pc (.lrem) q = true) (hd0 : ∃ ln, decode cc pc = .ok ((.lrem), ln) ∧ (ln = j_il (.lrem) ∨ j_isw (.lrem) = true)) (h : j_stp call (.lrem) q pc L st σ K = some r0) (hK : ∀ pc' L' st' σ', K pc' L' st' σ' = some r0 → m_go p l e R s m args below meth c Q dC dI cA τ rn rx A nL nb lb ρ0 r0 (pc') (L') (st') (σ')) : m_go p l e R s m args below meth c Q dC dI cA τ rn rx A nL nb lb ρ0 r0 (pc) (L) (st) (σ) := by
    have hd1 : decode cc pc = .ok ((.lrem), j_il (.lrem)) := by obtain ⟨ln, h1, h2 | h2⟩ := hd0 <;> first | (rw [h1, h2]) | cases h2
    unfold j_stp at h
    unfold j_okE at hE
    dsimp only at h hE
    split at h
    · split at h
      next => cases h
      next hy =>
        obtain ⟨a1, a2, a3⟩ := hK _ _ _ _ h
        exact ⟨m_lrem hS hy hd1 a1, a2, a3⟩
    · cases h
set_option maxHeartbeats 4000000 in
theorem m_s_dup (hS : m_St p R s m args c dC dI cA τ rn rx A nL own cc) (hnm : (mN k).name = "<init>" → meth.name = "<init>") (hbn : s_n r0.2 ≤ j_b) (hRc : s_n r0.2 ≤ R.cells + nb) (hRs : s_l r0.2 ≤ R.slots + lb) (hfr : d + 1 ≤ R.frames) (hlo : 40 * d + 40 ≤ R.locals) (hcall : ∀ k' as σ v σ', k' < 236 → call k' as σ = some (v, σ') → m_Ct l d k' as σ v σ') (hend : ∀ pc L st, m_end k r0.1 cc pc st → m_at p l e R s m args below meth c Q dC dI cA τ rn rx A nL nb lb ρ0 (pc) (L) (st) (r0.2))  {q : List Nat} {K : Nat → j_L → List Value → Sto → Option Rr} (hE : j_okE k own pc (.dup) q = true) (hd0 : ∃ ln, decode cc pc = .ok ((.dup), ln) ∧ (ln = j_il (.dup) ∨ j_isw (.dup) = true)) (h : j_stp call (.dup) q pc L st σ K = some r0) (hK : ∀ pc' L' st' σ', K pc' L' st' σ' = some r0 → m_go p l e R s m args below meth c Q dC dI cA τ rn rx A nL nb lb ρ0 r0 (pc') (L') (st') (σ')) : m_go p l e R s m args below meth c Q dC dI cA τ rn rx A nL nb lb ρ0 r0 (pc) (L) (st) (σ) := by
    have hd1 : decode cc pc = .ok ((.dup), j_il (.dup)) := by obtain ⟨ln, h1, h2 | h2⟩ := hd0 <;> first | (rw [h1, h2]) | cases h2
    unfold j_stp at h
    unfold j_okE at hE
    dsimp only at h hE
    split at h
    · obtain ⟨a1, a2, a3⟩ := hK _ _ _ _ h
      exact ⟨m_dupI hS hd1 a1, a2, a3⟩
    · obtain ⟨a1, a2, a3⟩ := hK _ _ _ _ h
      exact ⟨m_dupA hS hd1 a1, a2, a3⟩
    · cases h
set_option maxHeartbeats 4000000 in
theorem m_s_ifCond (hS : m_St p R s m args c dC dI cA τ rn rx A nL own cc) (hnm : (mN k).name = "<init>" → meth.name = "<init>") (hbn : s_n r0.2 ≤ j_b) (hRc : s_n r0.2 ≤ R.cells + nb) (hRs : s_l r0.2 ≤ R.slots + lb) (hfr : d + 1 ≤ R.frames) (hlo : 40 * d + 40 ≤ R.locals) (hcall : ∀ k' as σ v σ', k' < 236 → call k' as σ = some (v, σ') → m_Ct l d k' as σ v σ') (hend : ∀ pc L st, m_end k r0.1 cc pc st → m_at p l e R s m args below meth c Q dC dI cA τ rn rx A nL nb lb ρ0 (pc) (L) (st) (r0.2)) (cn : ClassFile.Cond) (off : Int) {q : List Nat} {K : Nat → j_L → List Value → Sto → Option Rr} (hE : j_okE k own pc (.ifCond cn off) q = true) (hd0 : ∃ ln, decode cc pc = .ok ((.ifCond cn off), ln) ∧ (ln = j_il (.ifCond cn off) ∨ j_isw (.ifCond cn off) = true)) (h : j_stp call (.ifCond cn off) q pc L st σ K = some r0) (hK : ∀ pc' L' st' σ', K pc' L' st' σ' = some r0 → m_go p l e R s m args below meth c Q dC dI cA τ rn rx A nL nb lb ρ0 r0 (pc') (L') (st') (σ')) : m_go p l e R s m args below meth c Q dC dI cA τ rn rx A nL nb lb ρ0 r0 (pc) (L) (st) (σ) := by
    have hd1 : decode cc pc = .ok ((.ifCond cn off), j_il (.ifCond cn off)) := by obtain ⟨ln, h1, h2 | h2⟩ := hd0 <;> first | (rw [h1, h2]) | cases h2
    unfold j_stp at h
    unfold j_okE at hE
    dsimp only at h hE
    split at h
    · have ht := of_decide_eq_true hE
      rcases m_tst h with ⟨hp, h⟩ | ⟨hp, h⟩
      · obtain ⟨a1, a2, a3⟩ := hK _ _ _ _ h
        exact ⟨m_ifc hS hd1 ht (fun _ => a1) (fun z => absurd hp z), a2, a3⟩
      · obtain ⟨a1, a2, a3⟩ := hK _ _ _ _ h
        exact ⟨m_ifc hS hd1 ht (fun z => absurd z hp) (fun _ => a1), a2, a3⟩
    · cases h
set_option maxHeartbeats 4000000 in
theorem m_s_if_icmp (hS : m_St p R s m args c dC dI cA τ rn rx A nL own cc) (hnm : (mN k).name = "<init>" → meth.name = "<init>") (hbn : s_n r0.2 ≤ j_b) (hRc : s_n r0.2 ≤ R.cells + nb) (hRs : s_l r0.2 ≤ R.slots + lb) (hfr : d + 1 ≤ R.frames) (hlo : 40 * d + 40 ≤ R.locals) (hcall : ∀ k' as σ v σ', k' < 236 → call k' as σ = some (v, σ') → m_Ct l d k' as σ v σ') (hend : ∀ pc L st, m_end k r0.1 cc pc st → m_at p l e R s m args below meth c Q dC dI cA τ rn rx A nL nb lb ρ0 (pc) (L) (st) (r0.2)) (cn : ClassFile.Cond) (off : Int) {q : List Nat} {K : Nat → j_L → List Value → Sto → Option Rr} (hE : j_okE k own pc (.if_icmp cn off) q = true) (hd0 : ∃ ln, decode cc pc = .ok ((.if_icmp cn off), ln) ∧ (ln = j_il (.if_icmp cn off) ∨ j_isw (.if_icmp cn off) = true)) (h : j_stp call (.if_icmp cn off) q pc L st σ K = some r0) (hK : ∀ pc' L' st' σ', K pc' L' st' σ' = some r0 → m_go p l e R s m args below meth c Q dC dI cA τ rn rx A nL nb lb ρ0 r0 (pc') (L') (st') (σ')) : m_go p l e R s m args below meth c Q dC dI cA τ rn rx A nL nb lb ρ0 r0 (pc) (L) (st) (σ) := by
    have hd1 : decode cc pc = .ok ((.if_icmp cn off), j_il (.if_icmp cn off)) := by obtain ⟨ln, h1, h2 | h2⟩ := hd0 <;> first | (rw [h1, h2]) | cases h2
    unfold j_stp at h
    unfold j_okE at hE
    dsimp only at h hE
    split at h
    · have ht := of_decide_eq_true hE
      rcases m_tst h with ⟨hp, h⟩ | ⟨hp, h⟩
      · obtain ⟨a1, a2, a3⟩ := hK _ _ _ _ h
        exact ⟨m_icmp hS hd1 ht (fun _ => a1) (fun z => absurd hp z), a2, a3⟩
      · obtain ⟨a1, a2, a3⟩ := hK _ _ _ _ h
        exact ⟨m_icmp hS hd1 ht (fun z => absurd z hp) (fun _ => a1), a2, a3⟩
    · cases h
set_option maxHeartbeats 4000000 in
theorem m_s_goto (hS : m_St p R s m args c dC dI cA τ rn rx A nL own cc) (hnm : (mN k).name = "<init>" → meth.name = "<init>") (hbn : s_n r0.2 ≤ j_b) (hRc : s_n r0.2 ≤ R.cells + nb) (hRs : s_l r0.2 ≤ R.slots + lb) (hfr : d + 1 ≤ R.frames) (hlo : 40 * d + 40 ≤ R.locals) (hcall : ∀ k' as σ v σ', k' < 236 → call k' as σ = some (v, σ') → m_Ct l d k' as σ v σ') (hend : ∀ pc L st, m_end k r0.1 cc pc st → m_at p l e R s m args below meth c Q dC dI cA τ rn rx A nL nb lb ρ0 (pc) (L) (st) (r0.2)) (off : Int) {q : List Nat} {K : Nat → j_L → List Value → Sto → Option Rr} (hE : j_okE k own pc (.goto off) q = true) (hd0 : ∃ ln, decode cc pc = .ok ((.goto off), ln) ∧ (ln = j_il (.goto off) ∨ j_isw (.goto off) = true)) (h : j_stp call (.goto off) q pc L st σ K = some r0) (hK : ∀ pc' L' st' σ', K pc' L' st' σ' = some r0 → m_go p l e R s m args below meth c Q dC dI cA τ rn rx A nL nb lb ρ0 r0 (pc') (L') (st') (σ')) : m_go p l e R s m args below meth c Q dC dI cA τ rn rx A nL nb lb ρ0 r0 (pc) (L) (st) (σ) := by
    have hd1 : decode cc pc = .ok ((.goto off), j_il (.goto off)) := by obtain ⟨ln, h1, h2 | h2⟩ := hd0 <;> first | (rw [h1, h2]) | cases h2
    unfold j_stp at h
    unfold j_okE at hE
    dsimp only at h hE
    split at h
    · obtain ⟨a1, a2, a3⟩ := hK _ _ _ _ h
      exact ⟨m_goto hS hd1 (of_decide_eq_true hE) a1, a2, a3⟩
    · cases h
set_option maxHeartbeats 4000000 in
theorem m_s_tableswitch (hS : m_St p R s m args c dC dI cA τ rn rx A nL own cc) (hnm : (mN k).name = "<init>" → meth.name = "<init>") (hbn : s_n r0.2 ≤ j_b) (hRc : s_n r0.2 ≤ R.cells + nb) (hRs : s_l r0.2 ≤ R.slots + lb) (hfr : d + 1 ≤ R.frames) (hlo : 40 * d + 40 ≤ R.locals) (hcall : ∀ k' as σ v σ', k' < 236 → call k' as σ = some (v, σ') → m_Ct l d k' as σ v σ') (hend : ∀ pc L st, m_end k r0.1 cc pc st → m_at p l e R s m args below meth c Q dC dI cA τ rn rx A nL nb lb ρ0 (pc) (L) (st) (r0.2)) (d0 lo hi : Int) (offs : Array Int) {q : List Nat} {K : Nat → j_L → List Value → Sto → Option Rr} (hE : j_okE k own pc (.tableswitch d0 lo hi offs) q = true) (hd0 : ∃ ln, decode cc pc = .ok ((.tableswitch d0 lo hi offs), ln) ∧ (ln = j_il (.tableswitch d0 lo hi offs) ∨ j_isw (.tableswitch d0 lo hi offs) = true)) (h : j_stp call (.tableswitch d0 lo hi offs) q pc L st σ K = some r0) (hK : ∀ pc' L' st' σ', K pc' L' st' σ' = some r0 → m_go p l e R s m args below meth c Q dC dI cA τ rn rx A nL nb lb ρ0 r0 (pc') (L') (st') (σ')) : m_go p l e R s m args below meth c Q dC dI cA τ rn rx A nL nb lb ρ0 r0 (pc) (L) (st) (σ) := by
    have hd1 : True := trivial
    unfold j_stp at h
    unfold j_okE at hE
    dsimp only at h hE
    split at h
    · rename_i t ts x st'
      simp only [Bool.and_eq_true, decide_eq_true_eq] at hE
      obtain ⟨⟨⟨⟨⟨e1, e2⟩, e3⟩, e4⟩, e5⟩, e6⟩ := hE
      obtain ⟨n, hdg, -⟩ := hd0
      rcases m_tsw ts lo e2 (by omega) h with ⟨g, hx⟩ | ⟨i, t', hi, hx, g⟩
      · obtain ⟨a1, a2, a3⟩ := hK _ _ _ _ g
        refine ⟨?_, a2, a3⟩
        intro ρ H locs cells slots ls hI hc hs hL hw
        exact lv_tableOut hS.1 hS.2.1 hdg (by omega) e1 (a1 ρ H locs cells slots ls hI hc hs hL (m_wt hw))
      · obtain ⟨a1, a2, a3⟩ := hK _ _ _ _ g
        refine ⟨?_, a2, a3⟩
        have hil : i < ts.length := (List.getElem?_eq_some_iff.mp hi).1
        have ho : offs[(x.toInt - lo).toNat]? = some ((t' : Int) - (pc : Int)) := by
          rw [show (x.toInt - lo).toNat = i by omega, ← Array.getElem?_toList, e6, List.getElem?_map, hi]
          rfl
        intro ρ H locs cells slots ls hI hc hs hL hw
        exact lv_tableIn hS.1 hS.2.1 hdg (by omega) (by omega) ho (by omega) (a1 ρ H locs cells slots ls hI hc hs hL (m_wt hw))
    · cases h
set_option maxHeartbeats 4000000 in
theorem m_s_lookupswitch (hS : m_St p R s m args c dC dI cA τ rn rx A nL own cc) (hnm : (mN k).name = "<init>" → meth.name = "<init>") (hbn : s_n r0.2 ≤ j_b) (hRc : s_n r0.2 ≤ R.cells + nb) (hRs : s_l r0.2 ≤ R.slots + lb) (hfr : d + 1 ≤ R.frames) (hlo : 40 * d + 40 ≤ R.locals) (hcall : ∀ k' as σ v σ', k' < 236 → call k' as σ = some (v, σ') → m_Ct l d k' as σ v σ') (hend : ∀ pc L st, m_end k r0.1 cc pc st → m_at p l e R s m args below meth c Q dC dI cA τ rn rx A nL nb lb ρ0 (pc) (L) (st) (r0.2)) (d0 : Int) (ps : Array (Int × Int)) {q : List Nat} {K : Nat → j_L → List Value → Sto → Option Rr} (hE : j_okE k own pc (.lookupswitch d0 ps) q = true) (hd0 : ∃ ln, decode cc pc = .ok ((.lookupswitch d0 ps), ln) ∧ (ln = j_il (.lookupswitch d0 ps) ∨ j_isw (.lookupswitch d0 ps) = true)) (h : j_stp call (.lookupswitch d0 ps) q pc L st σ K = some r0) (hK : ∀ pc' L' st' σ', K pc' L' st' σ' = some r0 → m_go p l e R s m args below meth c Q dC dI cA τ rn rx A nL nb lb ρ0 r0 (pc') (L') (st') (σ')) : m_go p l e R s m args below meth c Q dC dI cA τ rn rx A nL nb lb ρ0 r0 (pc) (L) (st) (σ) := by
    have hd1 : True := trivial
    unfold j_stp at h
    unfold j_okE at hE
    dsimp only at h hE
    split at h
    · rename_i t ts x st' _
      split at hE
      · rename_i t a b he
        cases he
        simp only [Bool.and_eq_true, decide_eq_true_eq] at hE
        obtain ⟨e1, e6⟩ := hE
        obtain ⟨n, hdg, -⟩ := hd0
        rw [e6] at h
        unfold j_lps j_sw j_lps j_sw j_lps j_sw at h
        have k0 : (j_k 0).toInt = 0 := m_kT (by omega) (by omega)
        have k1 : (j_k 1).toInt = 1 := m_kT (by omega) (by omega)
        have hpp : (ps.toList.zip (ps.toList.drop 1)).all (fun (a, next) => a.1 < next.1) = true := by rw [e6]; rfl
        split at h
        next hx =>
          obtain ⟨a1, a2, a3⟩ := hK _ _ _ _ h
          refine ⟨?_, a2, a3⟩
          intro ρ H locs cells slots ls hI hc hs hL hw
          refine lv_lookup hS.1 hS.2.1 hdg hpp (off := (a : Int) - (pc : Int)) ?_ (by omega) (a1 ρ H locs cells slots ls hI hc hs hL (m_wt hw))
          rw [e6, hx, k0]
          rfl
        next hx =>
          split at h
          next hx1 =>
            obtain ⟨a1, a2, a3⟩ := hK _ _ _ _ h
            refine ⟨?_, a2, a3⟩
            intro ρ H locs cells slots ls hI hc hs hL hw
            refine lv_lookup hS.1 hS.2.1 hdg hpp (off := (b : Int) - (pc : Int)) ?_ (by omega) (a1 ρ H locs cells slots ls hI hc hs hL (m_wt hw))
            rw [e6, hx1, k1]
            rfl
          next hx1 =>
            obtain ⟨a1, a2, a3⟩ := hK _ _ _ _ h
            refine ⟨?_, a2, a3⟩
            intro ρ H locs cells slots ls hI hc hs hL hw
            refine lv_lookup hS.1 hS.2.1 hdg hpp (off := d0) ?_ e1 (a1 ρ H locs cells slots ls hI hc hs hL (m_wt hw))
            rw [e6, lv_osw hx k0, lv_osw hx1 k1]
            rfl
      · cases hE
    · cases h
set_option maxHeartbeats 4000000 in
theorem m_s_getfield (hS : m_St p R s m args c dC dI cA τ rn rx A nL own cc) (hnm : (mN k).name = "<init>" → meth.name = "<init>") (hbn : s_n r0.2 ≤ j_b) (hRc : s_n r0.2 ≤ R.cells + nb) (hRs : s_l r0.2 ≤ R.slots + lb) (hfr : d + 1 ≤ R.frames) (hlo : 40 * d + 40 ≤ R.locals) (hcall : ∀ k' as σ v σ', k' < 236 → call k' as σ = some (v, σ') → m_Ct l d k' as σ v σ') (hend : ∀ pc L st, m_end k r0.1 cc pc st → m_at p l e R s m args below meth c Q dC dI cA τ rn rx A nL nb lb ρ0 (pc) (L) (st) (r0.2)) (idx : Nat) {q : List Nat} {K : Nat → j_L → List Value → Sto → Option Rr} (hE : j_okE k own pc (.getfield idx) q = true) (hd0 : ∃ ln, decode cc pc = .ok ((.getfield idx), ln) ∧ (ln = j_il (.getfield idx) ∨ j_isw (.getfield idx) = true)) (h : j_stp call (.getfield idx) q pc L st σ K = some r0) (hK : ∀ pc' L' st' σ', K pc' L' st' σ' = some r0 → m_go p l e R s m args below meth c Q dC dI cA τ rn rx A nL nb lb ρ0 r0 (pc') (L') (st') (σ')) : m_go p l e R s m args below meth c Q dC dI cA τ rn rx A nL nb lb ρ0 r0 (pc) (L) (st) (σ) := by
    have hd1 : decode cc pc = .ok ((.getfield idx), j_il (.getfield idx)) := by obtain ⟨ln, h1, h2 | h2⟩ := hd0 <;> first | (rw [h1, h2]) | cases h2
    unfold j_stp at h
    unfold j_okE at hE
    dsimp only at h hE
    split at h
    · rename_i ci f kd l0 r st' _
      simp only [Bool.and_eq_true, decide_eq_true_eq] at hE
      obtain ⟨⟨⟨e1, e2⟩, e3⟩, e4⟩ := hE
      have hl := m_fl e4
      split at h
      next hkd =>
        unfold j_oc at h
        split at h
        next hr =>
          obtain ⟨a1, a2, a3⟩ := hK _ _ _ _ h
          exact ⟨m_getJ hS e1 e2 hl (j_us e1) (m_kd1 (hkd ▸ e3)) hr hd1 a1, a2, a3⟩
        next => cases h
      next hkd =>
        split at h
        next hkd2 =>
          unfold j_gP at h
          split at h
          next hr =>
            split at h
            next q hq =>
              obtain ⟨a1, a2, a3⟩ := hK _ _ _ _ h
              exact ⟨m_getP hS e1 e2 hl (j_us e1) (m_kd2 (hkd2 ▸ e3)) hr hq hd1 a1, a2, a3⟩
            next => cases h
          next => cases h
        next hkd2 =>
          unfold j_oc at h
          split at h
          next hr =>
            obtain ⟨a1, a2, a3⟩ := hK _ _ _ _ h
            exact ⟨m_getI hS e1 e2 hl (j_us e1) (m_kdx e3 hkd hkd2 (j_kd9 e1 e2)) hr hd1 a1, a2, a3⟩
          next => cases h
    · cases h
set_option maxHeartbeats 4000000 in
theorem m_s_putfield (hS : m_St p R s m args c dC dI cA τ rn rx A nL own cc) (hnm : (mN k).name = "<init>" → meth.name = "<init>") (hbn : s_n r0.2 ≤ j_b) (hRc : s_n r0.2 ≤ R.cells + nb) (hRs : s_l r0.2 ≤ R.slots + lb) (hfr : d + 1 ≤ R.frames) (hlo : 40 * d + 40 ≤ R.locals) (hcall : ∀ k' as σ v σ', k' < 236 → call k' as σ = some (v, σ') → m_Ct l d k' as σ v σ') (hend : ∀ pc L st, m_end k r0.1 cc pc st → m_at p l e R s m args below meth c Q dC dI cA τ rn rx A nL nb lb ρ0 (pc) (L) (st) (r0.2)) (idx : Nat) {q : List Nat} {K : Nat → j_L → List Value → Sto → Option Rr} (hE : j_okE k own pc (.putfield idx) q = true) (hd0 : ∃ ln, decode cc pc = .ok ((.putfield idx), ln) ∧ (ln = j_il (.putfield idx) ∨ j_isw (.putfield idx) = true)) (h : j_stp call (.putfield idx) q pc L st σ K = some r0) (hK : ∀ pc' L' st' σ', K pc' L' st' σ' = some r0 → m_go p l e R s m args below meth c Q dC dI cA τ rn rx A nL nb lb ρ0 r0 (pc') (L') (st') (σ')) : m_go p l e R s m args below meth c Q dC dI cA τ rn rx A nL nb lb ρ0 r0 (pc) (L) (st) (σ) := by
    have hd1 : decode cc pc = .ok ((.putfield idx), j_il (.putfield idx)) := by obtain ⟨ln, h1, h2 | h2⟩ := hd0 <;> first | (rw [h1, h2]) | cases h2
    unfold j_stp at h
    unfold j_okE at hE
    dsimp only at h hE
    split at h
    · rename_i ci f kd l0 v r st' _
      simp only [Bool.and_eq_true, Bool.or_eq_true, decide_eq_true_eq] at hE
      obtain ⟨⟨⟨⟨e1, e2⟩, e3⟩, e4⟩, e5⟩ := hE
      have hl := m_fl e4
      split at h
      next hkd =>
        split at h
        next hrb =>
          unfold j_oc at h
          split at h
          next hr =>
            obtain ⟨a1, a2, a3⟩ := hK _ _ _ _ h
            exact ⟨m_putI hS e1 e2 hl (j_us e1) (by
              rcases hkd with z | ⟨z, z2⟩
              · subst z; exact Or.inl (m_kd0 e3)
              · subst z; exact Or.inr ⟨m_kd3 e3, z2⟩) (e5.imp id (fun z => ⟨hnm z.1, z.2⟩)) hr hrb hd1 a1, a2, a3⟩
          next => cases h
        next => cases h
      next => cases h
    · rename_i ci f kd l0 v r st' _
      simp only [Bool.and_eq_true, Bool.or_eq_true, decide_eq_true_eq] at hE
      obtain ⟨⟨⟨⟨e1, e2⟩, e3⟩, e4⟩, e5⟩ := hE
      have hl := m_fl e4
      split at h
      next hkd =>
        split at h
        next hrb =>
          unfold j_oc at h
          split at h
          next hr =>
            obtain ⟨a1, a2, a3⟩ := hK _ _ _ _ h
            exact ⟨m_putJ hS e1 e2 hl (j_us e1) (m_kd1 (hkd ▸ e3)) (e5.imp id (fun z => ⟨hnm z.1, z.2⟩)) hr hrb hd1 a1, a2, a3⟩
          next => cases h
        next => cases h
      next => cases h
    · rename_i ci f kd l0 v r st' _
      simp only [Bool.and_eq_true, Bool.or_eq_true, decide_eq_true_eq] at hE
      obtain ⟨⟨⟨⟨e1, e2⟩, e3⟩, e4⟩, e5⟩ := hE
      have hl := m_fl e4
      split at h
      next hkd =>
        split at h
        next hrb =>
          unfold j_oc at h
          split at h
          next hr =>
            obtain ⟨a1, a2, a3⟩ := hK _ _ _ _ h
            exact ⟨m_putP hS e1 e2 hl (j_us e1) (m_kd2 (hkd ▸ e3)) (e5.imp id (fun z => ⟨hnm z.1, z.2⟩)) hr hrb hd1 a1, a2, a3⟩
          next => cases h
        next => cases h
      next => cases h
    · cases h
set_option maxHeartbeats 4000000 in
theorem m_s_getstatic (hS : m_St p R s m args c dC dI cA τ rn rx A nL own cc) (hnm : (mN k).name = "<init>" → meth.name = "<init>") (hbn : s_n r0.2 ≤ j_b) (hRc : s_n r0.2 ≤ R.cells + nb) (hRs : s_l r0.2 ≤ R.slots + lb) (hfr : d + 1 ≤ R.frames) (hlo : 40 * d + 40 ≤ R.locals) (hcall : ∀ k' as σ v σ', k' < 236 → call k' as σ = some (v, σ') → m_Ct l d k' as σ v σ') (hend : ∀ pc L st, m_end k r0.1 cc pc st → m_at p l e R s m args below meth c Q dC dI cA τ rn rx A nL nb lb ρ0 (pc) (L) (st) (r0.2)) (idx : Nat) {q : List Nat} {K : Nat → j_L → List Value → Sto → Option Rr} (hE : j_okE k own pc (.getstatic idx) q = true) (hd0 : ∃ ln, decode cc pc = .ok ((.getstatic idx), ln) ∧ (ln = j_il (.getstatic idx) ∨ j_isw (.getstatic idx) = true)) (h : j_stp call (.getstatic idx) q pc L st σ K = some r0) (hK : ∀ pc' L' st' σ', K pc' L' st' σ' = some r0 → m_go p l e R s m args below meth c Q dC dI cA τ rn rx A nL nb lb ρ0 r0 (pc') (L') (st') (σ')) : m_go p l e R s m args below meth c Q dC dI cA τ rn rx A nL nb lb ρ0 r0 (pc) (L) (st) (σ) := by
    have hd1 : decode cc pc = .ok ((.getstatic idx), j_il (.getstatic idx)) := by obtain ⟨ln, h1, h2 | h2⟩ := hd0 <;> first | (rw [h1, h2]) | cases h2
    unfold j_stp at h
    unfold j_okE at hE
    dsimp only at h hE
    split at h
    · simp only [Bool.and_eq_true, decide_eq_true_eq] at hE
      obtain ⟨a1, a2, a3⟩ := hK _ _ _ _ h
      exact ⟨m_gets hS hE.1 (m_has hE.2) hd1 a1, a2, a3⟩
    · cases h
set_option maxHeartbeats 4000000 in
theorem m_s_iaload (hS : m_St p R s m args c dC dI cA τ rn rx A nL own cc) (hnm : (mN k).name = "<init>" → meth.name = "<init>") (hbn : s_n r0.2 ≤ j_b) (hRc : s_n r0.2 ≤ R.cells + nb) (hRs : s_l r0.2 ≤ R.slots + lb) (hfr : d + 1 ≤ R.frames) (hlo : 40 * d + 40 ≤ R.locals) (hcall : ∀ k' as σ v σ', k' < 236 → call k' as σ = some (v, σ') → m_Ct l d k' as σ v σ') (hend : ∀ pc L st, m_end k r0.1 cc pc st → m_at p l e R s m args below meth c Q dC dI cA τ rn rx A nL nb lb ρ0 (pc) (L) (st) (r0.2))  {q : List Nat} {K : Nat → j_L → List Value → Sto → Option Rr} (hE : j_okE k own pc (.iaload) q = true) (hd0 : ∃ ln, decode cc pc = .ok ((.iaload), ln) ∧ (ln = j_il (.iaload) ∨ j_isw (.iaload) = true)) (h : j_stp call (.iaload) q pc L st σ K = some r0) (hK : ∀ pc' L' st' σ', K pc' L' st' σ' = some r0 → m_go p l e R s m args below meth c Q dC dI cA τ rn rx A nL nb lb ρ0 r0 (pc') (L') (st') (σ')) : m_go p l e R s m args below meth c Q dC dI cA τ rn rx A nL nb lb ρ0 r0 (pc) (L) (st) (σ) := by
    have hd1 : decode cc pc = .ok ((.iaload), j_il (.iaload)) := by obtain ⟨ln, h1, h2 | h2⟩ := hd0 <;> first | (rw [h1, h2]) | cases h2
    unfold j_stp at h
    unfold j_okE at hE
    dsimp only at h hE
    split at h
    · unfold j_ia at h
      split at h
      · rename_i n hr
        split at h
        next hi =>
          obtain ⟨a1, a2, a3⟩ := hK _ _ _ _ h
          exact ⟨m_iald hS hr hi hd1 a1, a2, a3⟩
        next => cases h
      · cases h
    · cases h
set_option maxHeartbeats 4000000 in
theorem m_s_baload (hS : m_St p R s m args c dC dI cA τ rn rx A nL own cc) (hnm : (mN k).name = "<init>" → meth.name = "<init>") (hbn : s_n r0.2 ≤ j_b) (hRc : s_n r0.2 ≤ R.cells + nb) (hRs : s_l r0.2 ≤ R.slots + lb) (hfr : d + 1 ≤ R.frames) (hlo : 40 * d + 40 ≤ R.locals) (hcall : ∀ k' as σ v σ', k' < 236 → call k' as σ = some (v, σ') → m_Ct l d k' as σ v σ') (hend : ∀ pc L st, m_end k r0.1 cc pc st → m_at p l e R s m args below meth c Q dC dI cA τ rn rx A nL nb lb ρ0 (pc) (L) (st) (r0.2))  {q : List Nat} {K : Nat → j_L → List Value → Sto → Option Rr} (hE : j_okE k own pc (.baload) q = true) (hd0 : ∃ ln, decode cc pc = .ok ((.baload), ln) ∧ (ln = j_il (.baload) ∨ j_isw (.baload) = true)) (h : j_stp call (.baload) q pc L st σ K = some r0) (hK : ∀ pc' L' st' σ', K pc' L' st' σ' = some r0 → m_go p l e R s m args below meth c Q dC dI cA τ rn rx A nL nb lb ρ0 r0 (pc') (L') (st') (σ')) : m_go p l e R s m args below meth c Q dC dI cA τ rn rx A nL nb lb ρ0 r0 (pc) (L) (st) (σ) := by
    have hd1 : decode cc pc = .ok ((.baload), j_il (.baload)) := by obtain ⟨ln, h1, h2 | h2⟩ := hd0 <;> first | (rw [h1, h2]) | cases h2
    unfold j_stp at h
    unfold j_okE at hE
    dsimp only at h hE
    split at h
    · unfold j_ba at h
      split at h
      · rename_i n hr
        split at h
        next hi =>
          obtain ⟨a1, a2, a3⟩ := hK _ _ _ _ h
          exact ⟨m_bald hS hr hi hd1 a1, a2, a3⟩
        next => cases h
      · rename_i n hr
        split at h
        next hi =>
          obtain ⟨a1, a2, a3⟩ := hK _ _ _ _ h
          exact ⟨m_zald hS hr hi hd1 a1, a2, a3⟩
        next => cases h
      · cases h
    · cases h
set_option maxHeartbeats 4000000 in
theorem m_s_laload (hS : m_St p R s m args c dC dI cA τ rn rx A nL own cc) (hnm : (mN k).name = "<init>" → meth.name = "<init>") (hbn : s_n r0.2 ≤ j_b) (hRc : s_n r0.2 ≤ R.cells + nb) (hRs : s_l r0.2 ≤ R.slots + lb) (hfr : d + 1 ≤ R.frames) (hlo : 40 * d + 40 ≤ R.locals) (hcall : ∀ k' as σ v σ', k' < 236 → call k' as σ = some (v, σ') → m_Ct l d k' as σ v σ') (hend : ∀ pc L st, m_end k r0.1 cc pc st → m_at p l e R s m args below meth c Q dC dI cA τ rn rx A nL nb lb ρ0 (pc) (L) (st) (r0.2))  {q : List Nat} {K : Nat → j_L → List Value → Sto → Option Rr} (hE : j_okE k own pc (.laload) q = true) (hd0 : ∃ ln, decode cc pc = .ok ((.laload), ln) ∧ (ln = j_il (.laload) ∨ j_isw (.laload) = true)) (h : j_stp call (.laload) q pc L st σ K = some r0) (hK : ∀ pc' L' st' σ', K pc' L' st' σ' = some r0 → m_go p l e R s m args below meth c Q dC dI cA τ rn rx A nL nb lb ρ0 r0 (pc') (L') (st') (σ')) : m_go p l e R s m args below meth c Q dC dI cA τ rn rx A nL nb lb ρ0 r0 (pc) (L) (st) (σ) := by
    have hd1 : decode cc pc = .ok ((.laload), j_il (.laload)) := by obtain ⟨ln, h1, h2 | h2⟩ := hd0 <;> first | (rw [h1, h2]) | cases h2
    unfold j_stp at h
    unfold j_okE at hE
    dsimp only at h hE
    split at h
    · unfold j_la at h
      split at h
      · rename_i n hr
        split at h
        next hi =>
          obtain ⟨a1, a2, a3⟩ := hK _ _ _ _ h
          exact ⟨m_lald hS hr hi hd1 a1, a2, a3⟩
        next => cases h
      · cases h
    · cases h
set_option maxHeartbeats 4000000 in
theorem m_s_aaload (hS : m_St p R s m args c dC dI cA τ rn rx A nL own cc) (hnm : (mN k).name = "<init>" → meth.name = "<init>") (hbn : s_n r0.2 ≤ j_b) (hRc : s_n r0.2 ≤ R.cells + nb) (hRs : s_l r0.2 ≤ R.slots + lb) (hfr : d + 1 ≤ R.frames) (hlo : 40 * d + 40 ≤ R.locals) (hcall : ∀ k' as σ v σ', k' < 236 → call k' as σ = some (v, σ') → m_Ct l d k' as σ v σ') (hend : ∀ pc L st, m_end k r0.1 cc pc st → m_at p l e R s m args below meth c Q dC dI cA τ rn rx A nL nb lb ρ0 (pc) (L) (st) (r0.2))  {q : List Nat} {K : Nat → j_L → List Value → Sto → Option Rr} (hE : j_okE k own pc (.aaload) q = true) (hd0 : ∃ ln, decode cc pc = .ok ((.aaload), ln) ∧ (ln = j_il (.aaload) ∨ j_isw (.aaload) = true)) (h : j_stp call (.aaload) q pc L st σ K = some r0) (hK : ∀ pc' L' st' σ', K pc' L' st' σ' = some r0 → m_go p l e R s m args below meth c Q dC dI cA τ rn rx A nL nb lb ρ0 r0 (pc') (L') (st') (σ')) : m_go p l e R s m args below meth c Q dC dI cA τ rn rx A nL nb lb ρ0 r0 (pc) (L) (st) (σ) := by
    have hd1 : decode cc pc = .ok ((.aaload), j_il (.aaload)) := by obtain ⟨ln, h1, h2 | h2⟩ := hd0 <;> first | (rw [h1, h2]) | cases h2
    unfold j_stp at h
    unfold j_okE at hE
    dsimp only at h hE
    split at h
    · unfold j_qa at h
      split at h
      · rename_i C n hr
        split at h
        next hi =>
          split at h
          next q hq =>
            obtain ⟨a1, a2, a3⟩ := hK _ _ _ _ h
            obtain ⟨hC, hi⟩ := hi
            subst hC
            exact ⟨m_aald (t0 := 4) hS hr rfl (Or.inl ⟨_, rfl⟩) hi hq hd1 a1, a2, a3⟩
          next => cases h
        next => cases h
      · rename_i n hr
        split at h
        next hi =>
          split at h
          next q hq =>
            obtain ⟨a1, a2, a3⟩ := hK _ _ _ _ h
            exact ⟨m_aald (t0 := 5) hS hr rfl (Or.inr ⟨_, rfl⟩) hi hq hd1 a1, a2, a3⟩
          next => cases h
        next => cases h
      · cases h
    · cases h
set_option maxHeartbeats 4000000 in
theorem m_s_iastore (hS : m_St p R s m args c dC dI cA τ rn rx A nL own cc) (hnm : (mN k).name = "<init>" → meth.name = "<init>") (hbn : s_n r0.2 ≤ j_b) (hRc : s_n r0.2 ≤ R.cells + nb) (hRs : s_l r0.2 ≤ R.slots + lb) (hfr : d + 1 ≤ R.frames) (hlo : 40 * d + 40 ≤ R.locals) (hcall : ∀ k' as σ v σ', k' < 236 → call k' as σ = some (v, σ') → m_Ct l d k' as σ v σ') (hend : ∀ pc L st, m_end k r0.1 cc pc st → m_at p l e R s m args below meth c Q dC dI cA τ rn rx A nL nb lb ρ0 (pc) (L) (st) (r0.2))  {q : List Nat} {K : Nat → j_L → List Value → Sto → Option Rr} (hE : j_okE k own pc (.iastore) q = true) (hd0 : ∃ ln, decode cc pc = .ok ((.iastore), ln) ∧ (ln = j_il (.iastore) ∨ j_isw (.iastore) = true)) (h : j_stp call (.iastore) q pc L st σ K = some r0) (hK : ∀ pc' L' st' σ', K pc' L' st' σ' = some r0 → m_go p l e R s m args below meth c Q dC dI cA τ rn rx A nL nb lb ρ0 r0 (pc') (L') (st') (σ')) : m_go p l e R s m args below meth c Q dC dI cA τ rn rx A nL nb lb ρ0 r0 (pc) (L) (st) (σ) := by
    have hd1 : decode cc pc = .ok ((.iastore), j_il (.iastore)) := by obtain ⟨ln, h1, h2 | h2⟩ := hd0 <;> first | (rw [h1, h2]) | cases h2
    unfold j_stp at h
    unfold j_okE at hE
    dsimp only at h hE
    split at h
    · unfold j_is at h
      split at h
      · rename_i n hr
        split at h
        next hi =>
          obtain ⟨a1, a2, a3⟩ := hK _ _ _ _ h
          exact ⟨m_iast hS hr hi.1 hi.2 hd1 a1, a2, a3⟩
        next => cases h
      · cases h
    · cases h
set_option maxHeartbeats 4000000 in
theorem m_s_bastore (hS : m_St p R s m args c dC dI cA τ rn rx A nL own cc) (hnm : (mN k).name = "<init>" → meth.name = "<init>") (hbn : s_n r0.2 ≤ j_b) (hRc : s_n r0.2 ≤ R.cells + nb) (hRs : s_l r0.2 ≤ R.slots + lb) (hfr : d + 1 ≤ R.frames) (hlo : 40 * d + 40 ≤ R.locals) (hcall : ∀ k' as σ v σ', k' < 236 → call k' as σ = some (v, σ') → m_Ct l d k' as σ v σ') (hend : ∀ pc L st, m_end k r0.1 cc pc st → m_at p l e R s m args below meth c Q dC dI cA τ rn rx A nL nb lb ρ0 (pc) (L) (st) (r0.2))  {q : List Nat} {K : Nat → j_L → List Value → Sto → Option Rr} (hE : j_okE k own pc (.bastore) q = true) (hd0 : ∃ ln, decode cc pc = .ok ((.bastore), ln) ∧ (ln = j_il (.bastore) ∨ j_isw (.bastore) = true)) (h : j_stp call (.bastore) q pc L st σ K = some r0) (hK : ∀ pc' L' st' σ', K pc' L' st' σ' = some r0 → m_go p l e R s m args below meth c Q dC dI cA τ rn rx A nL nb lb ρ0 r0 (pc') (L') (st') (σ')) : m_go p l e R s m args below meth c Q dC dI cA τ rn rx A nL nb lb ρ0 r0 (pc) (L) (st) (σ) := by
    have hd1 : decode cc pc = .ok ((.bastore), j_il (.bastore)) := by obtain ⟨ln, h1, h2 | h2⟩ := hd0 <;> first | (rw [h1, h2]) | cases h2
    unfold j_stp at h
    unfold j_okE at hE
    dsimp only at h hE
    split at h
    · unfold j_bs at h
      split at h
      · rename_i n hr
        split at h
        next hi =>
          obtain ⟨a1, a2, a3⟩ := hK _ _ _ _ h
          exact ⟨m_bast hS hr hi.1 hi.2 hd1 a1, a2, a3⟩
        next => cases h
      · rename_i n hr
        split at h
        next hi =>
          obtain ⟨a1, a2, a3⟩ := hK _ _ _ _ h
          exact ⟨m_zast hS hi.2.2 hr hi.1 hi.2.1 hd1 a1, a2, a3⟩
        next => cases h
      · cases h
    · cases h
set_option maxHeartbeats 4000000 in
theorem m_s_lastore (hS : m_St p R s m args c dC dI cA τ rn rx A nL own cc) (hnm : (mN k).name = "<init>" → meth.name = "<init>") (hbn : s_n r0.2 ≤ j_b) (hRc : s_n r0.2 ≤ R.cells + nb) (hRs : s_l r0.2 ≤ R.slots + lb) (hfr : d + 1 ≤ R.frames) (hlo : 40 * d + 40 ≤ R.locals) (hcall : ∀ k' as σ v σ', k' < 236 → call k' as σ = some (v, σ') → m_Ct l d k' as σ v σ') (hend : ∀ pc L st, m_end k r0.1 cc pc st → m_at p l e R s m args below meth c Q dC dI cA τ rn rx A nL nb lb ρ0 (pc) (L) (st) (r0.2))  {q : List Nat} {K : Nat → j_L → List Value → Sto → Option Rr} (hE : j_okE k own pc (.lastore) q = true) (hd0 : ∃ ln, decode cc pc = .ok ((.lastore), ln) ∧ (ln = j_il (.lastore) ∨ j_isw (.lastore) = true)) (h : j_stp call (.lastore) q pc L st σ K = some r0) (hK : ∀ pc' L' st' σ', K pc' L' st' σ' = some r0 → m_go p l e R s m args below meth c Q dC dI cA τ rn rx A nL nb lb ρ0 r0 (pc') (L') (st') (σ')) : m_go p l e R s m args below meth c Q dC dI cA τ rn rx A nL nb lb ρ0 r0 (pc) (L) (st) (σ) := by
    have hd1 : decode cc pc = .ok ((.lastore), j_il (.lastore)) := by obtain ⟨ln, h1, h2 | h2⟩ := hd0 <;> first | (rw [h1, h2]) | cases h2
    unfold j_stp at h
    unfold j_okE at hE
    dsimp only at h hE
    split at h
    · split at h
      next hrb =>
        unfold j_la at h
        split at h
        · rename_i n hr
          split at h
          next hi =>
            obtain ⟨a1, a2, a3⟩ := hK _ _ _ _ h
            exact ⟨m_last hS hr hrb hi hd1 a1, a2, a3⟩
          next => cases h
        · cases h
      next => cases h
    · cases h
set_option maxHeartbeats 4000000 in
theorem m_s_aastore (hS : m_St p R s m args c dC dI cA τ rn rx A nL own cc) (hnm : (mN k).name = "<init>" → meth.name = "<init>") (hbn : s_n r0.2 ≤ j_b) (hRc : s_n r0.2 ≤ R.cells + nb) (hRs : s_l r0.2 ≤ R.slots + lb) (hfr : d + 1 ≤ R.frames) (hlo : 40 * d + 40 ≤ R.locals) (hcall : ∀ k' as σ v σ', k' < 236 → call k' as σ = some (v, σ') → m_Ct l d k' as σ v σ') (hend : ∀ pc L st, m_end k r0.1 cc pc st → m_at p l e R s m args below meth c Q dC dI cA τ rn rx A nL nb lb ρ0 (pc) (L) (st) (r0.2))  {q : List Nat} {K : Nat → j_L → List Value → Sto → Option Rr} (hE : j_okE k own pc (.aastore) q = true) (hd0 : ∃ ln, decode cc pc = .ok ((.aastore), ln) ∧ (ln = j_il (.aastore) ∨ j_isw (.aastore) = true)) (h : j_stp call (.aastore) q pc L st σ K = some r0) (hK : ∀ pc' L' st' σ', K pc' L' st' σ' = some r0 → m_go p l e R s m args below meth c Q dC dI cA τ rn rx A nL nb lb ρ0 r0 (pc') (L') (st') (σ')) : m_go p l e R s m args below meth c Q dC dI cA τ rn rx A nL nb lb ρ0 r0 (pc) (L) (st) (σ) := by
    have hd1 : decode cc pc = .ok ((.aastore), j_il (.aastore)) := by obtain ⟨ln, h1, h2 | h2⟩ := hd0 <;> first | (rw [h1, h2]) | cases h2
    unfold j_stp at h
    unfold j_okE at hE
    dsimp only at h hE
    split at h
    · unfold j_qs at h
      split at h
      · rename_i C n hr
        split at h
        next hi =>
          obtain ⟨a1, a2, a3⟩ := hK _ _ _ _ h
          obtain ⟨hrb, hi, hvb, hC, hv⟩ := hi
          subst hC
          exact ⟨m_astq hS hr hrb hv hvb hi hd1 a1, a2, a3⟩
        next => cases h
      · cases h
    · cases h
set_option maxHeartbeats 4000000 in
theorem m_s_arraylength (hS : m_St p R s m args c dC dI cA τ rn rx A nL own cc) (hnm : (mN k).name = "<init>" → meth.name = "<init>") (hbn : s_n r0.2 ≤ j_b) (hRc : s_n r0.2 ≤ R.cells + nb) (hRs : s_l r0.2 ≤ R.slots + lb) (hfr : d + 1 ≤ R.frames) (hlo : 40 * d + 40 ≤ R.locals) (hcall : ∀ k' as σ v σ', k' < 236 → call k' as σ = some (v, σ') → m_Ct l d k' as σ v σ') (hend : ∀ pc L st, m_end k r0.1 cc pc st → m_at p l e R s m args below meth c Q dC dI cA τ rn rx A nL nb lb ρ0 (pc) (L) (st) (r0.2))  {q : List Nat} {K : Nat → j_L → List Value → Sto → Option Rr} (hE : j_okE k own pc (.arraylength) q = true) (hd0 : ∃ ln, decode cc pc = .ok ((.arraylength), ln) ∧ (ln = j_il (.arraylength) ∨ j_isw (.arraylength) = true)) (h : j_stp call (.arraylength) q pc L st σ K = some r0) (hK : ∀ pc' L' st' σ', K pc' L' st' σ' = some r0 → m_go p l e R s m args below meth c Q dC dI cA τ rn rx A nL nb lb ρ0 r0 (pc') (L') (st') (σ')) : m_go p l e R s m args below meth c Q dC dI cA τ rn rx A nL nb lb ρ0 r0 (pc) (L) (st) (σ) := by
    have hd1 : decode cc pc = .ok ((.arraylength), j_il (.arraylength)) := by obtain ⟨ln, h1, h2 | h2⟩ := hd0 <;> first | (rw [h1, h2]) | cases h2
    unfold j_stp at h
    unfold j_okE at hE
    dsimp only at h hE
    split at h
    · unfold j_len at h
      split at h
      · rename_i n hr
        obtain ⟨a1, a2, a3⟩ := hK _ _ _ _ h
        exact ⟨m_alen (t0 := 0) hS hr rfl hd1 a1, a2, a3⟩
      · rename_i C n hr
        split at h
        next hC =>
          obtain ⟨a1, a2, a3⟩ := hK _ _ _ _ h
          subst hC
          exact ⟨m_alen (t0 := 4) hS hr rfl hd1 a1, a2, a3⟩
        next => cases h
      · rename_i n hr
        obtain ⟨a1, a2, a3⟩ := hK _ _ _ _ h
        exact ⟨m_alen (t0 := 5) hS hr rfl hd1 a1, a2, a3⟩
      · cases h
    · cases h
set_option maxHeartbeats 4000000 in
theorem m_s_new (hS : m_St p R s m args c dC dI cA τ rn rx A nL own cc) (hnm : (mN k).name = "<init>" → meth.name = "<init>") (hbn : s_n r0.2 ≤ j_b) (hRc : s_n r0.2 ≤ R.cells + nb) (hRs : s_l r0.2 ≤ R.slots + lb) (hfr : d + 1 ≤ R.frames) (hlo : 40 * d + 40 ≤ R.locals) (hcall : ∀ k' as σ v σ', k' < 236 → call k' as σ = some (v, σ') → m_Ct l d k' as σ v σ') (hend : ∀ pc L st, m_end k r0.1 cc pc st → m_at p l e R s m args below meth c Q dC dI cA τ rn rx A nL nb lb ρ0 (pc) (L) (st) (r0.2)) (idx : Nat) {q : List Nat} {K : Nat → j_L → List Value → Sto → Option Rr} (hE : j_okE k own pc (.new idx) q = true) (hd0 : ∃ ln, decode cc pc = .ok ((.new idx), ln) ∧ (ln = j_il (.new idx) ∨ j_isw (.new idx) = true)) (h : j_stp call (.new idx) q pc L st σ K = some r0) (hK : ∀ pc' L' st' σ', K pc' L' st' σ' = some r0 → m_go p l e R s m args below meth c Q dC dI cA τ rn rx A nL nb lb ρ0 r0 (pc') (L') (st') (σ')) : m_go p l e R s m args below meth c Q dC dI cA τ rn rx A nL nb lb ρ0 r0 (pc) (L) (st) (σ) := by
    have hd1 : decode cc pc = .ok ((.new idx), j_il (.new idx)) := by obtain ⟨ln, h1, h2 | h2⟩ := hd0 <;> first | (rw [h1, h2]) | cases h2
    unfold j_stp at h
    unfold j_okE at hE
    dsimp only at h hE
    split at h
    · rename_i ci n pw
      simp only [Bool.and_eq_true, decide_eq_true_eq] at hE
      obtain ⟨⟨e1, e2⟩, e3⟩ := hE
      obtain ⟨a1, a2, a3⟩ := hK _ _ _ _ h
      have a2' : s_n σ + 1 ≤ s_n r0.2 := a2
      have a3' : s_l σ + n ≤ s_l r0.2 := a3
      exact ⟨m_new hS e1 e2 (m_has e3) (j_cat_ok e1).1 (j_cat_ok e1).2 (j_us e1) (j_dv e1) (by omega) (by omega) (by omega) hd1 a1, by omega, by omega⟩
    · cases h
set_option maxHeartbeats 4000000 in
theorem m_s_newarray (hS : m_St p R s m args c dC dI cA τ rn rx A nL own cc) (hnm : (mN k).name = "<init>" → meth.name = "<init>") (hbn : s_n r0.2 ≤ j_b) (hRc : s_n r0.2 ≤ R.cells + nb) (hRs : s_l r0.2 ≤ R.slots + lb) (hfr : d + 1 ≤ R.frames) (hlo : 40 * d + 40 ≤ R.locals) (hcall : ∀ k' as σ v σ', k' < 236 → call k' as σ = some (v, σ') → m_Ct l d k' as σ v σ') (hend : ∀ pc L st, m_end k r0.1 cc pc st → m_at p l e R s m args below meth c Q dC dI cA τ rn rx A nL nb lb ρ0 (pc) (L) (st) (r0.2)) (ty : ArrayType) {q : List Nat} {K : Nat → j_L → List Value → Sto → Option Rr} (hE : j_okE k own pc (.newarray ty) q = true) (hd0 : ∃ ln, decode cc pc = .ok ((.newarray ty), ln) ∧ (ln = j_il (.newarray ty) ∨ j_isw (.newarray ty) = true)) (h : j_stp call (.newarray ty) q pc L st σ K = some r0) (hK : ∀ pc' L' st' σ', K pc' L' st' σ' = some r0 → m_go p l e R s m args below meth c Q dC dI cA τ rn rx A nL nb lb ρ0 r0 (pc') (L') (st') (σ')) : m_go p l e R s m args below meth c Q dC dI cA τ rn rx A nL nb lb ρ0 r0 (pc) (L) (st) (σ) := by
    have hd1 : decode cc pc = .ok ((.newarray ty), j_il (.newarray ty)) := by obtain ⟨ln, h1, h2 | h2⟩ := hd0 <;> first | (rw [h1, h2]) | cases h2
    unfold j_stp at h
    unfold j_okE at hE
    dsimp only at h hE
    split at h
    · split at h
      next => cases h
      next hn =>
        obtain ⟨a1, a2, a3⟩ := hK _ _ _ _ h
        have hn1 := fun z => hn (Or.inl z)
        have hn2 := Nat.not_lt.mp (fun z => hn (Or.inr z))
        have a2' : s_n σ + 1 ≤ s_n r0.2 := a2
        rename_i n st'
        have a3' : s_l σ + n.toNatClampNeg ≤ s_l r0.2 := a3
        refine ⟨?_, by omega, by omega⟩
        generalize hty : newarray.typeOf ty = tt at hE a1
        cases tt <;> first | cases hE | skip
        · exact m_newa (t0 := 1) hS hty rfl j_ca_byte (fun cX N σ' r ρ' g1 g2 g3 => by unfold m_ar; dsimp only; rw [g2]; rfl) (fun cX => Iff.rfl) (by decide) hn1 hn2 (by omega) (by omega) (by omega) hd1 a1
        · exact m_newa (t0 := 0) hS hty rfl j_ca_int (fun cX N σ' r ρ' g1 g2 g3 => by unfold m_ar; dsimp only; rw [g2]; rfl) (fun cX => Iff.rfl) (by decide) hn1 hn2 (by omega) (by omega) (by omega) hd1 a1
        · exact m_newa (t0 := 3) hS hty rfl j_ca_long (fun cX N σ' r ρ' g1 g2 g3 => by unfold m_ar; dsimp only; rw [g3]; rfl) (fun cX => Iff.rfl) (by decide) hn1 hn2 (by omega) (by omega) (by omega) hd1 a1
        · exact m_newa (t0 := 2) hS hty rfl j_ca_bool (fun cX N σ' r ρ' g1 g2 g3 => by unfold m_ar; dsimp only; rw [g2]; rfl) (fun cX => Iff.rfl) (by decide) hn1 hn2 (by omega) (by omega) (by omega) hd1 a1
    · cases h
set_option maxHeartbeats 4000000 in
theorem m_s_anewarray (hS : m_St p R s m args c dC dI cA τ rn rx A nL own cc) (hnm : (mN k).name = "<init>" → meth.name = "<init>") (hbn : s_n r0.2 ≤ j_b) (hRc : s_n r0.2 ≤ R.cells + nb) (hRs : s_l r0.2 ≤ R.slots + lb) (hfr : d + 1 ≤ R.frames) (hlo : 40 * d + 40 ≤ R.locals) (hcall : ∀ k' as σ v σ', k' < 236 → call k' as σ = some (v, σ') → m_Ct l d k' as σ v σ') (hend : ∀ pc L st, m_end k r0.1 cc pc st → m_at p l e R s m args below meth c Q dC dI cA τ rn rx A nL nb lb ρ0 (pc) (L) (st) (r0.2)) (idx : Nat) {q : List Nat} {K : Nat → j_L → List Value → Sto → Option Rr} (hE : j_okE k own pc (.anewarray idx) q = true) (hd0 : ∃ ln, decode cc pc = .ok ((.anewarray idx), ln) ∧ (ln = j_il (.anewarray idx) ∨ j_isw (.anewarray idx) = true)) (h : j_stp call (.anewarray idx) q pc L st σ K = some r0) (hK : ∀ pc' L' st' σ', K pc' L' st' σ' = some r0 → m_go p l e R s m args below meth c Q dC dI cA τ rn rx A nL nb lb ρ0 r0 (pc') (L') (st') (σ')) : m_go p l e R s m args below meth c Q dC dI cA τ rn rx A nL nb lb ρ0 r0 (pc) (L) (st) (σ) := by
    have hd1 : decode cc pc = .ok ((.anewarray idx), j_il (.anewarray idx)) := by obtain ⟨ln, h1, h2 | h2⟩ := hd0 <;> first | (rw [h1, h2]) | cases h2
    unfold j_stp at h
    unfold j_okE at hE
    dsimp only at h hE
    split at hE
    · split at h
      · split at h
        next => cases h
        next hn =>
          obtain ⟨a1, a2, a3⟩ := hK _ _ _ _ h
          have hn1 := fun z => hn (Or.inl z)
          have hn2 := Nat.not_lt.mp (fun z => hn (Or.inr z))
          have a2' : s_n σ + 1 ≤ s_n r0.2 := a2
          rename_i n st'
          have a3' : s_l σ + n.toNatClampNeg ≤ s_l r0.2 := a3
          exact ⟨m_newq hS (m_has hE) j_ao_obj hn1 hn2 (by omega) (by omega) (by omega) hd1 a1, by omega, by omega⟩
      · cases h
    · cases hE
set_option maxHeartbeats 4000000 in
theorem m_s_multianewarray (hS : m_St p R s m args c dC dI cA τ rn rx A nL own cc) (hnm : (mN k).name = "<init>" → meth.name = "<init>") (hbn : s_n r0.2 ≤ j_b) (hRc : s_n r0.2 ≤ R.cells + nb) (hRs : s_l r0.2 ≤ R.slots + lb) (hfr : d + 1 ≤ R.frames) (hlo : 40 * d + 40 ≤ R.locals) (hcall : ∀ k' as σ v σ', k' < 236 → call k' as σ = some (v, σ') → m_Ct l d k' as σ v σ') (hend : ∀ pc L st, m_end k r0.1 cc pc st → m_at p l e R s m args below meth c Q dC dI cA τ rn rx A nL nb lb ρ0 (pc) (L) (st) (r0.2)) (idx d0 : Nat) {q : List Nat} {K : Nat → j_L → List Value → Sto → Option Rr} (hE : j_okE k own pc (.multianewarray idx d0) q = true) (hd0 : ∃ ln, decode cc pc = .ok ((.multianewarray idx d0), ln) ∧ (ln = j_il (.multianewarray idx d0) ∨ j_isw (.multianewarray idx d0) = true)) (h : j_stp call (.multianewarray idx d0) q pc L st σ K = some r0) (hK : ∀ pc' L' st' σ', K pc' L' st' σ' = some r0 → m_go p l e R s m args below meth c Q dC dI cA τ rn rx A nL nb lb ρ0 r0 (pc') (L') (st') (σ')) : m_go p l e R s m args below meth c Q dC dI cA τ rn rx A nL nb lb ρ0 r0 (pc) (L) (st) (σ) := by
    have hd1 : decode cc pc = .ok ((.multianewarray idx d0), j_il (.multianewarray idx d0)) := by obtain ⟨ln, h1, h2 | h2⟩ := hd0 <;> first | (rw [h1, h2]) | cases h2
    unfold j_stp at h
    unfold j_okE at hE
    dsimp only at h hE
    split at hE
    · simp only [Bool.and_eq_true, decide_eq_true_eq] at hE
      obtain ⟨rfl, e2⟩ := hE
      split at h
      · split at h
        next => cases h
        next hn =>
          obtain ⟨a1, a2, a3⟩ := hK _ _ _ _ h
          rename_i k1 n1 st'
          have a2' : s_n σ + 1 + n1.toNatClampNeg ≤ s_n r0.2 := a2
          have a3' : s_l σ + n1.toNatClampNeg + n1.toNatClampNeg * k1.toNatClampNeg ≤ s_l r0.2 := a3
          exact ⟨m_mnew hS (m_has e2) j_ao_arr j_ca_int (fun z => hn (Or.inl z)) (fun z => hn (Or.inr (Or.inl z))) (Nat.not_lt.mp fun z => hn (Or.inr (Or.inr (Or.inl z)))) (Nat.not_lt.mp fun z => hn (Or.inr (Or.inr (Or.inr z)))) (by omega) (by omega) (by omega) hd1 a1, by omega, by omega⟩
      · cases h
    · cases hE
set_option maxHeartbeats 4000000 in
theorem m_s_invokevirtual (hS : m_St p R s m args c dC dI cA τ rn rx A nL own cc) (hnm : (mN k).name = "<init>" → meth.name = "<init>") (hbn : s_n r0.2 ≤ j_b) (hRc : s_n r0.2 ≤ R.cells + nb) (hRs : s_l r0.2 ≤ R.slots + lb) (hfr : d + 1 ≤ R.frames) (hlo : 40 * d + 40 ≤ R.locals) (hcall : ∀ k' as σ v σ', k' < 236 → call k' as σ = some (v, σ') → m_Ct l d k' as σ v σ') (hend : ∀ pc L st, m_end k r0.1 cc pc st → m_at p l e R s m args below meth c Q dC dI cA τ rn rx A nL nb lb ρ0 (pc) (L) (st) (r0.2)) (idx : Nat) {q : List Nat} {K : Nat → j_L → List Value → Sto → Option Rr} (hE : j_okE k own pc (.invokevirtual idx) q = true) (hd0 : ∃ ln, decode cc pc = .ok ((.invokevirtual idx), ln) ∧ (ln = j_il (.invokevirtual idx) ∨ j_isw (.invokevirtual idx) = true)) (h : j_stp call (.invokevirtual idx) q pc L st σ K = some r0) (hK : ∀ pc' L' st' σ', K pc' L' st' σ' = some r0 → m_go p l e R s m args below meth c Q dC dI cA τ rn rx A nL nb lb ρ0 r0 (pc') (L') (st') (σ')) : m_go p l e R s m args below meth c Q dC dI cA τ rn rx A nL nb lb ρ0 r0 (pc) (L) (st) (σ) := by
    have hd1 : decode cc pc = .ok ((.invokevirtual idx), j_il (.invokevirtual idx)) := by obtain ⟨ln, h1, h2 | h2⟩ := hd0 <;> first | (rw [h1, h2]) | cases h2
    unfold j_stp at h
    unfold j_okE at hE
    dsimp only at h hE
    split at h
    · rename_i m0 na rt ci l0
      simp only [Bool.and_eq_true, decide_eq_true_eq] at hE
      obtain ⟨⟨⟨⟨⟨e1, e2⟩, e3⟩, e4⟩, e5⟩, e6⟩ := hE
      obtain ⟨pw, aw, bw, e7⟩ := m_lk e6
      unfold j_lkB at e7
      simp only [Bool.and_eq_true] at e7
      split at h
      · rename_i r st' hst
        split at h
        next hcc =>
          unfold j_oc at h
          split at h
          next hr =>
            obtain ⟨v, σ', hcl, hgo⟩ := m_clo h
            obtain ⟨a1, a2, a3⟩ := hK _ _ _ _ hgo
            have hct := hcall _ _ _ _ _ e1 hcl
            have e9 := m_drop hst
            rw [e9]
            refine ⟨m_call0 (ta := st.take na) hS e1 e4 (by rw [List.length_take]; omega) hcc.2 hfr hlo (Nat.le_trans a2 hbn) (Nat.le_trans a2 hRc) (Nat.le_trans a3 hRs) e2 e3 hr (m_has e7.1.1) (m_has e7.1.2) (m_has e7.2) hct hd1 a1, Nat.le_trans hct.1 a2, Nat.le_trans hct.2.1 a3⟩
          next => cases h
        next => cases h
      · cases h
    · cases h
set_option maxHeartbeats 4000000 in
theorem m_s_invokestatic (hS : m_St p R s m args c dC dI cA τ rn rx A nL own cc) (hnm : (mN k).name = "<init>" → meth.name = "<init>") (hbn : s_n r0.2 ≤ j_b) (hRc : s_n r0.2 ≤ R.cells + nb) (hRs : s_l r0.2 ≤ R.slots + lb) (hfr : d + 1 ≤ R.frames) (hlo : 40 * d + 40 ≤ R.locals) (hcall : ∀ k' as σ v σ', k' < 236 → call k' as σ = some (v, σ') → m_Ct l d k' as σ v σ') (hend : ∀ pc L st, m_end k r0.1 cc pc st → m_at p l e R s m args below meth c Q dC dI cA τ rn rx A nL nb lb ρ0 (pc) (L) (st) (r0.2)) (idx : Nat) {q : List Nat} {K : Nat → j_L → List Value → Sto → Option Rr} (hE : j_okE k own pc (.invokestatic idx) q = true) (hd0 : ∃ ln, decode cc pc = .ok ((.invokestatic idx), ln) ∧ (ln = j_il (.invokestatic idx) ∨ j_isw (.invokestatic idx) = true)) (h : j_stp call (.invokestatic idx) q pc L st σ K = some r0) (hK : ∀ pc' L' st' σ', K pc' L' st' σ' = some r0 → m_go p l e R s m args below meth c Q dC dI cA τ rn rx A nL nb lb ρ0 r0 (pc') (L') (st') (σ')) : m_go p l e R s m args below meth c Q dC dI cA τ rn rx A nL nb lb ρ0 r0 (pc) (L) (st) (σ) := by
    have hd1 : decode cc pc = .ok ((.invokestatic idx), j_il (.invokestatic idx)) := by obtain ⟨ln, h1, h2 | h2⟩ := hd0 <;> first | (rw [h1, h2]) | cases h2
    unfold j_stp at h
    unfold j_okE at hE
    dsimp only at h hE
    split at h
    · rename_i m0 na rt l0
      simp only [Bool.and_eq_true, Bool.or_eq_true, decide_eq_true_eq] at hE
      obtain ⟨⟨⟨e1, e4⟩, e5⟩, e6⟩ := hE
      split at h
      next hcc =>
        obtain ⟨v, σ', hcl, hgo⟩ := m_clo h
        obtain ⟨a1, a2, a3⟩ := hK _ _ _ _ hgo
        have hct := hcall _ _ _ _ _ e1 hcl
        have e9 : st = st.take na ++ st.drop na := (List.take_append_drop na st).symm
        rcases e6 with e6 | e6
        · obtain ⟨pw, aw, bw, e7⟩ := m_lk e6
          unfold j_lkB at e7
          simp only [Bool.and_eq_true] at e7
          rw [e9]
          exact ⟨m_call1 (ta := st.take na) hS e1 e4 (by rw [List.length_take]; omega) hcc.2 hfr hlo (Nat.le_trans a2 hbn) (Nat.le_trans a2 hRc) (Nat.le_trans a3 hRs) (m_has e7.1) (m_has e7.2) hct hd1 a1, Nat.le_trans hct.1 a2, Nat.le_trans hct.2.1 a3⟩
        · obtain ⟨pw, aw, bw, e7⟩ := m_lk e6
          unfold j_lkB at e7
          simp only [Bool.and_eq_true] at e7
          rw [e9]
          exact ⟨m_call4 (ta := st.take na) hS e1 e4 (by rw [List.length_take]; omega) hcc.2 hfr hlo (Nat.le_trans a2 hbn) (Nat.le_trans a2 hRc) (Nat.le_trans a3 hRs) (m_hasN e7.1) (m_has e7.2) hct hd1 a1, Nat.le_trans hct.1 a2, Nat.le_trans hct.2.1 a3⟩
      next => cases h
    · rename_i l0
      obtain ⟨pw, aw, bw, e7⟩ := m_lk hE
      unfold j_lkB at e7
      split at h
      · split at h
        next hcc =>
          unfold j_ac at h
          split at h
          · rename_i n0 n1 hr hd
            split at h
            next hz =>
              obtain ⟨a1, a2, a3⟩ := hK _ _ _ _ h
              exact ⟨m_copy hS (m_has e7) j_w_nat j_w_sta j_w_ini hr hd hz.1 hz.2.1 hz.2.2.1 hz.2.2.2.1 hz.2.2.2.2.1 hz.2.2.2.2.2.1 hz.2.2.2.2.2.2 hcc hd1 a1, a2, a3⟩
            next => cases h
          · cases h
        next => cases h
      · cases h
    · rename_i l0 _ 
      obtain ⟨pw, aw, bw, e7⟩ := m_lk hE
      unfold j_lkB at e7
      split at h
      · split at h
        next hcc =>
          obtain ⟨a1, a2, a3⟩ := hK _ _ _ _ h
          exact ⟨m_abs hS (m_has e7) j_w_abs.1 j_w_abs.2.1 j_w_abs.2.2 hcc (Nat.le_trans a2 hRc) (Nat.le_trans a3 hRs) hd1 a1, a2, a3⟩
        next => cases h
      · cases h
    · rename_i l0 _ _ 
      obtain ⟨pw, aw, bw, e7⟩ := m_lk hE
      unfold j_lkB at e7
      split at h
      · split at h
        next hcc =>
          obtain ⟨a1, a2, a3⟩ := hK _ _ _ _ h
          exact ⟨m_min hS (m_has e7) j_w_min.1 j_w_min.2.1 j_w_min.2.2 hcc (Nat.le_trans a2 hRc) (Nat.le_trans a3 hRs) hd1 a1, a2, a3⟩
        next => cases h
      · cases h
    · cases h
set_option maxHeartbeats 4000000 in
theorem m_s_invokespecial (hS : m_St p R s m args c dC dI cA τ rn rx A nL own cc) (hnm : (mN k).name = "<init>" → meth.name = "<init>") (hbn : s_n r0.2 ≤ j_b) (hRc : s_n r0.2 ≤ R.cells + nb) (hRs : s_l r0.2 ≤ R.slots + lb) (hfr : d + 1 ≤ R.frames) (hlo : 40 * d + 40 ≤ R.locals) (hcall : ∀ k' as σ v σ', k' < 236 → call k' as σ = some (v, σ') → m_Ct l d k' as σ v σ') (hend : ∀ pc L st, m_end k r0.1 cc pc st → m_at p l e R s m args below meth c Q dC dI cA τ rn rx A nL nb lb ρ0 (pc) (L) (st) (r0.2)) (idx : Nat) {q : List Nat} {K : Nat → j_L → List Value → Sto → Option Rr} (hE : j_okE k own pc (.invokespecial idx) q = true) (hd0 : ∃ ln, decode cc pc = .ok ((.invokespecial idx), ln) ∧ (ln = j_il (.invokespecial idx) ∨ j_isw (.invokespecial idx) = true)) (h : j_stp call (.invokespecial idx) q pc L st σ K = some r0) (hK : ∀ pc' L' st' σ', K pc' L' st' σ' = some r0 → m_go p l e R s m args below meth c Q dC dI cA τ rn rx A nL nb lb ρ0 r0 (pc') (L') (st') (σ')) : m_go p l e R s m args below meth c Q dC dI cA τ rn rx A nL nb lb ρ0 r0 (pc) (L) (st) (σ) := by
    have hd1 : decode cc pc = .ok ((.invokespecial idx), j_il (.invokespecial idx)) := by obtain ⟨ln, h1, h2 | h2⟩ := hd0 <;> first | (rw [h1, h2]) | cases h2
    unfold j_stp at h
    unfold j_okE at hE
    dsimp only at h hE
    split at h
    · rename_i m0 na rt l0
      simp only [Bool.and_eq_true, Bool.or_eq_true, decide_eq_true_eq] at hE
      obtain ⟨⟨⟨⟨e1, e4⟩, e5⟩, e8⟩, e6⟩ := hE
      split at h
      · rename_i r st' hst
        split at h
        next hcc =>
          obtain ⟨v, σ', hcl, hgo⟩ := m_clo h
          obtain ⟨a1, a2, a3⟩ := hK _ _ _ _ hgo
          have hct := hcall _ _ _ _ _ e1 hcl
          have e9 := m_drop hst
          rw [e9]
          rcases e6 with e6 | e6
          · obtain ⟨pw, aw, bw, e7⟩ := m_lk e6
            unfold j_lkB at e7
            simp only [Bool.and_eq_true, decide_eq_true_eq] at e7
            exact ⟨m_call2 (ta := st.take na) hS e1 e4 (by rw [List.length_take]; omega) hcc.2 hfr hlo (Nat.le_trans a2 hbn) (Nat.le_trans a2 hRc) (Nat.le_trans a3 hRs) (m_has e7.1.1) (m_has e7.1.2) e7.2 e8 hct hd1 a1, Nat.le_trans hct.1 a2, Nat.le_trans hct.2.1 a3⟩
          · obtain ⟨pw, aw, bw, e7⟩ := m_lk e6
            unfold j_lkB at e7
            simp only [Bool.and_eq_true, decide_eq_true_eq] at e7
            exact ⟨m_call3 (ta := st.take na) hS e1 e4 (by rw [List.length_take]; omega) hcc.2 hfr hlo (Nat.le_trans a2 hbn) (Nat.le_trans a2 hRc) (Nat.le_trans a3 hRs) (m_hasN e7.1.1) (m_has e7.1.2) e7.2 e8 hct hd1 a1, Nat.le_trans hct.1 a2, Nat.le_trans hct.2.1 a3⟩
        next => cases h
      · cases h
    · rename_i l0
      obtain ⟨pw, aw, bw, e7⟩ := m_lk hE
      unfold j_lkB at e7
      split at h
      · split at h
        next hcc =>
          obtain ⟨a1, a2, a3⟩ := hK _ _ _ _ h
          exact ⟨m_objInit hS (m_has e7) j_w_oi j_w_oc hcc hd1 a1, a2, a3⟩
        next => cases h
      · cases h
    · cases h
set_option maxHeartbeats 4000000 in
theorem m_s_return_ (hS : m_St p R s m args c dC dI cA τ rn rx A nL own cc) (hnm : (mN k).name = "<init>" → meth.name = "<init>") (hbn : s_n r0.2 ≤ j_b) (hRc : s_n r0.2 ≤ R.cells + nb) (hRs : s_l r0.2 ≤ R.slots + lb) (hfr : d + 1 ≤ R.frames) (hlo : 40 * d + 40 ≤ R.locals) (hcall : ∀ k' as σ v σ', k' < 236 → call k' as σ = some (v, σ') → m_Ct l d k' as σ v σ') (hend : ∀ pc L st, m_end k r0.1 cc pc st → m_at p l e R s m args below meth c Q dC dI cA τ rn rx A nL nb lb ρ0 (pc) (L) (st) (r0.2))  {q : List Nat} {K : Nat → j_L → List Value → Sto → Option Rr} (hE : j_okE k own pc (.return_) q = true) (hd0 : ∃ ln, decode cc pc = .ok ((.return_), ln) ∧ (ln = j_il (.return_) ∨ j_isw (.return_) = true)) (h : j_stp call (.return_) q pc L st σ K = some r0) (hK : ∀ pc' L' st' σ', K pc' L' st' σ' = some r0 → m_go p l e R s m args below meth c Q dC dI cA τ rn rx A nL nb lb ρ0 r0 (pc') (L') (st') (σ')) : m_go p l e R s m args below meth c Q dC dI cA τ rn rx A nL nb lb ρ0 r0 (pc) (L) (st) (σ) := by
    have hd1 : decode cc pc = .ok ((.return_), j_il (.return_)) := by obtain ⟨ln, h1, h2 | h2⟩ := hd0 <;> first | (rw [h1, h2]) | cases h2
    unfold j_stp at h
    unfold j_okE at hE
    dsimp only at h hE
    split at h
    · cases h
      exact ⟨hend _ _ _ (Or.inl ⟨hd1, of_decide_eq_true hE, rfl, rfl⟩), Nat.le_refl _, Nat.le_refl _⟩
    · cases h
set_option maxHeartbeats 4000000 in
theorem m_s_ireturn (hS : m_St p R s m args c dC dI cA τ rn rx A nL own cc) (hnm : (mN k).name = "<init>" → meth.name = "<init>") (hbn : s_n r0.2 ≤ j_b) (hRc : s_n r0.2 ≤ R.cells + nb) (hRs : s_l r0.2 ≤ R.slots + lb) (hfr : d + 1 ≤ R.frames) (hlo : 40 * d + 40 ≤ R.locals) (hcall : ∀ k' as σ v σ', k' < 236 → call k' as σ = some (v, σ') → m_Ct l d k' as σ v σ') (hend : ∀ pc L st, m_end k r0.1 cc pc st → m_at p l e R s m args below meth c Q dC dI cA τ rn rx A nL nb lb ρ0 (pc) (L) (st) (r0.2))  {q : List Nat} {K : Nat → j_L → List Value → Sto → Option Rr} (hE : j_okE k own pc (.ireturn) q = true) (hd0 : ∃ ln, decode cc pc = .ok ((.ireturn), ln) ∧ (ln = j_il (.ireturn) ∨ j_isw (.ireturn) = true)) (h : j_stp call (.ireturn) q pc L st σ K = some r0) (hK : ∀ pc' L' st' σ', K pc' L' st' σ' = some r0 → m_go p l e R s m args below meth c Q dC dI cA τ rn rx A nL nb lb ρ0 r0 (pc') (L') (st') (σ')) : m_go p l e R s m args below meth c Q dC dI cA τ rn rx A nL nb lb ρ0 r0 (pc) (L) (st) (σ) := by
    have hd1 : decode cc pc = .ok ((.ireturn), j_il (.ireturn)) := by obtain ⟨ln, h1, h2 | h2⟩ := hd0 <;> first | (rw [h1, h2]) | cases h2
    unfold j_stp at h
    unfold j_okE at hE
    dsimp only at h hE
    split at h
    · cases h
      exact ⟨hend _ _ _ (Or.inr (Or.inl ⟨hd1, _, rfl, rfl, Or.inl (of_decide_eq_true hE)⟩)), Nat.le_refl _, Nat.le_refl _⟩
    · split at h
      next hz =>
        cases h
        split at hE
        · exact ⟨hend _ _ _ (Or.inr (Or.inl ⟨hd1, _, rfl, rfl, Or.inl (of_decide_eq_true hE)⟩)), Nat.le_refl _, Nat.le_refl _⟩
        · exact ⟨hend _ _ _ (Or.inr (Or.inl ⟨hd1, _, rfl, rfl, Or.inr ⟨of_decide_eq_true hE, hz⟩⟩)), Nat.le_refl _, Nat.le_refl _⟩
        · cases hE
      next => cases h
    · cases h
set_option maxHeartbeats 4000000 in
theorem m_s_lreturn (hS : m_St p R s m args c dC dI cA τ rn rx A nL own cc) (hnm : (mN k).name = "<init>" → meth.name = "<init>") (hbn : s_n r0.2 ≤ j_b) (hRc : s_n r0.2 ≤ R.cells + nb) (hRs : s_l r0.2 ≤ R.slots + lb) (hfr : d + 1 ≤ R.frames) (hlo : 40 * d + 40 ≤ R.locals) (hcall : ∀ k' as σ v σ', k' < 236 → call k' as σ = some (v, σ') → m_Ct l d k' as σ v σ') (hend : ∀ pc L st, m_end k r0.1 cc pc st → m_at p l e R s m args below meth c Q dC dI cA τ rn rx A nL nb lb ρ0 (pc) (L) (st) (r0.2))  {q : List Nat} {K : Nat → j_L → List Value → Sto → Option Rr} (hE : j_okE k own pc (.lreturn) q = true) (hd0 : ∃ ln, decode cc pc = .ok ((.lreturn), ln) ∧ (ln = j_il (.lreturn) ∨ j_isw (.lreturn) = true)) (h : j_stp call (.lreturn) q pc L st σ K = some r0) (hK : ∀ pc' L' st' σ', K pc' L' st' σ' = some r0 → m_go p l e R s m args below meth c Q dC dI cA τ rn rx A nL nb lb ρ0 r0 (pc') (L') (st') (σ')) : m_go p l e R s m args below meth c Q dC dI cA τ rn rx A nL nb lb ρ0 r0 (pc) (L) (st) (σ) := by
    have hd1 : decode cc pc = .ok ((.lreturn), j_il (.lreturn)) := by obtain ⟨ln, h1, h2 | h2⟩ := hd0 <;> first | (rw [h1, h2]) | cases h2
    unfold j_stp at h
    unfold j_okE at hE
    dsimp only at h hE
    split at h
    · cases h
      exact ⟨hend _ _ _ (Or.inr (Or.inr ⟨hd1, _, rfl, rfl, of_decide_eq_true hE⟩)), Nat.le_refl _, Nat.le_refl _⟩
    · cases h
set_option maxHeartbeats 4000000 in
theorem m_step (hS : m_St p R s m args c dC dI cA τ rn rx A nL own cc) (hnm : (mN k).name = "<init>" → meth.name = "<init>") (hbn : s_n r0.2 ≤ j_b) (hRc : s_n r0.2 ≤ R.cells + nb) (hRs : s_l r0.2 ≤ R.slots + lb) (hfr : d + 1 ≤ R.frames) (hlo : 40 * d + 40 ≤ R.locals) (hcall : ∀ k' as σ v σ', k' < 236 → call k' as σ = some (v, σ') → m_Ct l d k' as σ v σ') (hend : ∀ pc L st, m_end k r0.1 cc pc st → m_at p l e R s m args below meth c Q dC dI cA τ rn rx A nL nb lb ρ0 (pc) (L) (st) (r0.2)) {i : Instr} {q : List Nat} {K : Nat → j_L → List Value → Sto → Option Rr} (hE : j_okE k own pc i q = true) (hd0 : ∃ n, decode cc pc = .ok (i, n) ∧ (n = j_il i ∨ j_isw i = true)) (h : j_stp call i q pc L st σ K = some r0) (hK : ∀ pc' L' st' σ', K pc' L' st' σ' = some r0 → m_go p l e R s m args below meth c Q dC dI cA τ rn rx A nL nb lb ρ0 r0 (pc') (L') (st') (σ')) : m_go p l e R s m args below meth c Q dC dI cA τ rn rx A nL nb lb ρ0 r0 (pc) (L) (st) (σ) := by
  cases i
  case iconst a0 => exact m_s_iconst hS hnm hbn hRc hRs hfr hlo hcall hend a0 hE hd0 h hK
  case bipush a0 => exact m_s_bipush hS hnm hbn hRc hRs hfr hlo hcall hend a0 hE hd0 h hK
  case sipush a0 => exact m_s_sipush hS hnm hbn hRc hRs hfr hlo hcall hend a0 hE hd0 h hK
  case lconst a0 => exact m_s_lconst hS hnm hbn hRc hRs hfr hlo hcall hend a0 hE hd0 h hK
  case ldc_w a0 => exact m_s_ldc_w hS hnm hbn hRc hRs hfr hlo hcall hend a0 hE hd0 h hK
  case ldc2_w a0 => exact m_s_ldc2_w hS hnm hbn hRc hRs hfr hlo hcall hend a0 hE hd0 h hK
  case iload a0 => exact m_s_iload hS hnm hbn hRc hRs hfr hlo hcall hend a0 hE hd0 h hK
  case lload a0 => exact m_s_lload hS hnm hbn hRc hRs hfr hlo hcall hend a0 hE hd0 h hK
  case aload a0 => exact m_s_aload hS hnm hbn hRc hRs hfr hlo hcall hend a0 hE hd0 h hK
  case iload_n a0 => exact m_s_iload_n hS hnm hbn hRc hRs hfr hlo hcall hend a0 hE hd0 h hK
  case lload_n a0 => exact m_s_lload_n hS hnm hbn hRc hRs hfr hlo hcall hend a0 hE hd0 h hK
  case aload_n a0 => exact m_s_aload_n hS hnm hbn hRc hRs hfr hlo hcall hend a0 hE hd0 h hK
  case istore a0 => exact m_s_istore hS hnm hbn hRc hRs hfr hlo hcall hend a0 hE hd0 h hK
  case lstore a0 => exact m_s_lstore hS hnm hbn hRc hRs hfr hlo hcall hend a0 hE hd0 h hK
  case astore a0 => exact m_s_astore hS hnm hbn hRc hRs hfr hlo hcall hend a0 hE hd0 h hK
  case istore_n a0 => exact m_s_istore_n hS hnm hbn hRc hRs hfr hlo hcall hend a0 hE hd0 h hK
  case lstore_n a0 => exact m_s_lstore_n hS hnm hbn hRc hRs hfr hlo hcall hend a0 hE hd0 h hK
  case astore_n a0 => exact m_s_astore_n hS hnm hbn hRc hRs hfr hlo hcall hend a0 hE hd0 h hK
  case iinc a0 a1 => exact m_s_iinc hS hnm hbn hRc hRs hfr hlo hcall hend a0 a1 hE hd0 h hK
  case iadd => exact m_s_iadd hS hnm hbn hRc hRs hfr hlo hcall hend hE hd0 h hK
  case isub => exact m_s_isub hS hnm hbn hRc hRs hfr hlo hcall hend hE hd0 h hK
  case imul => exact m_s_imul hS hnm hbn hRc hRs hfr hlo hcall hend hE hd0 h hK
  case iand => exact m_s_iand hS hnm hbn hRc hRs hfr hlo hcall hend hE hd0 h hK
  case ior => exact m_s_ior hS hnm hbn hRc hRs hfr hlo hcall hend hE hd0 h hK
  case ixor => exact m_s_ixor hS hnm hbn hRc hRs hfr hlo hcall hend hE hd0 h hK
  case ishl => exact m_s_ishl hS hnm hbn hRc hRs hfr hlo hcall hend hE hd0 h hK
  case ishr => exact m_s_ishr hS hnm hbn hRc hRs hfr hlo hcall hend hE hd0 h hK
  case iushr => exact m_s_iushr hS hnm hbn hRc hRs hfr hlo hcall hend hE hd0 h hK
  case ineg => exact m_s_ineg hS hnm hbn hRc hRs hfr hlo hcall hend hE hd0 h hK
  case ladd => exact m_s_ladd hS hnm hbn hRc hRs hfr hlo hcall hend hE hd0 h hK
  case lmul => exact m_s_lmul hS hnm hbn hRc hRs hfr hlo hcall hend hE hd0 h hK
  case lcmp => exact m_s_lcmp hS hnm hbn hRc hRs hfr hlo hcall hend hE hd0 h hK
  case i2l => exact m_s_i2l hS hnm hbn hRc hRs hfr hlo hcall hend hE hd0 h hK
  case l2i => exact m_s_l2i hS hnm hbn hRc hRs hfr hlo hcall hend hE hd0 h hK
  case i2b => exact m_s_i2b hS hnm hbn hRc hRs hfr hlo hcall hend hE hd0 h hK
  case dup2 => exact m_s_dup2 hS hnm hbn hRc hRs hfr hlo hcall hend hE hd0 h hK
  case pop => exact m_s_pop hS hnm hbn hRc hRs hfr hlo hcall hend hE hd0 h hK
  case idiv => exact m_s_idiv hS hnm hbn hRc hRs hfr hlo hcall hend hE hd0 h hK
  case irem => exact m_s_irem hS hnm hbn hRc hRs hfr hlo hcall hend hE hd0 h hK
  case ldiv => exact m_s_ldiv hS hnm hbn hRc hRs hfr hlo hcall hend hE hd0 h hK
  case lrem => exact m_s_lrem hS hnm hbn hRc hRs hfr hlo hcall hend hE hd0 h hK
  case dup => exact m_s_dup hS hnm hbn hRc hRs hfr hlo hcall hend hE hd0 h hK
  case ifCond a0 a1 => exact m_s_ifCond hS hnm hbn hRc hRs hfr hlo hcall hend a0 a1 hE hd0 h hK
  case if_icmp a0 a1 => exact m_s_if_icmp hS hnm hbn hRc hRs hfr hlo hcall hend a0 a1 hE hd0 h hK
  case goto a0 => exact m_s_goto hS hnm hbn hRc hRs hfr hlo hcall hend a0 hE hd0 h hK
  case tableswitch a0 a1 a2 a3 => exact m_s_tableswitch hS hnm hbn hRc hRs hfr hlo hcall hend a0 a1 a2 a3 hE hd0 h hK
  case lookupswitch a0 a1 => exact m_s_lookupswitch hS hnm hbn hRc hRs hfr hlo hcall hend a0 a1 hE hd0 h hK
  case getfield a0 => exact m_s_getfield hS hnm hbn hRc hRs hfr hlo hcall hend a0 hE hd0 h hK
  case putfield a0 => exact m_s_putfield hS hnm hbn hRc hRs hfr hlo hcall hend a0 hE hd0 h hK
  case getstatic a0 => exact m_s_getstatic hS hnm hbn hRc hRs hfr hlo hcall hend a0 hE hd0 h hK
  case iaload => exact m_s_iaload hS hnm hbn hRc hRs hfr hlo hcall hend hE hd0 h hK
  case baload => exact m_s_baload hS hnm hbn hRc hRs hfr hlo hcall hend hE hd0 h hK
  case laload => exact m_s_laload hS hnm hbn hRc hRs hfr hlo hcall hend hE hd0 h hK
  case aaload => exact m_s_aaload hS hnm hbn hRc hRs hfr hlo hcall hend hE hd0 h hK
  case iastore => exact m_s_iastore hS hnm hbn hRc hRs hfr hlo hcall hend hE hd0 h hK
  case bastore => exact m_s_bastore hS hnm hbn hRc hRs hfr hlo hcall hend hE hd0 h hK
  case lastore => exact m_s_lastore hS hnm hbn hRc hRs hfr hlo hcall hend hE hd0 h hK
  case aastore => exact m_s_aastore hS hnm hbn hRc hRs hfr hlo hcall hend hE hd0 h hK
  case arraylength => exact m_s_arraylength hS hnm hbn hRc hRs hfr hlo hcall hend hE hd0 h hK
  case new a0 => exact m_s_new hS hnm hbn hRc hRs hfr hlo hcall hend a0 hE hd0 h hK
  case newarray a0 => exact m_s_newarray hS hnm hbn hRc hRs hfr hlo hcall hend a0 hE hd0 h hK
  case anewarray a0 => exact m_s_anewarray hS hnm hbn hRc hRs hfr hlo hcall hend a0 hE hd0 h hK
  case multianewarray a0 a1 => exact m_s_multianewarray hS hnm hbn hRc hRs hfr hlo hcall hend a0 a1 hE hd0 h hK
  case invokevirtual a0 => exact m_s_invokevirtual hS hnm hbn hRc hRs hfr hlo hcall hend a0 hE hd0 h hK
  case invokestatic a0 => exact m_s_invokestatic hS hnm hbn hRc hRs hfr hlo hcall hend a0 hE hd0 h hK
  case invokespecial a0 => exact m_s_invokespecial hS hnm hbn hRc hRs hfr hlo hcall hend a0 hE hd0 h hK
  case return_ => exact m_s_return_ hS hnm hbn hRc hRs hfr hlo hcall hend hE hd0 h hK
  case ireturn => exact m_s_ireturn hS hnm hbn hRc hRs hfr hlo hcall hend hE hd0 h hK
  case lreturn => exact m_s_lreturn hS hnm hbn hRc hRs hfr hlo hcall hend hE hd0 h hK
  all_goals cases (show (none : Option Rr) = some r0 from h)
theorem m_look {cd : List (Nat × Instr × List Nat)} {pc : Nat} {x : Instr × List Nat} (h : j_look cd pc = some x) : (pc, x) ∈ cd := by
  induction cd with
  | nil => cases h
  | cons a cd ih =>
    obtain ⟨q, y⟩ := a
    unfold j_look at h
    cases hb : Nat.beq q pc with
    | true =>
      rw [hb] at h
      have e := Nat.eq_of_beq_eq_true hb
      subst e
      cases h
      exact List.mem_cons_self
    | false =>
      rw [hb] at h
      exact List.mem_cons_of_mem _ (ih h)
theorem m_seg (hS : m_St p R s m args c dC dI cA τ rn rx A nL own cc) (hnm : (mN k).name = "<init>" → meth.name = "<init>") (hbn : s_n r0.2 ≤ j_b) (hRc : s_n r0.2 ≤ R.cells + nb) (hRs : s_l r0.2 ≤ R.slots + lb) (hfr : d + 1 ≤ R.frames) (hlo : 40 * d + 40 ≤ R.locals) (hcall : ∀ k' as σ v σ', k' < 236 → call k' as σ = some (v, σ') → m_Ct l d k' as σ v σ') (hend : ∀ pc L st, m_end k r0.1 cc pc st → m_at p l e R s m args below meth c Q dC dI cA τ rn rx A nL nb lb ρ0 (pc) (L) (st) (r0.2)) {hd : List (Nat × Nat)} {again : Nat → j_L → List Value → Sto → Option Rr} (hchk : j_chk k own = true) (hcb : cc = mB k) (hag : ∀ pc L st σ, again pc L st σ = some r0 → m_go p l e R s m args below meth c Q dC dI cA τ rn rx A nL nb lb ρ0 r0 (pc) (L) (st) (σ)) : ∀ (n pc : Nat) (L : j_L) (st : List Value) (σ : Sto), j_seg (j_code k) hd call again n pc L st σ = some r0 → m_go p l e R s m args below meth c Q dC dI cA τ rn rx A nL nb lb ρ0 r0 (pc) (L) (st) (σ) := by
  intro n
  induction n with
  | zero => intro pc L st σ h; cases h
  | succ n ih =>
    intro pc L st σ h
    unfold j_seg at h
    split at h
    · cases h
    · rename_i i q hl
      have h1 := List.all_eq_true.mp hchk _ (m_look hl)
      simp only [Bool.and_eq_true] at h1
      obtain ⟨h1, h2⟩ := h1
      refine m_step hS hnm hbn hRc hRs hfr hlo hcall hend h2 ?_ h ?_
      · unfold j_dec at h1
        rw [← hcb] at h1
        split at h1
        · rename_i i' n' hdec
          simp only [Bool.and_eq_true, Bool.or_eq_true, decide_eq_true_eq] at h1
          exact ⟨n', by rw [hdec, h1.1], h1.2⟩
        · cases h1
      · intro pc' L' st' σ' h3
        split at h3
        · rename_i w hw
          obtain ⟨a1, a2, a3⟩ := hag _ _ _ _ h3
          exact ⟨fun ρ H locs cells slots ls hI hc hs hL hw => a1 ρ H locs cells slots ls hI hc hs (m_LR_cut w hL) hw, a2, a3⟩
        · exact ih _ _ _ _ h3
theorem m_exec (hS : m_St p R s m args c dC dI cA τ rn rx A nL own cc) (hnm : (mN k).name = "<init>" → meth.name = "<init>") (hbn : s_n r0.2 ≤ j_b) (hRc : s_n r0.2 ≤ R.cells + nb) (hRs : s_l r0.2 ≤ R.slots + lb) (hfr : d + 1 ≤ R.frames) (hlo : 40 * d + 40 ≤ R.locals) (hcall : ∀ k' as σ v σ', k' < 236 → call k' as σ = some (v, σ') → m_Ct l d k' as σ v σ') (hend : ∀ pc L st, m_end k r0.1 cc pc st → m_at p l e R s m args below meth c Q dC dI cA τ rn rx A nL nb lb ρ0 (pc) (L) (st) (r0.2)) {hd : List (Nat × Nat)} (hchk : j_chk k own = true) (hcb : cc = mB k) : ∀ (n pc : Nat) (L : j_L) (st : List Value) (σ : Sto), j_exec (j_code k) hd call n pc L st σ = some r0 → m_go p l e R s m args below meth c Q dC dI cA τ rn rx A nL nb lb ρ0 r0 (pc) (L) (st) (σ) := by
  intro n
  induction n with
  | zero => intro pc L st σ h; cases h
  | succ n ih =>
    intro pc L st σ h
    exact m_seg hS hnm hbn hRc hRs hfr hlo hcall hend hchk hcb ih 2000 pc L st σ h
end SIMSTP
end
section
/-! ===== THE MACHINE FOLLOWS THE LITTLE MACHINE, part 8: whole runs ===== -/
/-- what is made stays -/
def m_up (σ : Sto) (r : Rr) : Prop := s_n σ ≤ s_n r.2 ∧ s_l σ ≤ s_l r.2
theorem m_up_step {call : Nat → List Value → Sto → Option Rr} (hcall : ∀ k as σ r, call k as σ = some r → m_up σ r) {i : Instr} {q : List Nat} {pc : Nat} {L : j_L} {st : List Value} {σ : Sto} {K : Nat → j_L → List Value → Sto → Option Rr} {r0 : Rr} (hK : ∀ pc L st τ, K pc L st τ = some r0 → m_up τ r0) (h : j_stp call i q pc L st σ K = some r0) : m_up σ r0 := by
  have hcl : ∀ m rt as st, ∀ K' : List Value → Sto → Option Rr, (∀ st τ, K' st τ = some r0 → m_up τ r0) → j_cl call m rt as σ st K' = some r0 → m_up σ r0 := by
    intro m rt as st K' hK' h
    obtain ⟨v, σ', h1, h2⟩ := m_clo h
    have a := hcall _ _ _ _ h1
    have b := hK' _ _ h2
    exact ⟨Nat.le_trans a.1 b.1, Nat.le_trans a.2 b.2⟩
  have hsw : ∀ x d ts, ∀ K' : Nat → Option Rr, (∀ t, K' t = some r0 → m_up σ r0) → j_sw x d K' ts = some r0 → m_up σ r0 := by
    intro x d ts
    induction ts with
    | nil => intro K' hK' h; exact hK' _ h
    | cons a ts ih =>
      intro K' hK' h
      unfold j_sw at h
      split at h
      · exact hK' _ h
      · exact ih K' hK' h
  have hal : ∀ (h9 : j_Sh) (n : Nat), m_up (s_al σ h9 n) r0 → m_up σ r0 := fun h9 n z => ⟨Nat.le_trans (Nat.le_succ _) z.1, Nat.le_trans (Nat.le_add_right _ _) z.2⟩
  have hmn : ∀ n k : Nat, m_up (s_mn σ n k) r0 → m_up σ r0 := fun n k z => ⟨Nat.le_trans (show s_n σ ≤ s_n σ + 1 + n by omega) z.1, Nat.le_trans (show s_l σ ≤ s_l σ + n + n * k by omega) z.2⟩
  unfold j_stp at h
  cases i <;> dsimp only at h
  all_goals first | (cases h; done) | skip
  all_goals try simp only [j_ldI, j_ldJ, j_ldA, j_oc, j_gP, j_ia, j_ba, j_la, j_qa, j_is, j_bs, j_qs, j_ac, j_len, j_tst] at h
  all_goals repeat' (split at h)
  all_goals first
    | (cases h; done)
    | exact hK _ _ _ _ h
    | (have z := hK _ _ _ _ h; exact z)
    | exact hal _ _ (hK _ _ _ _ h)
    | exact hmn _ _ (hK _ _ _ _ h)
    | exact hcl _ _ _ _ _ (fun _ _ z => hK _ _ _ _ z) h
    | exact hsw _ _ _ _ (fun _ z => hK _ _ _ _ z) h
    | (cases h; exact ⟨Nat.le_refl _, Nat.le_refl _⟩)
theorem m_up_seg {call : Nat → List Value → Sto → Option Rr} (hcall : ∀ k as σ r, call k as σ = some r → m_up σ r) {cd : List (Nat × Instr × List Nat)} {hd : List (Nat × Nat)} {again : Nat → j_L → List Value → Sto → Option Rr} {r0 : Rr} (hag : ∀ pc L st τ, again pc L st τ = some r0 → m_up τ r0) : ∀ (n pc : Nat) (L : j_L) (st : List Value) (σ : Sto), j_seg cd hd call again n pc L st σ = some r0 → m_up σ r0 := by
  intro n
  induction n with
  | zero => intro pc L st σ h; cases h
  | succ n ih =>
    intro pc L st σ h
    unfold j_seg at h
    split at h
    · cases h
    · refine m_up_step hcall ?_ h
      intro pc' L' st' τ h3
      split at h3
      · exact hag _ _ _ _ h3
      · exact ih _ _ _ _ h3
theorem m_up_exec {call : Nat → List Value → Sto → Option Rr} (hcall : ∀ k as σ r, call k as σ = some r → m_up σ r) {cd : List (Nat × Instr × List Nat)} {hd : List (Nat × Nat)} {r0 : Rr} : ∀ (n pc : Nat) (L : j_L) (st : List Value) (σ : Sto), j_exec cd hd call n pc L st σ = some r0 → m_up σ r0 := by
  intro n
  induction n with
  | zero => intro pc L st σ h; cases h
  | succ n ih => intro pc L st σ h; exact m_up_seg hcall ih 2000 pc L st σ h
theorem m_up_run : ∀ (d k : Nat) (as : List Value) (σ : Sto) (r : Rr), j_run d k as σ = some r → m_up σ r := by
  intro d
  induction d with
  | zero => intro k as σ r h; cases h
  | succ d ih =>
    intro k as σ r h
    unfold j_run at h
    split at h
    · exact m_up_exec ih j_NF 0 _ _ _ h
    · cases h
theorem m_own {k : Nat} (hk : k < 236) : ∃ own, j_CN own = (mN k).cls ∧ j_chk k own = true := by
  have key : ∀ k, k < 236 → j_CN (j_own.getD k 0) = (mN k).cls := by decide +kernel
  refine ⟨j_own.getD k 0, key k hk, ?_⟩
  exact j_chks k hk
end
section
/-! ===== THE MACHINE FOLLOWS THE LITTLE MACHINE, part 9: every method by every run ===== -/
set_option maxHeartbeats 4000000 in
theorem m_run (l : Launch) : ∀ (d k : Nat) (as : List Value) (σ : Sto) (v : Option Value) (σ' : Sto), k < 236 → j_run d k as σ = some (v, σ') → m_Ct l d k as σ v σ' := by
  intro d
  induction d with
  | zero => intro k as σ v σ' _ h; cases h
  | succ d ih =>
    intro k as σ v σ' hk h
    have hup := m_up_run _ _ _ _ _ h
    have hu1 : s_n σ ≤ s_n σ' := hup.1
    have hu2 : s_l σ ≤ s_l σ' := hup.2
    refine ⟨hu1, hu2, fun rn rx hwf has hbn dC dI cA τ ρ sz => ?_⟩
    unfold j_run at h
    split at h
    next hlen =>
      obtain ⟨own, hown, hchk⟩ := m_own hk
      refine Met.ofW (cc := mB k) (maxL := mL k) (ret := mR k) (m_mp hk).2.2.2.2.1 rfl ?_
      intro p e s m args below meth c s₁ B hml hv
      obtain ⟨rfl, hsz, hP, hK, hD0, hG⟩ := hv
      have hx := B.exec
      have hb := B.bytes
      have hr := B.returns
      have hts := atoms_spec (ws := m_wm k) B.pre
      have hown' : s.vm.findClass (j_CN own) = some m.cls := by rw [hown]; exact findClass_of_methodNamed B.named
      have hlocks := B.notSynchronized
      have hin : meth.name = (mN k).name := (name_of_methodNamed B.named B.method).1
      subst hsz
      have hD := hD0.self (sz := s.heap.size)
      have hA : ∀ q : Nat, s.heap.size ≤ q → va_A (m_ws cA ρ τ σ) s.heap.size q := fun q h => Or.inr h
      have hSt : m_St p (headSpec (m_wm k) (m_rm (d + 1) (s_n σ' - s_n σ) (s_l σ' - s_l σ))).room s m (as.map (m_v ρ τ)).toArray c dC dI cA τ rn rx (va_A (m_ws cA ρ τ σ) s.heap.size) (mL k) own (mB k) :=
        ⟨hx, hb, hown', fun w hw => hts w (List.mem_cons_of_mem _ hw), hK, hG, hA, hml, Nat.le_add_left 1 d, show 40 ≤ 40 * (d + 1) by omega⟩
      rw [lg_entry_eq]
      have hgo := m_exec (l := l) (below := below) (e := e) (k := k) (d := d) (call := j_run d) (r0 := (v, σ')) (nb := s_n σ) (lb := s_l σ) (ρ0 := ρ) (Q := MQ below (m_Qc dC dI cA τ rn rx ρ σ σ' (va_A (m_ws cA ρ τ σ) s.heap.size) v) (as.map (m_v ρ τ)).toArray s (s_n σ' - s_n σ) (s_l σ' - s_l σ) (va_A (m_ws cA ρ τ σ) s.heap.size)) hSt (fun z => hin.trans z) hbn
        (show s_n σ' ≤ (s_n σ' - s_n σ) + s_n σ by omega) (show s_l σ' ≤ (s_l σ' - s_l σ) + s_l σ by omega) (Nat.le_refl _) (show 40 * d + 40 ≤ 40 * (d + 1) by omega) ih ?_ hchk rfl j_NF 0 _ _ _ h
      · exact hgo.1 ρ s.heap [] 0 0 _ ⟨hP, hD, va_S.rf, hwf⟩ ⟨by omega, fun _ _ => rfl⟩ (by omega) (m_LR_ent has hlen) (fun v h => by cases h)
      · intro pc L st hE ρ' H locs cells slots ls hI hc hs hL hw
        have hc1 : cells + s_n σ = s_n σ' := hc.1
        have hs1 : slots + s_l σ = s_l σ' := hs
        have e1 : cells = s_n σ' - s_n σ := by omega
        have e2 : slots = s_l σ' - s_l σ := by omega
        subst e1
        subst e2
        have hfin : ∀ t : State, t.heap = H → s.WarmedH t.vm → m_B dC dI cA τ rn rx σ' (va_A (m_ws cA ρ τ σ) s.heap.size) ρ' t := fun t ht hW => ⟨by rw [ht]; exact hI.1, va_K.moved hW.alike hK, hI.2.1, hI.2.2.2⟩
        have hagr : m_agr σ ρ ρ' := hc.2
        rcases hE with ⟨hdg, hr0, hv0, rfl⟩ | ⟨hdg, x, hv0, rfl, hr0⟩ | ⟨hdg, x, hv0, rfl, hr0⟩
        · have hv0 : v = none := hv0
          subst hv0
          exact W.vret hx hb (hr.trans hr0) (fun t ht hW => ⟨⟨ρ', rfl, hagr, hfin t ht hW⟩, hI.2.2.1.F ht⟩) hI.2.2.1.2.2 hdg
        · have hv0 : v = some (.int x) := hv0
          subst hv0
          rcases hr0 with hr0 | ⟨hr0, hx0⟩
          · exact W.iret hx hb (hr.trans hr0) (fun t ht hW => ⟨⟨x, ρ', rfl, ⟨rfl, hagr⟩, hfin t ht hW⟩, hI.2.2.1.F ht⟩) hI.2.2.1.2.2 hdg
          · exact W.zret hx hb (hr.trans hr0) (by rcases hx0 with rfl | rfl <;> decide) (fun t ht hW => ⟨⟨x, ρ', rfl, ⟨rfl, hagr⟩, hfin t ht hW⟩, hI.2.2.1.F ht⟩) hI.2.2.1.2.2 hdg
        · have hv0 : v = some (.long x) := hv0
          subst hv0
          exact W.lret hx hb (hr.trans hr0) (fun t ht hW => ⟨⟨x, ρ', rfl, ⟨rfl, hagr⟩, hfin t ht hW⟩, hI.2.2.1.F ht⟩) hI.2.2.1.2.2 hdg
    next => cases h
end
