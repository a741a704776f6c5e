section
-- ===== PART A: goes FIRST, ahead of the names: the tables' words, and 'selects' of the private methods out of them =====
/-- a private method of a class that the tables say can be made, by its rows of tables_1 -/
def lw_okq (q : MethodName × Nat) : Prop := (q.1.cls ≠ "java/lang/invoke/MethodHandle" ∧ q.1.cls ≠ "java/lang/invoke/VarHandle") ∧ Cond.instantiable q.1.cls q.2 ∈ tables_1 ∧ Cond.privateMethod q.1 ∈ tables_1 ∧ Cond.instanceMethod q.1 ∈ tables_1
theorem lw_p0 : lw_okq (⟨"FairBatten$Buoyancy", "measure", "(LFairBatten$Hull;)V"⟩, 2) := ⟨⟨by decide +kernel, by decide +kernel⟩, List.mem_of_getElem? (i := 83) (by decide +kernel), List.mem_of_getElem? (i := 176) (by decide +kernel), List.mem_of_getElem? (i := 177) (by decide +kernel)⟩
theorem lw_p1 : lw_okq (⟨"FairBatten$Hull", "volumeUpTo", "(I)I"⟩, 1) := ⟨⟨by decide +kernel, by decide +kernel⟩, List.mem_of_getElem? (i := 25) (by decide +kernel), List.mem_of_getElem? (i := 180) (by decide +kernel), List.mem_of_getElem? (i := 181) (by decide +kernel)⟩
theorem lw_p2 : lw_okq (⟨"FairBatten$Hull", "areaUpTo", "(II)I"⟩, 1) := ⟨⟨by decide +kernel, by decide +kernel⟩, List.mem_of_getElem? (i := 25) (by decide +kernel), List.mem_of_getElem? (i := 184) (by decide +kernel), List.mem_of_getElem? (i := 185) (by decide +kernel)⟩
theorem lw_p3 : lw_okq (⟨"FairBatten$Hull", "momentUpTo", "(I)I"⟩, 1) := ⟨⟨by decide +kernel, by decide +kernel⟩, List.mem_of_getElem? (i := 25) (by decide +kernel), List.mem_of_getElem? (i := 188) (by decide +kernel), List.mem_of_getElem? (i := 189) (by decide +kernel)⟩
theorem lw_p4 : lw_okq (⟨"FairBatten$Cargo", "wholeLoad", "()I"⟩, 5) := ⟨⟨by decide +kernel, by decide +kernel⟩, List.mem_of_getElem? (i := 56) (by decide +kernel), List.mem_of_getElem? (i := 192) (by decide +kernel), List.mem_of_getElem? (i := 193) (by decide +kernel)⟩
theorem lw_p5 : lw_okq (⟨"FairBatten$Cargo", "loadWithoutBallast", "()I"⟩, 5) := ⟨⟨by decide +kernel, by decide +kernel⟩, List.mem_of_getElem? (i := 56) (by decide +kernel), List.mem_of_getElem? (i := 196) (by decide +kernel), List.mem_of_getElem? (i := 197) (by decide +kernel)⟩
theorem lw_p6 : lw_okq (⟨"FairBatten$Buoyancy", "draughtUnder", "(I)I"⟩, 2) := ⟨⟨by decide +kernel, by decide +kernel⟩, List.mem_of_getElem? (i := 83) (by decide +kernel), List.mem_of_getElem? (i := 200) (by decide +kernel), List.mem_of_getElem? (i := 201) (by decide +kernel)⟩
theorem lw_p7 : lw_okq (⟨"FairBatten$Cargo", "wholeMoment", "()I"⟩, 5) := ⟨⟨by decide +kernel, by decide +kernel⟩, List.mem_of_getElem? (i := 56) (by decide +kernel), List.mem_of_getElem? (i := 208) (by decide +kernel), List.mem_of_getElem? (i := 209) (by decide +kernel)⟩
theorem lw_p8 : lw_okq (⟨"FairBatten$Cargo", "momentWithoutBallast", "()I"⟩, 5) := ⟨⟨by decide +kernel, by decide +kernel⟩, List.mem_of_getElem? (i := 56) (by decide +kernel), List.mem_of_getElem? (i := 212) (by decide +kernel), List.mem_of_getElem? (i := 213) (by decide +kernel)⟩
theorem lw_p9 : lw_okq (⟨"FairBatten$Buoyancy", "trimUnder", "(II)I"⟩, 2) := ⟨⟨by decide +kernel, by decide +kernel⟩, List.mem_of_getElem? (i := 83) (by decide +kernel), List.mem_of_getElem? (i := 216) (by decide +kernel), List.mem_of_getElem? (i := 217) (by decide +kernel)⟩
theorem lw_p10 : lw_okq (⟨"FairBatten$Almanac", "heightOn", "(I)I"⟩, 3) := ⟨⟨by decide +kernel, by decide +kernel⟩, List.mem_of_getElem? (i := 128) (by decide +kernel), List.mem_of_getElem? (i := 241) (by decide +kernel), List.mem_of_getElem? (i := 242) (by decide +kernel)⟩
theorem lw_p11 : lw_okq (⟨"FairBatten$Almanac", "placeOf", "(I)I"⟩, 3) := ⟨⟨by decide +kernel, by decide +kernel⟩, List.mem_of_getElem? (i := 128) (by decide +kernel), List.mem_of_getElem? (i := 245) (by decide +kernel), List.mem_of_getElem? (i := 246) (by decide +kernel)⟩
theorem lw_p12 : lw_okq (⟨"java/lang/Throwable", "fillInStackTrace", "(I)Ljava/lang/Throwable;"⟩, 6) := ⟨⟨by decide +kernel, by decide +kernel⟩, List.mem_of_getElem? (i := 303) (by decide +kernel), List.mem_of_getElem? (i := 301) (by decide +kernel), List.mem_of_getElem? (i := 302) (by decide +kernel)⟩
theorem lw_p13 : lw_okq (⟨"FairBatten", "refuseLaunched", "()V"⟩, 9) := ⟨⟨by decide +kernel, by decide +kernel⟩, List.mem_of_getElem? (i := 17) (by decide +kernel), List.mem_of_getElem? (i := 356) (by decide +kernel), List.mem_of_getElem? (i := 357) (by decide +kernel)⟩
theorem lw_p14 : lw_okq (⟨"FairBatten$Batten", "straighten", "([II)V"⟩, 3) := ⟨⟨by decide +kernel, by decide +kernel⟩, List.mem_of_getElem? (i := 39) (by decide +kernel), List.mem_of_getElem? (i := 403) (by decide +kernel), List.mem_of_getElem? (i := 404) (by decide +kernel)⟩
theorem lw_p15 : lw_okq (⟨"FairBatten$Batten", "reckonRest", "(I)V"⟩, 3) := ⟨⟨by decide +kernel, by decide +kernel⟩, List.mem_of_getElem? (i := 39) (by decide +kernel), List.mem_of_getElem? (i := 413) (by decide +kernel), List.mem_of_getElem? (i := 414) (by decide +kernel)⟩
def lw_privs_1 : List (MethodName × Nat) := [(⟨"FairBatten$Buoyancy", "measure", "(LFairBatten$Hull;)V"⟩, 2), (⟨"FairBatten$Hull", "volumeUpTo", "(I)I"⟩, 1), (⟨"FairBatten$Hull", "areaUpTo", "(II)I"⟩, 1), (⟨"FairBatten$Hull", "momentUpTo", "(I)I"⟩, 1), (⟨"FairBatten$Cargo", "wholeLoad", "()I"⟩, 5), (⟨"FairBatten$Cargo", "loadWithoutBallast", "()I"⟩, 5), (⟨"FairBatten$Buoyancy", "draughtUnder", "(I)I"⟩, 2), (⟨"FairBatten$Cargo", "wholeMoment", "()I"⟩, 5), (⟨"FairBatten$Cargo", "momentWithoutBallast", "()I"⟩, 5), (⟨"FairBatten$Buoyancy", "trimUnder", "(II)I"⟩, 2), (⟨"FairBatten$Almanac", "heightOn", "(I)I"⟩, 3), (⟨"FairBatten$Almanac", "placeOf", "(I)I"⟩, 3), (⟨"java/lang/Throwable", "fillInStackTrace", "(I)Ljava/lang/Throwable;"⟩, 6), (⟨"FairBatten", "refuseLaunched", "()V"⟩, 9), (⟨"FairBatten$Batten", "straighten", "([II)V"⟩, 3), (⟨"FairBatten$Batten", "reckonRest", "(I)V"⟩, 3)]
theorem lw_r1 : ∀ q ∈ lw_privs_1, lw_okq q := List.forall_mem_cons.mpr ⟨lw_p0, List.forall_mem_cons.mpr ⟨lw_p1, List.forall_mem_cons.mpr ⟨lw_p2, List.forall_mem_cons.mpr ⟨lw_p3, List.forall_mem_cons.mpr ⟨lw_p4, List.forall_mem_cons.mpr ⟨lw_p5, List.forall_mem_cons.mpr ⟨lw_p6, List.forall_mem_cons.mpr ⟨lw_p7, List.forall_mem_cons.mpr ⟨lw_p8, List.forall_mem_cons.mpr ⟨lw_p9, List.forall_mem_cons.mpr ⟨lw_p10, List.forall_mem_cons.mpr ⟨lw_p11, List.forall_mem_cons.mpr ⟨lw_p12, List.forall_mem_cons.mpr ⟨lw_p13, List.forall_mem_cons.mpr ⟨lw_p14, List.forall_mem_cons.mpr ⟨lw_p15, fun _ h => absurd h List.not_mem_nil⟩⟩⟩⟩⟩⟩⟩⟩⟩⟩⟩⟩⟩⟩⟩⟩
theorem lw_p16 : lw_okq (⟨"FairBatten$Batten", "bendWith", "(IIII)I"⟩, 3) := ⟨⟨by decide +kernel, by decide +kernel⟩, List.mem_of_getElem? (i := 39) (by decide +kernel), List.mem_of_getElem? (i := 418) (by decide +kernel), List.mem_of_getElem? (i := 419) (by decide +kernel)⟩
theorem lw_p17 : lw_okq (⟨"FairBatten$Batten", "draw", "([I)V"⟩, 3) := ⟨⟨by decide +kernel, by decide +kernel⟩, List.mem_of_getElem? (i := 39) (by decide +kernel), List.mem_of_getElem? (i := 423) (by decide +kernel), List.mem_of_getElem? (i := 424) (by decide +kernel)⟩
theorem lw_p18 : lw_okq (⟨"FairBatten$Batten", "lowestThird", "(III)I"⟩, 3) := ⟨⟨by decide +kernel, by decide +kernel⟩, List.mem_of_getElem? (i := 39) (by decide +kernel), List.mem_of_getElem? (i := 427) (by decide +kernel), List.mem_of_getElem? (i := 428) (by decide +kernel)⟩
theorem lw_p19 : lw_okq (⟨"FairBatten$Hull", "volumeBySlices", "(I)I"⟩, 1) := ⟨⟨by decide +kernel, by decide +kernel⟩, List.mem_of_getElem? (i := 25) (by decide +kernel), List.mem_of_getElem? (i := 454) (by decide +kernel), List.mem_of_getElem? (i := 455) (by decide +kernel)⟩
theorem lw_p20 : lw_okq (⟨"FairBatten$Hull", "waterlineArea", "(I)I"⟩, 1) := ⟨⟨by decide +kernel, by decide +kernel⟩, List.mem_of_getElem? (i := 25) (by decide +kernel), List.mem_of_getElem? (i := 458) (by decide +kernel), List.mem_of_getElem? (i := 459) (by decide +kernel)⟩
theorem lw_p21 : lw_okq (⟨"FairBatten$Cargo", "isFull", "()Z"⟩, 5) := ⟨⟨by decide +kernel, by decide +kernel⟩, List.mem_of_getElem? (i := 56) (by decide +kernel), List.mem_of_getElem? (i := 469) (by decide +kernel), List.mem_of_getElem? (i := 470) (by decide +kernel)⟩
theorem lw_p22 : lw_okq (⟨"FairBatten$Cargo", "add", "(II)I"⟩, 5) := ⟨⟨by decide +kernel, by decide +kernel⟩, List.mem_of_getElem? (i := 56) (by decide +kernel), List.mem_of_getElem? (i := 474) (by decide +kernel), List.mem_of_getElem? (i := 475) (by decide +kernel)⟩
theorem lw_p23 : lw_okq (⟨"FairBatten", "refuseNoWeight", "(I)V"⟩, 9) := ⟨⟨by decide +kernel, by decide +kernel⟩, List.mem_of_getElem? (i := 17) (by decide +kernel), List.mem_of_getElem? (i := 485) (by decide +kernel), List.mem_of_getElem? (i := 486) (by decide +kernel)⟩
theorem lw_p24 : lw_okq (⟨"FairBatten$Cargo", "replace", "(III)I"⟩, 5) := ⟨⟨by decide +kernel, by decide +kernel⟩, List.mem_of_getElem? (i := 56) (by decide +kernel), List.mem_of_getElem? (i := 490) (by decide +kernel), List.mem_of_getElem? (i := 491) (by decide +kernel)⟩
theorem lw_p25 : lw_okq (⟨"FairBatten$Buoyancy", "setBallast", "(LFairBatten$Cargo;I)V"⟩, 2) := ⟨⟨by decide +kernel, by decide +kernel⟩, List.mem_of_getElem? (i := 83) (by decide +kernel), List.mem_of_getElem? (i := 501) (by decide +kernel), List.mem_of_getElem? (i := 502) (by decide +kernel)⟩
theorem lw_p26 : lw_okq (⟨"FairBatten$Hull", "strakeLength", "(I)I"⟩, 1) := ⟨⟨by decide +kernel, by decide +kernel⟩, List.mem_of_getElem? (i := 25) (by decide +kernel), List.mem_of_getElem? (i := 520) (by decide +kernel), List.mem_of_getElem? (i := 521) (by decide +kernel)⟩
theorem lw_p27 : lw_okq (⟨"FairBatten$Nest", "cutAll", "(LFairBatten$Hull;)V"⟩, 7) := ⟨⟨by decide +kernel, by decide +kernel⟩, List.mem_of_getElem? (i := 96) (by decide +kernel), List.mem_of_getElem? (i := 532) (by decide +kernel), List.mem_of_getElem? (i := 533) (by decide +kernel)⟩
theorem lw_p28 : lw_okq (⟨"FairBatten$Nest", "sortByLength", "(LFairBatten$Hull;)V"⟩, 7) := ⟨⟨by decide +kernel, by decide +kernel⟩, List.mem_of_getElem? (i := 96) (by decide +kernel), List.mem_of_getElem? (i := 536) (by decide +kernel), List.mem_of_getElem? (i := 537) (by decide +kernel)⟩
theorem lw_p29 : lw_okq (⟨"FairBatten$Nest", "cut", "(I)I"⟩, 7) := ⟨⟨by decide +kernel, by decide +kernel⟩, List.mem_of_getElem? (i := 96) (by decide +kernel), List.mem_of_getElem? (i := 541) (by decide +kernel), List.mem_of_getElem? (i := 542) (by decide +kernel)⟩
theorem lw_p30 : lw_okq (⟨"FairBatten$Almanac", "hasRoomFor", "(I)Z"⟩, 3) := ⟨⟨by decide +kernel, by decide +kernel⟩, List.mem_of_getElem? (i := 128) (by decide +kernel), List.mem_of_getElem? (i := 559) (by decide +kernel), List.mem_of_getElem? (i := 560) (by decide +kernel)⟩
theorem lw_p31 : lw_okq (⟨"FairBatten$Almanac", "tell", "(II)V"⟩, 3) := ⟨⟨by decide +kernel, by decide +kernel⟩, List.mem_of_getElem? (i := 128) (by decide +kernel), List.mem_of_getElem? (i := 564) (by decide +kernel), List.mem_of_getElem? (i := 565) (by decide +kernel)⟩
def lw_privs_2 : List (MethodName × Nat) := [(⟨"FairBatten$Batten", "bendWith", "(IIII)I"⟩, 3), (⟨"FairBatten$Batten", "draw", "([I)V"⟩, 3), (⟨"FairBatten$Batten", "lowestThird", "(III)I"⟩, 3), (⟨"FairBatten$Hull", "volumeBySlices", "(I)I"⟩, 1), (⟨"FairBatten$Hull", "waterlineArea", "(I)I"⟩, 1), (⟨"FairBatten$Cargo", "isFull", "()Z"⟩, 5), (⟨"FairBatten$Cargo", "add", "(II)I"⟩, 5), (⟨"FairBatten", "refuseNoWeight", "(I)V"⟩, 9), (⟨"FairBatten$Cargo", "replace", "(III)I"⟩, 5), (⟨"FairBatten$Buoyancy", "setBallast", "(LFairBatten$Cargo;I)V"⟩, 2), (⟨"FairBatten$Hull", "strakeLength", "(I)I"⟩, 1), (⟨"FairBatten$Nest", "cutAll", "(LFairBatten$Hull;)V"⟩, 7), (⟨"FairBatten$Nest", "sortByLength", "(LFairBatten$Hull;)V"⟩, 7), (⟨"FairBatten$Nest", "cut", "(I)I"⟩, 7), (⟨"FairBatten$Almanac", "hasRoomFor", "(I)Z"⟩, 3), (⟨"FairBatten$Almanac", "tell", "(II)V"⟩, 3)]
theorem lw_r2 : ∀ q ∈ lw_privs_2, lw_okq q := List.forall_mem_cons.mpr ⟨lw_p16, List.forall_mem_cons.mpr ⟨lw_p17, List.forall_mem_cons.mpr ⟨lw_p18, List.forall_mem_cons.mpr ⟨lw_p19, List.forall_mem_cons.mpr ⟨lw_p20, List.forall_mem_cons.mpr ⟨lw_p21, List.forall_mem_cons.mpr ⟨lw_p22, List.forall_mem_cons.mpr ⟨lw_p23, List.forall_mem_cons.mpr ⟨lw_p24, List.forall_mem_cons.mpr ⟨lw_p25, List.forall_mem_cons.mpr ⟨lw_p26, List.forall_mem_cons.mpr ⟨lw_p27, List.forall_mem_cons.mpr ⟨lw_p28, List.forall_mem_cons.mpr ⟨lw_p29, List.forall_mem_cons.mpr ⟨lw_p30, List.forall_mem_cons.mpr ⟨lw_p31, fun _ h => absurd h List.not_mem_nil⟩⟩⟩⟩⟩⟩⟩⟩⟩⟩⟩⟩⟩⟩⟩⟩
theorem lw_p32 : lw_okq (⟨"FairBattenModel", "halfAt", "(II)I"⟩, 16) := ⟨⟨by decide +kernel, by decide +kernel⟩, List.mem_of_getElem? (i := 592) (by decide +kernel), List.mem_of_getElem? (i := 664) (by decide +kernel), List.mem_of_getElem? (i := 665) (by decide +kernel)⟩
theorem lw_p33 : lw_okq (⟨"FairBattenModel", "bendOf", "(I)I"⟩, 16) := ⟨⟨by decide +kernel, by decide +kernel⟩, List.mem_of_getElem? (i := 592) (by decide +kernel), List.mem_of_getElem? (i := 676) (by decide +kernel), List.mem_of_getElem? (i := 677) (by decide +kernel)⟩
theorem lw_p34 : lw_okq (⟨"FairBattenModel", "findsBehind", "(II)V"⟩, 16) := ⟨⟨by decide +kernel, by decide +kernel⟩, List.mem_of_getElem? (i := 592) (by decide +kernel), List.mem_of_getElem? (i := 687) (by decide +kernel), List.mem_of_getElem? (i := 688) (by decide +kernel)⟩
theorem lw_p35 : lw_okq (⟨"FairBattenModel", "leastBy", "(IIIII)I"⟩, 16) := ⟨⟨by decide +kernel, by decide +kernel⟩, List.mem_of_getElem? (i := 592) (by decide +kernel), List.mem_of_getElem? (i := 694) (by decide +kernel), List.mem_of_getElem? (i := 695) (by decide +kernel)⟩
theorem lw_p36 : lw_okq (⟨"FairBattenModel", "may", "(IIII)Z"⟩, 16) := ⟨⟨by decide +kernel, by decide +kernel⟩, List.mem_of_getElem? (i := 592) (by decide +kernel), List.mem_of_getElem? (i := 699) (by decide +kernel), List.mem_of_getElem? (i := 700) (by decide +kernel)⟩
theorem lw_p37 : lw_okq (⟨"FairBattenModel", "bendBy", "(IIIII)I"⟩, 16) := ⟨⟨by decide +kernel, by decide +kernel⟩, List.mem_of_getElem? (i := 592) (by decide +kernel), List.mem_of_getElem? (i := 706) (by decide +kernel), List.mem_of_getElem? (i := 707) (by decide +kernel)⟩
theorem lw_p38 : lw_okq (⟨"FairBattenModel", "laysLine", "(II)V"⟩, 16) := ⟨⟨by decide +kernel, by decide +kernel⟩, List.mem_of_getElem? (i := 592) (by decide +kernel), List.mem_of_getElem? (i := 710) (by decide +kernel), List.mem_of_getElem? (i := 711) (by decide +kernel)⟩
theorem lw_p39 : lw_okq (⟨"FairBattenModel", "areaOf", "(II)I"⟩, 16) := ⟨⟨by decide +kernel, by decide +kernel⟩, List.mem_of_getElem? (i := 592) (by decide +kernel), List.mem_of_getElem? (i := 718) (by decide +kernel), List.mem_of_getElem? (i := 719) (by decide +kernel)⟩
theorem lw_p40 : lw_okq (⟨"FairBattenModel", "volumeOf", "(I)I"⟩, 16) := ⟨⟨by decide +kernel, by decide +kernel⟩, List.mem_of_getElem? (i := 592) (by decide +kernel), List.mem_of_getElem? (i := 726) (by decide +kernel), List.mem_of_getElem? (i := 727) (by decide +kernel)⟩
theorem lw_p41 : lw_okq (⟨"FairBattenModel", "draughtNow", "()I"⟩, 16) := ⟨⟨by decide +kernel, by decide +kernel⟩, List.mem_of_getElem? (i := 592) (by decide +kernel), List.mem_of_getElem? (i := 747) (by decide +kernel), List.mem_of_getElem? (i := 748) (by decide +kernel)⟩
theorem lw_p42 : lw_okq (⟨"FairBattenModel", "loadNow", "()I"⟩, 16) := ⟨⟨by decide +kernel, by decide +kernel⟩, List.mem_of_getElem? (i := 592) (by decide +kernel), List.mem_of_getElem? (i := 751) (by decide +kernel), List.mem_of_getElem? (i := 752) (by decide +kernel)⟩
theorem lw_p43 : lw_okq (⟨"FairBattenModel", "trimNow", "()I"⟩, 16) := ⟨⟨by decide +kernel, by decide +kernel⟩, List.mem_of_getElem? (i := 592) (by decide +kernel), List.mem_of_getElem? (i := 755) (by decide +kernel), List.mem_of_getElem? (i := 756) (by decide +kernel)⟩
theorem lw_p44 : lw_okq (⟨"FairBattenModel", "loadMoment", "()I"⟩, 16) := ⟨⟨by decide +kernel, by decide +kernel⟩, List.mem_of_getElem? (i := 592) (by decide +kernel), List.mem_of_getElem? (i := 759) (by decide +kernel), List.mem_of_getElem? (i := 760) (by decide +kernel)⟩
theorem lw_p45 : lw_okq (⟨"FairBattenModel", "momentOf", "(I)I"⟩, 16) := ⟨⟨by decide +kernel, by decide +kernel⟩, List.mem_of_getElem? (i := 592) (by decide +kernel), List.mem_of_getElem? (i := 766) (by decide +kernel), List.mem_of_getElem? (i := 767) (by decide +kernel)⟩
theorem lw_p46 : lw_okq (⟨"FairBattenModel", "strakeOf", "(I)I"⟩, 16) := ⟨⟨by decide +kernel, by decide +kernel⟩, List.mem_of_getElem? (i := 592) (by decide +kernel), List.mem_of_getElem? (i := 782) (by decide +kernel), List.mem_of_getElem? (i := 783) (by decide +kernel)⟩
theorem lw_p47 : lw_okq (⟨"FairBattenModel", "planksNow", "()I"⟩, 16) := ⟨⟨by decide +kernel, by decide +kernel⟩, List.mem_of_getElem? (i := 592) (by decide +kernel), List.mem_of_getElem? (i := 790) (by decide +kernel), List.mem_of_getElem? (i := 791) (by decide +kernel)⟩
def lw_privs_3 : List (MethodName × Nat) := [(⟨"FairBattenModel", "halfAt", "(II)I"⟩, 16), (⟨"FairBattenModel", "bendOf", "(I)I"⟩, 16), (⟨"FairBattenModel", "findsBehind", "(II)V"⟩, 16), (⟨"FairBattenModel", "leastBy", "(IIIII)I"⟩, 16), (⟨"FairBattenModel", "may", "(IIII)Z"⟩, 16), (⟨"FairBattenModel", "bendBy", "(IIIII)I"⟩, 16), (⟨"FairBattenModel", "laysLine", "(II)V"⟩, 16), (⟨"FairBattenModel", "areaOf", "(II)I"⟩, 16), (⟨"FairBattenModel", "volumeOf", "(I)I"⟩, 16), (⟨"FairBattenModel", "draughtNow", "()I"⟩, 16), (⟨"FairBattenModel", "loadNow", "()I"⟩, 16), (⟨"FairBattenModel", "trimNow", "()I"⟩, 16), (⟨"FairBattenModel", "loadMoment", "()I"⟩, 16), (⟨"FairBattenModel", "momentOf", "(I)I"⟩, 16), (⟨"FairBattenModel", "strakeOf", "(I)I"⟩, 16), (⟨"FairBattenModel", "planksNow", "()I"⟩, 16)]
theorem lw_r3 : ∀ q ∈ lw_privs_3, lw_okq q := List.forall_mem_cons.mpr ⟨lw_p32, List.forall_mem_cons.mpr ⟨lw_p33, List.forall_mem_cons.mpr ⟨lw_p34, List.forall_mem_cons.mpr ⟨lw_p35, List.forall_mem_cons.mpr ⟨lw_p36, List.forall_mem_cons.mpr ⟨lw_p37, List.forall_mem_cons.mpr ⟨lw_p38, List.forall_mem_cons.mpr ⟨lw_p39, List.forall_mem_cons.mpr ⟨lw_p40, List.forall_mem_cons.mpr ⟨lw_p41, List.forall_mem_cons.mpr ⟨lw_p42, List.forall_mem_cons.mpr ⟨lw_p43, List.forall_mem_cons.mpr ⟨lw_p44, List.forall_mem_cons.mpr ⟨lw_p45, List.forall_mem_cons.mpr ⟨lw_p46, List.forall_mem_cons.mpr ⟨lw_p47, fun _ h => absurd h List.not_mem_nil⟩⟩⟩⟩⟩⟩⟩⟩⟩⟩⟩⟩⟩⟩⟩⟩
theorem lw_p48 : lw_okq (⟨"FairBattenModel", "strakeBehind", "(I)I"⟩, 16) := ⟨⟨by decide +kernel, by decide +kernel⟩, List.mem_of_getElem? (i := 592) (by decide +kernel), List.mem_of_getElem? (i := 794) (by decide +kernel), List.mem_of_getElem? (i := 795) (by decide +kernel)⟩
theorem lw_p49 : lw_okq (⟨"FairBattenModel", "tideOn", "(I)I"⟩, 16) := ⟨⟨by decide +kernel, by decide +kernel⟩, List.mem_of_getElem? (i := 592) (by decide +kernel), List.mem_of_getElem? (i := 806) (by decide +kernel), List.mem_of_getElem? (i := 807) (by decide +kernel)⟩
theorem lw_p50 : lw_okq (⟨"FairBattenModel", "neededNow", "()I"⟩, 16) := ⟨⟨by decide +kernel, by decide +kernel⟩, List.mem_of_getElem? (i := 592) (by decide +kernel), List.mem_of_getElem? (i := 818) (by decide +kernel), List.mem_of_getElem? (i := 819) (by decide +kernel)⟩
def lw_privs_4 : List (MethodName × Nat) := [(⟨"FairBattenModel", "strakeBehind", "(I)I"⟩, 16), (⟨"FairBattenModel", "tideOn", "(I)I"⟩, 16), (⟨"FairBattenModel", "neededNow", "()I"⟩, 16)]
theorem lw_r4 : ∀ q ∈ lw_privs_4, lw_okq q := List.forall_mem_cons.mpr ⟨lw_p48, List.forall_mem_cons.mpr ⟨lw_p49, List.forall_mem_cons.mpr ⟨lw_p50, fun _ h => absurd h List.not_mem_nil⟩⟩⟩
def lw_privs : List (MethodName × Nat) := lw_privs_1 ++ (lw_privs_2 ++ (lw_privs_3 ++ (lw_privs_4)))
def lw_tbl : List Cond := k2_sels lw_privs ++ tables_1
theorem lw_privs_ok : ∀ q ∈ lw_privs, lw_okq q := by
  show ∀ q ∈ lw_privs_1 ++ (lw_privs_2 ++ (lw_privs_3 ++ (lw_privs_4))), lw_okq q
  exact List.forall_mem_append.mpr ⟨lw_r1, List.forall_mem_append.mpr ⟨lw_r2, List.forall_mem_append.mpr ⟨lw_r3, lw_r4⟩⟩⟩
-- ===== end of PART A; then your names; then what follows =====
end
section
/-! ===== BEGIN words of one list among another's, by their places ===== -/
theorem goodIn_r {big : List Cond} (ws : List Cond) (ps : List Nat) (hp : ws = ps.filterMap (fun i => big[i]?)) (h : ws.all goodWord = true) : GoodIn big ws := by
  intro w hw
  have h1 := List.all_eq_true.mp h w hw
  rw [hp] at hw
  obtain ⟨i, -, hi⟩ := List.mem_filterMap.mp hw
  have hm : w ∈ big := by first | exact List.mem_of_getElem? hi | exact List.getElem?_mem hi
  exact ⟨hm, good_of_word h1⟩
theorem goodIn_app {big a b : List Cond} (ha : GoodIn big a) (hb : GoodIn big b) : GoodIn big (a ++ b) := fun w h => (List.mem_append.mp h).elim (ha w) (hb w)
theorem goodIn_ca {big a b : List Cond} {c : Cond} (ha : GoodIn big (c :: a)) (hb : GoodIn big b) : GoodIn big (c :: (a ++ b)) := fun w h => (List.mem_cons.mp h).elim (fun e => ha w (List.mem_cons.mpr (Or.inl e))) (fun h => (List.mem_append.mp h).elim (fun h => ha w (List.mem_cons.mpr (Or.inr h))) (hb w))
theorem goodIn_sub {big ws : List Cond} (hm : ∀ w ∈ ws, w ∈ big) (h : ws.all goodWord = true) : GoodIn big ws := fun w hw => ⟨hm w hw, good_of_word (List.all_eq_true.mp h w hw)⟩
/-! ===== END ===== -/

/-! words on arrays of arrays -/
def va_AOA (t : FieldType) (U : State) : Prop := (Cond.arrayOver (.array t)).before #[] U = true
theorem va_AOA.use {t : FieldType} {A : Array Value} {U : State} (h : va_AOA t U) : (Cond.arrayOver (.array t)).before A U = true := h
/-! ===== BEGIN new T[n][m]: the outer array a place, the inner ones among the pooled ===== -/
/-- f, but v at every address of l -/
def vr_up {α : Type} (f : Nat → α) (l : List Nat) (v : α) : Nat → α := fun a => if a ∈ l then v else f a
theorem vr_up_in {α : Type} {f : Nat → α} {l : List Nat} {v : α} {a : Nat} (h : a ∈ l) : vr_up f l v a = v := if_pos h
theorem vr_up_ne {α : Type} {f : Nat → α} {l : List Nat} {v : α} {a : Nat} (h : a ∉ l) : vr_up f l v a = f a := if_neg h
theorem vr_rows {L l : List Nat} {f : Nat → va_E} {e : va_E} (h : ∀ a, a ∈ l → a ∉ L) : va_pl L f ++ l.map (fun a => (a, e)) = va_pl (L ++ l) (vr_up f l e) := by
  unfold va_pl
  rw [List.map_append]
  congr 1
  · apply List.map_congr_left
    intro a ha
    rw [vr_up_ne (fun q => h a q ha)]
  · apply List.map_congr_left
    intro a ha
    rw [vr_up_in ha]
theorem vr_lay {X rows : va_W} {x : Nat × va_E} {pl : va_W} {D : va_G} {cl : List vw_C} {H : Heap} (hP : va_P D cl (((X ++ pl) ++ [x]) ++ rows) H) : va_P D cl ((X ++ [x]) ++ (pl ++ rows)) H := by
  rw [List.append_assoc (X ++ pl)] at hP
  have h := va_P.swap hP
  rw [← List.append_assoc X] at h
  have h2 := va_P.swap h
  rw [List.append_assoc (X ++ [x])] at h2
  exact h2
theorem vr_layD {X rows : va_W} {x : Nat × va_E} {pl : va_W} {A : Nat → Prop} (hD : va_D A (((X ++ pl) ++ [x]) ++ rows)) : va_D A ((X ++ [x]) ++ (pl ++ rows)) := by
  rw [List.append_assoc (X ++ pl)] at hD
  have h := va_D.swap hD
  rw [← List.append_assoc X] at h
  have h2 := va_D.swap h
  rw [List.append_assoc (X ++ [x])] at h2
  exact h2
theorem vr_outer (c : ClassId) (N h0 : Nat) : ∀ i : Nat, Jvm.Free.Multi.outerC c N h0 i = arrV c N (fun j => va_rf (if j < i then some (h0 + 1 + j) else none))
  | 0 => by
    show ({ cls := c, slots := Array.replicate N .null, vm := .none } : Cell) = _
    rw [arrV_new]
    refine congrArg (arrV c N) (funext fun j => ?_)
    simp [va_rf]
  | i + 1 => by
    show (Jvm.Free.Multi.outerC c N h0 i).setSlot i (.ref (h0 + 1 + i)) = _
    rw [vr_outer c N h0 i, arrV_store]
    refine congrArg (arrV c N) (funext fun j => ?_)
    by_cases e : j = i
    · subst e
      simp [updV, va_rf]
    · by_cases h : j < i
      · simp [updV, e, h, Nat.lt_succ_of_lt h]
      · simp [updV, e, h, show ¬ j < i + 1 by omega]
section VGM
variable {p : Program} {l : Launch} {e : Env} {R : Room} {s : State} {m : MethodId} {args : Array Value} {below : List Frame} {meth : Method} {c : Code} {H : Heap} {locs : List Loc} {cells slots : Nat} {Q : State → Prop}
variable {cc : ByteArray} {pc : Nat} {ls : Array Slot} {rest : List Value} {D : va_G} {cl : List vw_C} {A : Nat → Prop} {a : Nat} {tys : List (ClassId × FieldType)} {ws : va_W} {H0 : Heap}
theorem va_mna {X : va_W} {L : List Nat} {f : Nat → va_E} {cc : ByteArray} (hexec : p.tables.exec = Jvm.exec) (hb : c.code = cc) {own : String} {index : Nat} {ty : FieldType} {cy : ClassId} (hown : s.vm.findClass own = some m.cls) (hclink : (Cond.classLink own index ("[" ++ (FieldType.array ty).toString)).before args s = true) (hover : va_AOA ty s) (harr : (Cond.arrayClass ty).before args s = true) (hcy : s.vm.findClass (FieldType.array ty).toString = some cy)
    (hK : va_K D cl tys s) (hP : va_P D cl (X ++ va_pl L f) H) (hD : va_D A (X ++ va_pl L f)) (hS : va_S A H0 H locs) (hA : ∀ q, H0.size ≤ q → A q) {n k : Int32} {N' K' : Nat} {z : vp_A} (hn : ¬ n < 0) (hk : ¬ k < 0) (hN : n.toNatClampNeg = N') (hM : k.toNatClampNeg = K')
    (hb1 : N' * 4 ≤ 536870912) (hb2 : K' * componentBytes ty ≤ 536870912) (hb3 : K' ≤ 536870912) (hdf : fits ty (defaultValue ty) = true) (hdd : (defaultValue ty).isDefault = true) (hcells : cells + (1 + N') ≤ R.cells) (hslots : slots + (N' + N' * K') ≤ R.slots) (hz : ∀ c : ClassId, Jvm.Free.Multi.innerC c K' (defaultValue ty) = vp_cell c z) (hdg : decode cc pc = .ok (.multianewarray index 2, 4))
    (kk : ∀ (q : Nat) (r : Nat → Nat) (cA : ClassId) (H1 : Heap), (∀ i j : Nat, i < N' → j < N' → r i = r j → i = j) → (∀ i : Nat, i < N' → r i ∉ L) → va_K D cl (tys ++ [(cA, .array ty)]) s →
      va_P D cl ((X ++ [(q, .inl (cA, N', .inr (.inr (.inr (.inr (fun i => if i < N' then some (r i) else none))))))]) ++ va_pl (L ++ (List.range N').map r) (vr_up f ((List.range N').map r) (.inl (cy, z)))) H1 → va_D A ((X ++ [(q, .inl (cA, N', .inr (.inr (.inr (.inr (fun i => if i < N' then some (r i) else none))))))]) ++ va_pl (L ++ (List.range N').map r) (vr_up f ((List.range N').map r) (.inl (cy, z)))) → va_S A H0 H1 locs →
      W p l e R s m args below meth c H1 locs (cells + 1 + N') (slots + N' + N' * K') Q (F0 m (pc + 4) ls (.ref q :: rest))) : W p l e R s m args below meth c H locs cells slots Q (F0 m pc ls (.int k :: .int n :: rest)) := by
  subst hN
  subst hM
  intro T hT Xs
  obtain ⟨vm₁, cA, comp, -, fA, fC, hO, -, X', step⟩ := Xs.multianewarray2F hexec hown hclink (va_AOA.use hover) harr (g := F0 m pc ls (.int k :: .int n :: rest)) rfl (by rw [hb]; exact hdg) rfl hn hk hb1 hb2 hb3 hdf hdd hcells hslots
  have ec : some cy = some comp := hcy.symm.trans fC
  cases ec
  generalize hF : Jvm.Free.Multi.fill (T.setVm vm₁) cA cy n.toNatClampNeg k.toNatClampNeg (defaultValue ty) n.toNatClampNeg = F at X' step
  have hTh : (T.setVm vm₁).heap = H := hT
  obtain ⟨f1, f2, -, -⟩ := Jvm.Free.Multi.fill_facts (T.setVm vm₁) cA cy n.toNatClampNeg k.toNatClampNeg (defaultValue ty) n.toNatClampNeg
  rw [hF, hTh] at f1 f2
  have hold : ∀ x : Nat, x < H.size → F.heap[x]? = H[x]? := fun x hx => by
    have := Jvm.Free.Multi.fill_old (T.setVm vm₁) cA cy n.toNatClampNeg k.toNatClampNeg (defaultValue ty) (a := x) (by rw [hTh]; exact hx) n.toNatClampNeg
    rw [hF, hTh] at this
    exact this
  have hrow : ∀ j : Nat, j < n.toNatClampNeg → F.heap[H.size + 1 + j]? = some (vp_cell cy z) := fun j hj => by
    have := Jvm.Free.Multi.fill_inner (T.setVm vm₁) cA cy n.toNatClampNeg k.toNatClampNeg (defaultValue ty) n.toNatClampNeg j hj
    rw [hF, hTh, hz] at this
    exact this
  have hout : Jvm.Free.Multi.outerC cA n.toNatClampNeg H.size n.toNatClampNeg = vp_cell cA (n.toNatClampNeg, .inr (.inr (.inr (.inr (fun i => if i < n.toNatClampNeg then some (H.size + 1 + i) else none))))) := by
    rw [vp_cell_q]
    exact vr_outer cA n.toNatClampNeg H.size n.toNatClampNeg
  rw [hout] at f2
  have hlt : ∀ a, a ∈ L → a < H.size := fun a ha => by
    obtain ⟨k9, hk9⟩ := va_pl_get (X := X) (f := f) ha
    exact (hP k9 _ hk9).lt
  have hnl : ∀ i : Nat, i < n.toNatClampNeg → H.size + 1 + i ∉ L := fun i _ h => by
    have := hlt _ h
    omega
  have hnm : ∀ a, a ∈ (List.range n.toNatClampNeg).map (fun i => H.size + 1 + i) → a ∉ L := fun a ha h => by
    obtain ⟨i, -, rfl⟩ := List.mem_map.mp ha
    have := hlt _ h
    omega
  have hP0 : va_P D cl (X ++ va_pl L f) F.heap := hP.kept (fun k9 x hx => hold x.1 ((hP k9 x hx).lt))
  have hP1 : va_P D cl ((X ++ va_pl L f) ++ [(H.size, .inl (cA, n.toNatClampNeg, .inr (.inr (.inr (.inr (fun i => if i < n.toNatClampNeg then some (H.size + 1 + i) else none))))))]) F.heap := hP0.app (fun k9 x hx => by
    have h0 : k9 < 1 := (List.getElem?_eq_some_iff.mp hx).1
    rw [show k9 = 0 by omega] at hx
    cases hx
    exact f2)
  have hP2 : va_P D cl (((X ++ va_pl L f) ++ [(H.size, .inl (cA, n.toNatClampNeg, .inr (.inr (.inr (.inr (fun i => if i < n.toNatClampNeg then some (H.size + 1 + i) else none))))))]) ++ ((List.range n.toNatClampNeg).map (fun i => H.size + 1 + i)).map (fun a => (a, .inl (cy, z)))) F.heap := hP1.app (fun k9 x hx => by
    obtain ⟨a, ha, rfl⟩ := List.mem_map.mp (List.mem_of_getElem? hx)
    obtain ⟨i, hi, rfl⟩ := List.mem_map.mp ha
    exact hrow i (List.mem_range.mp hi))
  have hD2 : va_D A (((X ++ va_pl L f) ++ [(H.size, .inl (cA, n.toNatClampNeg, .inr (.inr (.inr (.inr (fun i => if i < n.toNatClampNeg then some (H.size + 1 + i) else none))))))]) ++ ((List.range n.toNatClampNeg).map (fun i => H.size + 1 + i)).map (fun a => (a, .inl (cy, z)))) := by
    have hD1 := hD.push (e := .inl (cA, n.toNatClampNeg, .inr (.inr (.inr (.inr (fun i => if i < n.toNatClampNeg then some (H.size + 1 + i) else none)))))) hP rfl (hA _ hS.1)
    generalize hW1 : (X ++ va_pl L f) ++ [(H.size, .inl (cA, n.toNatClampNeg, .inr (.inr (.inr (.inr (fun i => if i < n.toNatClampNeg then some (H.size + 1 + i) else none))))))] = W1 at hD1 hP1 ⊢
    have hle : ∀ (k9 : Nat) (x : Nat × va_E), W1[k9]? = some x → x.1 ≤ H.size := fun k9 x hx => by
      rw [← hW1] at hx
      by_cases hl : k9 < (X ++ va_pl L f).length
      · rw [List.getElem?_append_left hl] at hx
        exact Nat.le_of_lt ((hP k9 x hx).lt)
      · rw [List.getElem?_append_right (by omega)] at hx
        have h0 : k9 - (X ++ va_pl L f).length < 1 := (List.getElem?_eq_some_iff.mp hx).1
        rw [show k9 - (X ++ va_pl L f).length = 0 by omega] at hx
        cases hx
        exact Nat.le_refl _
    have hr : ∀ (k9 : Nat) (x : Nat × va_E), (((List.range n.toNatClampNeg).map (fun i => H.size + 1 + i)).map (fun a => ((a, .inl (cy, z)) : Nat × va_E)))[k9]? = some x → x.1 = H.size + 1 + k9 := fun k9 x hx => by
      rw [List.getElem?_map, List.getElem?_map] at hx
      by_cases h9 : k9 < n.toNatClampNeg
      · rw [List.getElem?_range h9] at hx
        cases hx
        rfl
      · have hn0 : (List.range n.toNatClampNeg)[k9]? = none := List.getElem?_eq_none (by rw [List.length_range]; omega)
        rw [hn0] at hx
        cases hx
    refine ⟨fun i j x y hi hj hxy => ?_, fun k9 x hx => ?_⟩
    · by_cases h1 : i < W1.length <;> by_cases h2 : j < W1.length
      · rw [List.getElem?_append_left h1] at hi
        rw [List.getElem?_append_left h2] at hj
        exact hD1.1 i j x y hi hj hxy
      · rw [List.getElem?_append_left h1] at hi
        rw [List.getElem?_append_right (by omega)] at hj
        have := hle _ _ hi
        have := hr _ _ hj
        omega
      · rw [List.getElem?_append_right (by omega)] at hi
        rw [List.getElem?_append_left h2] at hj
        have := hle _ _ hj
        have := hr _ _ hi
        omega
      · rw [List.getElem?_append_right (by omega)] at hi hj
        have := hr _ _ hi
        have := hr _ _ hj
        omega
    · by_cases h1 : k9 < W1.length
      · rw [List.getElem?_append_left h1] at hx
        exact hD1.2 k9 x hx
      · rw [List.getElem?_append_right (by omega)] at hx
        have := hr _ _ hx
        exact hA _ (by have := hS.1; omega)
  have hAr : ArrOfT s cA (.array ty) := fun N9 z9 => by
    obtain ⟨-, k9, hk9, cm9, hkk9⟩ := (hO 0 0 0).1
    exact ⟨(fun q hq => by cases hq), k9, hk9, cm9, hkk9⟩
  have hK2 : va_K D cl (tys ++ [(cA, .array ty)]) s := ⟨hK.1, fun k9 x hx => by
    by_cases hl : k9 < tys.length
    · rw [List.getElem?_append_left hl] at hx
      exact hK.2 k9 x hx
    · rw [List.getElem?_append_right (by omega)] at hx
      have h0 : k9 - tys.length < 1 := (List.getElem?_eq_some_iff.mp hx).1
      rw [show k9 - tys.length = 0 by omega] at hx
      cases hx
      exact ⟨hAr, fA⟩⟩
  obtain ⟨t, a1, b1⟩ := kk H.size (fun i => H.size + 1 + i) cA F.heap (fun i j _ _ h => by have h9 : H.size + 1 + i = H.size + 1 + j := h; omega) hnl hK2 (by rw [← vr_rows hnm]; exact vr_lay hP2) (by rw [← vr_rows hnm]; exact vr_layD hD2) ⟨by rw [f1]; have := hS.1; omega, fun x h1 h2 => (hold x (Nat.lt_of_lt_of_le h1 hS.1)).trans (hS.2.1 x h1 h2), hS.2.2⟩ F rfl X'
  refine ⟨t, step t ?_, b1⟩
  have e : T.heap.size = H.size := by rw [hT]
  rw [e]
  exact a1
end VGM
/-! ===== END ===== -/

/-! ===== BEGIN exceptions that leave a method, and their catching by the caller (launches without stack traces) ===== -/
section VXA
/-! The laws vx_back, vx_callV, vx_callS, vx_callSW, vx_throw0, vx_throwS follow proofs of the library, with one case more: JvmDerived/Free/Laws.lean (Back.of_free), Shelf42/LK1.lean (callV, callS), Shelf/KitTraced.lean (throwNew0V, throwNewS). -/
/-- where a method has thrown q: the class by its name, the cell, what was written, the world -/
def vx_T (XC : String → State → State → Prop) (st : State) (q : Addr) (t : State) (mc ms : Nat) (free : Addr → Prop) : Prop :=
  ∃ (E : String) (ce : Cell) (L : List Loc), XC E st t ∧ t.heap[q]? = some ce ∧ ce.vm = .none ∧ st.vm.findClass E = some ce.cls ∧ st.WarmedH t.vm ∧ st.sameButNew ({ t with vm := st.vm } : State) L mc ms ∧ ∀ z ∈ L, free z.base
def vx_Q (Qc : Array Value → State → Outcome → State → Prop) (XC : String → State → State → Prop) (mc ms : Nat) (free : Addr → Prop) : Array Value → State → Outcome → State → Prop := fun a st o t =>
  (Qc a st o t ∧ ∃ L, FrameEnd st o t L mc ms ∧ ∀ q ∈ L, free q.base) ∨ ∃ q, o = .threw q ∧ vx_T XC st q t mc ms free
/-- a callee that returns or throws -/
def vx_Met (l : Launch) (y : MethodName) (ws : List Cond) (rm : Room) (Pc : Array Value → State → Prop) (Qc : Array Value → State → Outcome → State → Prop) (XC : String → State → State → Prop) (mc ms : Nat) (free : Addr → Prop) : Prop :=
  MetFree l y (headSpec ws rm) Pc (fun _ _ _ _ _ => True) (vx_Q Qc XC mc ms free)
def vx_Post (XC : String → State → State → Prop) (mc ms : Nat) (free : Addr → Prop) : Pt → Array Value → Addr → Pt → Prop := fun A a q B =>
  ∃ (g : JFrame) (mk : MethodId) (t : State) (L : List Loc) (E : String) (ce : Cell), B.U.heap = t.heap ∧ B.U.vm = t.vm ∧ XC E (A.U.calling g mk a) t ∧ t.heap[q]? = some ce ∧ ce.vm = .none ∧ A.U.vm.findClass E = some ce.cls ∧ B.locs = A.locs ++ L ∧ (∀ z ∈ L, free z.base) ∧ B.cells = A.cells + mc ∧ B.slots = A.slots + ms
def vx_Back (l : Launch) (R : Room) (p : Program) (e : Env) (below : List Frame) (s : State) (sargs : Array Value) (y : MethodName) (len W9 : Nat)
    (Pre : Pt → Array Value → Prop) (Post : Pt → Array Value → Option Value → Pt → Prop) (PostX : Pt → Array Value → Addr → Pt → Prop) : Prop :=
  ∀ (m : MethodId) (meth : Method) (c : Code) (A : Pt) (g : JFrame) (ig : Instr) (mk : MethodId) (a : Array Value),
    Stand p l e R s m sargs below meth c A.U A.locs A.cells A.slots → g.method = m → g.locals.size = c.maxLocals → decode c.code g.pc = .ok (ig, len) →
    2 * g.monitorRoom + (g.stack.map fun v => v.category).sum ≤ W9 → A.U.methodNamed? y = some mk → Pre A a →
    (∃ (v : Option Value) (B : Pt), Stand p l e R s m sargs below meth c B.U B.locs B.cells B.slots ∧ Post A a v B ∧
      Steps p.tables e below (doInvoke e (A.U.setTop g) [] mk a).1 (B.U.setTop { g with pc := g.pc + len, stack := v.toList ++ g.stack })) ∨
    (∃ (q : Addr) (B : Pt), Stand p l e R s m sargs below meth c B.U B.locs B.cells B.slots ∧ PostX A a q B ∧
      Steps p.tables e below (doInvoke e (A.U.setTop g) [] mk a).1 ((B.U.setTop g).pushFrame (.throwing q)))
section Payer
variable {l : Launch} {R : Room} {p : Program} {e : Env} {below : List Frame} {s : State} {sargs : Array Value} {y : MethodName} {len W9 : Nat}
theorem vx_back {ws : List Cond} {rm : Room} {Pc : Array Value → State → Prop} {Qc : Array Value → State → Outcome → State → Prop} {XC : String → State → State → Prop} {mc ms : Nat} {free : Addr → Prop} {bytes : ByteArray} {maxL : Nat} {ret : Option FieldType}
    (hM : vx_Met l y ws rm Pc Qc XC mc ms free) (hblind : FrameBlind Pc) (hrc : rm.cells = mc) (hrs : rm.slots = ms)
    (hframes : rm.frames + 1 ≤ R.frames) (hlocals : W9 + (maxL + 11) + rm.locals ≤ R.locals)
    (hws : ∀ w ∈ ws, ∀ a' U, s.WarmedH U.vm → w.before a' U = true) (hcode : Cond.code y bytes maxL ret ∈ ws) (hinit : ∀ a' U, s.WarmedH U.vm → (Cond.initialized y.cls).before a' U = true) :
    vx_Back l R p e below s sargs y len W9 (PreOf R mc ms Pc) (PostOf Qc mc ms free) (vx_Post XC mc ms free) := by
  intro m meth c A g ig mk a X hg hsize hdg hW hn hp
  have h1 : (headSpec ws rm).pre.before a A.U = true := atoms_intro fun w hw => hws w hw _ _ X.warmed
  have h2 : (Cond.code y bytes maxL ret).before a A.U = true := hws _ hcode _ _ X.warmed
  have h3 : (Cond.initialized y.cls).before a A.U = true := hinit _ _ X.warmed
  have h4 : A.cells + (headSpec ws rm).room.cells ≤ R.cells := by rw [show (headSpec ws rm).room.cells = mc from hrc]; exact hp.1
  have h5 : A.slots + (headSpec ws rm).room.slots ≤ R.slots := by rw [show (headSpec ws rm).room.slots = ms from hrs]; exact hp.2.1
  have hPc : Pc a (A.U.calling g mk a) := hblind _ _ _ _ hp.2.2
  obtain ⟨U, Ls, c0, s0⟩ := A
  dsimp only [Pt.U, Pt.locs, Pt.cells, Pt.slots] at h1 h2 h3 h4 h5 X hn hPc ⊢
  obtain ⟨methY, cY, hmY, hcY, -, hlY, -, -, -, -⟩ := Cond.code_spec hn h2
  obtain ⟨kY, hkY, -⟩ := className_of_methodNamed hn
  have hinitY : kY.init = .initialized := Cond.initialized_spec (findClass_of_methodNamed hn) hkY h3
  have h : At U g.method c below := by rw [hg]; exact X.here
  have hlocals9 : W9 + (maxL + 11) + (headSpec ws rm).room.locals ≤ R.locals := hlocals
  have happ : (headSpec ws rm).appliesLoose y e.platform (U.calling g mk a) = true :=
    Spec.appliesLoose_calling (g := g) h hdg hn hkY hinitY
      (X.room_calling (g := g) (R' := (headSpec ws rm).room) hsize hmY hcY hframes (by rw [hlY]; omega) h4 h5) h1
  obtain ⟨mid, hmid⟩ := h.above
  have hfr : (U.setTop g).frames = (.java g :: mid) ++ below := by rw [State.frames_setTop' g h.top, hmid]; rfl
  obtain ⟨o, s₂, hsteps, -, hend, hq⟩ := Steps.callFree hM p X.admits X.cas X.clock (acts := []) hfr happ hPc trivial
  have hq' : vx_Q Qc XC mc ms free a (U.calling g mk a) o s₂ := hq
  rw [State.frames_setTop' g h.top] at hend
  obtain ⟨g₀, hg0⟩ := Option.isSome_iff_exists.mp h.top
  obtain ⟨r, hr⟩ := State.topJava?_eq_some.mp hg0
  have hr' : (({ U with heap := s₂.heap, slotsUsed := s₂.slotsUsed } : State).setVm s₂.vm).frames = .java g₀ :: r := hr
  rcases hq' with ⟨hqc, L, hfe, hL⟩ | ⟨q, rfl, E, ce, L, hx, hce, hcv, hcl, hW₂, hsm, hL⟩
  · obtain ⟨⟨v, rfl⟩, hW₂, e2, q2, q3, q4, q5, q6⟩ := id hfe
    have e3 : s₂ = ({ (U.calling g mk a).setFrames s₂.frames with heap := s₂.heap, slotsUsed := s₂.slotsUsed } : State).setVm s₂.vm := by
      have : s₂ = ({ s₂ with vm := (U.calling g mk a).vm } : State).setVm s₂.vm := rfl
      rw [e2] at this
      exact this
    obtain ⟨c₂, i₂, len₂, hc₂, hd₂, hf₂⟩ := hend
    have hW' : U.WarmedH s₂.vm := hW₂
    have hcc : c₂ = c := by
      have h1 : s₂.code? g.method = U.code? g.method := by
        rw [State.code?_eq, State.code?_eq, hW'.alike.method?]
      exact Option.some.inj (hc₂.symm.trans (h1.trans h.code))
    subst hcc
    have hlen : len₂ = len := by rw [hdg] at hd₂; cases hd₂; rfl
    subst hlen
    have hs₂ : s₂ = (({ U with heap := s₂.heap, slotsUsed := s₂.slotsUsed } : State).setVm s₂.vm).setTop { g with pc := g.pc + len₂, stack := v.toList ++ g.stack } := by
      refine e3.trans ?_
      rw [hf₂, State.calling_eq h.top, State.setFrames_setFrames, State.setTop_of_frames _ hr', hr]
      rfl
    have hsame : U.sameButNew ({ U with heap := s₂.heap, slotsUsed := s₂.slotsUsed } : State) L mc ms := by
      refine ⟨?_, q2, q3, q4, q5, q6⟩
      obtain ⟨t, ht, -⟩ := State.frames_cons hr
      show ({ U with heap := s₂.heap, slotsUsed := s₂.slotsUsed } : State) = { U.setFrames U.frames with heap := s₂.heap, slotsUsed := s₂.slotsUsed }
      rw [State.setFrames_self ht]
    subst hg
    refine Or.inl ⟨v, ⟨(({ U with heap := s₂.heap, slotsUsed := s₂.slotsUsed } : State).setVm s₂.vm), Ls ++ L, c0 + mc, s0 + ms⟩,
      ⟨X.admits, X.cas, X.clock, X.frames, X.room, X.hears, X.method, X.code, (X.here.setHeapUsed s₂.heap s₂.slotsUsed).setVm hW'.alike, X.tail, State.WarmedH.trans X.warmed hW', X.limits, X.bytes, X.same.trans (hsame.setVm s.vm)⟩,
      ⟨g, mk, s₂, L, rfl, rfl, hqc, rfl, hL, rfl, rfl⟩, ?_⟩
    show Steps p.tables e below _ ((({ U with heap := s₂.heap, slotsUsed := s₂.slotsUsed } : State).setVm s₂.vm).setTop { g with pc := g.pc + len₂, stack := v.toList ++ g.stack })
    rw [← hs₂]
    exact hsteps
  · obtain ⟨e2, q2, q3, q4, q5, q6⟩ := id hsm
    have e3 : s₂ = ({ (U.calling g mk a).setFrames s₂.frames with heap := s₂.heap, slotsUsed := s₂.slotsUsed } : State).setVm s₂.vm := by
      have : s₂ = ({ s₂ with vm := (U.calling g mk a).vm } : State).setVm s₂.vm := rfl
      rw [e2] at this
      exact this
    have hf₂ : s₂.frames = .throwing q :: .java g :: U.frames.tail := hend
    have hW' : U.WarmedH s₂.vm := hW₂
    have hs₂ : s₂ = ((({ U with heap := s₂.heap, slotsUsed := s₂.slotsUsed } : State).setVm s₂.vm).setTop g).pushFrame (.throwing q) := by
      refine e3.trans ?_
      rw [hf₂, State.calling_eq h.top, State.setFrames_setFrames, State.pushFrame, State.frames_setTop _ hr', State.setTop_of_frames _ hr', State.setFrames_setFrames, hr]
      rfl
    have hsame : U.sameButNew ({ U with heap := s₂.heap, slotsUsed := s₂.slotsUsed } : State) L mc ms := by
      refine ⟨?_, q2, q3, q4, q5, q6⟩
      obtain ⟨t, ht, -⟩ := State.frames_cons hr
      show ({ U with heap := s₂.heap, slotsUsed := s₂.slotsUsed } : State) = { U.setFrames U.frames with heap := s₂.heap, slotsUsed := s₂.slotsUsed }
      rw [State.setFrames_self ht]
    subst hg
    refine Or.inr ⟨q, ⟨(({ U with heap := s₂.heap, slotsUsed := s₂.slotsUsed } : State).setVm s₂.vm), Ls ++ L, c0 + mc, s0 + ms⟩,
      ⟨X.admits, X.cas, X.clock, X.frames, X.room, X.hears, X.method, X.code, (X.here.setHeapUsed s₂.heap s₂.slotsUsed).setVm hW'.alike, X.tail, State.WarmedH.trans X.warmed hW', X.limits, X.bytes, X.same.trans (hsame.setVm s.vm)⟩,
      ⟨g, mk, s₂, L, E, ce, rfl, rfl, hx, hce, hcv, hcl, rfl, hL, rfl, rfl⟩, ?_⟩
    show Steps p.tables e below _ (((({ U with heap := s₂.heap, slotsUsed := s₂.slotsUsed } : State).setVm s₂.vm).setTop g).pushFrame (.throwing q))
    rw [← hs₂]
    exact hsteps
end Payer
section Calls
variable {p : Program} {l : Launch} {e : Env} {R : Room} {s : State} {m : MethodId} {args : Array Value} {below : List Frame} {meth : Method} {c : Code} {T : State} {locs : List Loc} {cells slots : Nat}
theorem vx_callV (X : Stand p l e R s m args below meth c T locs cells slots) (hexec : p.tables.exec = Jvm.exec) {own C : String} {index : Nat} {y : MethodName} {bytes : ByteArray} {maxL : Nat} {ret : Option FieldType}
    (hown : s.vm.findClass own = some m.cls) (hlink : (Cond.methodLink own index y).before args s = true) (hinst : (Cond.instanceMethod y).before args s = true) (hsel : (Cond.selects C y y).before args s = true)
    (hcode : (Cond.code y bytes maxL ret).before args s = true) (hy : y.cls ≠ "java/lang/invoke/MethodHandle" ∧ y.cls ≠ "java/lang/invoke/VarHandle")
    {W9 : Nat} {Pre : Pt → Array Value → Prop} {Post : Pt → Array Value → Option Value → Pt → Prop} {PostX : Pt → Array Value → Addr → Pt → Prop} (hK : vx_Back l R p e below s args y 3 W9 Pre Post PostX)
    {b : Addr} {cellB : Cell} (hcell : T.heap[b]? = some cellB) (hobj : cellB.vm.isStatics = false) (hcls : s.vm.findClass C = some cellB.cls)
    {g : JFrame} (hg : g.method = m) (hsize : g.locals.size = c.maxLocals) {argsL rest : List Value} (hlen : ∀ sig, parseMethodDescriptor y.desc = some sig → argsL.length = sig.parameters.length)
    (hstack : g.stack = argsL.reverse ++ .ref b :: rest) (hW : 2 * g.monitorRoom + (rest.map fun v => v.category).sum ≤ W9) (hdg : decode c.code g.pc = .ok (.invokevirtual index, 3))
    (hpre : ∀ vm₁, s.WarmedH vm₁ → Pre ⟨T.setVm vm₁, locs, cells, slots⟩ (Value.ref b :: argsL).toArray) :
    (∃ (v : Option Value) (vm₁ : Vm) (B : Pt), s.WarmedH vm₁ ∧ Stand p l e R s m args below meth c B.U B.locs B.cells B.slots ∧ Post ⟨T.setVm vm₁, locs, cells, slots⟩ (Value.ref b :: argsL).toArray v B ∧
      ∀ target, Steps p.tables e below (B.U.setTop { g with pc := g.pc + 3, stack := v.toList ++ rest }) target → Steps p.tables e below (T.setTop g) target) ∨
    (∃ (q : Addr) (vm₁ : Vm) (B : Pt), s.WarmedH vm₁ ∧ Stand p l e R s m args below meth c B.U B.locs B.cells B.slots ∧ PostX ⟨T.setVm vm₁, locs, cells, slots⟩ (Value.ref b :: argsL).toArray q B ∧
      Steps p.tables e below (T.setTop g) ((B.U.setTop { g with stack := rest }).pushFrame (.throwing q))) := by
  obtain ⟨mk, methM, hnamed, hmethM, hstM, habM⟩ := Cond.instanceMethod_spec hinst
  obtain ⟨methM', cM, hmethM', -, -, -, -, -, -, hsigM⟩ := Cond.code_spec hnamed hcode
  cases hmethM.symm.trans hmethM'
  obtain ⟨c2, r2, m2, q1, q2, q3, q4, kP, hkP, hkPi⟩ := Cond.selects_spec hsel
  cases hcls.symm.trans q1
  cases (State.methodFound?_of_named hnamed hy).symm.trans q2
  cases hnamed.symm.trans q3
  have hselP : selectMethod e.platform s.vm cellB.cls mk = .method mk := by rw [Launch.admits_selectMethod X.admits]; exact q4
  obtain ⟨vm₁, X₁, hstep₁⟩ := X.invokevirtual hexec hown hlink hnamed hmethM hstM hkP hkPi hy (a := b) (cell := cellB) hcell
    (fun z h => by rw [h] at hobj; cases hobj) hselP hmethM habM hkP hkPi (g := g) hg (argsL := argsL) (rest := rest) (hlen _ hsigM) hstack hdg
  rcases hK m meth c ⟨T.setVm vm₁, locs, cells, slots⟩ { g with stack := rest } (.invokevirtual index) mk (Value.ref b :: argsL).toArray X₁ hg hsize hdg hW (X₁.named hnamed) (hpre vm₁ X₁.warmed) with ⟨v, B, X', hpost, hsteps⟩ | ⟨q, B, X', hpost, hsteps⟩
  · exact Or.inl ⟨v, vm₁, B, X₁.warmed, X', hpost, fun target h => hstep₁ _ fun acts => by rw [doInvoke_state]; exact hsteps.trans h⟩
  · exact Or.inr ⟨q, vm₁, B, X₁.warmed, X', hpost, hstep₁ _ fun acts => by rw [doInvoke_state]; exact hsteps⟩
theorem vx_callS (X : Stand p l e R s m args below meth c T locs cells slots) (hexec : p.tables.exec = Jvm.exec) {own : String} {index : Nat} {y : MethodName} {bytes : ByteArray} {maxL : Nat} {ret : Option FieldType}
    (hown : s.vm.findClass own = some m.cls) (hlink : (Cond.methodLink own index y).before args s = true) (hstat : (Cond.static y).before args s = true) (hinit : (Cond.initialized y.cls).before args s = true)
    (hcode : (Cond.code y bytes maxL ret).before args s = true) (hy : y.cls ≠ "java/lang/invoke/MethodHandle" ∧ y.cls ≠ "java/lang/invoke/VarHandle")
    {W9 : Nat} {Pre : Pt → Array Value → Prop} {Post : Pt → Array Value → Option Value → Pt → Prop} {PostX : Pt → Array Value → Addr → Pt → Prop} (hK : vx_Back l R p e below s args y 3 W9 Pre Post PostX)
    {g : JFrame} (hg : g.method = m) (hsize : g.locals.size = c.maxLocals) {argsL rest : List Value} (hlen : ∀ sig, parseMethodDescriptor y.desc = some sig → argsL.length = sig.parameters.length)
    (hstack : g.stack = argsL.reverse ++ rest) (hW : 2 * g.monitorRoom + (rest.map fun v => v.category).sum ≤ W9) (hdg : decode c.code g.pc = .ok (.invokestatic index, 3))
    (hpre : ∀ vm₁, s.WarmedH vm₁ → Pre ⟨T.setVm vm₁, locs, cells, slots⟩ argsL.toArray) :
    (∃ (v : Option Value) (vm₁ : Vm) (B : Pt), s.WarmedH vm₁ ∧ Stand p l e R s m args below meth c B.U B.locs B.cells B.slots ∧ Post ⟨T.setVm vm₁, locs, cells, slots⟩ argsL.toArray v B ∧
      ∀ target, Steps p.tables e below (B.U.setTop { g with pc := g.pc + 3, stack := v.toList ++ rest }) target → Steps p.tables e below (T.setTop g) target) ∨
    (∃ (q : Addr) (vm₁ : Vm) (B : Pt), s.WarmedH vm₁ ∧ Stand p l e R s m args below meth c B.U B.locs B.cells B.slots ∧ PostX ⟨T.setVm vm₁, locs, cells, slots⟩ argsL.toArray q B ∧
      Steps p.tables e below (T.setTop g) ((B.U.setTop { g with stack := rest }).pushFrame (.throwing q))) := by
  obtain ⟨mk, hnamed⟩ := Cond.code_named hcode
  obtain ⟨methM, cM, hmethM, -, -, -, -, -, -, hsigM⟩ := Cond.code_spec hnamed hcode
  have hstatic : methM.isStatic = true := Cond.static_spec hnamed hmethM hstat
  obtain ⟨kP, hkP, -⟩ := className_of_methodNamed hnamed
  have hinitP : kP.init = .initialized := Cond.initialized_spec (findClass_of_methodNamed hnamed) hkP hinit
  obtain ⟨vm₁, X₁, hstep₁⟩ := X.invokestatic hexec hown hlink hnamed hmethM hstatic hkP hinitP hy (g := g) hg (argsL := argsL) (rest := rest) (hlen _ hsigM) hstack hdg
  rcases hK m meth c ⟨T.setVm vm₁, locs, cells, slots⟩ { g with stack := rest } (.invokestatic index) mk argsL.toArray X₁ hg hsize hdg hW (X₁.named hnamed) (hpre vm₁ X₁.warmed) with ⟨v, B, X', hpost, hsteps⟩ | ⟨q, B, X', hpost, hsteps⟩
  · exact Or.inl ⟨v, vm₁, B, X₁.warmed, X', hpost, fun target h => hstep₁ _ fun acts => by rw [doInvoke_state]; exact hsteps.trans h⟩
  · exact Or.inr ⟨q, vm₁, B, X₁.warmed, X', hpost, hstep₁ _ fun acts => by rw [doInvoke_state]; exact hsteps⟩
end Calls
theorem vx_cls {s : State} {T : State} {vm₁ : Vm} {E : String} {k : ClassId} (hW : s.WarmedH vm₁) (h : (T.setVm vm₁).vm.findClass E = some k) : s.vm.findClass E = some k := by
  have h1 : vm₁.findClass E = some k := h
  rw [hW.alike.findClass] at h1
  exact h1
/-- the method's frame g, with q thrown over it -/
def vx_W (p : Program) (l : Launch) (e : Env) (R : Room) (s : State) (m : MethodId) (args : Array Value) (below : List Frame) (meth : Method) (c : Code) (H : Heap) (locs : List Loc) (cells slots : Nat) (Q : State → Prop) (g : JFrame) (q : Addr) : Prop :=
  ∀ T : State, T.heap = H → Stand p l e R s m args below meth c T locs cells slots → ∃ t, Steps p.tables e below ((T.setTop g).pushFrame (.throwing q)) t ∧ Q t
def vx_Run (p : Program) (l : Launch) (e : Env) (R : Room) (s : State) (m : MethodId) (args : Array Value) (below : List Frame) (meth : Method) (c : Code) (H : Heap) (locs : List Loc) (cells slots mc ms : Nat) (g : JFrame) (rest : List Value) (Qa : State → Outcome → State → Prop) (XC : String → State → State → Prop) (free : Addr → Prop) : Prop :=
  ∀ T : State, T.heap = H → Stand p l e R s m args below meth c T locs cells slots →
    (∃ (v : Option Value) (st₀ t T' : State) (L : List Loc), st₀.heap = H ∧ Stand p l e R s m args below meth c T' (locs ++ L) (cells + mc) (slots + ms) ∧ (∀ q ∈ L, free q.base) ∧ T'.heap = t.heap ∧ T'.vm = t.vm ∧ Qa st₀ (.returned v) t ∧
      Goes p e below T g T' { g with pc := g.pc + 3, stack := v.toList ++ rest }) ∨
    (∃ (q : Addr) (st₀ t T' : State) (L : List Loc) (E : String) (ce : Cell), st₀.heap = H ∧ Stand p l e R s m args below meth c T' (locs ++ L) (cells + mc) (slots + ms) ∧ (∀ z ∈ L, free z.base) ∧ T'.heap = t.heap ∧ T'.vm = t.vm ∧ XC E st₀ t ∧ t.heap[q]? = some ce ∧ ce.vm = .none ∧ s.vm.findClass E = some ce.cls ∧
      Steps p.tables e below (T.setTop g) ((T'.setTop { g with stack := rest }).pushFrame (.throwing q)))
def vx_X {S : Type} (px : S → Prop) (B : String → S → State → Prop) (A : Nat → Prop) : String → State → State → Prop := fun E st t => ∃ u : S, px u ∧ B E u t ∧ va_F A st t
section Runs
variable {p : Program} {l : Launch} {e : Env} {R : Room} {s : State} {m : MethodId} {args : Array Value} {below : List Frame} {meth : Method} {c : Code} {H : Heap} {locs : List Loc} {cells slots : Nat}
variable {y : MethodName} {bytes cc : ByteArray} {maxL nL mc ms n index : Nat} {ret : Option FieldType} {ws : List Cond} {rm : Room} {Pc : Array Value → State → Prop} {Qc : Array Value → State → Outcome → State → Prop} {XC : String → State → State → Prop} {free : Addr → Prop} {Ts : List Cond} {own C : String} {b : Addr} {As rest : List Value} {g : JFrame}
theorem vx_callBack (cb : CallB R s args own index y bytes maxL ret ws rm mc ms n) (hM : vx_Met l y ws rm Pc Qc XC mc ms free) (hbl : FrameBlind Pc) : vx_Back l R p e below s args y 3 8 (PreOf R mc ms Pc) (PostOf Qc mc ms free) (vx_Post XC mc ms free) := by
  obtain ⟨hrc, hrs, hfr, hlo, hws, hcw, -, hini, -⟩ := cb
  exact vx_back (bytes := bytes) (maxL := maxL) (ret := ret) hM hbl hrc hrs hfr hlo hws hcw (fun a' U hW => word_at hW (Or.inl (by first | rfl | simp [Cond.onTables, Cond.keeps, Cond.steady])) hini)
theorem vx_runV (S : CallFix p m c cc nL s args Ts own) (hM : vx_Met l y ws rm Pc Qc XC mc ms free) (cw : CallW R s args own C index y bytes maxL ret ws rm mc ms n) (hp : PreV s H C b Pc As)
    (hg : g.method = m) (hn : As.length = n) (hsize : g.locals.size = nL) (hstack : g.stack = As.reverse ++ .ref b :: rest) (hW : 2 * g.monitorRoom + (rest.map fun v => v.category).sum ≤ 8) (hdg : decode cc g.pc = .ok (.invokevirtual index, 3)) (hf : cells + mc ≤ R.cells ∧ slots + ms ≤ R.slots) :
    vx_Run p l e R s m args below meth c H locs cells slots mc ms g rest (Qc (Value.ref b :: As).toArray) XC free := by
  have hK : vx_Back l R p e below s args y 3 8 (PreOf R mc ms Pc) (PostOf Qc mc ms free) (vx_Post XC mc ms free) := vx_callBack cw.1 hM hp.1
  obtain ⟨⟨-, -, -, -, -, -, hcode, -, hy, hlen, hl⟩, hin, hse⟩ := cw
  obtain ⟨hx, hb, hml, ho, -⟩ := S
  obtain ⟨-, ⟨cellB, hcB, hoB, hclB⟩, hPc⟩ := hp
  intro T hT X
  rcases vx_callV X hx (C := C) (bytes := bytes) (maxL := maxL) (ret := ret) ho hl hin hse hcode hy hK (by rw [hT]; exact hcB) hoB hclB hg (hsize.trans hml.symm) (argsL := As) (rest := rest) (fun sig h => hn.trans (hlen sig h)) hstack hW (by rw [hb]; exact hdg)
    (fun vm₁ hW₁ => ⟨hf.1, hf.2, hPc (T.setVm vm₁) hT hW₁⟩) with ⟨v, vm₁, ⟨U', l2, c2, s2⟩, hW₁, X', ⟨g', mk, t, L, e1, e2, hq, h1, hL, h2, h3⟩, st⟩ | ⟨q, vm₁, ⟨U', l2, c2, s2⟩, hW₁, X', ⟨g', mk, t, L, E, ce, e1, e2, hq, hce, hcv, hcl, h1, hL, h2, h3⟩, st⟩
  · dsimp only [Pt.U, Pt.locs, Pt.cells, Pt.slots] at X' e1 e2 h1 h2 h3 st
    subst h1; subst h2; subst h3
    exact Or.inl ⟨v, (T.setVm vm₁).calling g' mk (Value.ref b :: As).toArray, t, U', L, hT, X', hL, e1, e2, hq, st⟩
  · dsimp only [Pt.U, Pt.locs, Pt.cells, Pt.slots] at X' e1 e2 h1 h2 h3 st hcl
    subst h1; subst h2; subst h3
    exact Or.inr ⟨q, (T.setVm vm₁).calling g' mk (Value.ref b :: As).toArray, t, U', L, E, ce, hT, X', hL, e1, e2, hq, hce, hcv, vx_cls hW₁ hcl, st⟩
theorem vx_runS (S : CallFix p m c cc nL s args Ts own) (hM : vx_Met l y ws rm Pc Qc XC mc ms free) (cw : CallB R s args own index y bytes maxL ret ws rm mc ms n ∧ (Cond.static y).before args s = true) (hp : PreS s H Pc As)
    (hg : g.method = m) (hn : As.length = n) (hsize : g.locals.size = nL) (hstack : g.stack = As.reverse ++ rest) (hW : 2 * g.monitorRoom + (rest.map fun v => v.category).sum ≤ 8) (hdg : decode cc g.pc = .ok (.invokestatic index, 3)) (hf : cells + mc ≤ R.cells ∧ slots + ms ≤ R.slots) :
    vx_Run p l e R s m args below meth c H locs cells slots mc ms g rest (Qc As.toArray) XC free := by
  have hK : vx_Back l R p e below s args y 3 8 (PreOf R mc ms Pc) (PostOf Qc mc ms free) (vx_Post XC mc ms free) := vx_callBack cw.1 hM hp.1
  obtain ⟨⟨-, -, -, -, -, -, hcode, hini, hy, hlen, hl⟩, hstt⟩ := cw
  obtain ⟨hx, hb, hml, ho, -⟩ := S
  intro T hT X
  rcases vx_callS X hx (bytes := bytes) (maxL := maxL) (ret := ret) ho hl hstt hini hcode hy hK hg (hsize.trans hml.symm) (argsL := As) (rest := rest) (fun sig h => hn.trans (hlen sig h)) hstack hW (by rw [hb]; exact hdg)
    (fun vm₁ hW₁ => ⟨hf.1, hf.2, hp.2 (T.setVm vm₁) hT hW₁⟩) with ⟨v, vm₁, ⟨U', l2, c2, s2⟩, hW₁, X', ⟨g', mk, t, L, e1, e2, hq, h1, hL, h2, h3⟩, st⟩ | ⟨q, vm₁, ⟨U', l2, c2, s2⟩, hW₁, X', ⟨g', mk, t, L, E, ce, e1, e2, hq, hce, hcv, hcl, h1, hL, h2, h3⟩, st⟩
  · dsimp only [Pt.U, Pt.locs, Pt.cells, Pt.slots] at X' e1 e2 h1 h2 h3 st
    subst h1; subst h2; subst h3
    exact Or.inl ⟨v, (T.setVm vm₁).calling g' mk As.toArray, t, U', L, hT, X', hL, e1, e2, hq, st⟩
  · dsimp only [Pt.U, Pt.locs, Pt.cells, Pt.slots] at X' e1 e2 h1 h2 h3 st hcl
    subst h1; subst h2; subst h3
    exact Or.inr ⟨q, (T.setVm vm₁).calling g' mk As.toArray, t, U', L, E, ce, hT, X', hL, e1, e2, hq, hce, hcv, vx_cls hW₁ hcl, st⟩
end Runs
section Rows
variable {p : Program} {l : Launch} {e : Env} {R : Room} {s : State} {m : MethodId} {args : Array Value} {below : List Frame} {meth : Method} {c : Code} {H : Heap} {locs : List Loc} {cells slots : Nat} {Q : State → Prop}
variable {mc ms : Nat} {free : Addr → Prop} {A0 A1 : Nat → Prop} {H0 : Heap} {a : Array Value} {pc : Nat} {ls : Array Slot} {st0 rest : List Value}
theorem vx_keep {st₀ t T' : State} {L : List Loc} (h0 : st₀.heap = H) (e1 : T'.heap = t.heap) (hS : va_S A0 H0 H locs) (hA : ∀ q, q < H.size → A1 q → A0 q) (hf : ∀ q, free q → A0 q) (hL : ∀ q ∈ L, free q.base) (hF : va_F A1 st₀ t) :
    H.size ≤ T'.heap.size ∧ (∀ q : Nat, q < H.size → ¬ A1 q → T'.heap[q]? = H[q]?) ∧ va_S A0 H0 T'.heap (locs ++ L) := by
  obtain ⟨hz, hk⟩ := hF
  rw [h0] at hz hk
  exact ⟨by rw [e1]; exact hz, fun q h1 h2 => by rw [e1]; exact hk q h1 h2,
    ⟨Nat.le_trans hS.1 (by rw [e1]; exact hz), fun q h1 h2 => by rw [e1, hk q (Nat.lt_of_lt_of_le h1 hS.1) (fun z => h2 (hA q (Nat.lt_of_lt_of_le h1 hS.1) z))]; exact hS.2.1 q h1 h2, fun q hq => by
      rcases List.mem_append.mp hq with h | h
      · exact hS.2.2 q h
      · exact hf _ (hL q h)⟩⟩
theorem vx_calli {S SX : Type} {post : Int32 → S → Prop} {px : SX → Prop} {B : S → State → Prop} {BX : String → SX → State → Prop} {AX : Nat → Prop} (hr : vx_Run p l e R s m args below meth c H locs cells slots mc ms (F0 m pc ls st0) rest (va_Qi post B A1 a) (vx_X px BX AX) free) (hS : va_S A0 H0 H locs) (hA : ∀ q, q < H.size → A1 q → A0 q) (hf : ∀ q, free q → A0 q) (hAX : ∀ q, q < H.size → AX q → A0 q)
    (kx : ∀ (E : String) (ce : Cell) (q9 : Addr) (u : SX) (t : State) (H1 : Heap) (locs1 : List Loc), t.heap = H1 → s.vm.Alike t.vm → px u → BX E u t → H.size ≤ H1.size → (∀ q : Nat, q < H.size → ¬ AX q → H1[q]? = H[q]?) → va_S A0 H0 H1 locs1 → H1[q9]? = some ce → ce.vm = .none → s.vm.findClass E = some ce.cls → vx_W p l e R s m args below meth c H1 locs1 (cells + mc) (slots + ms) Q (F0 m pc ls rest) q9)
    (kk : ∀ (r : Int32) (u : S) (t : State) (H1 : Heap) (locs1 : List Loc), t.heap = H1 → s.vm.Alike t.vm → post r u → B u t → H.size ≤ H1.size → (∀ q : Nat, q < H.size → ¬ A1 q → H1[q]? = H[q]?) → va_S A0 H0 H1 locs1 → W p l e R s m args below meth c H1 locs1 (cells + mc) (slots + ms) Q (F0 m (pc + 3) ls (.int r :: rest))) : W p l e R s m args below meth c H locs cells slots Q (F0 m pc ls st0) := by
  intro T hT X
  rcases hr T hT X with ⟨v, st₀, t, T', L, h0, X', hL, e1, e2, ⟨⟨r, u, hv, hp, hb⟩, hF⟩, st⟩ | ⟨q, st₀, t, T', L, E, ce, h0, X', hL, e1, e2, ⟨u, hp, hb, hF⟩, hce, hcv, hcl, st⟩
  · cases hv
    obtain ⟨k1, k2, k3⟩ := vx_keep h0 e1 hS hA hf hL hF
    obtain ⟨t2, a1, b1⟩ := kk r u t T'.heap (locs ++ L) e1.symm (by rw [← e2]; exact X'.warmed.alike) hp hb k1 k2 k3 T' rfl X'
    exact ⟨t2, st t2 a1, b1⟩
  · obtain ⟨k1, k2, k3⟩ := vx_keep h0 e1 hS hAX hf hL hF
    obtain ⟨t2, a1, b1⟩ := kx E ce q u t T'.heap (locs ++ L) e1.symm (by rw [← e2]; exact X'.warmed.alike) hp hb k1 k2 k3 (by rw [e1]; exact hce) hcv hcl T' rfl X'
    exact ⟨t2, st.trans a1, b1⟩
theorem vx_calll {S SX : Type} {post : Int64 → S → Prop} {px : SX → Prop} {B : S → State → Prop} {BX : String → SX → State → Prop} {AX : Nat → Prop} (hr : vx_Run p l e R s m args below meth c H locs cells slots mc ms (F0 m pc ls st0) rest (va_Ql post B A1 a) (vx_X px BX AX) free) (hS : va_S A0 H0 H locs) (hA : ∀ q, q < H.size → A1 q → A0 q) (hf : ∀ q, free q → A0 q) (hAX : ∀ q, q < H.size → AX q → A0 q)
    (kx : ∀ (E : String) (ce : Cell) (q9 : Addr) (u : SX) (t : State) (H1 : Heap) (locs1 : List Loc), t.heap = H1 → s.vm.Alike t.vm → px u → BX E u t → H.size ≤ H1.size → (∀ q : Nat, q < H.size → ¬ AX q → H1[q]? = H[q]?) → va_S A0 H0 H1 locs1 → H1[q9]? = some ce → ce.vm = .none → s.vm.findClass E = some ce.cls → vx_W p l e R s m args below meth c H1 locs1 (cells + mc) (slots + ms) Q (F0 m pc ls rest) q9)
    (kk : ∀ (r : Int64) (u : S) (t : State) (H1 : Heap) (locs1 : List Loc), t.heap = H1 → s.vm.Alike t.vm → post r u → B u t → H.size ≤ H1.size → (∀ q : Nat, q < H.size → ¬ A1 q → H1[q]? = H[q]?) → va_S A0 H0 H1 locs1 → W p l e R s m args below meth c H1 locs1 (cells + mc) (slots + ms) Q (F0 m (pc + 3) ls (.long r :: rest))) : W p l e R s m args below meth c H locs cells slots Q (F0 m pc ls st0) := by
  intro T hT X
  rcases hr T hT X with ⟨v, st₀, t, T', L, h0, X', hL, e1, e2, ⟨⟨r, u, hv, hp, hb⟩, hF⟩, st⟩ | ⟨q, st₀, t, T', L, E, ce, h0, X', hL, e1, e2, ⟨u, hp, hb, hF⟩, hce, hcv, hcl, st⟩
  · cases hv
    obtain ⟨k1, k2, k3⟩ := vx_keep h0 e1 hS hA hf hL hF
    obtain ⟨t2, a1, b1⟩ := kk r u t T'.heap (locs ++ L) e1.symm (by rw [← e2]; exact X'.warmed.alike) hp hb k1 k2 k3 T' rfl X'
    exact ⟨t2, st t2 a1, b1⟩
  · obtain ⟨k1, k2, k3⟩ := vx_keep h0 e1 hS hAX hf hL hF
    obtain ⟨t2, a1, b1⟩ := kx E ce q u t T'.heap (locs ++ L) e1.symm (by rw [← e2]; exact X'.warmed.alike) hp hb k1 k2 k3 (by rw [e1]; exact hce) hcv hcl T' rfl X'
    exact ⟨t2, st.trans a1, b1⟩
theorem vx_callf {S SX : Type} {post : UInt32 → S → Prop} {px : SX → Prop} {B : S → State → Prop} {BX : String → SX → State → Prop} {AX : Nat → Prop} (hr : vx_Run p l e R s m args below meth c H locs cells slots mc ms (F0 m pc ls st0) rest (va_Qf post B A1 a) (vx_X px BX AX) free) (hS : va_S A0 H0 H locs) (hA : ∀ q, q < H.size → A1 q → A0 q) (hf : ∀ q, free q → A0 q) (hAX : ∀ q, q < H.size → AX q → A0 q)
    (kx : ∀ (E : String) (ce : Cell) (q9 : Addr) (u : SX) (t : State) (H1 : Heap) (locs1 : List Loc), t.heap = H1 → s.vm.Alike t.vm → px u → BX E u t → H.size ≤ H1.size → (∀ q : Nat, q < H.size → ¬ AX q → H1[q]? = H[q]?) → va_S A0 H0 H1 locs1 → H1[q9]? = some ce → ce.vm = .none → s.vm.findClass E = some ce.cls → vx_W p l e R s m args below meth c H1 locs1 (cells + mc) (slots + ms) Q (F0 m pc ls rest) q9)
    (kk : ∀ (r : UInt32) (u : S) (t : State) (H1 : Heap) (locs1 : List Loc), t.heap = H1 → s.vm.Alike t.vm → post r u → B u t → H.size ≤ H1.size → (∀ q : Nat, q < H.size → ¬ A1 q → H1[q]? = H[q]?) → va_S A0 H0 H1 locs1 → W p l e R s m args below meth c H1 locs1 (cells + mc) (slots + ms) Q (F0 m (pc + 3) ls (.float r :: rest))) : W p l e R s m args below meth c H locs cells slots Q (F0 m pc ls st0) := by
  intro T hT X
  rcases hr T hT X with ⟨v, st₀, t, T', L, h0, X', hL, e1, e2, ⟨⟨r, u, hv, hp, hb⟩, hF⟩, st⟩ | ⟨q, st₀, t, T', L, E, ce, h0, X', hL, e1, e2, ⟨u, hp, hb, hF⟩, hce, hcv, hcl, st⟩
  · cases hv
    obtain ⟨k1, k2, k3⟩ := vx_keep h0 e1 hS hA hf hL hF
    obtain ⟨t2, a1, b1⟩ := kk r u t T'.heap (locs ++ L) e1.symm (by rw [← e2]; exact X'.warmed.alike) hp hb k1 k2 k3 T' rfl X'
    exact ⟨t2, st t2 a1, b1⟩
  · obtain ⟨k1, k2, k3⟩ := vx_keep h0 e1 hS hAX hf hL hF
    obtain ⟨t2, a1, b1⟩ := kx E ce q u t T'.heap (locs ++ L) e1.symm (by rw [← e2]; exact X'.warmed.alike) hp hb k1 k2 k3 (by rw [e1]; exact hce) hcv hcl T' rfl X'
    exact ⟨t2, st.trans a1, b1⟩
theorem vx_calld {S SX : Type} {post : UInt64 → S → Prop} {px : SX → Prop} {B : S → State → Prop} {BX : String → SX → State → Prop} {AX : Nat → Prop} (hr : vx_Run p l e R s m args below meth c H locs cells slots mc ms (F0 m pc ls st0) rest (va_Qd post B A1 a) (vx_X px BX AX) free) (hS : va_S A0 H0 H locs) (hA : ∀ q, q < H.size → A1 q → A0 q) (hf : ∀ q, free q → A0 q) (hAX : ∀ q, q < H.size → AX q → A0 q)
    (kx : ∀ (E : String) (ce : Cell) (q9 : Addr) (u : SX) (t : State) (H1 : Heap) (locs1 : List Loc), t.heap = H1 → s.vm.Alike t.vm → px u → BX E u t → H.size ≤ H1.size → (∀ q : Nat, q < H.size → ¬ AX q → H1[q]? = H[q]?) → va_S A0 H0 H1 locs1 → H1[q9]? = some ce → ce.vm = .none → s.vm.findClass E = some ce.cls → vx_W p l e R s m args below meth c H1 locs1 (cells + mc) (slots + ms) Q (F0 m pc ls rest) q9)
    (kk : ∀ (r : UInt64) (u : S) (t : State) (H1 : Heap) (locs1 : List Loc), t.heap = H1 → s.vm.Alike t.vm → post r u → B u t → H.size ≤ H1.size → (∀ q : Nat, q < H.size → ¬ A1 q → H1[q]? = H[q]?) → va_S A0 H0 H1 locs1 → W p l e R s m args below meth c H1 locs1 (cells + mc) (slots + ms) Q (F0 m (pc + 3) ls (.double r :: rest))) : W p l e R s m args below meth c H locs cells slots Q (F0 m pc ls st0) := by
  intro T hT X
  rcases hr T hT X with ⟨v, st₀, t, T', L, h0, X', hL, e1, e2, ⟨⟨r, u, hv, hp, hb⟩, hF⟩, st⟩ | ⟨q, st₀, t, T', L, E, ce, h0, X', hL, e1, e2, ⟨u, hp, hb, hF⟩, hce, hcv, hcl, st⟩
  · cases hv
    obtain ⟨k1, k2, k3⟩ := vx_keep h0 e1 hS hA hf hL hF
    obtain ⟨t2, a1, b1⟩ := kk r u t T'.heap (locs ++ L) e1.symm (by rw [← e2]; exact X'.warmed.alike) hp hb k1 k2 k3 T' rfl X'
    exact ⟨t2, st t2 a1, b1⟩
  · obtain ⟨k1, k2, k3⟩ := vx_keep h0 e1 hS hAX hf hL hF
    obtain ⟨t2, a1, b1⟩ := kx E ce q u t T'.heap (locs ++ L) e1.symm (by rw [← e2]; exact X'.warmed.alike) hp hb k1 k2 k3 (by rw [e1]; exact hce) hcv hcl T' rfl X'
    exact ⟨t2, st.trans a1, b1⟩
theorem vx_callv {S SX : Type} {post : S → Prop} {px : SX → Prop} {B : S → State → Prop} {BX : String → SX → State → Prop} {AX : Nat → Prop} (hr : vx_Run p l e R s m args below meth c H locs cells slots mc ms (F0 m pc ls st0) rest (va_Qv post B A1 a) (vx_X px BX AX) free) (hS : va_S A0 H0 H locs) (hA : ∀ q, q < H.size → A1 q → A0 q) (hf : ∀ q, free q → A0 q) (hAX : ∀ q, q < H.size → AX q → A0 q)
    (kx : ∀ (E : String) (ce : Cell) (q9 : Addr) (u : SX) (t : State) (H1 : Heap) (locs1 : List Loc), t.heap = H1 → s.vm.Alike t.vm → px u → BX E u t → H.size ≤ H1.size → (∀ q : Nat, q < H.size → ¬ AX q → H1[q]? = H[q]?) → va_S A0 H0 H1 locs1 → H1[q9]? = some ce → ce.vm = .none → s.vm.findClass E = some ce.cls → vx_W p l e R s m args below meth c H1 locs1 (cells + mc) (slots + ms) Q (F0 m pc ls rest) q9)
    (kk : ∀ (u : S) (t : State) (H1 : Heap) (locs1 : List Loc), t.heap = H1 → s.vm.Alike t.vm → post u → B u t → H.size ≤ H1.size → (∀ q : Nat, q < H.size → ¬ A1 q → H1[q]? = H[q]?) → va_S A0 H0 H1 locs1 → W p l e R s m args below meth c H1 locs1 (cells + mc) (slots + ms) Q (F0 m (pc + 3) ls (rest))) : W p l e R s m args below meth c H locs cells slots Q (F0 m pc ls st0) := by
  intro T hT X
  rcases hr T hT X with ⟨v, st₀, t, T', L, h0, X', hL, e1, e2, ⟨⟨u, hv, hp, hb⟩, hF⟩, st⟩ | ⟨q, st₀, t, T', L, E, ce, h0, X', hL, e1, e2, ⟨u, hp, hb, hF⟩, hce, hcv, hcl, st⟩
  · cases hv
    obtain ⟨k1, k2, k3⟩ := vx_keep h0 e1 hS hA hf hL hF
    obtain ⟨t2, a1, b1⟩ := kk u t T'.heap (locs ++ L) e1.symm (by rw [← e2]; exact X'.warmed.alike) hp hb k1 k2 k3 T' rfl X'
    exact ⟨t2, st t2 a1, b1⟩
  · obtain ⟨k1, k2, k3⟩ := vx_keep h0 e1 hS hAX hf hL hF
    obtain ⟨t2, a1, b1⟩ := kx E ce q u t T'.heap (locs ++ L) e1.symm (by rw [← e2]; exact X'.warmed.alike) hp hb k1 k2 k3 (by rw [e1]; exact hce) hcv hcl T' rfl X'
    exact ⟨t2, st.trans a1, b1⟩
/-- caught by the row x of this method's table; the rows ahead don't take it -/
theorem vx_catch {own name : String} {E : String} {ce : Cell} {q : Addr} (hown : s.vm.findClass own = some m.cls) (pre : List ExceptionTableEntry) (x : ExceptionTableEntry) (suf : List ExceptionTableEntry) (hsplit : c.exceptionTable.toList = pre ++ x :: suf)
    (hpass : ∀ z ∈ pre, covers z pc = false ∨ (z.catchType ≠ 0 ∧ ∃ nm : String, (Cond.classLink own z.catchType nm).before args s = true ∧ va_Nc E nm s)) (hx : covers x pc = true) (h0 : x.catchType ≠ 0)
    (hlink : (Cond.classLink own x.catchType name).before args s = true) (hcast : (Cond.castable E name).before args s = true) (hcell : H[q]? = some ce) (hv : ce.vm = .none) (hcl : s.vm.findClass E = some ce.cls)
    (kk : W p l e R s m args below meth c H locs cells slots Q (F0 m x.handlerPc ls [.ref q])) : vx_W p l e R s m args below meth c H locs cells slots Q (F0 m pc ls rest) q := by
  intro T hT X
  have hpl : e.platform.magicAccessors = ({} : Platform).magicAccessors := by rw [X.admits.platform]
  obtain ⟨c3, c4, hc3, hc4, hasg⟩ := Cond.castable_spec hcast
  cases Option.some.inj (hc3.symm.trans hcl)
  obtain ⟨c5, hc5, hcl5⟩ := Cond.classLink_spec hown hlink e.platform hpl
  cases Option.some.inj (hc4.symm.trans hc5)
  obtain ⟨vm', X', st⟩ := X.thenCaughtThrough q (g := F0 m pc ls rest) rfl (Steps.refl _) (by rw [hT]; exact hcell) (by rw [hv]; rfl) (by obtain ⟨k9, h9, -⟩ := Vm.findClass_spec hcl; exact ⟨k9, h9⟩) pre x suf hsplit
    (fun z hz => by
      rcases hpass z hz with h | ⟨hz0, nm, hl1, hn1⟩
      · exact Or.inl h
      · obtain ⟨c6, hc6, hcl6⟩ := Cond.classLink_spec hown hl1 e.platform hpl
        obtain ⟨a8, b8, h1, h2, h3⟩ := hn1
        cases Option.some.inj (h1.symm.trans hcl)
        cases Option.some.inj (h2.symm.trans hc6)
        exact Or.inr ⟨hz0, _, hcl6, h3⟩) hx (Or.inr ⟨h0, c4, hcl5, hasg⟩)
  obtain ⟨t, a1, b1⟩ := kk (T.setVm vm') hT X'
  exact ⟨t, st.trans a1, b1⟩
end Rows
section Ends
variable {p : Program} {l : Launch} {e : Env} {R : Room} {s : State} {m : MethodId} {args : Array Value} {below : List Frame} {meth : Method} {c : Code} {H : Heap} {locs : List Loc} {cells slots : Nat} {Q : State → Prop}
variable {mc ms : Nat} {free : Addr → Prop} {A0 A1 : Nat → Prop} {H0 : Heap} {a : Array Value} {ls : Array Slot} {st0 rest : List Value}
variable {Qc : Array Value → State → Outcome → State → Prop} {XC : String → State → State → Prop}
/-- what a body that may throw owes at its end -/
def vx_MQ (below : List Frame) (Qc : Array Value → State → Outcome → State → Prop) (XC : String → State → State → Prop) (a : Array Value) (s : State) (mc ms : Nat) (free : Addr → Prop) : State → Prop := fun t =>
  ∃ o, t.status = .running ∧ Ended t below o ∧ vx_Q Qc XC mc ms free a s o t
theorem vx_ret {g : JFrame} {mc ms : Nat} (k : W p l e R s m args below meth c H locs cells slots (MQ below Qc args s mc ms free) g) : W p l e R s m args below meth c H locs cells slots (vx_MQ below Qc XC args s mc ms free) g := by
  intro T hT X
  obtain ⟨t, a1, o, b1, b2, b3, b4⟩ := k T hT X
  exact ⟨t, a1, o, b1, b2, Or.inl ⟨b3, b4⟩⟩
/-- not caught here: it goes on to the caller -/
theorem vx_widen {g : JFrame} {q : Addr} {k n : Nat} (h1 : cells ≤ k) (h2 : slots ≤ n) (kk : vx_W p l e R s m args below meth c H locs k n Q g q) : vx_W p l e R s m args below meth c H locs cells slots Q g q := fun T hT X => kk T hT (stand_widen X h1 h2)
theorem vx_out {pc : Nat} {E : String} {ce : Cell} {q : Addr} {mc ms : Nat} (hout : ∀ x ∈ c.exceptionTable.toList, covers x pc = false) (hlocks : meth.locks = false) (hcell : H[q]? = some ce) (hv : ce.vm = .none) (hcl : s.vm.findClass E = some ce.cls)
    (hx : ∀ t : State, t.heap = H → s.vm.Alike t.vm → XC E s t) (hf : ∀ z ∈ locs, free z.base) (hc : cells ≤ mc) (hs : slots ≤ ms) :
    vx_W p l e R s m args below meth c H locs cells slots (vx_MQ below Qc XC args s mc ms free) (F0 m pc ls rest) q := by
  intro T hT X
  obtain ⟨st1, hrun, hend, hW, hsm⟩ := X.leaveThrown q (g := F0 m pc ls rest) rfl rfl rfl hout hlocks
  have hcell9 : (T.setFrames (.throwing q :: below)).heap[q]? = some ce := by
    show T.heap[q]? = some ce
    rw [hT]; exact hcell
  exact ⟨_, st1, .threw q, hrun, hend, Or.inr ⟨q, rfl, E, ce, locs, hx _ hT hW.alike, hcell9, hv, hcl, hW, hsm.mono hc hs, hf⟩⟩
theorem vx_frame {U : State} {k n : Nat} (h : s.sameButNew ({ U with vm := s.vm } : State) locs k n) : s.heap.size ≤ U.heap.size ∧ ∀ q : Nat, q < s.heap.size → (∀ z ∈ locs, z.base ≠ q) → U.heap[q]? = s.heap[q]? := by
  obtain ⟨-, h2, -, -, -, h6⟩ := h
  refine ⟨h2, fun q hq hz => ?_⟩
  obtain ⟨c9, e1, e2, e3, e4⟩ := h6 q _ (Array.getElem?_eq_getElem hq)
  have hs : c9.slots = (s.heap[q]).slots := Array.ext_getElem? fun i => e4 i fun hm => hz _ hm rfl
  have h9 : c9 = s.heap[q] := by
    rw [hs] at e2
    exact e2
  have e5 : U.heap[q]? = some c9 := e1
  rw [e5, h9, Array.getElem?_eq_getElem hq]
/-- the words of a throw but the four that speak of the heap -/
def vx_no (w : Cond) : Bool := decide (w ≠ .isRef (.static Bundle.tN "UNASSIGNED_STACK" Bundle.steD)) && decide (w ≠ .isRef (.static Bundle.tN "SUPPRESSED_SENTINEL" Bundle.listD)) && decide (w ≠ .laysStatic Bundle.tN "UNASSIGNED_STACK" Bundle.steD) && decide (w ≠ .laysStatic Bundle.tN "SUPPRESSED_SENTINEL" Bundle.listD)
def vx_at0 (own : String) (ic : Nat) (X : String) (names : List String) : List Cond := (Bundle.ownAtoms0 own ic X names).filter vx_no
def vx_atS (own : String) (ic : Nat) (X : String) (names : List String) : List Cond := (Bundle.ownAtoms own ic X names).filter vx_no
/-- a word that the tables alone decide, or a good one -/
def vx_ot (w : Cond) : Bool := w.onTables || goodWord w
theorem vx_ot_at {args a' : Array Value} {s U : State} {w : Cond} (hW : s.WarmedH U.vm) (hvm : s.vm = U.vm) (hg : vx_ot w = true) (h : w.before args s = true) : w.before a' U = true := by
  simp only [vx_ot, Bool.or_eq_true] at hg
  rcases hg with hg | hg
  · exact va_tabs hg hvm h
  · exact word_at hW (good_of_word hg) h
/-- a list's words: the good ones out of the method's own list, the others by premises of their own -/
theorem vx_hat {args : Array Value} {s : State} {L B : List Cond} (h1 : ∀ w ∈ L.filter goodWord, w.before args s = true) (h2 : ∀ w ∈ L.filter (fun w => !goodWord w), w ∈ B) (h3 : ∀ w ∈ B, w.before args s = true) : ∀ w ∈ L, w.before args s = true := by
  intro w hw
  by_cases g : goodWord w = true
  · exact h1 w (List.mem_filter.mpr ⟨hw, g⟩)
  · refine h3 w (h2 w (List.mem_filter.mpr ⟨hw, ?_⟩))
    show (!goodWord w) = true
    cases hgw : goodWord w
    · rfl
    · exact absurd hgw g
theorem vx_c {args : Array Value} {s : State} {w : Cond} {B : List Cond} (h : w.before args s = true) (t : ∀ w ∈ B, w.before args s = true) : ∀ w' ∈ w :: B, w'.before args s = true := fun w' h' => (List.mem_cons.mp h').elim (fun e => by rw [e]; exact h) (t w')
theorem vx_n {args : Array Value} {s : State} : ∀ w ∈ ([] : List Cond), w.before args s = true := fun _ h => nomatch h
theorem vx_own {args : Array Value} {s : State} {L : List Cond} (h1 : ∀ w ∈ L.filter vx_no, w.before args s = true)
    (hU : (Cond.isRef (.static Bundle.tN "UNASSIGNED_STACK" Bundle.steD)).before args s = true) (hN : (Cond.isRef (.static Bundle.tN "SUPPRESSED_SENTINEL" Bundle.listD)).before args s = true)
    (lU : (Cond.laysStatic Bundle.tN "UNASSIGNED_STACK" Bundle.steD).before args s = true) (lN : (Cond.laysStatic Bundle.tN "SUPPRESSED_SENTINEL" Bundle.listD).before args s = true) : ∀ w ∈ L, w.before args s = true := by
  intro w hw
  by_cases e1 : w = .isRef (.static Bundle.tN "UNASSIGNED_STACK" Bundle.steD)
  · rw [e1]; exact hU
  · by_cases e2 : w = .isRef (.static Bundle.tN "SUPPRESSED_SENTINEL" Bundle.listD)
    · rw [e2]; exact hN
    · by_cases e3 : w = .laysStatic Bundle.tN "UNASSIGNED_STACK" Bundle.steD
      · rw [e3]; exact lU
      · by_cases e4 : w = .laysStatic Bundle.tN "SUPPRESSED_SENTINEL" Bundle.listD
        · rw [e4]; exact lN
        · exact h1 w (List.mem_filter.mpr ⟨hw, by unfold vx_no; rw [decide_eq_true e1, decide_eq_true e2, decide_eq_true e3, decide_eq_true e4]; rfl⟩)
/-- where a static field lies, its class's statics cell in H -/
def vx_L (C n d : String) (A : Nat → Prop) (U : State) (H : Heap) : Prop := ∃ (c : ClassId) (k : Class) (i : Nat) (f : Field) (a : Nat) (cell : Cell), U.vm.findClass C = some c ∧ U.fieldFound? C n d = some (c, k, i, f) ∧ f.isStatic = true ∧ k.statics = some a ∧ H[a]? = some cell ∧ cell.vm.isStatics = true ∧ cell.cls = c ∧ f.slot < cell.slots.size ∧ k.staticTypes[f.slot]? = some f.type ∧ ¬ A a
theorem vx_L.moved {C n d : String} {A : Nat → Prop} {u U : State} {H : Heap} (hvm : u.vm.Alike U.vm) (h : vx_L C n d A u H) : vx_L C n d A U H := by
  obtain ⟨c, k, i, f, a, cell, h1, h2, h3, h4, h5, h6, h7, h8, h9, h10⟩ := h
  obtain ⟨k', hi', he⟩ := State.fieldFound?_setVm hvm h2
  exact ⟨c, k', i, f, a, cell, by rw [hvm.findClass]; exact h1, hi', h3, by rw [he]; exact h4, h5, h6, h7, h8, by rw [he]; exact h9, h10⟩
theorem vx_L.kept {C n d : String} {A : Nat → Prop} {U : State} {H H1 : Heap} (h : vx_L C n d A U H) (hq : ∀ a : Nat, a < H.size → ¬ A a → H1[a]? = H[a]?) : vx_L C n d A U H1 := by
  obtain ⟨c, k, i, f, a, cell, h1, h2, h3, h4, h5, h6, h7, h8, h9, h10⟩ := h
  exact ⟨c, k, i, f, a, cell, h1, h2, h3, h4, by rw [hq a (Array.getElem?_eq_some_iff.mp h5).1 h10]; exact h5, h6, h7, h8, h9, h10⟩
theorem vx_L.narrow {C n d : String} {A B : Nat → Prop} {U : State} {H : Heap} (h : vx_L C n d A U H) (hAB : ∀ q, B q → A q) : vx_L C n d B U H := by
  obtain ⟨c, k, i, f, a, cell, h1, h2, h3, h4, h5, h6, h7, h8, h9, h10⟩ := h
  exact ⟨c, k, i, f, a, cell, h1, h2, h3, h4, h5, h6, h7, h8, h9, fun z => h10 (hAB _ z)⟩
theorem vx_L.word {C n d : String} {A : Nat → Prop} {s : State} {args : Array Value} (h : vx_L C n d A s s.heap) : (Cond.laysStatic C n d).before args s = true := by
  obtain ⟨c, k, i, f, a, cell, h1, h2, h3, h4, h5, h6, h7, h8, h9, -⟩ := h
  show (Cond.laysStatic C n d).holds args s none s [] = true
  exact Cond.laysStatic_of h1 h2 h3 h4 h5 h6 h7 h8 h9
/-- .. and what it holds: null or some reference -/
def vx_Zq (C n d : String) (A : Nat → Prop) (U : State) (H : Heap) : Prop := va_Zq C n d A U H ∧ vx_L C n d A U H
theorem vx_Zq.moved {C n d : String} {A : Nat → Prop} {u U : State} {H : Heap} (hvm : u.vm.Alike U.vm) (h : vx_Zq C n d A u H) : vx_Zq C n d A U H := ⟨va_Zq.moved hvm h.1, vx_L.moved hvm h.2⟩
theorem vx_Zq.kept {C n d : String} {A : Nat → Prop} {U : State} {H H1 : Heap} (h : vx_Zq C n d A U H) (hq : ∀ a : Nat, a < H.size → ¬ A a → H1[a]? = H[a]?) : vx_Zq C n d A U H1 := ⟨va_Zq.kept h.1 hq, vx_L.kept h.2 hq⟩
theorem vx_Zq.narrow {C n d : String} {A B : Nat → Prop} {U : State} {H : Heap} (h : vx_Zq C n d A U H) (hAB : ∀ q, B q → A q) : vx_Zq C n d B U H := ⟨va_Zq.narrow h.1 hAB, vx_L.narrow h.2 hAB⟩
theorem vx_Zqof {args : Array Value} {s : State} {C n d : String} {A : Nat → Prop} (hl : (Cond.laysStatic C n d).before args s = true) (hini : (Cond.initialized C).before args s = true) (h : (Cond.isRef (.static C n d)).before args s = true) (hA : ∀ a : Nat, a < s.heap.size → ¬ A a) : vx_Zq C n d A s s.heap := by
  refine ⟨va_Zqof hl hini h hA, ?_⟩
  obtain ⟨c, k, i, f, a, cell, h1, h2, h3, h4, h5, h6, h7, h8, h9⟩ := Cond.laysStatic_spec hl
  exact ⟨c, k, i, f, a, cell, h1, h2, h3, h4, h5, h6, h7, h8, h9, hA a (Array.getElem?_eq_some_iff.mp h5).1⟩
theorem vx_isRef {C n d : String} {v : Value} {A : Nat → Prop} {s : State} {args : Array Value} (h : va_Z C n d v A s s.heap) (hv : v.isRef = true) : (Cond.isRef (.static C n d)).before args s = true := by
  obtain ⟨cf, kf, fi, f, a, cell, h1, h2, h3, h4, h5, h6, h7, -⟩ := h
  have he : (Term.static C n d).eval args s none [] s = some v := by
    simp [Term.eval, State.fieldNamed?, h1, h2, h4, h5, h6, h7]
  simp only [Cond.before, Cond.holds, Cond.value, he]
  cases v <;> simp_all [Value.isRef]
theorem vx_isRefq {C n d : String} {A : Nat → Prop} {s : State} {args : Array Value} (h : va_Zq C n d A s s.heap) : (Cond.isRef (.static C n d)).before args s = true := by
  rcases h with h | ⟨t, h⟩
  · exact vx_isRef h rfl
  · exact vx_isRef h rfl
/-- the same frame, seen from here: as if the method were called anew in this heap -/
theorem vx_rebase {T : State} (X : Stand p l e R s m args below meth c T locs cells slots) {R' : Room} (hf : R'.frames ≤ R.frames) (hl : R'.locals ≤ R.locals) (hc : cells + R'.cells ≤ R.cells) (hs : slots + R'.slots ≤ R.slots) :
    Stand p l e R' ((T.setVm s.vm).setFrames (.invoking m args :: below)) m args below meth c T [] 0 0 := by
  have htop : (T.setVm s.vm).topJava?.isSome := X.here.top
  have hF : ((T.setVm s.vm).setFrames (.invoking m args :: below)).frames = .invoking m args :: below := State.frames_setFrames _ (State.cur_lt_of_top htop)
  obtain ⟨g₀, hg0⟩ := Option.isSome_iff_exists.mp htop
  obtain ⟨r, hr⟩ := State.topJava?_eq_some.mp hg0
  have hl9 : e.platform.stackLimits (T.setVm s.vm).me = e.platform.stackLimits s.me := X.limits
  have hb9 : (T.setVm s.vm).me.stackBytes = s.me.stackBytes := X.bytes
  refine ⟨X.admits, X.cas, X.clock, hF, ?_, X.hears, X.method, X.code, X.here, X.tail, X.warmed, ?_, ?_, ?_⟩
  · have h := X.room
    have hU : ((T.setVm s.vm).setFrames (.invoking m args :: below)).localsInUse = s.localsInUse := by
      rw [State.localsInUse_invoking hF (meth := meth) (c := c) X.method X.code, State.localsInUse_invoking X.frames X.method X.code]
    simp only [State.hasRoom, Bool.and_eq_true, decide_eq_true_eq] at h ⊢
    obtain ⟨⟨⟨⟨h1, h2, h3, h4, h5, h6⟩, h7⟩, h8⟩, h9⟩ := h
    rw [X.frames, List.length_cons] at h2 h3
    have q1 := X.heapSize
    have q2 := X.used
    simp only [hF, hU, List.length_cons, State.stackLimits_setFrames, State.stackBytes_setFrames, hl9, hb9]
    refine ⟨⟨⟨⟨by omega, by omega, by omega, by omega, by omega, h6⟩, ?_⟩, ?_⟩, X.book⟩
    · show T.heap.size + R'.cells ≤ e.platform.maxCells
      omega
    · show T.slotsUsed + R'.slots ≤ e.platform.maxSlots
      omega
  · rw [State.stackLimits_setFrames]; rfl
  · rw [State.stackBytes_setFrames]; rfl
  · refine ⟨?_, Nat.le_refl _, Nat.le_refl _, ?_, ?_, fun a c9 h9 => ⟨c9, h9, rfl, rfl, fun _ _ => rfl⟩⟩
    · obtain ⟨t, ht, -⟩ := State.frames_cons hr
      show T.setVm s.vm = { ((T.setVm s.vm).setFrames (.invoking m args :: below)).setFrames (T.setVm s.vm).frames with heap := T.heap, slotsUsed := T.slotsUsed }
      rw [State.setFrames_setFrames, State.setFrames_self ht]
      rfl
    · show T.slotsUsed = T.slotsUsed + ((T.heap.toList.drop T.heap.size).map (·.slots.size)).sum
      rw [List.drop_eq_nil_of_le (Nat.le_of_eq Array.length_toList)]
      rfl
    · show ((T.heap.toList.drop T.heap.size).map (·.slots.size)).sum ≤ 0
      rw [List.drop_eq_nil_of_le (Nat.le_of_eq Array.length_toList)]
      exact Nat.le_refl _
/-- 'throw new E()': new; dup; invokespecial; athrow -/
theorem vx_throw0 {cc : ByteArray} {pc : Nat} (hexec : p.tables.exec = Jvm.exec) (hb : c.code = cc) (hl : l.stackTraces = false) {own cls : String} {names : List String} {ik ic mc ms : Nat} {A : Nat → Prop}
    (hown : s.vm.findClass own = some m.cls) (hcls : Bundle.fit cls = true) (hnames : ∀ n ∈ names, Bundle.fit n = true)
    (hk : (Cond.classLink own ik cls).before args s = true) (hini : (Cond.initialized cls).before args s = true) (hat : ∀ w ∈ vx_at0 own ic cls names, w.before args s = true)
    (hgood : ∀ w ∈ Cond.classLink own ik cls :: Cond.initialized cls :: vx_at0 own ic cls names, vx_ot w = true)
    (hU : vx_Zq Bundle.tN "UNASSIGNED_STACK" Bundle.steD A s s.heap) (hN : vx_Zq Bundle.tN "SUPPRESSED_SENTINEL" Bundle.listD A s s.heap) (hS : va_S A s.heap H locs) (hsize : ls.size = c.maxLocals)
    (d0 : decode cc pc = .ok (.new ik, 3)) (d3 : decode cc (pc + 3) = .ok (.dup, 1)) (d4 : decode cc (pc + 4) = .ok (.invokespecial ic, 3)) (d7 : decode cc (pc + 7) = .ok (.athrow, 1))
    (hout : ∀ x ∈ c.exceptionTable.toList, covers x (pc + 7) = false)
    (hRframes : names.length + 3 < R.frames) (hRlocals : (rest.map fun v => v.category).sum + (13 * (names.length + 1) + 42) ≤ R.locals) (hRcells : cells + 1 ≤ R.cells) (hRslots : slots + 6 ≤ R.slots) (hlocks : meth.locks = false)
    (hx : ∀ t : State, s.vm.Alike t.vm → H.size ≤ t.heap.size → (∀ q : Nat, q < H.size → t.heap[q]? = H[q]?) → XC cls s t)
    (hf : ∀ z ∈ locs, free z.base) (hc : cells + 1 ≤ mc) (hs : slots + 6 ≤ ms) :
    W p l e R s m args below meth c H locs cells slots (vx_MQ below Qc XC args s mc ms free) (F0 m pc ls rest) := by
  intro T hT X
  have htr : e.platform.stackTraces = false := (show e.platform.stackTraces = l.stackTraces by rw [X.admits.platform]).trans hl
  have Y := vx_rebase X (R' := { frames := R.frames, locals := R.locals, cells := 1, slots := 6 }) (Nat.le_refl _) (Nat.le_refl _) hRcells hRslots
  obtain ⟨s', hA⟩ : ∃ z, z = (T.setVm s.vm).setFrames (.invoking m args :: below) := ⟨_, rfl⟩
  rw [← hA] at Y
  have hvm : s'.vm = s.vm := by rw [hA]; rfl
  have hhp : s'.heap = H := by rw [hA]; exact hT
  have hW0 : s.WarmedH s'.vm := by rw [hvm]; exact State.WarmedH.refl s
  have hat' : ∀ w ∈ vx_at0 own ic cls names, w.before args s' = true := fun w hw => vx_ot_at hW0 hvm.symm (hgood w (List.mem_cons_of_mem _ (List.mem_cons_of_mem _ hw))) (hat w hw)
  have hk' : (Cond.classLink own ik cls).before args s' = true := vx_ot_at hW0 hvm.symm (hgood _ List.mem_cons_self) hk
  have hini' : (Cond.initialized cls).before args s' = true := vx_ot_at hW0 hvm.symm (hgood _ (List.mem_cons_of_mem _ List.mem_cons_self)) hini
  have hU' : vx_Zq Bundle.tN "UNASSIGNED_STACK" Bundle.steD A s' s'.heap := by rw [hhp]; exact vx_Zq.moved hW0.alike (hU.kept hS.2.1)
  have hN' : vx_Zq Bundle.tN "SUPPRESSED_SENTINEL" Bundle.listD A s' s'.heap := by rw [hhp]; exact vx_Zq.moved hW0.alike (hN.kept hS.2.1)
  have h : ∀ w ∈ Bundle.ownAtoms0 own ic cls names, w.before args s' = true := vx_own hat' (vx_isRefq hU'.1) (vx_isRefq hN'.1) hU'.2.word hN'.2.word
  have hown' : s'.vm.findClass own = some m.cls := by rw [hvm]; exact hown
  have hins : (Cond.instantiable cls 6).before args s' = true := h _ (by simp [Bundle.ownAtoms0])
  obtain ⟨vm₁, cX, kX, hfX, hkX, -, -, X₁, st1⟩ := Y.newCold hexec (own := own) (C := cls) (index := ik) (n := 6) hown' hk' hins hini'
    (g := F0 m pc ls rest) rfl (by rw [hb]; exact d0) (Nat.le_refl _) (Nat.le_refl _)
  generalize hT1 : (T.setVm vm₁).pushCell { cls := cX, slots := kX.instanceTypes.map defaultValue, vm := .none } = T1 at X₁ st1
  have hcat : (Value.ref T.heap.size).category = 1 := rfl
  have hcellA : T1.heap[T.heap.size]? = some (freshCell cX kX) := by rw [← hT1]; exact State.heap_pushCell_size _ _
  have d3' : decode c.code (pc + 3) = .ok (.dup, 1) := by rw [hb]; exact d3
  obtain ⟨U, hsteps, hrun, hend, hW, hsame, ce, hce, hO⟩ := X₁.ctorThrow0 hexec htr (own := own) (cls := cls) (names := names) (ic := ic) hown' hcls hnames h (fun x hx => nomatch hx) hfX hkX hcellA (by rw [hhp, hT]; exact Nat.le_refl _)
    (g := { method := m, pc := pc + 4, locals := ls, stack := .ref T.heap.size :: .ref T.heap.size :: rest, locked := none }) rfl hsize rfl rfl (rest := rest) rfl
    (by rw [hb]; exact d4) (by rw [hb]; exact d7) hout hRframes (by simp only [List.map_cons, List.sum_cons, hcat]; omega) hlocks
  obtain ⟨f1, f2⟩ := vx_frame hsame
  rw [hhp] at f1 f2
  have hWs : s.WarmedH U.vm := State.WarmedH.trans hW0 hW
  have hcl : s.vm.findClass cls = some ce.cls := by
    have h9 := hO.cls
    rw [hvm] at h9
    exact h9
  have hall : s.sameButNew ({ U with vm := s.vm } : State) locs mc ms := by
    subst hA
    obtain ⟨e1, e2⟩ := hsame
    rw [State.setFrames_setFrames] at e1
    have h2 : (T.setVm s.vm).sameButNew ({ U with vm := s.vm } : State) [] (0 + 1) (0 + 6) := ⟨e1, e2⟩
    have h3 := X.same.trans h2
    rw [List.append_nil] at h3
    exact h3.mono hc hs
  refine ⟨U, ?_, .threw T.heap.size, hrun, hend, Or.inr ⟨T.heap.size, rfl, cls, ce, locs, hx U hWs.alike f1 (fun q hq => f2 q hq (fun z hz => nomatch hz)), hce, hO.vm, hcl, hWs, hall, hf⟩⟩
  refine st1 _ ?_
  show Steps p.tables e below (T1.setTop { method := m, pc := pc + 3, locals := ls, stack := .ref T.heap.size :: rest, locked := none }) _
  jvm_step X₁.here [X₁.here.top, hexec, d3', Value.category]
  exact hsteps
/-- 'throw new E("text")': new; dup; ldc; invokespecial; athrow -/
theorem vx_throwS {cc : ByteArray} {pc : Nat} (hexec : p.tables.exec = Jvm.exec) (hb : c.code = cc) (hl : l.stackTraces = false) {own cls text : String} {names : List String} {ik is ic mc ms sa : Nat} {A : Nat → Prop}
    (hown : s.vm.findClass own = some m.cls) (hcls : Bundle.fit cls = true) (hnames : ∀ n ∈ names, Bundle.fit n = true)
    (hk : (Cond.classLink own ik cls).before args s = true) (hini : (Cond.initialized cls).before args s = true) (hstr : vk_R own is text sa s) (hat : ∀ w ∈ vx_atS own ic cls names, w.before args s = true)
    (hgood : ∀ w ∈ Cond.classLink own ik cls :: Cond.initialized cls :: vx_atS own ic cls names, vx_ot w = true)
    (hU : vx_Zq Bundle.tN "UNASSIGNED_STACK" Bundle.steD A s s.heap) (hN : vx_Zq Bundle.tN "SUPPRESSED_SENTINEL" Bundle.listD A s s.heap) (hS : va_S A s.heap H locs) (hsize : ls.size = c.maxLocals)
    (d0 : decode cc pc = .ok (.new ik, 3)) (d3 : decode cc (pc + 3) = .ok (.dup, 1)) (d4 : decode cc (pc + 4) = .ok (.ldc is, 2)) (d6 : decode cc (pc + 6) = .ok (.invokespecial ic, 3)) (d9 : decode cc (pc + 9) = .ok (.athrow, 1))
    (hout : ∀ x ∈ c.exceptionTable.toList, covers x (pc + 9) = false)
    (hRframes : names.length + 3 < R.frames) (hRlocals : (rest.map fun v => v.category).sum + (13 * (names.length + 1) + 43) ≤ R.locals) (hRcells : cells + 1 ≤ R.cells) (hRslots : slots + 6 ≤ R.slots) (hlocks : meth.locks = false)
    (hx : ∀ t : State, s.vm.Alike t.vm → H.size ≤ t.heap.size → (∀ q : Nat, q < H.size → t.heap[q]? = H[q]?) → XC cls s t)
    (hf : ∀ z ∈ locs, free z.base) (hc : cells + 1 ≤ mc) (hs : slots + 6 ≤ ms) :
    W p l e R s m args below meth c H locs cells slots (vx_MQ below Qc XC args s mc ms free) (F0 m pc ls rest) := by
  intro T hT X
  have htr : e.platform.stackTraces = false := (show e.platform.stackTraces = l.stackTraces by rw [X.admits.platform]).trans hl
  have Y := vx_rebase X (R' := { frames := R.frames, locals := R.locals, cells := 1, slots := 6 }) (Nat.le_refl _) (Nat.le_refl _) hRcells hRslots
  obtain ⟨s', hA⟩ : ∃ z, z = (T.setVm s.vm).setFrames (.invoking m args :: below) := ⟨_, rfl⟩
  rw [← hA] at Y
  have hvm : s'.vm = s.vm := by rw [hA]; rfl
  have hhp : s'.heap = H := by rw [hA]; exact hT
  have hW0 : s.WarmedH s'.vm := by rw [hvm]; exact State.WarmedH.refl s
  have hat' : ∀ w ∈ vx_atS own ic cls names, w.before args s' = true := fun w hw => vx_ot_at hW0 hvm.symm (hgood w (List.mem_cons_of_mem _ (List.mem_cons_of_mem _ hw))) (hat w hw)
  have hk' : (Cond.classLink own ik cls).before args s' = true := vx_ot_at hW0 hvm.symm (hgood _ List.mem_cons_self) hk
  have hini' : (Cond.initialized cls).before args s' = true := vx_ot_at hW0 hvm.symm (hgood _ (List.mem_cons_of_mem _ List.mem_cons_self)) hini
  have hU' : vx_Zq Bundle.tN "UNASSIGNED_STACK" Bundle.steD A s' s'.heap := by rw [hhp]; exact vx_Zq.moved hW0.alike (hU.kept hS.2.1)
  have hN' : vx_Zq Bundle.tN "SUPPRESSED_SENTINEL" Bundle.listD A s' s'.heap := by rw [hhp]; exact vx_Zq.moved hW0.alike (hN.kept hS.2.1)
  have h : ∀ w ∈ Bundle.ownAtoms own ic cls names, w.before args s' = true := vx_own hat' (vx_isRefq hU'.1) (vx_isRefq hN'.1) hU'.2.word hN'.2.word
  have hown' : s'.vm.findClass own = some m.cls := by rw [hvm]; exact hown
  have hins : (Cond.instantiable cls 6).before args s' = true := h _ (by simp [Bundle.ownAtoms])
  obtain ⟨vm₁, cX, kX, hfX, hkX, -, -, X₁, st1⟩ := Y.newCold hexec (own := own) (C := cls) (index := ik) (n := 6) hown' hk' hins hini'
    (g := F0 m pc ls rest) rfl (by rw [hb]; exact d0) (Nat.le_refl _) (Nat.le_refl _)
  generalize hT1 : (T.setVm vm₁).pushCell { cls := cX, slots := kX.instanceTypes.map defaultValue, vm := .none } = T1 at X₁ st1
  have hcat : (Value.ref T.heap.size).category = 1 := rfl
  have hcellA : T1.heap[T.heap.size]? = some (freshCell cX kX) := by rw [← hT1]; exact State.heap_pushCell_size _ _
  have d3' : decode c.code (pc + 3) = .ok (.dup, 1) := by rw [hb]; exact d3
  have d4' : decode c.code (pc + 4) = .ok (.ldc is, 2) := by rw [hb]; exact d4
  have hstr' : vk_R own is text sa s' := vk_R.warm hW0 hstr
  obtain ⟨U, hsteps, hrun, hend, hW, hsame, ce, hce, hO⟩ := X₁.ctorThrowS hexec htr (own := own) (cls := cls) (names := names) (ic := ic) hown' hcls hnames h (fun x hx => nomatch hx) hfX hkX hcellA (by rw [hhp, hT]; exact Nat.le_refl _) (msg := .ref sa) rfl
    (g := { method := m, pc := pc + 6, locals := ls, stack := .ref sa :: .ref T.heap.size :: .ref T.heap.size :: rest, locked := none }) rfl hsize rfl rfl (rest := rest) rfl
    (by rw [hb]; exact d6) (by rw [hb]; exact d9) hout hRframes (by simp only [List.map_cons, List.sum_cons, hcat]; omega) hlocks
  obtain ⟨f1, f2⟩ := vx_frame hsame
  rw [hhp] at f1 f2
  have hWs : s.WarmedH U.vm := State.WarmedH.trans hW0 hW
  have hcl : s.vm.findClass cls = some ce.cls := by
    have h9 := hO.cls
    rw [hvm] at h9
    exact h9
  have hall : s.sameButNew ({ U with vm := s.vm } : State) locs mc ms := by
    subst hA
    obtain ⟨e1, e2⟩ := hsame
    rw [State.setFrames_setFrames] at e1
    have h2 : (T.setVm s.vm).sameButNew ({ U with vm := s.vm } : State) [] (0 + 1) (0 + 6) := ⟨e1, e2⟩
    have h3 := X.same.trans h2
    rw [List.append_nil] at h3
    exact h3.mono hc hs
  refine ⟨U, ?_, .threw T.heap.size, hrun, hend, Or.inr ⟨T.heap.size, rfl, cls, ce, locs, hx U hWs.alike f1 (fun q hq => f2 q hq (fun z hz => nomatch hz)), hce, hO.vm, hcl, hWs, hall, hf⟩⟩
  refine st1 _ ?_
  show Steps p.tables e below (T1.setTop { method := m, pc := pc + 3, locals := ls, stack := .ref T.heap.size :: rest, locked := none }) _
  jvm_step X₁.here [X₁.here.top, hexec, d3', Value.category]
  exact X₁.ldcString hexec (own := own) (text := text) (index := is) (a := sa) hown' hstr'.1 hstr'.2
    (g := { method := m, pc := pc + 4, locals := ls, stack := .ref T.heap.size :: .ref T.heap.size :: rest, locked := none }) rfl d4' _ hsteps
/-- 'throw new E("text")', the text by a wide index -/
theorem vx_throwSW {cc : ByteArray} {pc : Nat} (hexec : p.tables.exec = Jvm.exec) (hb : c.code = cc) (hl : l.stackTraces = false) {own cls text : String} {names : List String} {ik is ic mc ms sa : Nat} {A : Nat → Prop}
    (hown : s.vm.findClass own = some m.cls) (hcls : Bundle.fit cls = true) (hnames : ∀ n ∈ names, Bundle.fit n = true)
    (hk : (Cond.classLink own ik cls).before args s = true) (hini : (Cond.initialized cls).before args s = true) (hstr : vk_R own is text sa s) (hat : ∀ w ∈ vx_atS own ic cls names, w.before args s = true)
    (hgood : ∀ w ∈ Cond.classLink own ik cls :: Cond.initialized cls :: vx_atS own ic cls names, vx_ot w = true)
    (hU : vx_Zq Bundle.tN "UNASSIGNED_STACK" Bundle.steD A s s.heap) (hN : vx_Zq Bundle.tN "SUPPRESSED_SENTINEL" Bundle.listD A s s.heap) (hS : va_S A s.heap H locs) (hsize : ls.size = c.maxLocals)
    (d0 : decode cc pc = .ok (.new ik, 3)) (d3 : decode cc (pc + 3) = .ok (.dup, 1)) (d4 : decode cc (pc + 4) = .ok (.ldc_w is, 3)) (d7 : decode cc (pc + 7) = .ok (.invokespecial ic, 3)) (d10 : decode cc (pc + 10) = .ok (.athrow, 1))
    (hout : ∀ x ∈ c.exceptionTable.toList, covers x (pc + 10) = false)
    (hRframes : names.length + 3 < R.frames) (hRlocals : (rest.map fun v => v.category).sum + (13 * (names.length + 1) + 43) ≤ R.locals) (hRcells : cells + 1 ≤ R.cells) (hRslots : slots + 6 ≤ R.slots) (hlocks : meth.locks = false)
    (hx : ∀ t : State, s.vm.Alike t.vm → H.size ≤ t.heap.size → (∀ q : Nat, q < H.size → t.heap[q]? = H[q]?) → XC cls s t)
    (hf : ∀ z ∈ locs, free z.base) (hc : cells + 1 ≤ mc) (hs : slots + 6 ≤ ms) :
    W p l e R s m args below meth c H locs cells slots (vx_MQ below Qc XC args s mc ms free) (F0 m pc ls rest) := by
  intro T hT X
  have htr : e.platform.stackTraces = false := (show e.platform.stackTraces = l.stackTraces by rw [X.admits.platform]).trans hl
  have Y := vx_rebase X (R' := { frames := R.frames, locals := R.locals, cells := 1, slots := 6 }) (Nat.le_refl _) (Nat.le_refl _) hRcells hRslots
  obtain ⟨s', hA⟩ : ∃ z, z = (T.setVm s.vm).setFrames (.invoking m args :: below) := ⟨_, rfl⟩
  rw [← hA] at Y
  have hvm : s'.vm = s.vm := by rw [hA]; rfl
  have hhp : s'.heap = H := by rw [hA]; exact hT
  have hW0 : s.WarmedH s'.vm := by rw [hvm]; exact State.WarmedH.refl s
  have hat' : ∀ w ∈ vx_atS own ic cls names, w.before args s' = true := fun w hw => vx_ot_at hW0 hvm.symm (hgood w (List.mem_cons_of_mem _ (List.mem_cons_of_mem _ hw))) (hat w hw)
  have hk' : (Cond.classLink own ik cls).before args s' = true := vx_ot_at hW0 hvm.symm (hgood _ List.mem_cons_self) hk
  have hini' : (Cond.initialized cls).before args s' = true := vx_ot_at hW0 hvm.symm (hgood _ (List.mem_cons_of_mem _ List.mem_cons_self)) hini
  have hU' : vx_Zq Bundle.tN "UNASSIGNED_STACK" Bundle.steD A s' s'.heap := by rw [hhp]; exact vx_Zq.moved hW0.alike (hU.kept hS.2.1)
  have hN' : vx_Zq Bundle.tN "SUPPRESSED_SENTINEL" Bundle.listD A s' s'.heap := by rw [hhp]; exact vx_Zq.moved hW0.alike (hN.kept hS.2.1)
  have h : ∀ w ∈ Bundle.ownAtoms own ic cls names, w.before args s' = true := vx_own hat' (vx_isRefq hU'.1) (vx_isRefq hN'.1) hU'.2.word hN'.2.word
  have hown' : s'.vm.findClass own = some m.cls := by rw [hvm]; exact hown
  have hins : (Cond.instantiable cls 6).before args s' = true := h _ (by simp [Bundle.ownAtoms])
  obtain ⟨vm₁, cX, kX, hfX, hkX, -, -, X₁, st1⟩ := Y.newCold hexec (own := own) (C := cls) (index := ik) (n := 6) hown' hk' hins hini'
    (g := F0 m pc ls rest) rfl (by rw [hb]; exact d0) (Nat.le_refl _) (Nat.le_refl _)
  generalize hT1 : (T.setVm vm₁).pushCell { cls := cX, slots := kX.instanceTypes.map defaultValue, vm := .none } = T1 at X₁ st1
  have hcat : (Value.ref T.heap.size).category = 1 := rfl
  have hcellA : T1.heap[T.heap.size]? = some (freshCell cX kX) := by rw [← hT1]; exact State.heap_pushCell_size _ _
  have d3' : decode c.code (pc + 3) = .ok (.dup, 1) := by rw [hb]; exact d3
  have d4' : decode c.code (pc + 4) = .ok (.ldc_w is, 3) := by rw [hb]; exact d4
  have hstr' : vk_R own is text sa s' := vk_R.warm hW0 hstr
  obtain ⟨U, hsteps, hrun, hend, hW, hsame, ce, hce, hO⟩ := X₁.ctorThrowS hexec htr (own := own) (cls := cls) (names := names) (ic := ic) hown' hcls hnames h (fun x hx => nomatch hx) hfX hkX hcellA (by rw [hhp, hT]; exact Nat.le_refl _) (msg := .ref sa) rfl
    (g := { method := m, pc := pc + 7, locals := ls, stack := .ref sa :: .ref T.heap.size :: .ref T.heap.size :: rest, locked := none }) rfl hsize rfl rfl (rest := rest) rfl
    (by rw [hb]; exact d7) (by rw [hb]; exact d10) hout hRframes (by simp only [List.map_cons, List.sum_cons, hcat]; omega) hlocks
  obtain ⟨f1, f2⟩ := vx_frame hsame
  rw [hhp] at f1 f2
  have hWs : s.WarmedH U.vm := State.WarmedH.trans hW0 hW
  have hcl : s.vm.findClass cls = some ce.cls := by
    have h9 := hO.cls
    rw [hvm] at h9
    exact h9
  have hall : s.sameButNew ({ U with vm := s.vm } : State) locs mc ms := by
    subst hA
    obtain ⟨e1, e2⟩ := hsame
    rw [State.setFrames_setFrames] at e1
    have h2 : (T.setVm s.vm).sameButNew ({ U with vm := s.vm } : State) [] (0 + 1) (0 + 6) := ⟨e1, e2⟩
    have h3 := X.same.trans h2
    rw [List.append_nil] at h3
    exact h3.mono hc hs
  refine ⟨U, ?_, .threw T.heap.size, hrun, hend, Or.inr ⟨T.heap.size, rfl, cls, ce, locs, hx U hWs.alike f1 (fun q hq => f2 q hq (fun z hz => nomatch hz)), hce, hO.vm, hcl, hWs, hall, hf⟩⟩
  refine st1 _ ?_
  show Steps p.tables e below (T1.setTop { method := m, pc := pc + 3, locals := ls, stack := .ref T.heap.size :: rest, locked := none }) _
  jvm_step X₁.here [X₁.here.top, hexec, d3', Value.category]
  exact X₁.ldcStringW hexec (own := own) (text := text) (index := is) (a := sa) hown' hstr'.1 hstr'.2
    (g := { method := m, pc := pc + 4, locals := ls, stack := .ref T.heap.size :: .ref T.heap.size :: rest, locked := none }) rfl d4' _ hsteps
end Ends
section Bodies
variable {l : Launch}
theorem vx_ofW {y : MethodName} {ws ws' : List Cond} {rm : Room} {Pc : Array Value → State → Prop} {Qc : Array Value → State → Outcome → State → Prop} {XC : String → State → State → Prop} {mc ms : Nat} {free : Addr → Prop} {cc : ByteArray} {maxL : Nat} {ret : Option FieldType}
    (hy : plainName y.cls = true) (hw : ws = Cond.code y cc maxL ret :: ws')
    (body : ∀ p e s m args below meth c s₁, BodyLoose p l y (headSpec ws rm) cc maxL ret e s m args below meth c s₁ → c.maxLocals = maxL → (∀ x ∈ c.exceptionTable.toList, False) → Pc args s →
      W p l e (headSpec ws rm).room s m args below meth c s.heap [] 0 0 (vx_MQ below Qc XC args s mc ms free) (entryFrame m args maxL)) : vx_Met l y ws rm Pc Qc XC mc ms free := by
  refine MetFree.of_bodyS (code := cc) (maxLocals := maxL) (ret := ret) hy ?_ ?_
  · intro args s m h hn
    obtain ⟨meth, c, h1, h2, h3, h4, h5, h6, -, -⟩ := Cond.code_spec hn (atoms_spec (ws := ws) h _ (by rw [hw]; exact List.mem_cons_self))
    exact ⟨meth, c, h1, h2, h3, h4, h5, h6⟩
  · intro p e s m args below meth c s₁ B hml hP _
    have hh0 : s₁.heap = s.heap := by rw [B.state]; rfl
    have ht : ∀ x ∈ c.exceptionTable.toList, False := by
      obtain ⟨meth9, c9, h1, h2, -, -, -, -, h7, -⟩ := Cond.code_spec B.named (atoms_spec (ws := ws) B.pre _ (by rw [hw]; exact List.mem_cons_self))
      cases Option.some.inj (h1.symm.trans B.method)
      cases Option.some.inj (h2.symm.trans (Stand.of_body B).code)
      intro x hx
      rw [Array.isEmpty_iff.mp h7] at hx
      cases hx
    obtain ⟨t, a1, o, b1, b2, b3⟩ := body p e s m args below meth c s₁ B hml ht hP s₁ hh0 (Stand.of_body B)
    exact ⟨t, o, a1, b1, b2, b3⟩
/-- the table of a body with handlers -/
theorem vx_table {p : Program} {x y : MethodName} {S : Spec} {cc bytes : ByteArray} {maxL maxL' : Nat} {ret ret' : Option FieldType} {e : Env} {s s₁ : State} {m : MethodId} {args : Array Value} {below : List Frame} {meth : Method} {c : Code} {hh : List (Nat × Nat × Nat × Nat)}
    (B : BodyLoose p l y S cc maxL ret e s m args below meth c s₁) (h : (Cond.codeWith y bytes maxL' ret' hh).before args s = true) : c.exceptionTable.toList = tableOf hh := by
  obtain ⟨m9, meth9, c9, hn9, h1, h2, -, -, h6, -⟩ := Cond.codeWith_spec h
  cases Option.some.inj (hn9.symm.trans B.named)
  cases Option.some.inj (h1.symm.trans B.method)
  cases Option.some.inj (h2.symm.trans (Stand.of_body B).code)
  rw [← h6, table_eq]
end Bodies
end VXA
/-! ===== END ===== -/
/-! ===== BEGIN a static call of a method with an exception table ===== -/
section VXS
variable {p : Program} {l : Launch} {e : Env} {R : Room} {s : State} {m : MethodId} {args : Array Value} {below : List Frame} {meth : Method} {c : Code} {T : State} {H : Heap} {locs : List Loc} {cells slots : Nat}
abbrev vx_CSW (R : Room) (s : State) (args : Array Value) (own : String) (index : Nat) (y : MethodName) (bytes : ByteArray) (maxL : Nat) (ret : Option FieldType) (hh : List (Nat × Nat × Nat × Nat)) (ws : List Cond) (rm : Room) (mc ms n : Nat) : Prop :=
  (rm.cells = mc ∧ rm.slots = ms ∧ rm.frames + 1 ≤ R.frames ∧ 8 + (maxL + 11) + rm.locals ≤ R.locals ∧ (∀ w ∈ ws, ∀ (a' : Array Value) (U : State), s.WarmedH U.vm → w.before a' U = true) ∧ Cond.codeWith y bytes maxL ret hh ∈ ws) ∧
  (Cond.codeWith y bytes maxL ret hh).before args s = true ∧ (Cond.initialized y.cls).before args s = true ∧ (y.cls ≠ "java/lang/invoke/MethodHandle" ∧ y.cls ≠ "java/lang/invoke/VarHandle") ∧
  (∀ sig, parseMethodDescriptor y.desc = some sig → n = sig.parameters.length) ∧ (Cond.methodLink own index y).before args s = true ∧ (Cond.static y).before args s = true
theorem vx_cwSW {own : String} {index maxL mc ms : Nat} {y : MethodName} {bytes : ByteArray} {ret : Option FieldType} {hh : List (Nat × Nat × Nat × Nat)} {Ts ws ws' : List Cond} {rm : Room} (n : Nat) (ht : ∀ w ∈ Ts, w.before args s = true) (hT : GoodIn Ts (va_wsS own index y ws)) (hw : ws = Cond.codeWith y bytes maxL ret hh :: ws') (hrc : rm.cells = mc) (hrs : rm.slots = ms)
    (hd : y.cls ≠ "java/lang/invoke/MethodHandle" ∧ y.cls ≠ "java/lang/invoke/VarHandle" ∧ (parseMethodDescriptor y.desc).map (fun d => d.parameters.length) = some n) (hR : rm.frames + 1 ≤ R.frames ∧ 8 + (maxL + 11) + rm.locals ≤ R.locals) :
    vx_CSW R s args own index y bytes maxL ret hh ws rm mc ms n := by
  have ok : ∀ w ∈ va_wsS own index y ws, w.before args s = true := fun w h => ht w (hT w h).1
  have hG : GoodIn Ts ws := fun w h => hT w (by unfold va_wsS; exact List.mem_append_right _ h)
  have hc : Cond.codeWith y bytes maxL ret hh ∈ ws := by rw [hw]; exact List.mem_cons_self
  refine ⟨⟨hrc, hrs, hR.1, hR.2, pay_in ht hG, hc⟩, ht _ (hG _ hc).1, ok _ (by simp [va_wsS]), ⟨hd.1, hd.2.1⟩, fun sig h => ?_, ok _ (by simp [va_wsS]), ok _ (by simp [va_wsS])⟩
  have h2 := hd.2.2
  rw [h] at h2
  exact (Option.some.inj h2).symm
theorem vx_callSW (X : Stand p l e R s m args below meth c T locs cells slots) (hexec : p.tables.exec = Jvm.exec) {own : String} {index : Nat} {y : MethodName} {bytes : ByteArray} {maxL : Nat} {ret : Option FieldType} {hh : List (Nat × Nat × Nat × Nat)}
    (hown : s.vm.findClass own = some m.cls) (hlink : (Cond.methodLink own index y).before args s = true) (hstat : (Cond.static y).before args s = true) (hinit : (Cond.initialized y.cls).before args s = true)
    (hcode : (Cond.codeWith y bytes maxL ret hh).before args s = true) (hy : y.cls ≠ "java/lang/invoke/MethodHandle" ∧ y.cls ≠ "java/lang/invoke/VarHandle")
    {W9 : Nat} {Pre : Pt → Array Value → Prop} {Post : Pt → Array Value → Option Value → Pt → Prop} (hK : Back l R p e below s args y 3 W9 Pre Post)
    {g : JFrame} (hg : g.method = m) (hsize : g.locals.size = c.maxLocals) {argsL rest : List Value} (hlen : ∀ sig, parseMethodDescriptor y.desc = some sig → argsL.length = sig.parameters.length)
    (hstack : g.stack = argsL.reverse ++ rest) (hW : 2 * g.monitorRoom + (rest.map fun v => v.category).sum ≤ W9) (hdg : decode c.code g.pc = .ok (.invokestatic index, 3))
    (hpre : ∀ vm₁, s.WarmedH vm₁ → Pre ⟨T.setVm vm₁, locs, cells, slots⟩ argsL.toArray) :
    ∃ (v : Option Value) (vm₁ : Vm) (B : Pt), s.WarmedH vm₁ ∧ Stand p l e R s m args below meth c B.U B.locs B.cells B.slots ∧ Post ⟨T.setVm vm₁, locs, cells, slots⟩ argsL.toArray v B ∧
      ∀ target, Steps p.tables e below (B.U.setTop { g with pc := g.pc + 3, stack := v.toList ++ rest }) target → Steps p.tables e below (T.setTop g) target := by
  obtain ⟨mk, methM, cM, hnamed, hmethM, -, -, -, -, -, -, hsigM⟩ := Cond.codeWith_spec hcode
  have hstatic : methM.isStatic = true := Cond.static_spec hnamed hmethM hstat
  obtain ⟨kP, hkP, -⟩ := className_of_methodNamed hnamed
  have hinitP : kP.init = .initialized := Cond.initialized_spec (findClass_of_methodNamed hnamed) hkP hinit
  obtain ⟨vm₁, X₁, hstep₁⟩ := X.invokestatic hexec hown hlink hnamed hmethM hstatic hkP hinitP hy (g := g) hg (argsL := argsL) (rest := rest) (hlen _ hsigM) hstack hdg
  obtain ⟨v, B, X', hpost, hsteps⟩ := hK m meth c ⟨T.setVm vm₁, locs, cells, slots⟩ { g with stack := rest } (.invokestatic index) mk argsL.toArray X₁ hg hsize hdg hW (X₁.named hnamed) (hpre vm₁ X₁.warmed)
  exact ⟨v, vm₁, B, X₁.warmed, X', hpost, fun target h => hstep₁ _ fun acts => by rw [doInvoke_state]; exact hsteps.trans h⟩
theorem vx_runSW {y : MethodName} {bytes cc : ByteArray} {maxL nL mc ms n index : Nat} {ret : Option FieldType} {hh : List (Nat × Nat × Nat × Nat)} {ws : List Cond} {rm : Room} {Pc : Array Value → State → Prop} {Qc : Array Value → State → Outcome → State → Prop} {free : Addr → Prop} {Ts : List Cond} {own : String} {As rest : List Value} {g : JFrame}
    (S : CallFix p m c cc nL s args Ts own) (hM : Met l y ws rm Pc Qc mc ms free) (cw : vx_CSW R s args own index y bytes maxL ret hh ws rm mc ms n) (hp : PreS s H Pc As)
    (hg : g.method = m) (hn : As.length = n) (hsize : g.locals.size = nL) (hstack : g.stack = As.reverse ++ rest) (hW : 2 * g.monitorRoom + (rest.map fun v => v.category).sum ≤ 8) (hdg : decode cc g.pc = .ok (.invokestatic index, 3)) (hf : cells + mc ≤ R.cells ∧ slots + ms ≤ R.slots) :
    va_Run p l e R s m args below meth c H locs cells slots mc ms g rest (Qc As.toArray) (free) := by
  obtain ⟨⟨hrc, hrs, hfr, hlo, hws, hcw⟩, hcode, hini, hy, hlen, hl, hstt⟩ := cw
  have hK : Back l R p e below s args y 3 8 (PreOf R mc ms Pc) (PostOf Qc mc ms free) := va_backW (hh := hh) (bytes := bytes) (maxL := maxL) (ret := ret) hM hp.1 hrc hrs hfr hlo hws hcw (fun a' U hW => word_at hW (Or.inl (by first | rfl | simp [Cond.onTables, Cond.keeps, Cond.steady])) hini)
  obtain ⟨hx, hb, hml, ho, -⟩ := S
  intro T hT X
  obtain ⟨v, vm₁, ⟨U', l2, c2, s2⟩, hW₁, X', ⟨g', mk, t, L, e1, e2, hq, h1, hL, h2, h3⟩, st⟩ := vx_callSW X hx (hh := hh) (bytes := bytes) (maxL := maxL) (ret := ret) ho hl hstt hini hcode hy hK hg (hsize.trans hml.symm) (argsL := As) (rest := rest) (fun sig h => hn.trans (hlen sig h)) hstack hW (by rw [hb]; exact hdg)
    (fun vm₁ hW₁ => ⟨hf.1, hf.2, hp.2 (T.setVm vm₁) hT hW₁⟩)
  dsimp only [Pt.U, Pt.locs, Pt.cells, Pt.slots] at X' e1 e2 h1 h2 h3 st
  subst h1; subst h2; subst h3
  exact ⟨v, (T.setVm vm₁).calling g' mk As.toArray, t, U', L, hT, X', hL, e1, e2, hq, st⟩
/-- not caught here, past rows that name other classes: it goes on to the caller -/
theorem vx_outP {p : Program} {l : Launch} {e : Env} {R : Room} {s : State} {m : MethodId} {args : Array Value} {below : List Frame} {meth : Method} {c : Code} {H : Heap} {locs : List Loc} {cells slots : Nat} {free : Addr → Prop} {ls : Array Slot} {rest : List Value} {Qc : Array Value → State → Outcome → State → Prop} {XC : String → State → State → Prop}
    {pc : Nat} {own E : String} {ce : Cell} {q : Addr} {mc ms : Nat} (hown : s.vm.findClass own = some m.cls) (hlocks : meth.locks = false)
    (hpass : ∀ z ∈ c.exceptionTable.toList, covers z pc = false ∨ (z.catchType ≠ 0 ∧ ∃ nm : String, (Cond.classLink own z.catchType nm).before args s = true ∧ va_Nc E nm s)) (hcell : H[q]? = some ce) (hv : ce.vm = .none) (hcl : s.vm.findClass E = some ce.cls)
    (hx : ∀ t : State, t.heap = H → s.vm.Alike t.vm → XC E s t) (hf : ∀ z ∈ locs, free z.base) (hc : cells ≤ mc) (hs : slots ≤ ms) :
    vx_W p l e R s m args below meth c H locs cells slots (vx_MQ below Qc XC args s mc ms free) (F0 m pc ls rest) q := by
  intro T hT X
  have hpl : e.platform.magicAccessors = ({} : Platform).magicAccessors := by rw [X.admits.platform]
  obtain ⟨vm', hW', X', st⟩ := X.outThrough hlocks q (g := F0 m pc ls rest) rfl rfl rfl (cell := ce) (by rw [hT]; exact hcell) (by rw [hv]; rfl)
    (by obtain ⟨k9, h9, -⟩ := Vm.findClass_spec hcl; exact ⟨k9, h9⟩) (fun z hz => by
      rcases hpass z hz with h | ⟨hz0, nm, hl1, hn1⟩
      · exact Or.inl h
      · obtain ⟨c6, hc6, hcl6⟩ := Cond.classLink_spec hown hl1 e.platform hpl
        obtain ⟨a8, b8, h1, h2, h3⟩ := hn1
        cases Option.some.inj (h1.symm.trans hcl)
        cases Option.some.inj (h2.symm.trans hc6)
        exact Or.inr ⟨hz0, _, hcl6, h3⟩)
  obtain ⟨g₀, hfr⟩ := X'.frames_eq
  have hcell9 : ((T.setVm vm').setFrames (.throwing q :: below)).heap[q]? = some ce := by
    show T.heap[q]? = some ce
    rw [hT]; exact hcell
  have hend : Ended ((T.setVm vm').setFrames (.throwing q :: below)) below (.threw q) := State.frames_setFrames _ (State.cur_lt_of_frames hfr)
  refine ⟨(T.setVm vm').setFrames (.throwing q :: below), ?_, .threw q, X'.here.running, hend, Or.inr ⟨q, rfl, E, ce, locs, hx _ hT (X'.ends _).1.alike, hcell9, hv, hcl, (X'.ends _).1, (X'.ends _).2.mono hc hs, hf⟩⟩
  rw [X.pushThrowing_eq]
  exact st
/-- a thing of a world lies in the heap -/
theorem vx_lt {D : va_G} {cl : List vw_C} {ws : va_W} {H1 : Heap} (h : va_P D cl ws H1) {k : Nat} {q : Nat × va_E} (hk : ws[k]? = some q) : q.1 < H1.size := (h k q hk).lt
end VXS
/-! ===== END ===== -/
/-! ===== BEGIN methods with a table of their own: called by a name, returning or throwing ===== -/
section VXH
/-! vx_backW, vx_callVX, vx_callSX, vx_callVW, vx_runVW, vx_runVX, vx_runSX, vx_ofWH follow the same proofs as their sisters above (Free/Laws.lean, Shelf42/LK1.lean); vx_outP calls Shelf42/NT130.lean (outThrough). -/
section
variable {l : Launch} {R : Room} {p : Program} {e : Env} {below : List Frame} {s : State} {sargs : Array Value} {y : MethodName} {len W9 : Nat}
theorem vx_backW {ws : List Cond} {rm : Room} {Pc : Array Value → State → Prop} {Qc : Array Value → State → Outcome → State → Prop} {XC : String → State → State → Prop} {mc ms : Nat} {free : Addr → Prop} {bytes : ByteArray} {maxL : Nat} {ret : Option FieldType} {hh : List (Nat × Nat × Nat × Nat)}
    (hM : vx_Met l y ws rm Pc Qc XC mc ms free) (hblind : FrameBlind Pc) (hrc : rm.cells = mc) (hrs : rm.slots = ms)
    (hframes : rm.frames + 1 ≤ R.frames) (hlocals : W9 + (maxL + 11) + rm.locals ≤ R.locals)
    (hws : ∀ w ∈ ws, ∀ a' U, s.WarmedH U.vm → w.before a' U = true) (hcode : Cond.codeWith y bytes maxL ret hh ∈ ws) (hinit : ∀ a' U, s.WarmedH U.vm → (Cond.initialized y.cls).before a' U = true) :
    vx_Back l R p e below s sargs y len W9 (PreOf R mc ms Pc) (PostOf Qc mc ms free) (vx_Post XC mc ms free) := by
  intro m meth c A g ig mk a X hg hsize hdg hW hn hp
  have h1 : (headSpec ws rm).pre.before a A.U = true := atoms_intro fun w hw => hws w hw _ _ X.warmed
  have h2 : (Cond.codeWith y bytes maxL ret hh).before a A.U = true := hws _ hcode _ _ X.warmed
  have h3 : (Cond.initialized y.cls).before a A.U = true := hinit _ _ X.warmed
  have h4 : A.cells + (headSpec ws rm).room.cells ≤ R.cells := by rw [show (headSpec ws rm).room.cells = mc from hrc]; exact hp.1
  have h5 : A.slots + (headSpec ws rm).room.slots ≤ R.slots := by rw [show (headSpec ws rm).room.slots = ms from hrs]; exact hp.2.1
  have hPc : Pc a (A.U.calling g mk a) := hblind _ _ _ _ hp.2.2
  obtain ⟨U, Ls, c0, s0⟩ := A
  dsimp only [Pt.U, Pt.locs, Pt.cells, Pt.slots] at h1 h2 h3 h4 h5 X hn hPc ⊢
  obtain ⟨m9, methY, cY, hn9, hmY, hcY, -, hlY, -⟩ := Cond.codeWith_spec h2
  cases Option.some.inj (hn9.symm.trans hn)
  obtain ⟨kY, hkY, -⟩ := className_of_methodNamed hn
  have hinitY : kY.init = .initialized := Cond.initialized_spec (findClass_of_methodNamed hn) hkY h3
  have h : At U g.method c below := by rw [hg]; exact X.here
  have hlocals9 : W9 + (maxL + 11) + (headSpec ws rm).room.locals ≤ R.locals := hlocals
  have happ : (headSpec ws rm).appliesLoose y e.platform (U.calling g mk a) = true :=
    Spec.appliesLoose_calling (g := g) h hdg hn hkY hinitY
      (X.room_calling (g := g) (R' := (headSpec ws rm).room) hsize hmY hcY hframes (by rw [hlY]; omega) h4 h5) h1
  obtain ⟨mid, hmid⟩ := h.above
  have hfr : (U.setTop g).frames = (.java g :: mid) ++ below := by rw [State.frames_setTop' g h.top, hmid]; rfl
  obtain ⟨o, s₂, hsteps, -, hend, hq⟩ := Steps.callFree hM p X.admits X.cas X.clock (acts := []) hfr happ hPc trivial
  have hq' : vx_Q Qc XC mc ms free a (U.calling g mk a) o s₂ := hq
  rw [State.frames_setTop' g h.top] at hend
  obtain ⟨g₀, hg0⟩ := Option.isSome_iff_exists.mp h.top
  obtain ⟨r, hr⟩ := State.topJava?_eq_some.mp hg0
  have hr' : (({ U with heap := s₂.heap, slotsUsed := s₂.slotsUsed } : State).setVm s₂.vm).frames = .java g₀ :: r := hr
  rcases hq' with ⟨hqc, L, hfe, hL⟩ | ⟨q, rfl, E, ce, L, hx, hce, hcv, hcl, hW₂, hsm, hL⟩
  · obtain ⟨⟨v, rfl⟩, hW₂, e2, q2, q3, q4, q5, q6⟩ := id hfe
    have e3 : s₂ = ({ (U.calling g mk a).setFrames s₂.frames with heap := s₂.heap, slotsUsed := s₂.slotsUsed } : State).setVm s₂.vm := by
      have : s₂ = ({ s₂ with vm := (U.calling g mk a).vm } : State).setVm s₂.vm := rfl
      rw [e2] at this
      exact this
    obtain ⟨c₂, i₂, len₂, hc₂, hd₂, hf₂⟩ := hend
    have hW' : U.WarmedH s₂.vm := hW₂
    have hcc : c₂ = c := by
      have h1 : s₂.code? g.method = U.code? g.method := by
        rw [State.code?_eq, State.code?_eq, hW'.alike.method?]
      exact Option.some.inj (hc₂.symm.trans (h1.trans h.code))
    subst hcc
    have hlen : len₂ = len := by rw [hdg] at hd₂; cases hd₂; rfl
    subst hlen
    have hs₂ : s₂ = (({ U with heap := s₂.heap, slotsUsed := s₂.slotsUsed } : State).setVm s₂.vm).setTop { g with pc := g.pc + len₂, stack := v.toList ++ g.stack } := by
      refine e3.trans ?_
      rw [hf₂, State.calling_eq h.top, State.setFrames_setFrames, State.setTop_of_frames _ hr', hr]
      rfl
    have hsame : U.sameButNew ({ U with heap := s₂.heap, slotsUsed := s₂.slotsUsed } : State) L mc ms := by
      refine ⟨?_, q2, q3, q4, q5, q6⟩
      obtain ⟨t, ht, -⟩ := State.frames_cons hr
      show ({ U with heap := s₂.heap, slotsUsed := s₂.slotsUsed } : State) = { U.setFrames U.frames with heap := s₂.heap, slotsUsed := s₂.slotsUsed }
      rw [State.setFrames_self ht]
    subst hg
    refine Or.inl ⟨v, ⟨(({ U with heap := s₂.heap, slotsUsed := s₂.slotsUsed } : State).setVm s₂.vm), Ls ++ L, c0 + mc, s0 + ms⟩,
      ⟨X.admits, X.cas, X.clock, X.frames, X.room, X.hears, X.method, X.code, (X.here.setHeapUsed s₂.heap s₂.slotsUsed).setVm hW'.alike, X.tail, State.WarmedH.trans X.warmed hW', X.limits, X.bytes, X.same.trans (hsame.setVm s.vm)⟩,
      ⟨g, mk, s₂, L, rfl, rfl, hqc, rfl, hL, rfl, rfl⟩, ?_⟩
    show Steps p.tables e below _ ((({ U with heap := s₂.heap, slotsUsed := s₂.slotsUsed } : State).setVm s₂.vm).setTop { g with pc := g.pc + len₂, stack := v.toList ++ g.stack })
    rw [← hs₂]
    exact hsteps
  · obtain ⟨e2, q2, q3, q4, q5, q6⟩ := id hsm
    have e3 : s₂ = ({ (U.calling g mk a).setFrames s₂.frames with heap := s₂.heap, slotsUsed := s₂.slotsUsed } : State).setVm s₂.vm := by
      have : s₂ = ({ s₂ with vm := (U.calling g mk a).vm } : State).setVm s₂.vm := rfl
      rw [e2] at this
      exact this
    have hf₂ : s₂.frames = .throwing q :: .java g :: U.frames.tail := hend
    have hW' : U.WarmedH s₂.vm := hW₂
    have hs₂ : s₂ = ((({ U with heap := s₂.heap, slotsUsed := s₂.slotsUsed } : State).setVm s₂.vm).setTop g).pushFrame (.throwing q) := by
      refine e3.trans ?_
      rw [hf₂, State.calling_eq h.top, State.setFrames_setFrames, State.pushFrame, State.frames_setTop _ hr', State.setTop_of_frames _ hr', State.setFrames_setFrames, hr]
      rfl
    have hsame : U.sameButNew ({ U with heap := s₂.heap, slotsUsed := s₂.slotsUsed } : State) L mc ms := by
      refine ⟨?_, q2, q3, q4, q5, q6⟩
      obtain ⟨t, ht, -⟩ := State.frames_cons hr
      show ({ U with heap := s₂.heap, slotsUsed := s₂.slotsUsed } : State) = { U.setFrames U.frames with heap := s₂.heap, slotsUsed := s₂.slotsUsed }
      rw [State.setFrames_self ht]
    subst hg
    refine Or.inr ⟨q, ⟨(({ U with heap := s₂.heap, slotsUsed := s₂.slotsUsed } : State).setVm s₂.vm), Ls ++ L, c0 + mc, s0 + ms⟩,
      ⟨X.admits, X.cas, X.clock, X.frames, X.room, X.hears, X.method, X.code, (X.here.setHeapUsed s₂.heap s₂.slotsUsed).setVm hW'.alike, X.tail, State.WarmedH.trans X.warmed hW', X.limits, X.bytes, X.same.trans (hsame.setVm s.vm)⟩,
      ⟨g, mk, s₂, L, E, ce, rfl, rfl, hx, hce, hcv, hcl, rfl, hL, rfl, rfl⟩, ?_⟩
    show Steps p.tables e below _ (((({ U with heap := s₂.heap, slotsUsed := s₂.slotsUsed } : State).setVm s₂.vm).setTop g).pushFrame (.throwing q))
    rw [← hs₂]
    exact hsteps
end
variable {p : Program} {l : Launch} {e : Env} {R : Room} {s : State} {m : MethodId} {args : Array Value} {below : List Frame} {meth : Method} {c : Code} {T : State} {H : Heap} {locs : List Loc} {cells slots : Nat}
theorem vx_callVX (X : Stand p l e R s m args below meth c T locs cells slots) (hexec : p.tables.exec = Jvm.exec) {own C : String} {index : Nat} {y : MethodName} {bytes : ByteArray} {maxL : Nat} {ret : Option FieldType} {hh : List (Nat × Nat × Nat × Nat)}
    (hown : s.vm.findClass own = some m.cls) (hlink : (Cond.methodLink own index y).before args s = true) (hinst : (Cond.instanceMethod y).before args s = true) (hsel : (Cond.selects C y y).before args s = true)
    (hcode : (Cond.codeWith y bytes maxL ret hh).before args s = true) (hy : y.cls ≠ "java/lang/invoke/MethodHandle" ∧ y.cls ≠ "java/lang/invoke/VarHandle")
    {W9 : Nat} {Pre : Pt → Array Value → Prop} {Post : Pt → Array Value → Option Value → Pt → Prop} {PostX : Pt → Array Value → Addr → Pt → Prop} (hK : vx_Back l R p e below s args y 3 W9 Pre Post PostX)
    {b : Addr} {cellB : Cell} (hcell : T.heap[b]? = some cellB) (hobj : cellB.vm.isStatics = false) (hcls : s.vm.findClass C = some cellB.cls)
    {g : JFrame} (hg : g.method = m) (hsize : g.locals.size = c.maxLocals) {argsL rest : List Value} (hlen : ∀ sig, parseMethodDescriptor y.desc = some sig → argsL.length = sig.parameters.length)
    (hstack : g.stack = argsL.reverse ++ .ref b :: rest) (hW : 2 * g.monitorRoom + (rest.map fun v => v.category).sum ≤ W9) (hdg : decode c.code g.pc = .ok (.invokevirtual index, 3))
    (hpre : ∀ vm₁, s.WarmedH vm₁ → Pre ⟨T.setVm vm₁, locs, cells, slots⟩ (Value.ref b :: argsL).toArray) :
    (∃ (v : Option Value) (vm₁ : Vm) (B : Pt), s.WarmedH vm₁ ∧ Stand p l e R s m args below meth c B.U B.locs B.cells B.slots ∧ Post ⟨T.setVm vm₁, locs, cells, slots⟩ (Value.ref b :: argsL).toArray v B ∧
      ∀ target, Steps p.tables e below (B.U.setTop { g with pc := g.pc + 3, stack := v.toList ++ rest }) target → Steps p.tables e below (T.setTop g) target) ∨
    (∃ (q : Addr) (vm₁ : Vm) (B : Pt), s.WarmedH vm₁ ∧ Stand p l e R s m args below meth c B.U B.locs B.cells B.slots ∧ PostX ⟨T.setVm vm₁, locs, cells, slots⟩ (Value.ref b :: argsL).toArray q B ∧
      Steps p.tables e below (T.setTop g) ((B.U.setTop { g with stack := rest }).pushFrame (.throwing q))) := by
  obtain ⟨mk, methM, hnamed, hmethM, hstM, habM⟩ := Cond.instanceMethod_spec hinst
  obtain ⟨m8, methM', cM, hn8, hmethM', -, -, -, -, -, -, hsigM⟩ := Cond.codeWith_spec hcode
  cases Option.some.inj (hn8.symm.trans hnamed)
  cases hmethM.symm.trans hmethM'
  obtain ⟨c2, r2, m2, q1, q2, q3, q4, kP, hkP, hkPi⟩ := Cond.selects_spec hsel
  cases hcls.symm.trans q1
  cases (State.methodFound?_of_named hnamed hy).symm.trans q2
  cases hnamed.symm.trans q3
  have hselP : selectMethod e.platform s.vm cellB.cls mk = .method mk := by rw [Launch.admits_selectMethod X.admits]; exact q4
  obtain ⟨vm₁, X₁, hstep₁⟩ := X.invokevirtual hexec hown hlink hnamed hmethM hstM hkP hkPi hy (a := b) (cell := cellB) hcell
    (fun z h => by rw [h] at hobj; cases hobj) hselP hmethM habM hkP hkPi (g := g) hg (argsL := argsL) (rest := rest) (hlen _ hsigM) hstack hdg
  rcases hK m meth c ⟨T.setVm vm₁, locs, cells, slots⟩ { g with stack := rest } (.invokevirtual index) mk (Value.ref b :: argsL).toArray X₁ hg hsize hdg hW (X₁.named hnamed) (hpre vm₁ X₁.warmed) with ⟨v, B, X', hpost, hsteps⟩ | ⟨q, B, X', hpost, hsteps⟩
  · exact Or.inl ⟨v, vm₁, B, X₁.warmed, X', hpost, fun target h => hstep₁ _ fun acts => by rw [doInvoke_state]; exact hsteps.trans h⟩
  · exact Or.inr ⟨q, vm₁, B, X₁.warmed, X', hpost, hstep₁ _ fun acts => by rw [doInvoke_state]; exact hsteps⟩
theorem vx_callSX (X : Stand p l e R s m args below meth c T locs cells slots) (hexec : p.tables.exec = Jvm.exec) {own : String} {index : Nat} {y : MethodName} {bytes : ByteArray} {maxL : Nat} {ret : Option FieldType} {hh : List (Nat × Nat × Nat × Nat)}
    (hown : s.vm.findClass own = some m.cls) (hlink : (Cond.methodLink own index y).before args s = true) (hstat : (Cond.static y).before args s = true) (hinit : (Cond.initialized y.cls).before args s = true)
    (hcode : (Cond.codeWith y bytes maxL ret hh).before args s = true) (hy : y.cls ≠ "java/lang/invoke/MethodHandle" ∧ y.cls ≠ "java/lang/invoke/VarHandle")
    {W9 : Nat} {Pre : Pt → Array Value → Prop} {Post : Pt → Array Value → Option Value → Pt → Prop} {PostX : Pt → Array Value → Addr → Pt → Prop} (hK : vx_Back l R p e below s args y 3 W9 Pre Post PostX)
    {g : JFrame} (hg : g.method = m) (hsize : g.locals.size = c.maxLocals) {argsL rest : List Value} (hlen : ∀ sig, parseMethodDescriptor y.desc = some sig → argsL.length = sig.parameters.length)
    (hstack : g.stack = argsL.reverse ++ rest) (hW : 2 * g.monitorRoom + (rest.map fun v => v.category).sum ≤ W9) (hdg : decode c.code g.pc = .ok (.invokestatic index, 3))
    (hpre : ∀ vm₁, s.WarmedH vm₁ → Pre ⟨T.setVm vm₁, locs, cells, slots⟩ argsL.toArray) :
    (∃ (v : Option Value) (vm₁ : Vm) (B : Pt), s.WarmedH vm₁ ∧ Stand p l e R s m args below meth c B.U B.locs B.cells B.slots ∧ Post ⟨T.setVm vm₁, locs, cells, slots⟩ argsL.toArray v B ∧
      ∀ target, Steps p.tables e below (B.U.setTop { g with pc := g.pc + 3, stack := v.toList ++ rest }) target → Steps p.tables e below (T.setTop g) target) ∨
    (∃ (q : Addr) (vm₁ : Vm) (B : Pt), s.WarmedH vm₁ ∧ Stand p l e R s m args below meth c B.U B.locs B.cells B.slots ∧ PostX ⟨T.setVm vm₁, locs, cells, slots⟩ argsL.toArray q B ∧
      Steps p.tables e below (T.setTop g) ((B.U.setTop { g with stack := rest }).pushFrame (.throwing q))) := by
  obtain ⟨mk, methM, cM, hnamed, hmethM, -, -, -, -, -, -, hsigM⟩ := Cond.codeWith_spec hcode
  have hstatic : methM.isStatic = true := Cond.static_spec hnamed hmethM hstat
  obtain ⟨kP, hkP, -⟩ := className_of_methodNamed hnamed
  have hinitP : kP.init = .initialized := Cond.initialized_spec (findClass_of_methodNamed hnamed) hkP hinit
  obtain ⟨vm₁, X₁, hstep₁⟩ := X.invokestatic hexec hown hlink hnamed hmethM hstatic hkP hinitP hy (g := g) hg (argsL := argsL) (rest := rest) (hlen _ hsigM) hstack hdg
  rcases hK m meth c ⟨T.setVm vm₁, locs, cells, slots⟩ { g with stack := rest } (.invokestatic index) mk argsL.toArray X₁ hg hsize hdg hW (X₁.named hnamed) (hpre vm₁ X₁.warmed) with ⟨v, B, X', hpost, hsteps⟩ | ⟨q, B, X', hpost, hsteps⟩
  · exact Or.inl ⟨v, vm₁, B, X₁.warmed, X', hpost, fun target h => hstep₁ _ fun acts => by rw [doInvoke_state]; exact hsteps.trans h⟩
  · exact Or.inr ⟨q, vm₁, B, X₁.warmed, X', hpost, hstep₁ _ fun acts => by rw [doInvoke_state]; exact hsteps⟩
theorem vx_callVW (X : Stand p l e R s m args below meth c T locs cells slots) (hexec : p.tables.exec = Jvm.exec) {own C : String} {index : Nat} {y : MethodName} {bytes : ByteArray} {maxL : Nat} {ret : Option FieldType} {hh : List (Nat × Nat × Nat × Nat)}
    (hown : s.vm.findClass own = some m.cls) (hlink : (Cond.methodLink own index y).before args s = true) (hinst : (Cond.instanceMethod y).before args s = true) (hsel : (Cond.selects C y y).before args s = true)
    (hcode : (Cond.codeWith y bytes maxL ret hh).before args s = true) (hy : y.cls ≠ "java/lang/invoke/MethodHandle" ∧ y.cls ≠ "java/lang/invoke/VarHandle")
    {W9 : Nat} {Pre : Pt → Array Value → Prop} {Post : Pt → Array Value → Option Value → Pt → Prop} (hK : Back l R p e below s args y 3 W9 Pre Post)
    {b : Addr} {cellB : Cell} (hcell : T.heap[b]? = some cellB) (hobj : cellB.vm.isStatics = false) (hcls : s.vm.findClass C = some cellB.cls)
    {g : JFrame} (hg : g.method = m) (hsize : g.locals.size = c.maxLocals) {argsL rest : List Value} (hlen : ∀ sig, parseMethodDescriptor y.desc = some sig → argsL.length = sig.parameters.length)
    (hstack : g.stack = argsL.reverse ++ .ref b :: rest) (hW : 2 * g.monitorRoom + (rest.map fun v => v.category).sum ≤ W9) (hdg : decode c.code g.pc = .ok (.invokevirtual index, 3))
    (hpre : ∀ vm₁, s.WarmedH vm₁ → Pre ⟨T.setVm vm₁, locs, cells, slots⟩ (Value.ref b :: argsL).toArray) :
    ∃ (v : Option Value) (vm₁ : Vm) (B : Pt), s.WarmedH vm₁ ∧ Stand p l e R s m args below meth c B.U B.locs B.cells B.slots ∧ Post ⟨T.setVm vm₁, locs, cells, slots⟩ (Value.ref b :: argsL).toArray v B ∧
      ∀ target, Steps p.tables e below (B.U.setTop { g with pc := g.pc + 3, stack := v.toList ++ rest }) target → Steps p.tables e below (T.setTop g) target := by
  obtain ⟨mk, methM, hnamed, hmethM, hstM, habM⟩ := Cond.instanceMethod_spec hinst
  obtain ⟨m8, methM', cM, hn8, hmethM', -, -, -, -, -, -, hsigM⟩ := Cond.codeWith_spec hcode
  cases Option.some.inj (hn8.symm.trans hnamed)
  cases hmethM.symm.trans hmethM'
  obtain ⟨c2, r2, m2, q1, q2, q3, q4, kP, hkP, hkPi⟩ := Cond.selects_spec hsel
  cases hcls.symm.trans q1
  cases (State.methodFound?_of_named hnamed hy).symm.trans q2
  cases hnamed.symm.trans q3
  have hselP : selectMethod e.platform s.vm cellB.cls mk = .method mk := by rw [Launch.admits_selectMethod X.admits]; exact q4
  obtain ⟨vm₁, X₁, hstep₁⟩ := X.invokevirtual hexec hown hlink hnamed hmethM hstM hkP hkPi hy (a := b) (cell := cellB) hcell
    (fun z h => by rw [h] at hobj; cases hobj) hselP hmethM habM hkP hkPi (g := g) hg (argsL := argsL) (rest := rest) (hlen _ hsigM) hstack hdg
  obtain ⟨v, B, X', hpost, hsteps⟩ := hK m meth c ⟨T.setVm vm₁, locs, cells, slots⟩ { g with stack := rest } (.invokevirtual index) mk (Value.ref b :: argsL).toArray X₁ hg hsize hdg hW (X₁.named hnamed) (hpre vm₁ X₁.warmed)
  exact ⟨v, vm₁, B, X₁.warmed, X', hpost, fun target h => hstep₁ _ fun acts => by rw [doInvoke_state]; exact hsteps.trans h⟩
abbrev vx_CVW (R : Room) (s : State) (args : Array Value) (own C : String) (index : Nat) (y : MethodName) (bytes : ByteArray) (maxL : Nat) (ret : Option FieldType) (hh : List (Nat × Nat × Nat × Nat)) (ws : List Cond) (rm : Room) (mc ms n : Nat) : Prop :=
  (rm.cells = mc ∧ rm.slots = ms ∧ rm.frames + 1 ≤ R.frames ∧ 8 + (maxL + 11) + rm.locals ≤ R.locals ∧ (∀ w ∈ ws, ∀ (a' : Array Value) (U : State), s.WarmedH U.vm → w.before a' U = true) ∧ Cond.codeWith y bytes maxL ret hh ∈ ws) ∧
  (Cond.codeWith y bytes maxL ret hh).before args s = true ∧ (Cond.initialized y.cls).before args s = true ∧ (y.cls ≠ "java/lang/invoke/MethodHandle" ∧ y.cls ≠ "java/lang/invoke/VarHandle") ∧
  (∀ sig, parseMethodDescriptor y.desc = some sig → n = sig.parameters.length) ∧ (Cond.methodLink own index y).before args s = true ∧ (Cond.instanceMethod y).before args s = true ∧ (Cond.selects C y y).before args s = true
theorem vx_cwVW {own C : String} {index maxL mc ms : Nat} {y : MethodName} {bytes : ByteArray} {ret : Option FieldType} {hh : List (Nat × Nat × Nat × Nat)} {Ts ws ws' : List Cond} {rm : Room} (n : Nat) (ht : ∀ w ∈ Ts, w.before args s = true) (hT : GoodIn Ts (wsV own index C y ws)) (hw : ws = Cond.codeWith y bytes maxL ret hh :: ws') (hrc : rm.cells = mc) (hrs : rm.slots = ms)
    (hd : y.cls = C ∧ y.cls ≠ "java/lang/invoke/MethodHandle" ∧ y.cls ≠ "java/lang/invoke/VarHandle" ∧ (parseMethodDescriptor y.desc).map (fun d => d.parameters.length) = some n) (hR : rm.frames + 1 ≤ R.frames ∧ 8 + (maxL + 11) + rm.locals ≤ R.locals) :
    vx_CVW R s args own C index y bytes maxL ret hh ws rm mc ms n := by
  obtain ⟨hC, hd⟩ := hd
  subst hC
  have ok : ∀ w ∈ wsV own index y.cls y ws, w.before args s = true := fun w h => ht w (hT w h).1
  have hG : GoodIn Ts ws := fun w h => hT w (by unfold wsV; exact List.mem_append_right _ h)
  have hc : Cond.codeWith y bytes maxL ret hh ∈ ws := by rw [hw]; exact List.mem_cons_self
  refine ⟨⟨hrc, hrs, hR.1, hR.2, pay_in ht hG, hc⟩, ht _ (hG _ hc).1, ok _ (by simp [wsV]), ⟨hd.1, hd.2.1⟩, fun sig h => ?_, ok _ (by simp [wsV]), ok _ (by simp [wsV]), ok _ (by simp [wsV])⟩
  have h2 := hd.2.2
  rw [h] at h2
  exact (Option.some.inj h2).symm
theorem vx_runVW {y : MethodName} {bytes cc : ByteArray} {maxL nL mc ms n index : Nat} {ret : Option FieldType} {hh : List (Nat × Nat × Nat × Nat)} {ws : List Cond} {rm : Room} {Pc : Array Value → State → Prop} {Qc : Array Value → State → Outcome → State → Prop} {free : Addr → Prop} {Ts : List Cond} {own C : String} {b : Addr} {As rest : List Value} {g : JFrame}
    (S : CallFix p m c cc nL s args Ts own) (hM : Met l y ws rm Pc Qc mc ms free) (cw : vx_CVW R s args own C index y bytes maxL ret hh ws rm mc ms n) (hp : PreV s H C b Pc As)
    (hg : g.method = m) (hn : As.length = n) (hsize : g.locals.size = nL) (hstack : g.stack = As.reverse ++ .ref b :: rest) (hW : 2 * g.monitorRoom + (rest.map fun v => v.category).sum ≤ 8) (hdg : decode cc g.pc = .ok (.invokevirtual index, 3)) (hf : cells + mc ≤ R.cells ∧ slots + ms ≤ R.slots) :
    va_Run p l e R s m args below meth c H locs cells slots mc ms g rest (Qc (Value.ref b :: As).toArray) free := by
  obtain ⟨⟨hrc, hrs, hfr, hlo, hws, hcw⟩, hcode, hini, hy, hlen, hl, hin, hse⟩ := cw
  have hK : Back l R p e below s args y 3 8 (PreOf R mc ms Pc) (PostOf Qc mc ms free) := va_backW (hh := hh) (bytes := bytes) (maxL := maxL) (ret := ret) hM hp.1 hrc hrs hfr hlo hws hcw (fun a' U hW => word_at hW (Or.inl (by first | rfl | simp [Cond.onTables, Cond.keeps, Cond.steady])) hini)
  obtain ⟨hx, hb, hml, ho, -⟩ := S
  obtain ⟨-, ⟨cellB, hcB, hoB, hclB⟩, hPc⟩ := hp
  intro T hT X
  obtain ⟨v, vm₁, ⟨U', l2, c2, s2⟩, hW₁, X', ⟨g', mk, t, L, e1, e2, hq, h1, hL, h2, h3⟩, st⟩ := vx_callVW X hx (C := C) (hh := hh) (bytes := bytes) (maxL := maxL) (ret := ret) ho hl hin hse hcode hy hK (by rw [hT]; exact hcB) hoB hclB hg (hsize.trans hml.symm) (argsL := As) (rest := rest) (fun sig h => hn.trans (hlen sig h)) hstack hW (by rw [hb]; exact hdg)
    (fun vm₁ hW₁ => ⟨hf.1, hf.2, hPc (T.setVm vm₁) hT hW₁⟩)
  dsimp only [Pt.U, Pt.locs, Pt.cells, Pt.slots] at X' e1 e2 h1 h2 h3 st
  subst h1; subst h2; subst h3
  exact ⟨v, (T.setVm vm₁).calling g' mk (Value.ref b :: As).toArray, t, U', L, hT, X', hL, e1, e2, hq, st⟩
section
variable {y : MethodName} {bytes cc : ByteArray} {maxL nL mc ms n index : Nat} {ret : Option FieldType} {ws : List Cond} {rm : Room} {Pc : Array Value → State → Prop} {Qc : Array Value → State → Outcome → State → Prop} {XC : String → State → State → Prop} {free : Addr → Prop} {Ts : List Cond} {own C : String} {b : Addr} {As rest : List Value} {g : JFrame}
theorem vx_runVX {hh : List (Nat × Nat × Nat × Nat)} (S : CallFix p m c cc nL s args Ts own) (hM : vx_Met l y ws rm Pc Qc XC mc ms free) (cw : vx_CVW R s args own C index y bytes maxL ret hh ws rm mc ms n) (hp : PreV s H C b Pc As)
    (hg : g.method = m) (hn : As.length = n) (hsize : g.locals.size = nL) (hstack : g.stack = As.reverse ++ .ref b :: rest) (hW : 2 * g.monitorRoom + (rest.map fun v => v.category).sum ≤ 8) (hdg : decode cc g.pc = .ok (.invokevirtual index, 3)) (hf : cells + mc ≤ R.cells ∧ slots + ms ≤ R.slots) :
    vx_Run p l e R s m args below meth c H locs cells slots mc ms g rest (Qc (Value.ref b :: As).toArray) XC free := by
  obtain ⟨⟨hrc, hrs, hfr, hlo, hws, hcw⟩, hcode, hini, hy, hlen, hl, hin, hse⟩ := cw
  have hK : vx_Back l R p e below s args y 3 8 (PreOf R mc ms Pc) (PostOf Qc mc ms free) (vx_Post XC mc ms free) := vx_backW (hh := hh) (bytes := bytes) (maxL := maxL) (ret := ret) hM hp.1 hrc hrs hfr hlo hws hcw (fun a' U hW => word_at hW (Or.inl (by first | rfl | simp [Cond.onTables, Cond.keeps, Cond.steady])) hini)
  obtain ⟨hx, hb, hml, ho, -⟩ := S
  obtain ⟨-, ⟨cellB, hcB, hoB, hclB⟩, hPc⟩ := hp
  intro T hT X
  rcases vx_callVX X hx (C := C) (hh := hh) (bytes := bytes) (maxL := maxL) (ret := ret) ho hl hin hse hcode hy hK (by rw [hT]; exact hcB) hoB hclB hg (hsize.trans hml.symm) (argsL := As) (rest := rest) (fun sig h => hn.trans (hlen sig h)) hstack hW (by rw [hb]; exact hdg)
    (fun vm₁ hW₁ => ⟨hf.1, hf.2, hPc (T.setVm vm₁) hT hW₁⟩) with ⟨v, vm₁, ⟨U', l2, c2, s2⟩, hW₁, X', ⟨g', mk, t, L, e1, e2, hq, h1, hL, h2, h3⟩, st⟩ | ⟨q, vm₁, ⟨U', l2, c2, s2⟩, hW₁, X', ⟨g', mk, t, L, E, ce, e1, e2, hq, hce, hcv, hcl, h1, hL, h2, h3⟩, st⟩
  · dsimp only [Pt.U, Pt.locs, Pt.cells, Pt.slots] at X' e1 e2 h1 h2 h3 st
    subst h1; subst h2; subst h3
    exact Or.inl ⟨v, (T.setVm vm₁).calling g' mk (Value.ref b :: As).toArray, t, U', L, hT, X', hL, e1, e2, hq, st⟩
  · dsimp only [Pt.U, Pt.locs, Pt.cells, Pt.slots] at X' e1 e2 h1 h2 h3 st hcl
    subst h1; subst h2; subst h3
    exact Or.inr ⟨q, (T.setVm vm₁).calling g' mk (Value.ref b :: As).toArray, t, U', L, E, ce, hT, X', hL, e1, e2, hq, hce, hcv, vx_cls hW₁ hcl, st⟩
theorem vx_runSX {hh : List (Nat × Nat × Nat × Nat)} (S : CallFix p m c cc nL s args Ts own) (hM : vx_Met l y ws rm Pc Qc XC mc ms free) (cw : vx_CSW R s args own index y bytes maxL ret hh ws rm mc ms n) (hp : PreS s H Pc As)
    (hg : g.method = m) (hn : As.length = n) (hsize : g.locals.size = nL) (hstack : g.stack = As.reverse ++ rest) (hW : 2 * g.monitorRoom + (rest.map fun v => v.category).sum ≤ 8) (hdg : decode cc g.pc = .ok (.invokestatic index, 3)) (hf : cells + mc ≤ R.cells ∧ slots + ms ≤ R.slots) :
    vx_Run p l e R s m args below meth c H locs cells slots mc ms g rest (Qc As.toArray) XC free := by
  obtain ⟨⟨hrc, hrs, hfr, hlo, hws, hcw⟩, hcode, hini, hy, hlen, hl, hstt⟩ := cw
  have hK : vx_Back l R p e below s args y 3 8 (PreOf R mc ms Pc) (PostOf Qc mc ms free) (vx_Post XC mc ms free) := vx_backW (hh := hh) (bytes := bytes) (maxL := maxL) (ret := ret) hM hp.1 hrc hrs hfr hlo hws hcw (fun a' U hW => word_at hW (Or.inl (by first | rfl | simp [Cond.onTables, Cond.keeps, Cond.steady])) hini)
  obtain ⟨hx, hb, hml, ho, -⟩ := S
  intro T hT X
  rcases vx_callSX X hx (hh := hh) (bytes := bytes) (maxL := maxL) (ret := ret) ho hl hstt hini hcode hy hK hg (hsize.trans hml.symm) (argsL := As) (rest := rest) (fun sig h => hn.trans (hlen sig h)) hstack hW (by rw [hb]; exact hdg)
    (fun vm₁ hW₁ => ⟨hf.1, hf.2, hp.2 (T.setVm vm₁) hT hW₁⟩) with ⟨v, vm₁, ⟨U', l2, c2, s2⟩, hW₁, X', ⟨g', mk, t, L, e1, e2, hq, h1, hL, h2, h3⟩, st⟩ | ⟨q, vm₁, ⟨U', l2, c2, s2⟩, hW₁, X', ⟨g', mk, t, L, E, ce, e1, e2, hq, hce, hcv, hcl, h1, hL, h2, h3⟩, st⟩
  · dsimp only [Pt.U, Pt.locs, Pt.cells, Pt.slots] at X' e1 e2 h1 h2 h3 st
    subst h1; subst h2; subst h3
    exact Or.inl ⟨v, (T.setVm vm₁).calling g' mk As.toArray, t, U', L, hT, X', hL, e1, e2, hq, st⟩
  · dsimp only [Pt.U, Pt.locs, Pt.cells, Pt.slots] at X' e1 e2 h1 h2 h3 st hcl
    subst h1; subst h2; subst h3
    exact Or.inr ⟨q, (T.setVm vm₁).calling g' mk As.toArray, t, U', L, E, ce, hT, X', hL, e1, e2, hq, hce, hcv, vx_cls hW₁ hcl, st⟩
end
end VXH
theorem vx_ofWH {l : Launch} {y : MethodName} {ws ws' : List Cond} {rm : Room} {Pc : Array Value → State → Prop} {Qc : Array Value → State → Outcome → State → Prop} {XC : String → State → State → Prop} {mc ms : Nat} {free : Addr → Prop} {cc : ByteArray} {maxL : Nat} {ret : Option FieldType} {hh : List (Nat × Nat × Nat × Nat)}
    (hy : plainName y.cls = true) (hw : ws = Cond.codeWith y cc maxL ret hh :: ws')
    (body : ∀ p e s m args below meth c s₁, BodyLoose p l y (headSpec ws rm) cc maxL ret e s m args below meth c s₁ → c.maxLocals = maxL → Pc args s →
      W p l e (headSpec ws rm).room s m args below meth c s.heap [] 0 0 (vx_MQ below Qc XC args s mc ms free) (entryFrame m args maxL)) : vx_Met l y ws rm Pc Qc XC mc ms free := by
  refine MetFree.of_bodyS (code := cc) (maxLocals := maxL) (ret := ret) hy ?_ ?_
  · intro args s m h hn
    obtain ⟨m9, meth, c, hn9, h1, h2, h3, h4, -, h5, h6, -⟩ := Cond.codeWith_spec (atoms_spec (ws := ws) h _ (by rw [hw]; exact List.mem_cons_self))
    cases hn.symm.trans hn9
    exact ⟨meth, c, h1, h2, h3, h4, h5, h6⟩
  · intro p e s m args below meth c s₁ B hml hP _
    have hh0 : s₁.heap = s.heap := by rw [B.state]; rfl
    obtain ⟨t, a1, o, b1, b2, b3⟩ := body p e s m args below meth c s₁ B hml hP s₁ hh0 (Stand.of_body B)
    exact ⟨t, o, a1, b1, b2, b3⟩
/-! ===== END ===== -/
end
section
/-! ===== BEGIN printed: names, fields, word lists, decode rows ===== -/
def RX0 : String := "FairBatten$Almanac"
def TX0 : u_T := fun k => match k with
  | 0 => ("FairBatten$Almanac", "toldDays", "[I", true)
  | 1 => ("FairBatten$Almanac", "toldHeights", "[I", true)
  | _ => ("FairBatten$Almanac", "count", "I", false)
def tyX0 : Nat → FieldType := fun k => match k with
  | 0 => .array .int
  | 1 => .array .int
  | _ => .int
abbrev wsX00 : List Cond := u_ws RX0 TX0 3
theorem nmX0 : ∀ a, a < 3 → ∀ b, b < 3 → a ≠ b → (TX0 a).2.1 ≠ (TX0 b).2.1 := by decide +kernel
theorem tyX0_ok : ∀ k, k < 3 → parseFieldDescriptor (TX0 k).2.2.1 = some (tyX0 k) := by decide +kernel
abbrev cX0_init : ByteArray := prog_2_method_1_code
def yX0_init : MethodName := ⟨RX0, "<init>", "()V"⟩
abbrev cX0_placeOf : ByteArray := prog_2_method_2_code
def yX0_placeOf : MethodName := ⟨RX0, "placeOf", "(I)I"⟩
abbrev cX0_hasRoomFor : ByteArray := prog_2_method_3_code
def yX0_hasRoomFor : MethodName := ⟨RX0, "hasRoomFor", "(I)Z"⟩
abbrev cX0_heightOn : ByteArray := prog_2_method_4_code
def yX0_heightOn : MethodName := ⟨RX0, "heightOn", "(I)I"⟩
abbrev cX0_tell : ByteArray := prog_2_method_5_code
def yX0_tell : MethodName := ⟨RX0, "tell", "(II)V"⟩
def RX1 : String := "FairBatten$Batten"
def TX1 : u_T := fun k => match k with
  | 0 => ("FairBatten$Batten", "rest", "[[I", true)
  | 1 => ("FairBatten$Batten", "lowest", "[I", true)
  | _ => ("FairBatten$Batten", "choices", "[I", true)
def tyX1 : Nat → FieldType := fun k => match k with
  | 0 => .array (.array .int)
  | 1 => .array .int
  | _ => .array .int
abbrev wsX10 : List Cond := u_ws RX1 TX1 3
theorem nmX1 : ∀ a, a < 3 → ∀ b, b < 3 → a ≠ b → (TX1 a).2.1 ≠ (TX1 b).2.1 := by decide +kernel
theorem tyX1_ok : ∀ k, k < 3 → parseFieldDescriptor (TX1 k).2.2.1 = some (tyX1 k) := by decide +kernel
abbrev cX1_init : ByteArray := prog_3_method_1_code
def yX1_init : MethodName := ⟨RX1, "<init>", "()V"⟩
abbrev cX1_straighten : ByteArray := prog_3_method_2_code
def yX1_straighten : MethodName := ⟨RX1, "straighten", "([II)V"⟩
abbrev cX1_reckonRest : ByteArray := prog_3_method_3_code
def yX1_reckonRest : MethodName := ⟨RX1, "reckonRest", "(I)V"⟩
abbrev cX1_bendWith : ByteArray := prog_3_method_4_code
def yX1_bendWith : MethodName := ⟨RX1, "bendWith", "(IIII)I"⟩
abbrev cX1_draw : ByteArray := prog_3_method_5_code
def yX1_draw : MethodName := ⟨RX1, "draw", "([I)V"⟩
abbrev cX1_lowestThird : ByteArray := prog_3_method_6_code
def yX1_lowestThird : MethodName := ⟨RX1, "lowestThird", "(III)I"⟩
def RX2 : String := "FairBatten$Buoyancy"
def TX2 : u_T := fun k => match k with
  | 0 => ("FairBatten$Buoyancy", "volumes", "[I", true)
  | _ => ("FairBatten$Buoyancy", "moments", "[I", true)
def tyX2 : Nat → FieldType := fun k => match k with
  | 0 => .array .int
  | _ => .array .int
abbrev wsX20 : List Cond := u_ws RX2 TX2 2
theorem nmX2 : ∀ a, a < 2 → ∀ b, b < 2 → a ≠ b → (TX2 a).2.1 ≠ (TX2 b).2.1 := by decide +kernel
theorem tyX2_ok : ∀ k, k < 2 → parseFieldDescriptor (TX2 k).2.2.1 = some (tyX2 k) := by decide +kernel
abbrev cX2_init : ByteArray := prog_4_method_1_code
def yX2_init : MethodName := ⟨RX2, "<init>", "()V"⟩
abbrev cX2_measure : ByteArray := prog_4_method_2_code
def yX2_measure : MethodName := ⟨RX2, "measure", "(LFairBatten$Hull;)V"⟩
abbrev cX2_draughtUnder : ByteArray := prog_4_method_3_code
def yX2_draughtUnder : MethodName := ⟨RX2, "draughtUnder", "(I)I"⟩
abbrev cX2_trimUnder : ByteArray := prog_4_method_4_code
def yX2_trimUnder : MethodName := ⟨RX2, "trimUnder", "(II)I"⟩
abbrev cX2_hundredfold : ByteArray := prog_4_method_5_code
def yX2_hundredfold : MethodName := ⟨RX2, "hundredfold", "(II)I"⟩
abbrev cX2_setBallast : ByteArray := prog_4_method_6_code
def yX2_setBallast : MethodName := ⟨RX2, "setBallast", "(LFairBatten$Cargo;I)V"⟩
def RX3 : String := "FairBatten$Cargo"
def TX3 : u_T := fun k => match k with
  | 0 => ("FairBatten$Cargo", "weights", "[I", true)
  | 1 => ("FairBatten$Cargo", "stations", "[I", true)
  | 2 => ("FairBatten$Cargo", "count", "I", false)
  | 3 => ("FairBatten$Cargo", "ballastWeight", "I", false)
  | _ => ("FairBatten$Cargo", "ballastStation", "I", false)
def tyX3 : Nat → FieldType := fun k => match k with
  | 0 => .array .int
  | 1 => .array .int
  | 2 => .int
  | 3 => .int
  | _ => .int
abbrev wsX30 : List Cond := u_ws RX3 TX3 5
theorem nmX3 : ∀ a, a < 5 → ∀ b, b < 5 → a ≠ b → (TX3 a).2.1 ≠ (TX3 b).2.1 := by decide +kernel
theorem tyX3_ok : ∀ k, k < 5 → parseFieldDescriptor (TX3 k).2.2.1 = some (tyX3 k) := by decide +kernel
abbrev cX3_init : ByteArray := prog_5_method_1_code
def yX3_init : MethodName := ⟨RX3, "<init>", "()V"⟩
abbrev cX3_isFull : ByteArray := prog_5_method_2_code
def yX3_isFull : MethodName := ⟨RX3, "isFull", "()Z"⟩
abbrev cX3_add : ByteArray := prog_5_method_3_code
def yX3_add : MethodName := ⟨RX3, "add", "(II)I"⟩
abbrev cX3_replace : ByteArray := prog_5_method_4_code
def yX3_replace : MethodName := ⟨RX3, "replace", "(III)I"⟩
abbrev cX3_loadWithoutBallast : ByteArray := prog_5_method_5_code
def yX3_loadWithoutBallast : MethodName := ⟨RX3, "loadWithoutBallast", "()I"⟩
abbrev cX3_momentWithoutBallast : ByteArray := prog_5_method_6_code
def yX3_momentWithoutBallast : MethodName := ⟨RX3, "momentWithoutBallast", "()I"⟩
abbrev cX3_wholeLoad : ByteArray := prog_5_method_7_code
def yX3_wholeLoad : MethodName := ⟨RX3, "wholeLoad", "()I"⟩
abbrev cX3_wholeMoment : ByteArray := prog_5_method_8_code
def yX3_wholeMoment : MethodName := ⟨RX3, "wholeMoment", "()I"⟩
def RX4 : String := "FairBatten$Hull"
def TX4 : u_T := fun k => match k with
  | _ => ("FairBatten$Hull", "lines", "[[I", true)
def tyX4 : Nat → FieldType := fun k => match k with
  | _ => .array (.array .int)
abbrev wsX40 : List Cond := u_ws RX4 TX4 1
theorem nmX4 : ∀ a, a < 1 → ∀ b, b < 1 → a ≠ b → (TX4 a).2.1 ≠ (TX4 b).2.1 := by decide +kernel
theorem tyX4_ok : ∀ k, k < 1 → parseFieldDescriptor (TX4 k).2.2.1 = some (tyX4 k) := by decide +kernel
abbrev cX4_init : ByteArray := prog_6_method_1_code
def yX4_init : MethodName := ⟨RX4, "<init>", "()V"⟩
abbrev cX4_areaUpTo : ByteArray := prog_6_method_2_code
def yX4_areaUpTo : MethodName := ⟨RX4, "areaUpTo", "(II)I"⟩
abbrev cX4_volumeUpTo : ByteArray := prog_6_method_3_code
def yX4_volumeUpTo : MethodName := ⟨RX4, "volumeUpTo", "(I)I"⟩
abbrev cX4_momentUpTo : ByteArray := prog_6_method_4_code
def yX4_momentUpTo : MethodName := ⟨RX4, "momentUpTo", "(I)I"⟩
abbrev cX4_volumeBySlices : ByteArray := prog_6_method_5_code
def yX4_volumeBySlices : MethodName := ⟨RX4, "volumeBySlices", "(I)I"⟩
abbrev cX4_waterlineArea : ByteArray := prog_6_method_6_code
def yX4_waterlineArea : MethodName := ⟨RX4, "waterlineArea", "(I)I"⟩
abbrev cX4_strakeLength : ByteArray := prog_6_method_7_code
def yX4_strakeLength : MethodName := ⟨RX4, "strakeLength", "(I)I"⟩
def RX5 : String := "FairBatten$Nest"
def TX5 : u_T := fun k => match k with
  | 0 => ("FairBatten$Nest", "left", "[I", true)
  | 1 => ("FairBatten$Nest", "lengths", "[I", true)
  | 2 => ("FairBatten$Nest", "order", "[I", true)
  | 3 => ("FairBatten$Nest", "firstEnds", "[I", true)
  | 4 => ("FairBatten$Nest", "secondEnds", "[I", true)
  | 5 => ("FairBatten$Nest", "plankLength", "I", false)
  | _ => ("FairBatten$Nest", "taken", "I", false)
def tyX5 : Nat → FieldType := fun k => match k with
  | 0 => .array .int
  | 1 => .array .int
  | 2 => .array .int
  | 3 => .array .int
  | 4 => .array .int
  | 5 => .int
  | _ => .int
abbrev wsX50 : List Cond := u_ws RX5 TX5 7
theorem nmX5 : ∀ a, a < 7 → ∀ b, b < 7 → a ≠ b → (TX5 a).2.1 ≠ (TX5 b).2.1 := by decide +kernel
theorem tyX5_ok : ∀ k, k < 7 → parseFieldDescriptor (TX5 k).2.2.1 = some (tyX5 k) := by decide +kernel
abbrev cX5_init : ByteArray := prog_7_method_1_code
def yX5_init : MethodName := ⟨RX5, "<init>", "()V"⟩
abbrev cX5_cutAll : ByteArray := prog_7_method_2_code
def yX5_cutAll : MethodName := ⟨RX5, "cutAll", "(LFairBatten$Hull;)V"⟩
abbrev cX5_sortByLength : ByteArray := prog_7_method_3_code
def yX5_sortByLength : MethodName := ⟨RX5, "sortByLength", "(LFairBatten$Hull;)V"⟩
abbrev cX5_cut : ByteArray := prog_7_method_4_code
def yX5_cut : MethodName := ⟨RX5, "cut", "(I)I"⟩
def RX6 : String := "FairBatten"
def TX6 : u_T := fun k => match k with
  | 0 => ("FairBatten", "hull", "LFairBatten$Hull;", true)
  | 1 => ("FairBatten", "batten", "LFairBatten$Batten;", true)
  | 2 => ("FairBatten", "cargo", "LFairBatten$Cargo;", true)
  | 3 => ("FairBatten", "buoyancy", "LFairBatten$Buoyancy;", true)
  | 4 => ("FairBatten", "nest", "LFairBatten$Nest;", true)
  | 5 => ("FairBatten", "almanac", "LFairBatten$Almanac;", true)
  | 6 => ("FairBatten", "sillHeight", "I", false)
  | 7 => ("FairBatten", "today", "I", false)
  | _ => ("FairBatten", "launched", "Z", false)
def tyX6 : Nat → FieldType := fun k => match k with
  | 0 => .object "FairBatten$Hull"
  | 1 => .object "FairBatten$Batten"
  | 2 => .object "FairBatten$Cargo"
  | 3 => .object "FairBatten$Buoyancy"
  | 4 => .object "FairBatten$Nest"
  | 5 => .object "FairBatten$Almanac"
  | 6 => .int
  | 7 => .int
  | _ => .boolean
abbrev wsX60 : List Cond := u_ws RX6 TX6 9
theorem nmX6 : ∀ a, a < 9 → ∀ b, b < 9 → a ≠ b → (TX6 a).2.1 ≠ (TX6 b).2.1 := by decide +kernel
theorem tyX6_ok : ∀ k, k < 9 → parseFieldDescriptor (TX6 k).2.2.1 = some (tyX6 k) := by decide +kernel
abbrev cX6_init : ByteArray := prog_1_method_1_code
def yX6_init : MethodName := ⟨RX6, "<init>", "()V"⟩
abbrev cX6_offset : ByteArray := prog_1_method_2_code
def yX6_offset : MethodName := ⟨RX6, "offset", "(III)I"⟩
abbrev cX6_half : ByteArray := prog_1_method_3_code
def yX6_half : MethodName := ⟨RX6, "half", "(II)I"⟩
abbrev cX6_bend : ByteArray := prog_1_method_4_code
def yX6_bend : MethodName := ⟨RX6, "bend", "(I)I"⟩
abbrev cX6_fair : ByteArray := prog_1_method_5_code
def yX6_fair : MethodName := ⟨RX6, "fair", "(II)I"⟩
abbrev cX6_area : ByteArray := prog_1_method_6_code
def yX6_area : MethodName := ⟨RX6, "area", "(II)I"⟩
abbrev cX6_volume : ByteArray := prog_1_method_7_code
def yX6_volume : MethodName := ⟨RX6, "volume", "(I)I"⟩
abbrev cX6_volumeAnew : ByteArray := prog_1_method_8_code
def yX6_volumeAnew : MethodName := ⟨RX6, "volumeAnew", "(I)I"⟩
abbrev cX6_weigh : ByteArray := prog_1_method_9_code
def yX6_weigh : MethodName := ⟨RX6, "weigh", "(II)I"⟩
abbrev cX6_change : ByteArray := prog_1_method_10_code
def yX6_change : MethodName := ⟨RX6, "change", "(III)I"⟩
abbrev cX6_ballast : ByteArray := prog_1_method_11_code
def yX6_ballast : MethodName := ⟨RX6, "ballast", "(I)I"⟩
abbrev cX6_draught : ByteArray := prog_1_method_12_code
def yX6_draught : MethodName := ⟨RX6, "draught", "()I"⟩
abbrev cX6_trim : ByteArray := prog_1_method_13_code
def yX6_trim : MethodName := ⟨RX6, "trim", "()I"⟩
abbrev cX6_strake : ByteArray := prog_1_method_14_code
def yX6_strake : MethodName := ⟨RX6, "strake", "(I)I"⟩
abbrev cX6_planks : ByteArray := prog_1_method_15_code
def yX6_planks : MethodName := ⟨RX6, "planks", "(I)I"⟩
abbrev cX6_plankOf : ByteArray := prog_1_method_16_code
def yX6_plankOf : MethodName := ⟨RX6, "plankOf", "(IZ)I"⟩
abbrev cX6_tide : ByteArray := prog_1_method_17_code
def yX6_tide : MethodName := ⟨RX6, "tide", "(II)I"⟩
abbrev cX6_sill : ByteArray := prog_1_method_18_code
def yX6_sill : MethodName := ⟨RX6, "sill", "(I)I"⟩
abbrev cX6_needed : ByteArray := prog_1_method_19_code
def yX6_needed : MethodName := ⟨RX6, "needed", "()I"⟩
abbrev cX6_day : ByteArray := prog_1_method_20_code
def yX6_day : MethodName := ⟨RX6, "day", "()I"⟩
abbrev cX6_launch : ByteArray := prog_1_method_21_code
def yX6_launch : MethodName := ⟨RX6, "launch", "()I"⟩
abbrev cX6_pass : ByteArray := prog_1_method_22_code
def yX6_pass : MethodName := ⟨RX6, "pass", "(I)I"⟩
abbrev cX6_refuseNoStation : ByteArray := prog_1_method_23_code
def yX6_refuseNoStation : MethodName := ⟨RX6, "refuseNoStation", "(I)V"⟩
abbrev cX6_refuseNoWaterline : ByteArray := prog_1_method_24_code
def yX6_refuseNoWaterline : MethodName := ⟨RX6, "refuseNoWaterline", "(I)V"⟩
abbrev cX6_refuseNoStrake : ByteArray := prog_1_method_25_code
def yX6_refuseNoStrake : MethodName := ⟨RX6, "refuseNoStrake", "(I)V"⟩
abbrev cX6_refuseNoWeight : ByteArray := prog_1_method_26_code
def yX6_refuseNoWeight : MethodName := ⟨RX6, "refuseNoWeight", "(I)V"⟩
abbrev cX6_refuseOutside : ByteArray := prog_1_method_27_code
def yX6_refuseOutside : MethodName := ⟨RX6, "refuseOutside", "(III)V"⟩
abbrev cX6_refuseLaunched : ByteArray := prog_1_method_28_code
def yX6_refuseLaunched : MethodName := ⟨RX6, "refuseLaunched", "()V"⟩
abbrev cX6_squareOfBend : ByteArray := prog_1_method_29_code
def yX6_squareOfBend : MethodName := ⟨RX6, "squareOfBend", "(III)I"⟩
abbrev cX6_bendOfLine : ByteArray := prog_1_method_30_code
def yX6_bendOfLine : MethodName := ⟨RX6, "bendOfLine", "([I)I"⟩
def RX7 : String := "FairBattenModel"
def TX7 : u_T := fun k => match k with
  | 0 => ("FairBattenModel", "thrown", "I", false)
  | 1 => ("FairBattenModel", "half", "[I", true)
  | 2 => ("FairBattenModel", "weights", "I", false)
  | 3 => ("FairBattenModel", "at", "[I", true)
  | 4 => ("FairBattenModel", "weight", "[I", true)
  | 5 => ("FairBattenModel", "length", "I", false)
  | 6 => ("FairBattenModel", "left", "[I", true)
  | 7 => ("FairBattenModel", "cutFrom", "[I", true)
  | 8 => ("FairBattenModel", "tides", "I", false)
  | 9 => ("FairBattenModel", "tideDay", "[I", true)
  | 10 => ("FairBattenModel", "tide", "[I", true)
  | 11 => ("FairBattenModel", "sill", "I", false)
  | 12 => ("FairBattenModel", "today", "I", false)
  | 13 => ("FairBattenModel", "isLaunched", "Z", false)
  | 14 => ("FairBattenModel", "behind", "[I", true)
  | _ => ("FairBattenModel", "line", "[I", true)
def tyX7 : Nat → FieldType := fun k => match k with
  | 0 => .int
  | 1 => .array .int
  | 2 => .int
  | 3 => .array .int
  | 4 => .array .int
  | 5 => .int
  | 6 => .array .int
  | 7 => .array .int
  | 8 => .int
  | 9 => .array .int
  | 10 => .array .int
  | 11 => .int
  | 12 => .int
  | 13 => .boolean
  | 14 => .array .int
  | _ => .array .int
abbrev wsX70 : List Cond := u_ws RX7 TX7 16
theorem nmX7 : ∀ a, a < 16 → ∀ b, b < 16 → a ≠ b → (TX7 a).2.1 ≠ (TX7 b).2.1 := by decide +kernel
theorem tyX7_ok : ∀ k, k < 16 → parseFieldDescriptor (TX7 k).2.2.1 = some (tyX7 k) := by decide +kernel
abbrev cX7_init : ByteArray := prog_9_method_1_code
def yX7_init : MethodName := ⟨RX7, "<init>", "()V"⟩
abbrev cX7_thrown : ByteArray := prog_9_method_2_code
def yX7_thrown : MethodName := ⟨RX7, "thrown", "()I"⟩
abbrev cX7_in : ByteArray := prog_9_method_3_code
def yX7_in : MethodName := ⟨RX7, "in", "(III)Z"⟩
abbrev cX7_isStation : ByteArray := prog_9_method_4_code
def yX7_isStation : MethodName := ⟨RX7, "isStation", "(I)Z"⟩
abbrev cX7_isWaterline : ByteArray := prog_9_method_5_code
def yX7_isWaterline : MethodName := ⟨RX7, "isWaterline", "(I)Z"⟩
abbrev cX7_size : ByteArray := prog_9_method_6_code
def yX7_size : MethodName := ⟨RX7, "size", "(I)I"⟩
abbrev cX7_halfAt : ByteArray := prog_9_method_7_code
def yX7_halfAt : MethodName := ⟨RX7, "halfAt", "(II)I"⟩
abbrev cX7_offset : ByteArray := prog_9_method_8_code
def yX7_offset : MethodName := ⟨RX7, "offset", "(III)I"⟩
abbrev cX7_half : ByteArray := prog_9_method_9_code
def yX7_half : MethodName := ⟨RX7, "half", "(II)I"⟩
abbrev cX7_square : ByteArray := prog_9_method_10_code
def yX7_square : MethodName := ⟨RX7, "square", "(I)I"⟩
abbrev cX7_bendOf : ByteArray := prog_9_method_11_code
def yX7_bendOf : MethodName := ⟨RX7, "bendOf", "(I)I"⟩
abbrev cX7_bend : ByteArray := prog_9_method_12_code
def yX7_bend : MethodName := ⟨RX7, "bend", "(I)I"⟩
abbrev cX7_place : ByteArray := prog_9_method_13_code
def yX7_place : MethodName := ⟨RX7, "place", "(III)I"⟩
abbrev cX7_may : ByteArray := prog_9_method_14_code
def yX7_may : MethodName := ⟨RX7, "may", "(IIII)Z"⟩
abbrev cX7_bendBy : ByteArray := prog_9_method_15_code
def yX7_bendBy : MethodName := ⟨RX7, "bendBy", "(IIIII)I"⟩
abbrev cX7_leastBy : ByteArray := prog_9_method_16_code
def yX7_leastBy : MethodName := ⟨RX7, "leastBy", "(IIIII)I"⟩
abbrev cX7_findsBehind : ByteArray := prog_9_method_17_code
def yX7_findsBehind : MethodName := ⟨RX7, "findsBehind", "(II)V"⟩
abbrev cX7_laysLine : ByteArray := prog_9_method_18_code
def yX7_laysLine : MethodName := ⟨RX7, "laysLine", "(II)V"⟩
abbrev cX7_fair : ByteArray := prog_9_method_19_code
def yX7_fair : MethodName := ⟨RX7, "fair", "(II)I"⟩
abbrev cX7_areaOf : ByteArray := prog_9_method_20_code
def yX7_areaOf : MethodName := ⟨RX7, "areaOf", "(II)I"⟩
abbrev cX7_area : ByteArray := prog_9_method_21_code
def yX7_area : MethodName := ⟨RX7, "area", "(II)I"⟩
abbrev cX7_volumeOf : ByteArray := prog_9_method_22_code
def yX7_volumeOf : MethodName := ⟨RX7, "volumeOf", "(I)I"⟩
abbrev cX7_volume : ByteArray := prog_9_method_23_code
def yX7_volume : MethodName := ⟨RX7, "volume", "(I)I"⟩
abbrev cX7_volumeAnew : ByteArray := prog_9_method_24_code
def yX7_volumeAnew : MethodName := ⟨RX7, "volumeAnew", "(I)I"⟩
abbrev cX7_momentOf : ByteArray := prog_9_method_25_code
def yX7_momentOf : MethodName := ⟨RX7, "momentOf", "(I)I"⟩
abbrev cX7_weigh : ByteArray := prog_9_method_26_code
def yX7_weigh : MethodName := ⟨RX7, "weigh", "(II)I"⟩
abbrev cX7_change : ByteArray := prog_9_method_27_code
def yX7_change : MethodName := ⟨RX7, "change", "(III)I"⟩
abbrev cX7_loadNow : ByteArray := prog_9_method_28_code
def yX7_loadNow : MethodName := ⟨RX7, "loadNow", "()I"⟩
abbrev cX7_loadMoment : ByteArray := prog_9_method_29_code
def yX7_loadMoment : MethodName := ⟨RX7, "loadMoment", "()I"⟩
abbrev cX7_draughtNow : ByteArray := prog_9_method_30_code
def yX7_draughtNow : MethodName := ⟨RX7, "draughtNow", "()I"⟩
abbrev cX7_mean : ByteArray := prog_9_method_31_code
def yX7_mean : MethodName := ⟨RX7, "mean", "(II)I"⟩
abbrev cX7_trimNow : ByteArray := prog_9_method_32_code
def yX7_trimNow : MethodName := ⟨RX7, "trimNow", "()I"⟩
abbrev cX7_ballast : ByteArray := prog_9_method_33_code
def yX7_ballast : MethodName := ⟨RX7, "ballast", "(I)I"⟩
abbrev cX7_draught : ByteArray := prog_9_method_34_code
def yX7_draught : MethodName := ⟨RX7, "draught", "()I"⟩
abbrev cX7_trim : ByteArray := prog_9_method_35_code
def yX7_trim : MethodName := ⟨RX7, "trim", "()I"⟩
abbrev cX7_strakeOf : ByteArray := prog_9_method_36_code
def yX7_strakeOf : MethodName := ⟨RX7, "strakeOf", "(I)I"⟩
abbrev cX7_strake : ByteArray := prog_9_method_37_code
def yX7_strake : MethodName := ⟨RX7, "strake", "(I)I"⟩
abbrev cX7_strakeBehind : ByteArray := prog_9_method_38_code
def yX7_strakeBehind : MethodName := ⟨RX7, "strakeBehind", "(I)I"⟩
abbrev cX7_planksNow : ByteArray := prog_9_method_39_code
def yX7_planksNow : MethodName := ⟨RX7, "planksNow", "()I"⟩
abbrev cX7_planks : ByteArray := prog_9_method_40_code
def yX7_planks : MethodName := ⟨RX7, "planks", "(I)I"⟩
abbrev cX7_plankOf : ByteArray := prog_9_method_41_code
def yX7_plankOf : MethodName := ⟨RX7, "plankOf", "(IZ)I"⟩
abbrev cX7_tideOn : ByteArray := prog_9_method_42_code
def yX7_tideOn : MethodName := ⟨RX7, "tideOn", "(I)I"⟩
abbrev cX7_tide : ByteArray := prog_9_method_43_code
def yX7_tide : MethodName := ⟨RX7, "tide", "(II)I"⟩
abbrev cX7_sill : ByteArray := prog_9_method_44_code
def yX7_sill : MethodName := ⟨RX7, "sill", "(I)I"⟩
abbrev cX7_neededNow : ByteArray := prog_9_method_45_code
def yX7_neededNow : MethodName := ⟨RX7, "neededNow", "()I"⟩
abbrev cX7_needed : ByteArray := prog_9_method_46_code
def yX7_needed : MethodName := ⟨RX7, "needed", "()I"⟩
abbrev cX7_day : ByteArray := prog_9_method_47_code
def yX7_day : MethodName := ⟨RX7, "day", "()I"⟩
abbrev cX7_launch : ByteArray := prog_9_method_48_code
def yX7_launch : MethodName := ⟨RX7, "launch", "()I"⟩
abbrev cX7_pass : ByteArray := prog_9_method_49_code
def yX7_pass : MethodName := ⟨RX7, "pass", "(I)I"⟩
def RJ9 : String := "java/lang/Math"
def TJ9 : u_T := fun k => match k with
  | _ => ("", "", "", false)
def tyJ9 : Nat → FieldType := fun k => match k with
  | _ => .int
abbrev wsJ90 : List Cond := u_ws RJ9 TJ9 0
theorem nmJ9 : ∀ a, a < 0 → ∀ b, b < 0 → a ≠ b → (TJ9 a).2.1 ≠ (TJ9 b).2.1 := by decide +kernel
theorem tyJ9_ok : ∀ k, k < 0 → parseFieldDescriptor (TJ9 k).2.2.1 = some (tyJ9 k) := by decide +kernel
abbrev cJ9_floorDiv_7cf53 : ByteArray := prog_14_method_47_code
def yJ9_floorDiv_7cf53 : MethodName := ⟨RJ9, "floorDiv", "(II)I"⟩
abbrev cJ9_floorMod_7cf53 : ByteArray := prog_14_method_50_code
def yJ9_floorMod_7cf53 : MethodName := ⟨RJ9, "floorMod", "(II)I"⟩
abbrev cJ9_abs_0f7a4 : ByteArray := prog_14_method_59_code
def yJ9_abs_0f7a4 : MethodName := ⟨RJ9, "abs", "(I)I"⟩
abbrev cJ9_max_7cf53 : ByteArray := prog_14_method_65_code
def yJ9_max_7cf53 : MethodName := ⟨RJ9, "max", "(II)I"⟩
abbrev cJ9_min_7cf53 : ByteArray := prog_14_method_69_code
def yJ9_min_7cf53 : MethodName := ⟨RJ9, "min", "(II)I"⟩
def RJ0 : String := "java/lang/String"
def TJ0 : u_T := fun k => match k with
  | _ => ("", "", "", false)
def tyJ0 : Nat → FieldType := fun k => match k with
  | _ => .int
abbrev wsJ00 : List Cond := u_ws RJ0 TJ0 0
theorem nmJ0 : ∀ a, a < 0 → ∀ b, b < 0 → a ≠ b → (TJ0 a).2.1 ≠ (TJ0 b).2.1 := by decide +kernel
theorem tyJ0_ok : ∀ k, k < 0 → parseFieldDescriptor (TJ0 k).2.2.1 = some (tyJ0 k) := by decide +kernel
def RL : String := "FairBattenLaw"
abbrev cL_offset : ByteArray := method_3_code
def yL_offset : MethodName := ⟨RL, "offset", "(LFairBatten;III[J)I"⟩
abbrev cL_half : ByteArray := method_4_code
def yL_half : MethodName := ⟨RL, "half", "(LFairBatten;II[J)I"⟩
abbrev cL_bend : ByteArray := method_5_code
def yL_bend : MethodName := ⟨RL, "bend", "(LFairBatten;I[J)I"⟩
abbrev cL_fair : ByteArray := method_6_code
def yL_fair : MethodName := ⟨RL, "fair", "(LFairBatten;II[J)I"⟩
abbrev cL_area : ByteArray := method_7_code
def yL_area : MethodName := ⟨RL, "area", "(LFairBatten;II[J)I"⟩
abbrev cL_volume : ByteArray := method_8_code
def yL_volume : MethodName := ⟨RL, "volume", "(LFairBatten;I[J)I"⟩
abbrev cL_volumeAnew : ByteArray := method_9_code
def yL_volumeAnew : MethodName := ⟨RL, "volumeAnew", "(LFairBatten;I[J)I"⟩
abbrev cL_weigh : ByteArray := method_10_code
def yL_weigh : MethodName := ⟨RL, "weigh", "(LFairBatten;II[J)I"⟩
abbrev cL_change : ByteArray := method_11_code
def yL_change : MethodName := ⟨RL, "change", "(LFairBatten;III[J)I"⟩
abbrev cL_ballast : ByteArray := method_12_code
def yL_ballast : MethodName := ⟨RL, "ballast", "(LFairBatten;I[J)I"⟩
abbrev cL_strake : ByteArray := method_13_code
def yL_strake : MethodName := ⟨RL, "strake", "(LFairBatten;I[J)I"⟩
abbrev cL_planks : ByteArray := method_14_code
def yL_planks : MethodName := ⟨RL, "planks", "(LFairBatten;I[J)I"⟩
abbrev cL_plankOf : ByteArray := method_15_code
def yL_plankOf : MethodName := ⟨RL, "plankOf", "(LFairBatten;IZ[J)I"⟩
abbrev cL_tide : ByteArray := method_16_code
def yL_tide : MethodName := ⟨RL, "tide", "(LFairBatten;II[J)I"⟩
abbrev cL_sill : ByteArray := method_17_code
def yL_sill : MethodName := ⟨RL, "sill", "(LFairBatten;I[J)I"⟩
abbrev cL_launch : ByteArray := method_18_code
def yL_launch : MethodName := ⟨RL, "launch", "(LFairBatten;[J)I"⟩
abbrev cL_pass : ByteArray := method_19_code
def yL_pass : MethodName := ⟨RL, "pass", "(LFairBatten;I[J)I"⟩
abbrev cL_law : ByteArray := code
def yL_law : MethodName := ⟨RL, "law", "([I)Z"⟩
def wsX0_init : List Cond := .code yX0_init cX0_init 1 none :: ([.methodLink RX0 3 objectInit, .instanceMethod objectInit, .code objectInit ⟨#[0xb1]⟩ 1 none, .arrayClass .int, .fieldLink RX0 11 "FairBatten$Almanac" "toldDays" "[I", .fieldLink RX0 15 "FairBatten$Almanac" "toldHeights" "[I", .fieldLink RX0 18 "FairBatten$Almanac" "count" "I"] ++ wsX00)
def wsX0_placeOf : List Cond := .code yX0_placeOf cX0_placeOf 3 (some .int) :: ([.fieldLink RX0 18 "FairBatten$Almanac" "count" "I", .fieldLink RX0 11 "FairBatten$Almanac" "toldDays" "[I"] ++ wsX00)
def wsX0_hasRoomFor : List Cond := .code yX0_hasRoomFor cX0_hasRoomFor 2 (some .boolean) :: ([.fieldLink RX0 18 "FairBatten$Almanac" "count" "I", .methodLink RX0 22 yX0_placeOf, .instanceMethod yX0_placeOf, .selects RX0 yX0_placeOf yX0_placeOf, .initialized RX0, .code yX0_placeOf cX0_placeOf 3 (some .int), .fieldLink RX0 11 "FairBatten$Almanac" "toldDays" "[I"] ++ wsX00)
def wsJ9_floorMod_7cf53 : List Cond := .code yJ9_floorMod_7cf53 cJ9_floorMod_7cf53 3 (some .int) :: ([])
def wsX0_heightOn : List Cond := .code yX0_heightOn cX0_heightOn 3 (some .int) :: ([.fieldLink RX0 15 "FairBatten$Almanac" "toldHeights" "[I", .methodLink RX0 22 yX0_placeOf, .instanceMethod yX0_placeOf, .selects RX0 yX0_placeOf yX0_placeOf, .initialized RX0, .code yX0_placeOf cX0_placeOf 3 (some .int), .fieldLink RX0 18 "FairBatten$Almanac" "count" "I", .fieldLink RX0 11 "FairBatten$Almanac" "toldDays" "[I", .methodLink RX0 26 yJ9_floorMod_7cf53, .static yJ9_floorMod_7cf53, .initialized RJ9, .code yJ9_floorMod_7cf53 cJ9_floorMod_7cf53 3 (some .int)] ++ wsX00)
def wsX0_tell : List Cond := .code yX0_tell cX0_tell 4 none :: ([.fieldLink RX0 18 "FairBatten$Almanac" "count" "I", .fieldLink RX0 11 "FairBatten$Almanac" "toldDays" "[I", .fieldLink RX0 15 "FairBatten$Almanac" "toldHeights" "[I", .methodLink RX0 22 yX0_placeOf, .instanceMethod yX0_placeOf, .selects RX0 yX0_placeOf yX0_placeOf, .initialized RX0, .code yX0_placeOf cX0_placeOf 3 (some .int)] ++ wsX00)
def wsX1_init : List Cond := .code yX1_init cX1_init 1 none :: ([.methodLink RX1 3 objectInit, .instanceMethod objectInit, .code objectInit ⟨#[0xb1]⟩ 1 none, .classLink RX1 11 "[[I", .arrayClass .int, .fieldLink RX1 13 "FairBatten$Batten" "rest" "[[I", .fieldLink RX1 16 "FairBatten$Batten" "lowest" "[I", .fieldLink RX1 20 "FairBatten$Batten" "choices" "[I"] ++ wsX10)
def wsX6_squareOfBend : List Cond := .code yX6_squareOfBend cX6_squareOfBend 4 (some .int) :: ([])
def wsX1_bendWith : List Cond := .code yX1_bendWith cX1_bendWith 6 (some .int) :: ([.fieldLink RX1 16 "FairBatten$Batten" "lowest" "[I", .fieldLink RX1 13 "FairBatten$Batten" "rest" "[[I", .static yX6_squareOfBend, .initialized RX6, .code yX6_squareOfBend cX6_squareOfBend 4 (some .int)] ++ wsX10)
def wsX1_reckonRest : List Cond := .code yX1_reckonRest cX1_reckonRest 6 none :: ([.fieldLink RX1 20 "FairBatten$Batten" "choices" "[I", .constant RX1 40 (2000000), .methodLink RX1 29 Lib.Math.min.name, .static Lib.Math.min.name, .initialized "java/lang/Math", .code Lib.Math.min.name Lib.Math.min.code 2 (some .int), .fieldLink RX1 13 "FairBatten$Batten" "rest" "[[I", .methodLink RX1 41 yX1_bendWith, .instanceMethod yX1_bendWith, .selects RX1 yX1_bendWith yX1_bendWith, .initialized RX1, .code yX1_bendWith cX1_bendWith 6 (some .int), .fieldLink RX1 16 "FairBatten$Batten" "lowest" "[I", .static yX6_squareOfBend, .initialized RX6, .code yX6_squareOfBend cX6_squareOfBend 4 (some .int)] ++ wsX10)
def wsX1_lowestThird : List Cond := .code yX1_lowestThird cX1_lowestThird 8 (some .int) :: ([.constant RX1 40 (2000000), .fieldLink RX1 20 "FairBatten$Batten" "choices" "[I", .methodLink RX1 41 yX1_bendWith, .instanceMethod yX1_bendWith, .selects RX1 yX1_bendWith yX1_bendWith, .initialized RX1, .code yX1_bendWith cX1_bendWith 6 (some .int), .fieldLink RX1 16 "FairBatten$Batten" "lowest" "[I", .fieldLink RX1 13 "FairBatten$Batten" "rest" "[[I", .static yX6_squareOfBend, .initialized RX6, .code yX6_squareOfBend cX6_squareOfBend 4 (some .int)] ++ wsX10)
def wsX1_draw : List Cond := .code yX1_draw cX1_draw 7 none :: ([.constant RX1 40 (2000000), .fieldLink RX1 20 "FairBatten$Batten" "choices" "[I", .fieldLink RX1 13 "FairBatten$Batten" "rest" "[[I", .fieldLink RX1 16 "FairBatten$Batten" "lowest" "[I", .methodLink RX1 49 yX1_lowestThird, .instanceMethod yX1_lowestThird, .selects RX1 yX1_lowestThird yX1_lowestThird, .initialized RX1, .code yX1_lowestThird cX1_lowestThird 8 (some .int), .methodLink RX1 41 yX1_bendWith, .instanceMethod yX1_bendWith, .selects RX1 yX1_bendWith yX1_bendWith, .code yX1_bendWith cX1_bendWith 6 (some .int), .static yX6_squareOfBend, .initialized RX6, .code yX6_squareOfBend cX6_squareOfBend 4 (some .int)] ++ wsX10)
def wsX1_straighten_r1 : List Cond := [Cond.fieldLink RX1 16 "FairBatten$Batten" "lowest" "[I", Cond.methodLink RX1 23 Lib.Math.max.name, Cond.static Lib.Math.max.name, Cond.initialized "java/lang/Math", Cond.code Lib.Math.max.name Lib.Math.max.code 2 (some .int), Cond.fieldLink RX1 20 "FairBatten$Batten" "choices" "[I", Cond.methodLink RX1 29 Lib.Math.min.name, Cond.static Lib.Math.min.name, Cond.code Lib.Math.min.name Lib.Math.min.code 2 (some .int), Cond.methodLink RX1 32 yX1_reckonRest, Cond.instanceMethod yX1_reckonRest, Cond.selects RX1 yX1_reckonRest yX1_reckonRest, Cond.initialized RX1, Cond.code yX1_reckonRest cX1_reckonRest 6 none, Cond.constant RX1 40 (2000000), Cond.fieldLink RX1 13 "FairBatten$Batten" "rest" "[[I", Cond.methodLink RX1 41 yX1_bendWith, Cond.instanceMethod yX1_bendWith, Cond.selects RX1 yX1_bendWith yX1_bendWith, Cond.code yX1_bendWith cX1_bendWith 6 (some .int), Cond.static yX6_squareOfBend, Cond.initialized RX6, Cond.code yX6_squareOfBend cX6_squareOfBend 4 (some .int), Cond.methodLink RX1 36 yX1_draw]
def wsX1_straighten_r2 : List Cond := [Cond.instanceMethod yX1_draw, Cond.selects RX1 yX1_draw yX1_draw, Cond.code yX1_draw cX1_draw 7 none, Cond.methodLink RX1 49 yX1_lowestThird, Cond.instanceMethod yX1_lowestThird, Cond.selects RX1 yX1_lowestThird yX1_lowestThird, Cond.code yX1_lowestThird cX1_lowestThird 8 (some .int)]
def wsX1_straighten : List Cond := .code yX1_straighten cX1_straighten 4 none :: ((wsX1_straighten_r1 ++ wsX1_straighten_r2) ++ wsX10)
def wsX2_init : List Cond := .code yX2_init cX2_init 1 none :: ([.methodLink RX2 3 objectInit, .instanceMethod objectInit, .code objectInit ⟨#[0xb1]⟩ 1 none, .arrayClass .int, .fieldLink RX2 9 "FairBatten$Buoyancy" "volumes" "[I", .fieldLink RX2 15 "FairBatten$Buoyancy" "moments" "[I"] ++ wsX20)
def wsX4_areaUpTo : List Cond := .code yX4_areaUpTo cX4_areaUpTo 5 (some .int) :: ([.fieldLink RX4 11 "FairBatten$Hull" "lines" "[[I"] ++ wsX40)
def wsX4_volumeUpTo : List Cond := .code yX4_volumeUpTo cX4_volumeUpTo 4 (some .int) :: ([.methodLink RX4 16 yX4_areaUpTo, .instanceMethod yX4_areaUpTo, .selects RX4 yX4_areaUpTo yX4_areaUpTo, .initialized RX4, .code yX4_areaUpTo cX4_areaUpTo 5 (some .int), .fieldLink RX4 11 "FairBatten$Hull" "lines" "[[I"] ++ wsX40)
def wsX4_momentUpTo : List Cond := .code yX4_momentUpTo cX4_momentUpTo 5 (some .int) :: ([.methodLink RX4 16 yX4_areaUpTo, .instanceMethod yX4_areaUpTo, .selects RX4 yX4_areaUpTo yX4_areaUpTo, .initialized RX4, .code yX4_areaUpTo cX4_areaUpTo 5 (some .int), .fieldLink RX4 11 "FairBatten$Hull" "lines" "[[I"] ++ wsX40)
def wsX2_measure : List Cond := .code yX2_measure cX2_measure 3 none :: ([.fieldLink RX2 9 "FairBatten$Buoyancy" "volumes" "[I", .fieldLink RX2 15 "FairBatten$Buoyancy" "moments" "[I", .instanceMethod yX4_volumeUpTo, .initialized RX4, .selects RX4 yX4_volumeUpTo yX4_volumeUpTo, .code yX4_volumeUpTo cX4_volumeUpTo 4 (some .int), .methodLink RX4 16 yX4_areaUpTo, .instanceMethod yX4_areaUpTo, .selects RX4 yX4_areaUpTo yX4_areaUpTo, .code yX4_areaUpTo cX4_areaUpTo 5 (some .int), .fieldLink RX4 11 "FairBatten$Hull" "lines" "[[I", .instanceMethod yX4_momentUpTo, .selects RX4 yX4_momentUpTo yX4_momentUpTo, .code yX4_momentUpTo cX4_momentUpTo 5 (some .int)] ++ wsX20 ++ wsX40)
def wsX2_draughtUnder : List Cond := .code yX2_draughtUnder cX2_draughtUnder 3 (some .int) :: ([.fieldLink RX2 9 "FairBatten$Buoyancy" "volumes" "[I"] ++ wsX20)
def wsJ9_floorDiv_7cf53 : List Cond := .code yJ9_floorDiv_7cf53 cJ9_floorDiv_7cf53 3 (some .int) :: ([])
def wsX2_hundredfold : List Cond := .code yX2_hundredfold cX2_hundredfold 2 (some .int) :: ([.methodLink RX2 34 yJ9_floorDiv_7cf53, .static yJ9_floorDiv_7cf53, .initialized RJ9, .code yJ9_floorDiv_7cf53 cJ9_floorDiv_7cf53 3 (some .int)])
def wsX2_trimUnder : List Cond := .code yX2_trimUnder cX2_trimUnder 4 (some .int) :: ([.fieldLink RX2 15 "FairBatten$Buoyancy" "moments" "[I", .fieldLink RX2 9 "FairBatten$Buoyancy" "volumes" "[I", .methodLink RX2 27 yX2_draughtUnder, .instanceMethod yX2_draughtUnder, .selects RX2 yX2_draughtUnder yX2_draughtUnder, .initialized RX2, .code yX2_draughtUnder cX2_draughtUnder 3 (some .int), .methodLink RX2 30 yX2_hundredfold, .static yX2_hundredfold, .code yX2_hundredfold cX2_hundredfold 2 (some .int), .methodLink RX2 34 yJ9_floorDiv_7cf53, .static yJ9_floorDiv_7cf53, .initialized RJ9, .code yJ9_floorDiv_7cf53 cJ9_floorDiv_7cf53 3 (some .int)] ++ wsX20)
def wsX3_loadWithoutBallast : List Cond := .code yX3_loadWithoutBallast cX3_loadWithoutBallast 3 (some .int) :: ([.fieldLink RX3 16 "FairBatten$Cargo" "count" "I", .fieldLink RX3 9 "FairBatten$Cargo" "weights" "[I"] ++ wsX30)
def wsX3_momentWithoutBallast : List Cond := .code yX3_momentWithoutBallast cX3_momentWithoutBallast 3 (some .int) :: ([.fieldLink RX3 16 "FairBatten$Cargo" "count" "I", .fieldLink RX3 9 "FairBatten$Cargo" "weights" "[I", .fieldLink RX3 13 "FairBatten$Cargo" "stations" "[I"] ++ wsX30)
def wsX2_setBallast_r1 : List Cond := [Cond.methodLink RX2 51 Lib.Math.abs.name, Cond.static Lib.Math.abs.name, Cond.initialized "java/lang/Math", Cond.code Lib.Math.abs.name Lib.Math.abs.code 1 (some .int), Cond.instanceMethod yX3_loadWithoutBallast, Cond.initialized RX3, Cond.selects RX3 yX3_loadWithoutBallast yX3_loadWithoutBallast, Cond.code yX3_loadWithoutBallast cX3_loadWithoutBallast 3 (some .int), Cond.fieldLink RX3 16 "FairBatten$Cargo" "count" "I", Cond.fieldLink RX3 9 "FairBatten$Cargo" "weights" "[I", Cond.instanceMethod yX3_momentWithoutBallast, Cond.selects RX3 yX3_momentWithoutBallast yX3_momentWithoutBallast, Cond.code yX3_momentWithoutBallast cX3_momentWithoutBallast 3 (some .int), Cond.fieldLink RX3 13 "FairBatten$Cargo" "stations" "[I", Cond.methodLink RX2 27 yX2_draughtUnder, Cond.instanceMethod yX2_draughtUnder, Cond.selects RX2 yX2_draughtUnder yX2_draughtUnder, Cond.initialized RX2, Cond.code yX2_draughtUnder cX2_draughtUnder 3 (some .int), Cond.fieldLink RX2 9 "FairBatten$Buoyancy" "volumes" "[I", Cond.methodLink RX2 48 yX2_trimUnder, Cond.instanceMethod yX2_trimUnder, Cond.selects RX2 yX2_trimUnder yX2_trimUnder, Cond.code yX2_trimUnder cX2_trimUnder 4 (some .int)]
def wsX2_setBallast_r2 : List Cond := [Cond.fieldLink RX2 15 "FairBatten$Buoyancy" "moments" "[I", Cond.methodLink RX2 30 yX2_hundredfold, Cond.static yX2_hundredfold, Cond.code yX2_hundredfold cX2_hundredfold 2 (some .int), Cond.methodLink RX2 34 yJ9_floorDiv_7cf53, Cond.static yJ9_floorDiv_7cf53, Cond.initialized RJ9, Cond.code yJ9_floorDiv_7cf53 cJ9_floorDiv_7cf53 3 (some .int)]
def wsX2_setBallast : List Cond := .code yX2_setBallast cX2_setBallast 10 none :: ((wsX2_setBallast_r1 ++ wsX2_setBallast_r2) ++ wsX30 ++ wsX20)
def wsX3_init : List Cond := .code yX3_init cX3_init 1 none :: ([.methodLink RX3 1 objectInit, .instanceMethod objectInit, .code objectInit ⟨#[0xb1]⟩ 1 none, .arrayClass .int, .fieldLink RX3 9 "FairBatten$Cargo" "weights" "[I", .fieldLink RX3 13 "FairBatten$Cargo" "stations" "[I", .fieldLink RX3 16 "FairBatten$Cargo" "count" "I", .fieldLink RX3 20 "FairBatten$Cargo" "ballastWeight" "I", .fieldLink RX3 23 "FairBatten$Cargo" "ballastStation" "I"] ++ wsX30)
def wsX3_isFull : List Cond := .code yX3_isFull cX3_isFull 1 (some .boolean) :: ([.fieldLink RX3 16 "FairBatten$Cargo" "count" "I"] ++ wsX30)
def wsX3_add : List Cond := .code yX3_add cX3_add 3 (some .int) :: ([.fieldLink RX3 9 "FairBatten$Cargo" "weights" "[I", .fieldLink RX3 16 "FairBatten$Cargo" "count" "I", .fieldLink RX3 13 "FairBatten$Cargo" "stations" "[I"] ++ wsX30)
def wsX3_replace : List Cond := .code yX3_replace cX3_replace 5 (some .int) :: ([.fieldLink RX3 9 "FairBatten$Cargo" "weights" "[I", .fieldLink RX3 13 "FairBatten$Cargo" "stations" "[I"] ++ wsX30)
def wsX3_wholeLoad : List Cond := .code yX3_wholeLoad cX3_wholeLoad 1 (some .int) :: ([.fieldLink RX3 20 "FairBatten$Cargo" "ballastWeight" "I", .methodLink RX3 26 yX3_loadWithoutBallast, .instanceMethod yX3_loadWithoutBallast, .selects RX3 yX3_loadWithoutBallast yX3_loadWithoutBallast, .initialized RX3, .code yX3_loadWithoutBallast cX3_loadWithoutBallast 3 (some .int), .fieldLink RX3 16 "FairBatten$Cargo" "count" "I", .fieldLink RX3 9 "FairBatten$Cargo" "weights" "[I"] ++ wsX30)
def wsX3_wholeMoment : List Cond := .code yX3_wholeMoment cX3_wholeMoment 1 (some .int) :: ([.fieldLink RX3 20 "FairBatten$Cargo" "ballastWeight" "I", .fieldLink RX3 23 "FairBatten$Cargo" "ballastStation" "I", .methodLink RX3 30 yX3_momentWithoutBallast, .instanceMethod yX3_momentWithoutBallast, .selects RX3 yX3_momentWithoutBallast yX3_momentWithoutBallast, .initialized RX3, .code yX3_momentWithoutBallast cX3_momentWithoutBallast 3 (some .int), .fieldLink RX3 16 "FairBatten$Cargo" "count" "I", .fieldLink RX3 9 "FairBatten$Cargo" "weights" "[I", .fieldLink RX3 13 "FairBatten$Cargo" "stations" "[I"] ++ wsX30)
def wsX4_init : List Cond := .code yX4_init cX4_init 1 none :: ([.methodLink RX4 3 objectInit, .instanceMethod objectInit, .code objectInit ⟨#[0xb1]⟩ 1 none, .classLink RX4 9 "[[I", .arrayClass .int, .fieldLink RX4 11 "FairBatten$Hull" "lines" "[[I"] ++ wsX40)
def wsX4_waterlineArea : List Cond := .code yX4_waterlineArea cX4_waterlineArea 5 (some .int) :: ([.fieldLink RX4 11 "FairBatten$Hull" "lines" "[[I"] ++ wsX40)
def wsX4_volumeBySlices : List Cond := .code yX4_volumeBySlices cX4_volumeBySlices 4 (some .int) :: ([.methodLink RX4 20 yX4_waterlineArea, .instanceMethod yX4_waterlineArea, .selects RX4 yX4_waterlineArea yX4_waterlineArea, .initialized RX4, .code yX4_waterlineArea cX4_waterlineArea 5 (some .int), .fieldLink RX4 11 "FairBatten$Hull" "lines" "[[I"] ++ wsX40)
def wsX4_strakeLength : List Cond := .code yX4_strakeLength cX4_strakeLength 5 (some .int) :: ([.fieldLink RX4 11 "FairBatten$Hull" "lines" "[[I", .methodLink RX4 24 Lib.Math.abs.name, .static Lib.Math.abs.name, .initialized "java/lang/Math", .code Lib.Math.abs.name Lib.Math.abs.code 1 (some .int)] ++ wsX40)
def wsX5_init : List Cond := .code yX5_init cX5_init 1 none :: ([.methodLink RX5 3 objectInit, .instanceMethod objectInit, .code objectInit ⟨#[0xb1]⟩ 1 none, .arrayClass .int, .fieldLink RX5 11 "FairBatten$Nest" "left" "[I", .fieldLink RX5 15 "FairBatten$Nest" "lengths" "[I", .fieldLink RX5 18 "FairBatten$Nest" "order" "[I", .fieldLink RX5 21 "FairBatten$Nest" "firstEnds" "[I", .fieldLink RX5 24 "FairBatten$Nest" "secondEnds" "[I", .fieldLink RX5 27 "FairBatten$Nest" "plankLength" "I", .fieldLink RX5 31 "FairBatten$Nest" "taken" "I"] ++ wsX50)
def wsX5_sortByLength : List Cond := .code yX5_sortByLength cX5_sortByLength 4 none :: ([.fieldLink RX5 15 "FairBatten$Nest" "lengths" "[I", .fieldLink RX5 18 "FairBatten$Nest" "order" "[I", .instanceMethod yX4_strakeLength, .initialized RX4, .selects RX4 yX4_strakeLength yX4_strakeLength, .code yX4_strakeLength cX4_strakeLength 5 (some .int), .fieldLink RX4 11 "FairBatten$Hull" "lines" "[[I", .methodLink RX4 24 Lib.Math.abs.name, .static Lib.Math.abs.name, .initialized "java/lang/Math", .code Lib.Math.abs.name Lib.Math.abs.code 1 (some .int)] ++ wsX50 ++ wsX40)
def wsX5_cut : List Cond := .code yX5_cut cX5_cut 4 (some .int) :: ([.fieldLink RX5 27 "FairBatten$Nest" "plankLength" "I", .fieldLink RX5 31 "FairBatten$Nest" "taken" "I", .fieldLink RX5 11 "FairBatten$Nest" "left" "[I"] ++ wsX50)
def wsX5_cutAll_r1 : List Cond := [Cond.fieldLink RX5 31 "FairBatten$Nest" "taken" "I", Cond.fieldLink RX5 18 "FairBatten$Nest" "order" "[I", Cond.fieldLink RX5 21 "FairBatten$Nest" "firstEnds" "[I", Cond.fieldLink RX5 15 "FairBatten$Nest" "lengths" "[I", Cond.fieldLink RX5 24 "FairBatten$Nest" "secondEnds" "[I", Cond.methodLink RX5 34 yX5_sortByLength, Cond.instanceMethod yX5_sortByLength, Cond.selects RX5 yX5_sortByLength yX5_sortByLength, Cond.initialized RX5, Cond.code yX5_sortByLength cX5_sortByLength 4 none, Cond.instanceMethod yX4_strakeLength, Cond.initialized RX4, Cond.selects RX4 yX4_strakeLength yX4_strakeLength, Cond.code yX4_strakeLength cX4_strakeLength 5 (some .int), Cond.fieldLink RX4 11 "FairBatten$Hull" "lines" "[[I", Cond.methodLink RX4 24 Lib.Math.abs.name, Cond.static Lib.Math.abs.name, Cond.initialized "java/lang/Math", Cond.code Lib.Math.abs.name Lib.Math.abs.code 1 (some .int), Cond.methodLink RX5 38 yX5_cut, Cond.instanceMethod yX5_cut, Cond.selects RX5 yX5_cut yX5_cut, Cond.code yX5_cut cX5_cut 4 (some .int), Cond.fieldLink RX5 27 "FairBatten$Nest" "plankLength" "I"]
def wsX5_cutAll_r2 : List Cond := [Cond.fieldLink RX5 11 "FairBatten$Nest" "left" "[I"]
def wsX5_cutAll : List Cond := .code yX5_cutAll cX5_cutAll 4 none :: ((wsX5_cutAll_r1 ++ wsX5_cutAll_r2) ++ wsX50 ++ wsX40)
def wsX6_init_r1 : List Cond := [Cond.methodLink RX6 1 objectInit, Cond.instanceMethod objectInit, Cond.code objectInit ⟨#[0xb1]⟩ 1 none, Cond.classLink RX6 7 RX4, Cond.instantiable RX4 1, Cond.initialized RX4, Cond.fieldLink RX6 10 "FairBatten" "hull" "LFairBatten$Hull;", Cond.classLink RX6 16 RX1, Cond.instantiable RX1 3, Cond.initialized RX1, Cond.fieldLink RX6 19 "FairBatten" "batten" "LFairBatten$Batten;", Cond.classLink RX6 23 RX3, Cond.instantiable RX3 5, Cond.initialized RX3, Cond.fieldLink RX6 26 "FairBatten" "cargo" "LFairBatten$Cargo;", Cond.classLink RX6 30 RX2, Cond.instantiable RX2 2, Cond.initialized RX2, Cond.fieldLink RX6 33 "FairBatten" "buoyancy" "LFairBatten$Buoyancy;", Cond.classLink RX6 37 RX5, Cond.instantiable RX5 7, Cond.initialized RX5, Cond.fieldLink RX6 40 "FairBatten" "nest" "LFairBatten$Nest;", Cond.classLink RX6 44 RX0]
def wsX6_init_r2 : List Cond := [Cond.instantiable RX0 3, Cond.initialized RX0, Cond.fieldLink RX6 47 "FairBatten" "almanac" "LFairBatten$Almanac;", Cond.fieldLink RX6 51 "FairBatten" "sillHeight" "I", Cond.fieldLink RX6 55 "FairBatten" "today" "I", Cond.fieldLink RX6 58 "FairBatten" "launched" "Z", Cond.instanceMethod yX4_init, Cond.code yX4_init cX4_init 1 none, Cond.methodLink RX4 3 objectInit, Cond.classLink RX4 9 "[[I", Cond.arrayClass .int, Cond.fieldLink RX4 11 "FairBatten$Hull" "lines" "[[I", Cond.instanceMethod yX1_init, Cond.code yX1_init cX1_init 1 none, Cond.methodLink RX1 3 objectInit, Cond.classLink RX1 11 "[[I", Cond.fieldLink RX1 13 "FairBatten$Batten" "rest" "[[I", Cond.fieldLink RX1 16 "FairBatten$Batten" "lowest" "[I", Cond.fieldLink RX1 20 "FairBatten$Batten" "choices" "[I", Cond.instanceMethod yX3_init, Cond.code yX3_init cX3_init 1 none, Cond.methodLink RX3 1 objectInit, Cond.fieldLink RX3 9 "FairBatten$Cargo" "weights" "[I", Cond.fieldLink RX3 13 "FairBatten$Cargo" "stations" "[I"]
def wsX6_init_r3 : List Cond := [Cond.fieldLink RX3 16 "FairBatten$Cargo" "count" "I", Cond.fieldLink RX3 20 "FairBatten$Cargo" "ballastWeight" "I", Cond.fieldLink RX3 23 "FairBatten$Cargo" "ballastStation" "I", Cond.instanceMethod yX2_init, Cond.code yX2_init cX2_init 1 none, Cond.methodLink RX2 3 objectInit, Cond.fieldLink RX2 9 "FairBatten$Buoyancy" "volumes" "[I", Cond.fieldLink RX2 15 "FairBatten$Buoyancy" "moments" "[I", Cond.instanceMethod yX5_init, Cond.code yX5_init cX5_init 1 none, Cond.methodLink RX5 3 objectInit, Cond.fieldLink RX5 11 "FairBatten$Nest" "left" "[I", Cond.fieldLink RX5 15 "FairBatten$Nest" "lengths" "[I", Cond.fieldLink RX5 18 "FairBatten$Nest" "order" "[I", Cond.fieldLink RX5 21 "FairBatten$Nest" "firstEnds" "[I", Cond.fieldLink RX5 24 "FairBatten$Nest" "secondEnds" "[I", Cond.fieldLink RX5 27 "FairBatten$Nest" "plankLength" "I", Cond.fieldLink RX5 31 "FairBatten$Nest" "taken" "I", Cond.instanceMethod yX0_init, Cond.code yX0_init cX0_init 1 none, Cond.methodLink RX0 3 objectInit, Cond.fieldLink RX0 11 "FairBatten$Almanac" "toldDays" "[I", Cond.fieldLink RX0 15 "FairBatten$Almanac" "toldHeights" "[I", Cond.fieldLink RX0 18 "FairBatten$Almanac" "count" "I"]
def wsX6_init : List Cond := .code yX6_init cX6_init 1 none :: ((wsX6_init_r1 ++ (wsX6_init_r2 ++ wsX6_init_r3)) ++ wsX40 ++ wsX60 ++ wsX10 ++ wsX30 ++ wsX20 ++ wsX50 ++ wsX00)
def wsX6_refuseNoStation : List Cond := .code yX6_refuseNoStation cX6_refuseNoStation 1 none :: ([.classLink RX6 202 "java/lang/IndexOutOfBoundsException", .initialized "java/lang/IndexOutOfBoundsException"] ++ (vx_atS RX6 206 "java/lang/IndexOutOfBoundsException" ["java/lang/RuntimeException", "java/lang/Exception"]).filter goodWord)
def wsX6_refuseNoWaterline : List Cond := .code yX6_refuseNoWaterline cX6_refuseNoWaterline 1 none :: ([.classLink RX6 202 "java/lang/IndexOutOfBoundsException", .initialized "java/lang/IndexOutOfBoundsException"] ++ (vx_atS RX6 206 "java/lang/IndexOutOfBoundsException" ["java/lang/RuntimeException", "java/lang/Exception"]).filter goodWord)
def wsX6_refuseOutside : List Cond := .code yX6_refuseOutside cX6_refuseOutside 3 none :: ([.classLink RX6 216 "java/lang/IllegalArgumentException", .initialized "java/lang/IllegalArgumentException"] ++ (vx_atS RX6 220 "java/lang/IllegalArgumentException" ["java/lang/RuntimeException", "java/lang/Exception"]).filter goodWord)
def wsX6_refuseLaunched : List Cond := .code yX6_refuseLaunched cX6_refuseLaunched 1 none :: ([.classLink RX6 103 "java/lang/IllegalStateException", .initialized "java/lang/IllegalStateException", .fieldLink RX6 58 "FairBatten" "launched" "Z"] ++ wsX60 ++ (vx_atS RX6 107 "java/lang/IllegalStateException" ["java/lang/RuntimeException", "java/lang/Exception"]).filter goodWord)
def wsX6_offset : List Cond := .code yX6_offset cX6_offset 5 (some .int) :: ([.fieldLink RX6 10 "FairBatten" "hull" "LFairBatten$Hull;", .methodLink RX6 62 yX6_refuseNoStation, .static yX6_refuseNoStation, .initialized RX6, .code yX6_refuseNoStation cX6_refuseNoStation 1 none, .classLink RX6 202 "java/lang/IndexOutOfBoundsException", .initialized "java/lang/IndexOutOfBoundsException", .methodLink RX6 66 yX6_refuseNoWaterline, .static yX6_refuseNoWaterline, .code yX6_refuseNoWaterline cX6_refuseNoWaterline 1 none, .methodLink RX6 69 yX6_refuseOutside, .static yX6_refuseOutside, .code yX6_refuseOutside cX6_refuseOutside 3 none, .classLink RX6 216 "java/lang/IllegalArgumentException", .initialized "java/lang/IllegalArgumentException", .methodLink RX6 73 yX6_refuseLaunched, .instanceMethod yX6_refuseLaunched, .selects RX6 yX6_refuseLaunched yX6_refuseLaunched, .code yX6_refuseLaunched cX6_refuseLaunched 1 none, .classLink RX6 103 "java/lang/IllegalStateException", .initialized "java/lang/IllegalStateException", .fieldLink RX6 58 "FairBatten" "launched" "Z"] ++ wsX60 ++ wsX40 ++ (vx_atS RX6 206 "java/lang/IndexOutOfBoundsException" ["java/lang/RuntimeException", "java/lang/Exception"]).filter goodWord ++ (vx_atS RX6 220 "java/lang/IllegalArgumentException" ["java/lang/RuntimeException", "java/lang/Exception"]).filter goodWord ++ (vx_atS RX6 107 "java/lang/IllegalStateException" ["java/lang/RuntimeException", "java/lang/Exception"]).filter goodWord)
def wsX6_half : List Cond := .code yX6_half cX6_half 3 (some .int) :: ([.fieldLink RX6 10 "FairBatten" "hull" "LFairBatten$Hull;", .methodLink RX6 62 yX6_refuseNoStation, .static yX6_refuseNoStation, .initialized RX6, .code yX6_refuseNoStation cX6_refuseNoStation 1 none, .classLink RX6 202 "java/lang/IndexOutOfBoundsException", .initialized "java/lang/IndexOutOfBoundsException", .methodLink RX6 66 yX6_refuseNoWaterline, .static yX6_refuseNoWaterline, .code yX6_refuseNoWaterline cX6_refuseNoWaterline 1 none] ++ wsX60 ++ wsX40 ++ (vx_atS RX6 206 "java/lang/IndexOutOfBoundsException" ["java/lang/RuntimeException", "java/lang/Exception"]).filter goodWord)
def wsX6_bendOfLine : List Cond := .code yX6_bendOfLine cX6_bendOfLine 3 (some .int) :: ([.methodLink RX6 223 yX6_squareOfBend, .static yX6_squareOfBend, .initialized RX6, .code yX6_squareOfBend cX6_squareOfBend 4 (some .int)])
def wsX6_bend : List Cond := .code yX6_bend cX6_bend 2 (some .int) :: ([.fieldLink RX6 10 "FairBatten" "hull" "LFairBatten$Hull;", .methodLink RX6 66 yX6_refuseNoWaterline, .static yX6_refuseNoWaterline, .initialized RX6, .code yX6_refuseNoWaterline cX6_refuseNoWaterline 1 none, .classLink RX6 202 "java/lang/IndexOutOfBoundsException", .initialized "java/lang/IndexOutOfBoundsException", .methodLink RX6 80 yX6_bendOfLine, .static yX6_bendOfLine, .code yX6_bendOfLine cX6_bendOfLine 3 (some .int), .methodLink RX6 223 yX6_squareOfBend, .static yX6_squareOfBend, .code yX6_squareOfBend cX6_squareOfBend 4 (some .int)] ++ wsX60 ++ wsX40 ++ (vx_atS RX6 206 "java/lang/IndexOutOfBoundsException" ["java/lang/RuntimeException", "java/lang/Exception"]).filter goodWord)
def wsX6_fair_r1 : List Cond := [Cond.fieldLink RX6 10 "FairBatten" "hull" "LFairBatten$Hull;", Cond.fieldLink RX6 19 "FairBatten" "batten" "LFairBatten$Batten;", Cond.methodLink RX6 66 yX6_refuseNoWaterline, Cond.static yX6_refuseNoWaterline, Cond.initialized RX6, Cond.code yX6_refuseNoWaterline cX6_refuseNoWaterline 1 none, Cond.classLink RX6 202 "java/lang/IndexOutOfBoundsException", Cond.initialized "java/lang/IndexOutOfBoundsException", Cond.methodLink RX6 69 yX6_refuseOutside, Cond.static yX6_refuseOutside, Cond.code yX6_refuseOutside cX6_refuseOutside 3 none, Cond.classLink RX6 216 "java/lang/IllegalArgumentException", Cond.initialized "java/lang/IllegalArgumentException", Cond.methodLink RX6 73 yX6_refuseLaunched, Cond.instanceMethod yX6_refuseLaunched, Cond.selects RX6 yX6_refuseLaunched yX6_refuseLaunched, Cond.code yX6_refuseLaunched cX6_refuseLaunched 1 none, Cond.classLink RX6 103 "java/lang/IllegalStateException", Cond.initialized "java/lang/IllegalStateException", Cond.fieldLink RX6 58 "FairBatten" "launched" "Z", Cond.methodLink RX6 80 yX6_bendOfLine, Cond.static yX6_bendOfLine, Cond.code yX6_bendOfLine cX6_bendOfLine 3 (some .int), Cond.methodLink RX6 223 yX6_squareOfBend]
def wsX6_fair_r2 : List Cond := [Cond.static yX6_squareOfBend, Cond.code yX6_squareOfBend cX6_squareOfBend 4 (some .int), Cond.instanceMethod yX1_straighten, Cond.initialized RX1, Cond.selects RX1 yX1_straighten yX1_straighten, Cond.code yX1_straighten cX1_straighten 4 none, Cond.fieldLink RX1 16 "FairBatten$Batten" "lowest" "[I", Cond.methodLink RX1 23 Lib.Math.max.name, Cond.static Lib.Math.max.name, Cond.initialized "java/lang/Math", Cond.code Lib.Math.max.name Lib.Math.max.code 2 (some .int), Cond.fieldLink RX1 20 "FairBatten$Batten" "choices" "[I", Cond.methodLink RX1 29 Lib.Math.min.name, Cond.static Lib.Math.min.name, Cond.code Lib.Math.min.name Lib.Math.min.code 2 (some .int), Cond.methodLink RX1 32 yX1_reckonRest, Cond.instanceMethod yX1_reckonRest, Cond.selects RX1 yX1_reckonRest yX1_reckonRest, Cond.code yX1_reckonRest cX1_reckonRest 6 none, Cond.constant RX1 40 (2000000), Cond.fieldLink RX1 13 "FairBatten$Batten" "rest" "[[I", Cond.methodLink RX1 41 yX1_bendWith, Cond.instanceMethod yX1_bendWith, Cond.selects RX1 yX1_bendWith yX1_bendWith]
def wsX6_fair_r3 : List Cond := [Cond.code yX1_bendWith cX1_bendWith 6 (some .int), Cond.methodLink RX1 36 yX1_draw, Cond.instanceMethod yX1_draw, Cond.selects RX1 yX1_draw yX1_draw, Cond.code yX1_draw cX1_draw 7 none, Cond.methodLink RX1 49 yX1_lowestThird, Cond.instanceMethod yX1_lowestThird, Cond.selects RX1 yX1_lowestThird yX1_lowestThird, Cond.code yX1_lowestThird cX1_lowestThird 8 (some .int)]
def wsX6_fair : List Cond := .code yX6_fair cX6_fair 5 (some .int) :: ((wsX6_fair_r1 ++ (wsX6_fair_r2 ++ wsX6_fair_r3)) ++ wsX60 ++ wsX40 ++ wsX10 ++ (vx_atS RX6 206 "java/lang/IndexOutOfBoundsException" ["java/lang/RuntimeException", "java/lang/Exception"]).filter goodWord ++ (vx_atS RX6 220 "java/lang/IllegalArgumentException" ["java/lang/RuntimeException", "java/lang/Exception"]).filter goodWord ++ (vx_atS RX6 107 "java/lang/IllegalStateException" ["java/lang/RuntimeException", "java/lang/Exception"]).filter goodWord)
def wsX6_area : List Cond := .code yX6_area cX6_area 3 (some .int) :: ([.fieldLink RX6 10 "FairBatten" "hull" "LFairBatten$Hull;", .methodLink RX6 62 yX6_refuseNoStation, .static yX6_refuseNoStation, .initialized RX6, .code yX6_refuseNoStation cX6_refuseNoStation 1 none, .classLink RX6 202 "java/lang/IndexOutOfBoundsException", .initialized "java/lang/IndexOutOfBoundsException", .methodLink RX6 66 yX6_refuseNoWaterline, .static yX6_refuseNoWaterline, .code yX6_refuseNoWaterline cX6_refuseNoWaterline 1 none, .instanceMethod yX4_areaUpTo, .initialized RX4, .selects RX4 yX4_areaUpTo yX4_areaUpTo, .code yX4_areaUpTo cX4_areaUpTo 5 (some .int), .fieldLink RX4 11 "FairBatten$Hull" "lines" "[[I"] ++ wsX60 ++ wsX40 ++ (vx_atS RX6 206 "java/lang/IndexOutOfBoundsException" ["java/lang/RuntimeException", "java/lang/Exception"]).filter goodWord)
def wsX6_volume : List Cond := .code yX6_volume cX6_volume 2 (some .int) :: ([.fieldLink RX6 10 "FairBatten" "hull" "LFairBatten$Hull;", .methodLink RX6 66 yX6_refuseNoWaterline, .static yX6_refuseNoWaterline, .initialized RX6, .code yX6_refuseNoWaterline cX6_refuseNoWaterline 1 none, .classLink RX6 202 "java/lang/IndexOutOfBoundsException", .initialized "java/lang/IndexOutOfBoundsException", .instanceMethod yX4_volumeUpTo, .initialized RX4, .selects RX4 yX4_volumeUpTo yX4_volumeUpTo, .code yX4_volumeUpTo cX4_volumeUpTo 4 (some .int), .methodLink RX4 16 yX4_areaUpTo, .instanceMethod yX4_areaUpTo, .selects RX4 yX4_areaUpTo yX4_areaUpTo, .code yX4_areaUpTo cX4_areaUpTo 5 (some .int), .fieldLink RX4 11 "FairBatten$Hull" "lines" "[[I"] ++ wsX60 ++ wsX40 ++ (vx_atS RX6 206 "java/lang/IndexOutOfBoundsException" ["java/lang/RuntimeException", "java/lang/Exception"]).filter goodWord)
def wsX6_volumeAnew : List Cond := .code yX6_volumeAnew cX6_volumeAnew 2 (some .int) :: ([.fieldLink RX6 10 "FairBatten" "hull" "LFairBatten$Hull;", .methodLink RX6 66 yX6_refuseNoWaterline, .static yX6_refuseNoWaterline, .initialized RX6, .code yX6_refuseNoWaterline cX6_refuseNoWaterline 1 none, .classLink RX6 202 "java/lang/IndexOutOfBoundsException", .initialized "java/lang/IndexOutOfBoundsException", .instanceMethod yX4_volumeBySlices, .initialized RX4, .selects RX4 yX4_volumeBySlices yX4_volumeBySlices, .code yX4_volumeBySlices cX4_volumeBySlices 4 (some .int), .methodLink RX4 20 yX4_waterlineArea, .instanceMethod yX4_waterlineArea, .selects RX4 yX4_waterlineArea yX4_waterlineArea, .code yX4_waterlineArea cX4_waterlineArea 5 (some .int), .fieldLink RX4 11 "FairBatten$Hull" "lines" "[[I"] ++ wsX60 ++ wsX40 ++ (vx_atS RX6 206 "java/lang/IndexOutOfBoundsException" ["java/lang/RuntimeException", "java/lang/Exception"]).filter goodWord)
def wsX6_weigh : List Cond := .code yX6_weigh cX6_weigh 3 (some .int) :: ([.classLink RX6 103 "java/lang/IllegalStateException", .initialized "java/lang/IllegalStateException", .fieldLink RX6 26 "FairBatten" "cargo" "LFairBatten$Cargo;", .methodLink RX6 62 yX6_refuseNoStation, .static yX6_refuseNoStation, .initialized RX6, .code yX6_refuseNoStation cX6_refuseNoStation 1 none, .classLink RX6 202 "java/lang/IndexOutOfBoundsException", .initialized "java/lang/IndexOutOfBoundsException", .methodLink RX6 69 yX6_refuseOutside, .static yX6_refuseOutside, .code yX6_refuseOutside cX6_refuseOutside 3 none, .classLink RX6 216 "java/lang/IllegalArgumentException", .initialized "java/lang/IllegalArgumentException", .instanceMethod yX3_isFull, .initialized RX3, .selects RX3 yX3_isFull yX3_isFull, .code yX3_isFull cX3_isFull 1 (some .boolean), .fieldLink RX3 16 "FairBatten$Cargo" "count" "I", .instanceMethod yX3_add, .selects RX3 yX3_add yX3_add, .code yX3_add cX3_add 3 (some .int), .fieldLink RX3 9 "FairBatten$Cargo" "weights" "[I", .fieldLink RX3 13 "FairBatten$Cargo" "stations" "[I"] ++ wsX60 ++ wsX30 ++ (vx_atS RX6 107 "java/lang/IllegalStateException" ["java/lang/RuntimeException", "java/lang/Exception"]).filter goodWord ++ (vx_atS RX6 206 "java/lang/IndexOutOfBoundsException" ["java/lang/RuntimeException", "java/lang/Exception"]).filter goodWord ++ (vx_atS RX6 220 "java/lang/IllegalArgumentException" ["java/lang/RuntimeException", "java/lang/Exception"]).filter goodWord)
def wsX6_refuseNoWeight : List Cond := .code yX6_refuseNoWeight cX6_refuseNoWeight 2 none :: ([.classLink RX6 202 "java/lang/IndexOutOfBoundsException", .initialized "java/lang/IndexOutOfBoundsException", .fieldLink RX6 26 "FairBatten" "cargo" "LFairBatten$Cargo;"] ++ wsX60 ++ wsX30 ++ (vx_atS RX6 206 "java/lang/IndexOutOfBoundsException" ["java/lang/RuntimeException", "java/lang/Exception"]).filter goodWord)
def wsX6_change : List Cond := .code yX6_change cX6_change 4 (some .int) :: ([.fieldLink RX6 26 "FairBatten" "cargo" "LFairBatten$Cargo;", .methodLink RX6 113 yX6_refuseNoWeight, .instanceMethod yX6_refuseNoWeight, .selects RX6 yX6_refuseNoWeight yX6_refuseNoWeight, .initialized RX6, .code yX6_refuseNoWeight cX6_refuseNoWeight 2 none, .classLink RX6 202 "java/lang/IndexOutOfBoundsException", .initialized "java/lang/IndexOutOfBoundsException", .methodLink RX6 62 yX6_refuseNoStation, .static yX6_refuseNoStation, .code yX6_refuseNoStation cX6_refuseNoStation 1 none, .methodLink RX6 69 yX6_refuseOutside, .static yX6_refuseOutside, .code yX6_refuseOutside cX6_refuseOutside 3 none, .classLink RX6 216 "java/lang/IllegalArgumentException", .initialized "java/lang/IllegalArgumentException", .instanceMethod yX3_replace, .initialized RX3, .selects RX3 yX3_replace yX3_replace, .code yX3_replace cX3_replace 5 (some .int), .fieldLink RX3 9 "FairBatten$Cargo" "weights" "[I", .fieldLink RX3 13 "FairBatten$Cargo" "stations" "[I"] ++ wsX60 ++ wsX30 ++ (vx_atS RX6 206 "java/lang/IndexOutOfBoundsException" ["java/lang/RuntimeException", "java/lang/Exception"]).filter goodWord ++ (vx_atS RX6 220 "java/lang/IllegalArgumentException" ["java/lang/RuntimeException", "java/lang/Exception"]).filter goodWord)
def wsX6_ballast_r1 : List Cond := [Cond.fieldLink RX6 33 "FairBatten" "buoyancy" "LFairBatten$Buoyancy;", Cond.fieldLink RX6 10 "FairBatten" "hull" "LFairBatten$Hull;", Cond.fieldLink RX6 26 "FairBatten" "cargo" "LFairBatten$Cargo;", Cond.methodLink RX6 69 yX6_refuseOutside, Cond.static yX6_refuseOutside, Cond.initialized RX6, Cond.code yX6_refuseOutside cX6_refuseOutside 3 none, Cond.classLink RX6 216 "java/lang/IllegalArgumentException", Cond.initialized "java/lang/IllegalArgumentException", Cond.instanceMethod yX2_measure, Cond.initialized RX2, Cond.selects RX2 yX2_measure yX2_measure, Cond.code yX2_measure cX2_measure 3 none, Cond.fieldLink RX2 9 "FairBatten$Buoyancy" "volumes" "[I", Cond.fieldLink RX2 15 "FairBatten$Buoyancy" "moments" "[I", Cond.instanceMethod yX4_volumeUpTo, Cond.initialized RX4, Cond.selects RX4 yX4_volumeUpTo yX4_volumeUpTo, Cond.code yX4_volumeUpTo cX4_volumeUpTo 4 (some .int), Cond.methodLink RX4 16 yX4_areaUpTo, Cond.instanceMethod yX4_areaUpTo, Cond.selects RX4 yX4_areaUpTo yX4_areaUpTo, Cond.code yX4_areaUpTo cX4_areaUpTo 5 (some .int), Cond.fieldLink RX4 11 "FairBatten$Hull" "lines" "[[I"]
def wsX6_ballast_r2 : List Cond := [Cond.instanceMethod yX4_momentUpTo, Cond.selects RX4 yX4_momentUpTo yX4_momentUpTo, Cond.code yX4_momentUpTo cX4_momentUpTo 5 (some .int), Cond.instanceMethod yX2_setBallast, Cond.selects RX2 yX2_setBallast yX2_setBallast, Cond.code yX2_setBallast cX2_setBallast 10 none, Cond.methodLink RX2 51 Lib.Math.abs.name, Cond.static Lib.Math.abs.name, Cond.initialized "java/lang/Math", Cond.code Lib.Math.abs.name Lib.Math.abs.code 1 (some .int), Cond.instanceMethod yX3_loadWithoutBallast, Cond.initialized RX3, Cond.selects RX3 yX3_loadWithoutBallast yX3_loadWithoutBallast, Cond.code yX3_loadWithoutBallast cX3_loadWithoutBallast 3 (some .int), Cond.fieldLink RX3 16 "FairBatten$Cargo" "count" "I", Cond.fieldLink RX3 9 "FairBatten$Cargo" "weights" "[I", Cond.instanceMethod yX3_momentWithoutBallast, Cond.selects RX3 yX3_momentWithoutBallast yX3_momentWithoutBallast, Cond.code yX3_momentWithoutBallast cX3_momentWithoutBallast 3 (some .int), Cond.fieldLink RX3 13 "FairBatten$Cargo" "stations" "[I", Cond.methodLink RX2 27 yX2_draughtUnder, Cond.instanceMethod yX2_draughtUnder, Cond.selects RX2 yX2_draughtUnder yX2_draughtUnder, Cond.code yX2_draughtUnder cX2_draughtUnder 3 (some .int)]
def wsX6_ballast_r3 : List Cond := [Cond.methodLink RX2 48 yX2_trimUnder, Cond.instanceMethod yX2_trimUnder, Cond.selects RX2 yX2_trimUnder yX2_trimUnder, Cond.code yX2_trimUnder cX2_trimUnder 4 (some .int), Cond.methodLink RX2 30 yX2_hundredfold, Cond.static yX2_hundredfold, Cond.code yX2_hundredfold cX2_hundredfold 2 (some .int), Cond.methodLink RX2 34 yJ9_floorDiv_7cf53, Cond.static yJ9_floorDiv_7cf53, Cond.initialized RJ9, Cond.code yJ9_floorDiv_7cf53 cJ9_floorDiv_7cf53 3 (some .int)]
def wsX6_ballast : List Cond := .code yX6_ballast cX6_ballast 2 (some .int) :: ((wsX6_ballast_r1 ++ (wsX6_ballast_r2 ++ wsX6_ballast_r3)) ++ wsX60 ++ wsX30 ++ wsX20 ++ wsX40 ++ (vx_atS RX6 220 "java/lang/IllegalArgumentException" ["java/lang/RuntimeException", "java/lang/Exception"]).filter goodWord)
def wsX6_draught_r1 : List Cond := [Cond.fieldLink RX6 33 "FairBatten" "buoyancy" "LFairBatten$Buoyancy;", Cond.fieldLink RX6 10 "FairBatten" "hull" "LFairBatten$Hull;", Cond.fieldLink RX6 26 "FairBatten" "cargo" "LFairBatten$Cargo;", Cond.instanceMethod yX2_measure, Cond.initialized RX2, Cond.selects RX2 yX2_measure yX2_measure, Cond.code yX2_measure cX2_measure 3 none, Cond.fieldLink RX2 9 "FairBatten$Buoyancy" "volumes" "[I", Cond.fieldLink RX2 15 "FairBatten$Buoyancy" "moments" "[I", Cond.instanceMethod yX4_volumeUpTo, Cond.initialized RX4, Cond.selects RX4 yX4_volumeUpTo yX4_volumeUpTo, Cond.code yX4_volumeUpTo cX4_volumeUpTo 4 (some .int), Cond.methodLink RX4 16 yX4_areaUpTo, Cond.instanceMethod yX4_areaUpTo, Cond.selects RX4 yX4_areaUpTo yX4_areaUpTo, Cond.code yX4_areaUpTo cX4_areaUpTo 5 (some .int), Cond.fieldLink RX4 11 "FairBatten$Hull" "lines" "[[I", Cond.instanceMethod yX4_momentUpTo, Cond.selects RX4 yX4_momentUpTo yX4_momentUpTo, Cond.code yX4_momentUpTo cX4_momentUpTo 5 (some .int), Cond.instanceMethod yX3_wholeLoad, Cond.initialized RX3, Cond.selects RX3 yX3_wholeLoad yX3_wholeLoad]
def wsX6_draught_r2 : List Cond := [Cond.code yX3_wholeLoad cX3_wholeLoad 1 (some .int), Cond.fieldLink RX3 20 "FairBatten$Cargo" "ballastWeight" "I", Cond.methodLink RX3 26 yX3_loadWithoutBallast, Cond.instanceMethod yX3_loadWithoutBallast, Cond.selects RX3 yX3_loadWithoutBallast yX3_loadWithoutBallast, Cond.code yX3_loadWithoutBallast cX3_loadWithoutBallast 3 (some .int), Cond.fieldLink RX3 16 "FairBatten$Cargo" "count" "I", Cond.fieldLink RX3 9 "FairBatten$Cargo" "weights" "[I", Cond.instanceMethod yX2_draughtUnder, Cond.selects RX2 yX2_draughtUnder yX2_draughtUnder, Cond.code yX2_draughtUnder cX2_draughtUnder 3 (some .int)]
def wsX6_draught : List Cond := .code yX6_draught cX6_draught 1 (some .int) :: ((wsX6_draught_r1 ++ wsX6_draught_r2) ++ wsX60 ++ wsX20 ++ wsX40 ++ wsX30)
def wsX6_trim_r1 : List Cond := [Cond.fieldLink RX6 33 "FairBatten" "buoyancy" "LFairBatten$Buoyancy;", Cond.fieldLink RX6 10 "FairBatten" "hull" "LFairBatten$Hull;", Cond.fieldLink RX6 26 "FairBatten" "cargo" "LFairBatten$Cargo;", Cond.instanceMethod yX2_measure, Cond.initialized RX2, Cond.selects RX2 yX2_measure yX2_measure, Cond.code yX2_measure cX2_measure 3 none, Cond.fieldLink RX2 9 "FairBatten$Buoyancy" "volumes" "[I", Cond.fieldLink RX2 15 "FairBatten$Buoyancy" "moments" "[I", Cond.instanceMethod yX4_volumeUpTo, Cond.initialized RX4, Cond.selects RX4 yX4_volumeUpTo yX4_volumeUpTo, Cond.code yX4_volumeUpTo cX4_volumeUpTo 4 (some .int), Cond.methodLink RX4 16 yX4_areaUpTo, Cond.instanceMethod yX4_areaUpTo, Cond.selects RX4 yX4_areaUpTo yX4_areaUpTo, Cond.code yX4_areaUpTo cX4_areaUpTo 5 (some .int), Cond.fieldLink RX4 11 "FairBatten$Hull" "lines" "[[I", Cond.instanceMethod yX4_momentUpTo, Cond.selects RX4 yX4_momentUpTo yX4_momentUpTo, Cond.code yX4_momentUpTo cX4_momentUpTo 5 (some .int), Cond.instanceMethod yX3_wholeLoad, Cond.initialized RX3, Cond.selects RX3 yX3_wholeLoad yX3_wholeLoad]
def wsX6_trim_r2 : List Cond := [Cond.code yX3_wholeLoad cX3_wholeLoad 1 (some .int), Cond.fieldLink RX3 20 "FairBatten$Cargo" "ballastWeight" "I", Cond.methodLink RX3 26 yX3_loadWithoutBallast, Cond.instanceMethod yX3_loadWithoutBallast, Cond.selects RX3 yX3_loadWithoutBallast yX3_loadWithoutBallast, Cond.code yX3_loadWithoutBallast cX3_loadWithoutBallast 3 (some .int), Cond.fieldLink RX3 16 "FairBatten$Cargo" "count" "I", Cond.fieldLink RX3 9 "FairBatten$Cargo" "weights" "[I", Cond.instanceMethod yX3_wholeMoment, Cond.selects RX3 yX3_wholeMoment yX3_wholeMoment, Cond.code yX3_wholeMoment cX3_wholeMoment 1 (some .int), Cond.fieldLink RX3 23 "FairBatten$Cargo" "ballastStation" "I", Cond.methodLink RX3 30 yX3_momentWithoutBallast, Cond.instanceMethod yX3_momentWithoutBallast, Cond.selects RX3 yX3_momentWithoutBallast yX3_momentWithoutBallast, Cond.code yX3_momentWithoutBallast cX3_momentWithoutBallast 3 (some .int), Cond.fieldLink RX3 13 "FairBatten$Cargo" "stations" "[I", Cond.instanceMethod yX2_trimUnder, Cond.selects RX2 yX2_trimUnder yX2_trimUnder, Cond.code yX2_trimUnder cX2_trimUnder 4 (some .int), Cond.methodLink RX2 27 yX2_draughtUnder, Cond.instanceMethod yX2_draughtUnder, Cond.selects RX2 yX2_draughtUnder yX2_draughtUnder, Cond.code yX2_draughtUnder cX2_draughtUnder 3 (some .int)]
def wsX6_trim_r3 : List Cond := [Cond.methodLink RX2 30 yX2_hundredfold, Cond.static yX2_hundredfold, Cond.code yX2_hundredfold cX2_hundredfold 2 (some .int), Cond.methodLink RX2 34 yJ9_floorDiv_7cf53, Cond.static yJ9_floorDiv_7cf53, Cond.initialized RJ9, Cond.code yJ9_floorDiv_7cf53 cJ9_floorDiv_7cf53 3 (some .int)]
def wsX6_trim : List Cond := .code yX6_trim cX6_trim 1 (some .int) :: ((wsX6_trim_r1 ++ (wsX6_trim_r2 ++ wsX6_trim_r3)) ++ wsX60 ++ wsX20 ++ wsX40 ++ wsX30)
def wsX6_refuseNoStrake : List Cond := .code yX6_refuseNoStrake cX6_refuseNoStrake 1 none :: ([.classLink RX6 202 "java/lang/IndexOutOfBoundsException", .initialized "java/lang/IndexOutOfBoundsException"] ++ (vx_atS RX6 206 "java/lang/IndexOutOfBoundsException" ["java/lang/RuntimeException", "java/lang/Exception"]).filter goodWord)
def wsX6_strake : List Cond := .code yX6_strake cX6_strake 2 (some .int) :: ([.fieldLink RX6 10 "FairBatten" "hull" "LFairBatten$Hull;", .methodLink RX6 147 yX6_refuseNoStrake, .static yX6_refuseNoStrake, .initialized RX6, .code yX6_refuseNoStrake cX6_refuseNoStrake 1 none, .classLink RX6 202 "java/lang/IndexOutOfBoundsException", .initialized "java/lang/IndexOutOfBoundsException", .instanceMethod yX4_strakeLength, .initialized RX4, .selects RX4 yX4_strakeLength yX4_strakeLength, .code yX4_strakeLength cX4_strakeLength 5 (some .int), .fieldLink RX4 11 "FairBatten$Hull" "lines" "[[I", .methodLink RX4 24 Lib.Math.abs.name, .static Lib.Math.abs.name, .initialized "java/lang/Math", .code Lib.Math.abs.name Lib.Math.abs.code 1 (some .int)] ++ wsX60 ++ wsX40 ++ (vx_atS RX6 206 "java/lang/IndexOutOfBoundsException" ["java/lang/RuntimeException", "java/lang/Exception"]).filter goodWord)
def wsX6_planks_r1 : List Cond := [Cond.fieldLink RX6 40 "FairBatten" "nest" "LFairBatten$Nest;", Cond.fieldLink RX6 10 "FairBatten" "hull" "LFairBatten$Hull;", Cond.methodLink RX6 69 yX6_refuseOutside, Cond.static yX6_refuseOutside, Cond.initialized RX6, Cond.code yX6_refuseOutside cX6_refuseOutside 3 none, Cond.classLink RX6 216 "java/lang/IllegalArgumentException", Cond.initialized "java/lang/IllegalArgumentException", Cond.instanceMethod yX5_cutAll, Cond.initialized RX5, Cond.selects RX5 yX5_cutAll yX5_cutAll, Cond.code yX5_cutAll cX5_cutAll 4 none, Cond.fieldLink RX5 31 "FairBatten$Nest" "taken" "I", Cond.fieldLink RX5 18 "FairBatten$Nest" "order" "[I", Cond.fieldLink RX5 21 "FairBatten$Nest" "firstEnds" "[I", Cond.fieldLink RX5 15 "FairBatten$Nest" "lengths" "[I", Cond.fieldLink RX5 24 "FairBatten$Nest" "secondEnds" "[I", Cond.methodLink RX5 34 yX5_sortByLength, Cond.instanceMethod yX5_sortByLength, Cond.selects RX5 yX5_sortByLength yX5_sortByLength, Cond.code yX5_sortByLength cX5_sortByLength 4 none, Cond.instanceMethod yX4_strakeLength, Cond.initialized RX4, Cond.selects RX4 yX4_strakeLength yX4_strakeLength]
def wsX6_planks_r2 : List Cond := [Cond.code yX4_strakeLength cX4_strakeLength 5 (some .int), Cond.fieldLink RX4 11 "FairBatten$Hull" "lines" "[[I", Cond.methodLink RX4 24 Lib.Math.abs.name, Cond.static Lib.Math.abs.name, Cond.initialized "java/lang/Math", Cond.code Lib.Math.abs.name Lib.Math.abs.code 1 (some .int), Cond.methodLink RX5 38 yX5_cut, Cond.instanceMethod yX5_cut, Cond.selects RX5 yX5_cut yX5_cut, Cond.code yX5_cut cX5_cut 4 (some .int), Cond.fieldLink RX5 27 "FairBatten$Nest" "plankLength" "I", Cond.fieldLink RX5 11 "FairBatten$Nest" "left" "[I"]
def wsX6_planks : List Cond := .code yX6_planks cX6_planks 2 (some .int) :: ((wsX6_planks_r1 ++ wsX6_planks_r2) ++ wsX60 ++ wsX50 ++ wsX40 ++ (vx_atS RX6 220 "java/lang/IllegalArgumentException" ["java/lang/RuntimeException", "java/lang/Exception"]).filter goodWord)
def wsX6_plankOf_r1 : List Cond := [Cond.fieldLink RX6 40 "FairBatten" "nest" "LFairBatten$Nest;", Cond.fieldLink RX6 10 "FairBatten" "hull" "LFairBatten$Hull;", Cond.methodLink RX6 147 yX6_refuseNoStrake, Cond.static yX6_refuseNoStrake, Cond.initialized RX6, Cond.code yX6_refuseNoStrake cX6_refuseNoStrake 1 none, Cond.classLink RX6 202 "java/lang/IndexOutOfBoundsException", Cond.initialized "java/lang/IndexOutOfBoundsException", Cond.instanceMethod yX5_cutAll, Cond.initialized RX5, Cond.selects RX5 yX5_cutAll yX5_cutAll, Cond.code yX5_cutAll cX5_cutAll 4 none, Cond.fieldLink RX5 31 "FairBatten$Nest" "taken" "I", Cond.fieldLink RX5 18 "FairBatten$Nest" "order" "[I", Cond.fieldLink RX5 21 "FairBatten$Nest" "firstEnds" "[I", Cond.fieldLink RX5 15 "FairBatten$Nest" "lengths" "[I", Cond.fieldLink RX5 24 "FairBatten$Nest" "secondEnds" "[I", Cond.methodLink RX5 34 yX5_sortByLength, Cond.instanceMethod yX5_sortByLength, Cond.selects RX5 yX5_sortByLength yX5_sortByLength, Cond.code yX5_sortByLength cX5_sortByLength 4 none, Cond.instanceMethod yX4_strakeLength, Cond.initialized RX4, Cond.selects RX4 yX4_strakeLength yX4_strakeLength]
def wsX6_plankOf_r2 : List Cond := [Cond.code yX4_strakeLength cX4_strakeLength 5 (some .int), Cond.fieldLink RX4 11 "FairBatten$Hull" "lines" "[[I", Cond.methodLink RX4 24 Lib.Math.abs.name, Cond.static Lib.Math.abs.name, Cond.initialized "java/lang/Math", Cond.code Lib.Math.abs.name Lib.Math.abs.code 1 (some .int), Cond.methodLink RX5 38 yX5_cut, Cond.instanceMethod yX5_cut, Cond.selects RX5 yX5_cut yX5_cut, Cond.code yX5_cut cX5_cut 4 (some .int), Cond.fieldLink RX5 27 "FairBatten$Nest" "plankLength" "I", Cond.fieldLink RX5 11 "FairBatten$Nest" "left" "[I"]
def wsX6_plankOf : List Cond := .code yX6_plankOf cX6_plankOf 3 (some .int) :: ((wsX6_plankOf_r1 ++ wsX6_plankOf_r2) ++ wsX60 ++ wsX50 ++ wsX40 ++ (vx_atS RX6 206 "java/lang/IndexOutOfBoundsException" ["java/lang/RuntimeException", "java/lang/Exception"]).filter goodWord)
def wsX6_tide_r1 : List Cond := [Cond.classLink RX6 103 "java/lang/IllegalStateException", Cond.initialized "java/lang/IllegalStateException", Cond.fieldLink RX6 47 "FairBatten" "almanac" "LFairBatten$Almanac;", Cond.methodLink RX6 69 yX6_refuseOutside, Cond.static yX6_refuseOutside, Cond.initialized RX6, Cond.code yX6_refuseOutside cX6_refuseOutside 3 none, Cond.classLink RX6 216 "java/lang/IllegalArgumentException", Cond.initialized "java/lang/IllegalArgumentException", Cond.instanceMethod yX0_hasRoomFor, Cond.initialized RX0, Cond.selects RX0 yX0_hasRoomFor yX0_hasRoomFor, Cond.code yX0_hasRoomFor cX0_hasRoomFor 2 (some .boolean), Cond.fieldLink RX0 18 "FairBatten$Almanac" "count" "I", Cond.methodLink RX0 22 yX0_placeOf, Cond.instanceMethod yX0_placeOf, Cond.selects RX0 yX0_placeOf yX0_placeOf, Cond.code yX0_placeOf cX0_placeOf 3 (some .int), Cond.fieldLink RX0 11 "FairBatten$Almanac" "toldDays" "[I", Cond.instanceMethod yX0_heightOn, Cond.selects RX0 yX0_heightOn yX0_heightOn, Cond.code yX0_heightOn cX0_heightOn 3 (some .int), Cond.fieldLink RX0 15 "FairBatten$Almanac" "toldHeights" "[I", Cond.methodLink RX0 26 yJ9_floorMod_7cf53]
def wsX6_tide_r2 : List Cond := [Cond.static yJ9_floorMod_7cf53, Cond.initialized RJ9, Cond.code yJ9_floorMod_7cf53 cJ9_floorMod_7cf53 3 (some .int), Cond.instanceMethod yX0_tell, Cond.selects RX0 yX0_tell yX0_tell, Cond.code yX0_tell cX0_tell 4 none]
def wsX6_tide : List Cond := .code yX6_tide cX6_tide 4 (some .int) :: ((wsX6_tide_r1 ++ wsX6_tide_r2) ++ wsX60 ++ wsX00 ++ (vx_atS RX6 107 "java/lang/IllegalStateException" ["java/lang/RuntimeException", "java/lang/Exception"]).filter goodWord ++ (vx_atS RX6 220 "java/lang/IllegalArgumentException" ["java/lang/RuntimeException", "java/lang/Exception"]).filter goodWord)
def wsX6_sill : List Cond := .code yX6_sill cX6_sill 3 (some .int) :: ([.fieldLink RX6 51 "FairBatten" "sillHeight" "I", .methodLink RX6 69 yX6_refuseOutside, .static yX6_refuseOutside, .initialized RX6, .code yX6_refuseOutside cX6_refuseOutside 3 none, .classLink RX6 216 "java/lang/IllegalArgumentException", .initialized "java/lang/IllegalArgumentException"] ++ wsX60 ++ (vx_atS RX6 220 "java/lang/IllegalArgumentException" ["java/lang/RuntimeException", "java/lang/Exception"]).filter goodWord)
def wsX6_needed_r1 : List Cond := [Cond.fieldLink RX6 51 "FairBatten" "sillHeight" "I", Cond.methodLink RX6 188 Lib.Math.abs.name, Cond.static Lib.Math.abs.name, Cond.initialized "java/lang/Math", Cond.code Lib.Math.abs.name Lib.Math.abs.code 1 (some .int), Cond.methodLink RX6 182 yX6_draught, Cond.instanceMethod yX6_draught, Cond.selects RX6 yX6_draught yX6_draught, Cond.initialized RX6, Cond.code yX6_draught cX6_draught 1 (some .int), Cond.fieldLink RX6 33 "FairBatten" "buoyancy" "LFairBatten$Buoyancy;", Cond.fieldLink RX6 10 "FairBatten" "hull" "LFairBatten$Hull;", Cond.fieldLink RX6 26 "FairBatten" "cargo" "LFairBatten$Cargo;", Cond.instanceMethod yX2_measure, Cond.initialized RX2, Cond.selects RX2 yX2_measure yX2_measure, Cond.code yX2_measure cX2_measure 3 none, Cond.fieldLink RX2 9 "FairBatten$Buoyancy" "volumes" "[I", Cond.fieldLink RX2 15 "FairBatten$Buoyancy" "moments" "[I", Cond.instanceMethod yX4_volumeUpTo, Cond.initialized RX4, Cond.selects RX4 yX4_volumeUpTo yX4_volumeUpTo, Cond.code yX4_volumeUpTo cX4_volumeUpTo 4 (some .int), Cond.methodLink RX4 16 yX4_areaUpTo]
def wsX6_needed_r2 : List Cond := [Cond.instanceMethod yX4_areaUpTo, Cond.selects RX4 yX4_areaUpTo yX4_areaUpTo, Cond.code yX4_areaUpTo cX4_areaUpTo 5 (some .int), Cond.fieldLink RX4 11 "FairBatten$Hull" "lines" "[[I", Cond.instanceMethod yX4_momentUpTo, Cond.selects RX4 yX4_momentUpTo yX4_momentUpTo, Cond.code yX4_momentUpTo cX4_momentUpTo 5 (some .int), Cond.instanceMethod yX3_wholeLoad, Cond.initialized RX3, Cond.selects RX3 yX3_wholeLoad yX3_wholeLoad, Cond.code yX3_wholeLoad cX3_wholeLoad 1 (some .int), Cond.fieldLink RX3 20 "FairBatten$Cargo" "ballastWeight" "I", Cond.methodLink RX3 26 yX3_loadWithoutBallast, Cond.instanceMethod yX3_loadWithoutBallast, Cond.selects RX3 yX3_loadWithoutBallast yX3_loadWithoutBallast, Cond.code yX3_loadWithoutBallast cX3_loadWithoutBallast 3 (some .int), Cond.fieldLink RX3 16 "FairBatten$Cargo" "count" "I", Cond.fieldLink RX3 9 "FairBatten$Cargo" "weights" "[I", Cond.instanceMethod yX2_draughtUnder, Cond.selects RX2 yX2_draughtUnder yX2_draughtUnder, Cond.code yX2_draughtUnder cX2_draughtUnder 3 (some .int), Cond.methodLink RX6 185 yX6_trim, Cond.instanceMethod yX6_trim, Cond.selects RX6 yX6_trim yX6_trim]
def wsX6_needed_r3 : List Cond := [Cond.code yX6_trim cX6_trim 1 (some .int), Cond.instanceMethod yX3_wholeMoment, Cond.selects RX3 yX3_wholeMoment yX3_wholeMoment, Cond.code yX3_wholeMoment cX3_wholeMoment 1 (some .int), Cond.fieldLink RX3 23 "FairBatten$Cargo" "ballastStation" "I", Cond.methodLink RX3 30 yX3_momentWithoutBallast, Cond.instanceMethod yX3_momentWithoutBallast, Cond.selects RX3 yX3_momentWithoutBallast yX3_momentWithoutBallast, Cond.code yX3_momentWithoutBallast cX3_momentWithoutBallast 3 (some .int), Cond.fieldLink RX3 13 "FairBatten$Cargo" "stations" "[I", Cond.instanceMethod yX2_trimUnder, Cond.selects RX2 yX2_trimUnder yX2_trimUnder, Cond.code yX2_trimUnder cX2_trimUnder 4 (some .int), Cond.methodLink RX2 27 yX2_draughtUnder, Cond.methodLink RX2 30 yX2_hundredfold, Cond.static yX2_hundredfold, Cond.code yX2_hundredfold cX2_hundredfold 2 (some .int), Cond.methodLink RX2 34 yJ9_floorDiv_7cf53, Cond.static yJ9_floorDiv_7cf53, Cond.initialized RJ9, Cond.code yJ9_floorDiv_7cf53 cJ9_floorDiv_7cf53 3 (some .int)]
def wsX6_needed : List Cond := .code yX6_needed cX6_needed 2 (some .int) :: ((wsX6_needed_r1 ++ (wsX6_needed_r2 ++ wsX6_needed_r3)) ++ wsX60 ++ wsX20 ++ wsX40 ++ wsX30)
def wsX6_day_r1 : List Cond := [Cond.fieldLink RX6 58 "FairBatten" "launched" "Z", Cond.fieldLink RX6 47 "FairBatten" "almanac" "LFairBatten$Almanac;", Cond.fieldLink RX6 55 "FairBatten" "today" "I", Cond.methodLink RX6 193 yX6_needed, Cond.instanceMethod yX6_needed, Cond.selects RX6 yX6_needed yX6_needed, Cond.initialized RX6, Cond.code yX6_needed cX6_needed 2 (some .int), Cond.fieldLink RX6 51 "FairBatten" "sillHeight" "I", Cond.methodLink RX6 188 Lib.Math.abs.name, Cond.static Lib.Math.abs.name, Cond.initialized "java/lang/Math", Cond.code Lib.Math.abs.name Lib.Math.abs.code 1 (some .int), Cond.methodLink RX6 182 yX6_draught, Cond.instanceMethod yX6_draught, Cond.selects RX6 yX6_draught yX6_draught, Cond.code yX6_draught cX6_draught 1 (some .int), Cond.fieldLink RX6 33 "FairBatten" "buoyancy" "LFairBatten$Buoyancy;", Cond.fieldLink RX6 10 "FairBatten" "hull" "LFairBatten$Hull;", Cond.fieldLink RX6 26 "FairBatten" "cargo" "LFairBatten$Cargo;", Cond.instanceMethod yX2_measure, Cond.initialized RX2, Cond.selects RX2 yX2_measure yX2_measure, Cond.code yX2_measure cX2_measure 3 none]
def wsX6_day_r2 : List Cond := [Cond.fieldLink RX2 9 "FairBatten$Buoyancy" "volumes" "[I", Cond.fieldLink RX2 15 "FairBatten$Buoyancy" "moments" "[I", Cond.instanceMethod yX4_volumeUpTo, Cond.initialized RX4, Cond.selects RX4 yX4_volumeUpTo yX4_volumeUpTo, Cond.code yX4_volumeUpTo cX4_volumeUpTo 4 (some .int), Cond.methodLink RX4 16 yX4_areaUpTo, Cond.instanceMethod yX4_areaUpTo, Cond.selects RX4 yX4_areaUpTo yX4_areaUpTo, Cond.code yX4_areaUpTo cX4_areaUpTo 5 (some .int), Cond.fieldLink RX4 11 "FairBatten$Hull" "lines" "[[I", Cond.instanceMethod yX4_momentUpTo, Cond.selects RX4 yX4_momentUpTo yX4_momentUpTo, Cond.code yX4_momentUpTo cX4_momentUpTo 5 (some .int), Cond.instanceMethod yX3_wholeLoad, Cond.initialized RX3, Cond.selects RX3 yX3_wholeLoad yX3_wholeLoad, Cond.code yX3_wholeLoad cX3_wholeLoad 1 (some .int), Cond.fieldLink RX3 20 "FairBatten$Cargo" "ballastWeight" "I", Cond.methodLink RX3 26 yX3_loadWithoutBallast, Cond.instanceMethod yX3_loadWithoutBallast, Cond.selects RX3 yX3_loadWithoutBallast yX3_loadWithoutBallast, Cond.code yX3_loadWithoutBallast cX3_loadWithoutBallast 3 (some .int), Cond.fieldLink RX3 16 "FairBatten$Cargo" "count" "I"]
def wsX6_day_r3 : List Cond := [Cond.fieldLink RX3 9 "FairBatten$Cargo" "weights" "[I", Cond.instanceMethod yX2_draughtUnder, Cond.selects RX2 yX2_draughtUnder yX2_draughtUnder, Cond.code yX2_draughtUnder cX2_draughtUnder 3 (some .int), Cond.methodLink RX6 185 yX6_trim, Cond.instanceMethod yX6_trim, Cond.selects RX6 yX6_trim yX6_trim, Cond.code yX6_trim cX6_trim 1 (some .int), Cond.instanceMethod yX3_wholeMoment, Cond.selects RX3 yX3_wholeMoment yX3_wholeMoment, Cond.code yX3_wholeMoment cX3_wholeMoment 1 (some .int), Cond.fieldLink RX3 23 "FairBatten$Cargo" "ballastStation" "I", Cond.methodLink RX3 30 yX3_momentWithoutBallast, Cond.instanceMethod yX3_momentWithoutBallast, Cond.selects RX3 yX3_momentWithoutBallast yX3_momentWithoutBallast, Cond.code yX3_momentWithoutBallast cX3_momentWithoutBallast 3 (some .int), Cond.fieldLink RX3 13 "FairBatten$Cargo" "stations" "[I", Cond.instanceMethod yX2_trimUnder, Cond.selects RX2 yX2_trimUnder yX2_trimUnder, Cond.code yX2_trimUnder cX2_trimUnder 4 (some .int), Cond.methodLink RX2 27 yX2_draughtUnder, Cond.methodLink RX2 30 yX2_hundredfold, Cond.static yX2_hundredfold, Cond.code yX2_hundredfold cX2_hundredfold 2 (some .int)]
def wsX6_day_r4 : List Cond := [Cond.methodLink RX2 34 yJ9_floorDiv_7cf53, Cond.static yJ9_floorDiv_7cf53, Cond.initialized RJ9, Cond.code yJ9_floorDiv_7cf53 cJ9_floorDiv_7cf53 3 (some .int), Cond.instanceMethod yX0_heightOn, Cond.initialized RX0, Cond.selects RX0 yX0_heightOn yX0_heightOn, Cond.code yX0_heightOn cX0_heightOn 3 (some .int), Cond.fieldLink RX0 15 "FairBatten$Almanac" "toldHeights" "[I", Cond.methodLink RX0 22 yX0_placeOf, Cond.instanceMethod yX0_placeOf, Cond.selects RX0 yX0_placeOf yX0_placeOf, Cond.code yX0_placeOf cX0_placeOf 3 (some .int), Cond.fieldLink RX0 18 "FairBatten$Almanac" "count" "I", Cond.fieldLink RX0 11 "FairBatten$Almanac" "toldDays" "[I", Cond.methodLink RX0 26 yJ9_floorMod_7cf53, Cond.static yJ9_floorMod_7cf53, Cond.code yJ9_floorMod_7cf53 cJ9_floorMod_7cf53 3 (some .int)]
def wsX6_day : List Cond := .code yX6_day cX6_day 3 (some .int) :: ((wsX6_day_r1 ++ (wsX6_day_r2 ++ (wsX6_day_r3 ++ wsX6_day_r4))) ++ wsX60 ++ wsX20 ++ wsX40 ++ wsX30 ++ wsX00)
def wsX6_launch_r1 : List Cond := [Cond.classLink RX6 103 "java/lang/IllegalStateException", Cond.initialized "java/lang/IllegalStateException", Cond.fieldLink RX6 47 "FairBatten" "almanac" "LFairBatten$Almanac;", Cond.fieldLink RX6 55 "FairBatten" "today" "I", Cond.fieldLink RX6 58 "FairBatten" "launched" "Z", Cond.methodLink RX6 73 yX6_refuseLaunched, Cond.instanceMethod yX6_refuseLaunched, Cond.selects RX6 yX6_refuseLaunched yX6_refuseLaunched, Cond.initialized RX6, Cond.code yX6_refuseLaunched cX6_refuseLaunched 1 none, Cond.methodLink RX6 193 yX6_needed, Cond.instanceMethod yX6_needed, Cond.selects RX6 yX6_needed yX6_needed, Cond.code yX6_needed cX6_needed 2 (some .int), Cond.fieldLink RX6 51 "FairBatten" "sillHeight" "I", Cond.methodLink RX6 188 Lib.Math.abs.name, Cond.static Lib.Math.abs.name, Cond.initialized "java/lang/Math", Cond.code Lib.Math.abs.name Lib.Math.abs.code 1 (some .int), Cond.methodLink RX6 182 yX6_draught, Cond.instanceMethod yX6_draught, Cond.selects RX6 yX6_draught yX6_draught, Cond.code yX6_draught cX6_draught 1 (some .int), Cond.fieldLink RX6 33 "FairBatten" "buoyancy" "LFairBatten$Buoyancy;"]
def wsX6_launch_r2 : List Cond := [Cond.fieldLink RX6 10 "FairBatten" "hull" "LFairBatten$Hull;", Cond.fieldLink RX6 26 "FairBatten" "cargo" "LFairBatten$Cargo;", Cond.instanceMethod yX2_measure, Cond.initialized RX2, Cond.selects RX2 yX2_measure yX2_measure, Cond.code yX2_measure cX2_measure 3 none, Cond.fieldLink RX2 9 "FairBatten$Buoyancy" "volumes" "[I", Cond.fieldLink RX2 15 "FairBatten$Buoyancy" "moments" "[I", Cond.instanceMethod yX4_volumeUpTo, Cond.initialized RX4, Cond.selects RX4 yX4_volumeUpTo yX4_volumeUpTo, Cond.code yX4_volumeUpTo cX4_volumeUpTo 4 (some .int), Cond.methodLink RX4 16 yX4_areaUpTo, Cond.instanceMethod yX4_areaUpTo, Cond.selects RX4 yX4_areaUpTo yX4_areaUpTo, Cond.code yX4_areaUpTo cX4_areaUpTo 5 (some .int), Cond.fieldLink RX4 11 "FairBatten$Hull" "lines" "[[I", Cond.instanceMethod yX4_momentUpTo, Cond.selects RX4 yX4_momentUpTo yX4_momentUpTo, Cond.code yX4_momentUpTo cX4_momentUpTo 5 (some .int), Cond.instanceMethod yX3_wholeLoad, Cond.initialized RX3, Cond.selects RX3 yX3_wholeLoad yX3_wholeLoad, Cond.code yX3_wholeLoad cX3_wholeLoad 1 (some .int)]
def wsX6_launch_r3 : List Cond := [Cond.fieldLink RX3 20 "FairBatten$Cargo" "ballastWeight" "I", Cond.methodLink RX3 26 yX3_loadWithoutBallast, Cond.instanceMethod yX3_loadWithoutBallast, Cond.selects RX3 yX3_loadWithoutBallast yX3_loadWithoutBallast, Cond.code yX3_loadWithoutBallast cX3_loadWithoutBallast 3 (some .int), Cond.fieldLink RX3 16 "FairBatten$Cargo" "count" "I", Cond.fieldLink RX3 9 "FairBatten$Cargo" "weights" "[I", Cond.instanceMethod yX2_draughtUnder, Cond.selects RX2 yX2_draughtUnder yX2_draughtUnder, Cond.code yX2_draughtUnder cX2_draughtUnder 3 (some .int), Cond.methodLink RX6 185 yX6_trim, Cond.instanceMethod yX6_trim, Cond.selects RX6 yX6_trim yX6_trim, Cond.code yX6_trim cX6_trim 1 (some .int), Cond.instanceMethod yX3_wholeMoment, Cond.selects RX3 yX3_wholeMoment yX3_wholeMoment, Cond.code yX3_wholeMoment cX3_wholeMoment 1 (some .int), Cond.fieldLink RX3 23 "FairBatten$Cargo" "ballastStation" "I", Cond.methodLink RX3 30 yX3_momentWithoutBallast, Cond.instanceMethod yX3_momentWithoutBallast, Cond.selects RX3 yX3_momentWithoutBallast yX3_momentWithoutBallast, Cond.code yX3_momentWithoutBallast cX3_momentWithoutBallast 3 (some .int), Cond.fieldLink RX3 13 "FairBatten$Cargo" "stations" "[I", Cond.instanceMethod yX2_trimUnder]
def wsX6_launch_r4 : List Cond := [Cond.selects RX2 yX2_trimUnder yX2_trimUnder, Cond.code yX2_trimUnder cX2_trimUnder 4 (some .int), Cond.methodLink RX2 27 yX2_draughtUnder, Cond.methodLink RX2 30 yX2_hundredfold, Cond.static yX2_hundredfold, Cond.code yX2_hundredfold cX2_hundredfold 2 (some .int), Cond.methodLink RX2 34 yJ9_floorDiv_7cf53, Cond.static yJ9_floorDiv_7cf53, Cond.initialized RJ9, Cond.code yJ9_floorDiv_7cf53 cJ9_floorDiv_7cf53 3 (some .int), Cond.instanceMethod yX0_heightOn, Cond.initialized RX0, Cond.selects RX0 yX0_heightOn yX0_heightOn, Cond.code yX0_heightOn cX0_heightOn 3 (some .int), Cond.fieldLink RX0 15 "FairBatten$Almanac" "toldHeights" "[I", Cond.methodLink RX0 22 yX0_placeOf, Cond.instanceMethod yX0_placeOf, Cond.selects RX0 yX0_placeOf yX0_placeOf, Cond.code yX0_placeOf cX0_placeOf 3 (some .int), Cond.fieldLink RX0 18 "FairBatten$Almanac" "count" "I", Cond.fieldLink RX0 11 "FairBatten$Almanac" "toldDays" "[I", Cond.methodLink RX0 26 yJ9_floorMod_7cf53, Cond.static yJ9_floorMod_7cf53, Cond.code yJ9_floorMod_7cf53 cJ9_floorMod_7cf53 3 (some .int)]
def wsX6_launch : List Cond := .code yX6_launch cX6_launch 3 (some .int) :: ((wsX6_launch_r1 ++ (wsX6_launch_r2 ++ (wsX6_launch_r3 ++ wsX6_launch_r4))) ++ wsX60 ++ wsX20 ++ wsX40 ++ wsX30 ++ wsX00 ++ (vx_atS RX6 107 "java/lang/IllegalStateException" ["java/lang/RuntimeException", "java/lang/Exception"]).filter goodWord)
def wsX6_pass : List Cond := .code yX6_pass cX6_pass 2 (some .int) :: ([.classLink RX6 103 "java/lang/IllegalStateException", .initialized "java/lang/IllegalStateException", .fieldLink RX6 55 "FairBatten" "today" "I", .methodLink RX6 69 yX6_refuseOutside, .static yX6_refuseOutside, .initialized RX6, .code yX6_refuseOutside cX6_refuseOutside 3 none, .classLink RX6 216 "java/lang/IllegalArgumentException", .initialized "java/lang/IllegalArgumentException"] ++ wsX60 ++ (vx_atS RX6 107 "java/lang/IllegalStateException" ["java/lang/RuntimeException", "java/lang/Exception"]).filter goodWord ++ (vx_atS RX6 220 "java/lang/IllegalArgumentException" ["java/lang/RuntimeException", "java/lang/Exception"]).filter goodWord)
def wsX7_init : List Cond := .code yX7_init cX7_init 1 none :: ([.methodLink RX7 1 objectInit, .instanceMethod objectInit, .code objectInit ⟨#[0xb1]⟩ 1 none, .arrayClass .int, .fieldLink RX7 7 "FairBattenModel" "half" "[I", .fieldLink RX7 13 "FairBattenModel" "at" "[I", .fieldLink RX7 16 "FairBattenModel" "weight" "[I", .fieldLink RX7 19 "FairBattenModel" "length" "I", .fieldLink RX7 23 "FairBattenModel" "left" "[I", .fieldLink RX7 26 "FairBattenModel" "cutFrom" "[I", .fieldLink RX7 29 "FairBattenModel" "tideDay" "[I", .fieldLink RX7 32 "FairBattenModel" "tide" "[I", .fieldLink RX7 35 "FairBattenModel" "behind" "[I", .fieldLink RX7 38 "FairBattenModel" "line" "[I"] ++ wsX70)
def wsX7_thrown : List Cond := .code yX7_thrown cX7_thrown 1 (some .int) :: ([.fieldLink RX7 41 "FairBattenModel" "thrown" "I"] ++ wsX70)
def wsX7_in : List Cond := .code yX7_in cX7_in 3 (some .boolean) :: ([])
def wsX7_isStation : List Cond := .code yX7_isStation cX7_isStation 1 (some .boolean) :: ([.methodLink RX7 44 yX7_in, .static yX7_in, .initialized RX7, .code yX7_in cX7_in 3 (some .boolean)])
def wsX7_isWaterline : List Cond := .code yX7_isWaterline cX7_isWaterline 1 (some .boolean) :: ([.methodLink RX7 44 yX7_in, .static yX7_in, .initialized RX7, .code yX7_in cX7_in 3 (some .boolean)])
def wsX7_size : List Cond := .code yX7_size cX7_size 1 (some .int) :: ([])
def wsX7_halfAt : List Cond := .code yX7_halfAt cX7_halfAt 3 (some .int) :: ([.fieldLink RX7 7 "FairBattenModel" "half" "[I"] ++ wsX70)
def wsX7_offset : List Cond := .code yX7_offset cX7_offset 5 (some .int) :: ([.fieldLink RX7 55 "FairBattenModel" "isLaunched" "Z", .fieldLink RX7 41 "FairBattenModel" "thrown" "I", .fieldLink RX7 7 "FairBattenModel" "half" "[I", .methodLink RX7 48 yX7_isStation, .static yX7_isStation, .initialized RX7, .code yX7_isStation cX7_isStation 1 (some .boolean), .methodLink RX7 44 yX7_in, .static yX7_in, .code yX7_in cX7_in 3 (some .boolean), .methodLink RX7 52 yX7_isWaterline, .static yX7_isWaterline, .code yX7_isWaterline cX7_isWaterline 1 (some .boolean), .methodLink RX7 59 yX7_halfAt, .instanceMethod yX7_halfAt, .selects RX7 yX7_halfAt yX7_halfAt, .code yX7_halfAt cX7_halfAt 3 (some .int)] ++ wsX70)
def wsX7_half : List Cond := .code yX7_half cX7_half 3 (some .int) :: ([.fieldLink RX7 41 "FairBattenModel" "thrown" "I", .methodLink RX7 48 yX7_isStation, .static yX7_isStation, .initialized RX7, .code yX7_isStation cX7_isStation 1 (some .boolean), .methodLink RX7 44 yX7_in, .static yX7_in, .code yX7_in cX7_in 3 (some .boolean), .methodLink RX7 52 yX7_isWaterline, .static yX7_isWaterline, .code yX7_isWaterline cX7_isWaterline 1 (some .boolean), .methodLink RX7 59 yX7_halfAt, .instanceMethod yX7_halfAt, .selects RX7 yX7_halfAt yX7_halfAt, .code yX7_halfAt cX7_halfAt 3 (some .int), .fieldLink RX7 7 "FairBattenModel" "half" "[I"] ++ wsX70)
def wsX7_square : List Cond := .code yX7_square cX7_square 1 (some .int) :: ([])
def wsX7_bendOf : List Cond := .code yX7_bendOf cX7_bendOf 4 (some .int) :: ([.methodLink RX7 59 yX7_halfAt, .instanceMethod yX7_halfAt, .selects RX7 yX7_halfAt yX7_halfAt, .initialized RX7, .code yX7_halfAt cX7_halfAt 3 (some .int), .fieldLink RX7 7 "FairBattenModel" "half" "[I", .methodLink RX7 63 yX7_square, .static yX7_square, .code yX7_square cX7_square 1 (some .int)] ++ wsX70)
def wsX7_bend : List Cond := .code yX7_bend cX7_bend 2 (some .int) :: ([.fieldLink RX7 41 "FairBattenModel" "thrown" "I", .methodLink RX7 52 yX7_isWaterline, .static yX7_isWaterline, .initialized RX7, .code yX7_isWaterline cX7_isWaterline 1 (some .boolean), .methodLink RX7 44 yX7_in, .static yX7_in, .code yX7_in cX7_in 3 (some .boolean), .methodLink RX7 67 yX7_bendOf, .instanceMethod yX7_bendOf, .selects RX7 yX7_bendOf yX7_bendOf, .code yX7_bendOf cX7_bendOf 4 (some .int), .methodLink RX7 59 yX7_halfAt, .instanceMethod yX7_halfAt, .selects RX7 yX7_halfAt yX7_halfAt, .code yX7_halfAt cX7_halfAt 3 (some .int), .fieldLink RX7 7 "FairBattenModel" "half" "[I", .methodLink RX7 63 yX7_square, .static yX7_square, .code yX7_square cX7_square 1 (some .int)] ++ wsX70)
def wsX7_place : List Cond := .code yX7_place cX7_place 3 (some .int) :: ([])
def wsX7_may : List Cond := .code yX7_may cX7_may 5 (some .boolean) :: ([.methodLink RX7 70 yX7_size, .static yX7_size, .initialized RX7, .code yX7_size cX7_size 1 (some .int), .methodLink RX7 59 yX7_halfAt, .instanceMethod yX7_halfAt, .selects RX7 yX7_halfAt yX7_halfAt, .code yX7_halfAt cX7_halfAt 3 (some .int), .fieldLink RX7 7 "FairBattenModel" "half" "[I", .methodLink RX7 44 yX7_in, .static yX7_in, .code yX7_in cX7_in 3 (some .boolean)] ++ wsX70)
def wsX7_bendBy : List Cond := .code yX7_bendBy cX7_bendBy 7 (some .int) :: ([.fieldLink RX7 35 "FairBattenModel" "behind" "[I", .methodLink RX7 59 yX7_halfAt, .instanceMethod yX7_halfAt, .selects RX7 yX7_halfAt yX7_halfAt, .initialized RX7, .code yX7_halfAt cX7_halfAt 3 (some .int), .fieldLink RX7 7 "FairBattenModel" "half" "[I", .methodLink RX7 63 yX7_square, .static yX7_square, .code yX7_square cX7_square 1 (some .int), .methodLink RX7 73 yX7_place, .static yX7_place, .code yX7_place cX7_place 3 (some .int)] ++ wsX70)
def wsX7_leastBy_r1 : List Cond := [Cond.constant RX7 77 (100000000), Cond.methodLink RX7 78 yX7_may, Cond.instanceMethod yX7_may, Cond.selects RX7 yX7_may yX7_may, Cond.initialized RX7, Cond.code yX7_may cX7_may 5 (some .boolean), Cond.methodLink RX7 70 yX7_size, Cond.static yX7_size, Cond.code yX7_size cX7_size 1 (some .int), Cond.methodLink RX7 59 yX7_halfAt, Cond.instanceMethod yX7_halfAt, Cond.selects RX7 yX7_halfAt yX7_halfAt, Cond.code yX7_halfAt cX7_halfAt 3 (some .int), Cond.fieldLink RX7 7 "FairBattenModel" "half" "[I", Cond.methodLink RX7 44 yX7_in, Cond.static yX7_in, Cond.code yX7_in cX7_in 3 (some .boolean), Cond.methodLink RX7 82 yX7_bendBy, Cond.instanceMethod yX7_bendBy, Cond.selects RX7 yX7_bendBy yX7_bendBy, Cond.code yX7_bendBy cX7_bendBy 7 (some .int), Cond.fieldLink RX7 35 "FairBattenModel" "behind" "[I", Cond.methodLink RX7 63 yX7_square, Cond.static yX7_square]
def wsX7_leastBy_r2 : List Cond := [Cond.code yX7_square cX7_square 1 (some .int), Cond.methodLink RX7 73 yX7_place, Cond.static yX7_place, Cond.code yX7_place cX7_place 3 (some .int)]
def wsX7_leastBy : List Cond := .code yX7_leastBy cX7_leastBy 9 (some .int) :: ((wsX7_leastBy_r1 ++ wsX7_leastBy_r2) ++ wsX70)
def wsX7_findsBehind_r1 : List Cond := [Cond.fieldLink RX7 35 "FairBattenModel" "behind" "[I", Cond.methodLink RX7 73 yX7_place, Cond.static yX7_place, Cond.initialized RX7, Cond.code yX7_place cX7_place 3 (some .int), Cond.methodLink RX7 86 yX7_leastBy, Cond.instanceMethod yX7_leastBy, Cond.selects RX7 yX7_leastBy yX7_leastBy, Cond.code yX7_leastBy cX7_leastBy 9 (some .int), Cond.constant RX7 77 (100000000), Cond.methodLink RX7 78 yX7_may, Cond.instanceMethod yX7_may, Cond.selects RX7 yX7_may yX7_may, Cond.code yX7_may cX7_may 5 (some .boolean), Cond.methodLink RX7 70 yX7_size, Cond.static yX7_size, Cond.code yX7_size cX7_size 1 (some .int), Cond.methodLink RX7 59 yX7_halfAt, Cond.instanceMethod yX7_halfAt, Cond.selects RX7 yX7_halfAt yX7_halfAt, Cond.code yX7_halfAt cX7_halfAt 3 (some .int), Cond.fieldLink RX7 7 "FairBattenModel" "half" "[I", Cond.methodLink RX7 44 yX7_in, Cond.static yX7_in]
def wsX7_findsBehind_r2 : List Cond := [Cond.code yX7_in cX7_in 3 (some .boolean), Cond.methodLink RX7 82 yX7_bendBy, Cond.instanceMethod yX7_bendBy, Cond.selects RX7 yX7_bendBy yX7_bendBy, Cond.code yX7_bendBy cX7_bendBy 7 (some .int), Cond.methodLink RX7 63 yX7_square, Cond.static yX7_square, Cond.code yX7_square cX7_square 1 (some .int)]
def wsX7_findsBehind : List Cond := .code yX7_findsBehind cX7_findsBehind 5 none :: ((wsX7_findsBehind_r1 ++ wsX7_findsBehind_r2) ++ wsX70)
def wsX7_laysLine_r1 : List Cond := [Cond.constant RX7 77 (100000000), Cond.fieldLink RX7 35 "FairBattenModel" "behind" "[I", Cond.fieldLink RX7 38 "FairBattenModel" "line" "[I", Cond.methodLink RX7 78 yX7_may, Cond.instanceMethod yX7_may, Cond.selects RX7 yX7_may yX7_may, Cond.initialized RX7, Cond.code yX7_may cX7_may 5 (some .boolean), Cond.methodLink RX7 70 yX7_size, Cond.static yX7_size, Cond.code yX7_size cX7_size 1 (some .int), Cond.methodLink RX7 59 yX7_halfAt, Cond.instanceMethod yX7_halfAt, Cond.selects RX7 yX7_halfAt yX7_halfAt, Cond.code yX7_halfAt cX7_halfAt 3 (some .int), Cond.fieldLink RX7 7 "FairBattenModel" "half" "[I", Cond.methodLink RX7 44 yX7_in, Cond.static yX7_in, Cond.code yX7_in cX7_in 3 (some .boolean), Cond.methodLink RX7 73 yX7_place, Cond.static yX7_place, Cond.code yX7_place cX7_place 3 (some .int), Cond.methodLink RX7 82 yX7_bendBy, Cond.instanceMethod yX7_bendBy]
def wsX7_laysLine_r2 : List Cond := [Cond.selects RX7 yX7_bendBy yX7_bendBy, Cond.code yX7_bendBy cX7_bendBy 7 (some .int), Cond.methodLink RX7 63 yX7_square, Cond.static yX7_square, Cond.code yX7_square cX7_square 1 (some .int)]
def wsX7_laysLine : List Cond := .code yX7_laysLine cX7_laysLine 9 none :: ((wsX7_laysLine_r1 ++ wsX7_laysLine_r2) ++ wsX70)
def wsX7_fair_r1 : List Cond := [Cond.fieldLink RX7 55 "FairBattenModel" "isLaunched" "Z", Cond.fieldLink RX7 41 "FairBattenModel" "thrown" "I", Cond.fieldLink RX7 7 "FairBattenModel" "half" "[I", Cond.fieldLink RX7 38 "FairBattenModel" "line" "[I", Cond.methodLink RX7 52 yX7_isWaterline, Cond.static yX7_isWaterline, Cond.initialized RX7, Cond.code yX7_isWaterline cX7_isWaterline 1 (some .boolean), Cond.methodLink RX7 44 yX7_in, Cond.static yX7_in, Cond.code yX7_in cX7_in 3 (some .boolean), Cond.methodLink RX7 67 yX7_bendOf, Cond.instanceMethod yX7_bendOf, Cond.selects RX7 yX7_bendOf yX7_bendOf, Cond.code yX7_bendOf cX7_bendOf 4 (some .int), Cond.methodLink RX7 59 yX7_halfAt, Cond.instanceMethod yX7_halfAt, Cond.selects RX7 yX7_halfAt yX7_halfAt, Cond.code yX7_halfAt cX7_halfAt 3 (some .int), Cond.methodLink RX7 63 yX7_square, Cond.static yX7_square, Cond.code yX7_square cX7_square 1 (some .int), Cond.methodLink RX7 89 yX7_findsBehind, Cond.instanceMethod yX7_findsBehind]
def wsX7_fair_r2 : List Cond := [Cond.selects RX7 yX7_findsBehind yX7_findsBehind, Cond.code yX7_findsBehind cX7_findsBehind 5 none, Cond.fieldLink RX7 35 "FairBattenModel" "behind" "[I", Cond.methodLink RX7 73 yX7_place, Cond.static yX7_place, Cond.code yX7_place cX7_place 3 (some .int), Cond.methodLink RX7 86 yX7_leastBy, Cond.instanceMethod yX7_leastBy, Cond.selects RX7 yX7_leastBy yX7_leastBy, Cond.code yX7_leastBy cX7_leastBy 9 (some .int), Cond.constant RX7 77 (100000000), Cond.methodLink RX7 78 yX7_may, Cond.instanceMethod yX7_may, Cond.selects RX7 yX7_may yX7_may, Cond.code yX7_may cX7_may 5 (some .boolean), Cond.methodLink RX7 70 yX7_size, Cond.static yX7_size, Cond.code yX7_size cX7_size 1 (some .int), Cond.methodLink RX7 82 yX7_bendBy, Cond.instanceMethod yX7_bendBy, Cond.selects RX7 yX7_bendBy yX7_bendBy, Cond.code yX7_bendBy cX7_bendBy 7 (some .int), Cond.methodLink RX7 93 yX7_laysLine, Cond.instanceMethod yX7_laysLine]
def wsX7_fair_r3 : List Cond := [Cond.selects RX7 yX7_laysLine yX7_laysLine, Cond.code yX7_laysLine cX7_laysLine 9 none]
def wsX7_fair : List Cond := .code yX7_fair cX7_fair 5 (some .int) :: ((wsX7_fair_r1 ++ (wsX7_fair_r2 ++ wsX7_fair_r3)) ++ wsX70)
def wsX7_areaOf : List Cond := .code yX7_areaOf cX7_areaOf 5 (some .int) :: ([.methodLink RX7 59 yX7_halfAt, .instanceMethod yX7_halfAt, .selects RX7 yX7_halfAt yX7_halfAt, .initialized RX7, .code yX7_halfAt cX7_halfAt 3 (some .int), .fieldLink RX7 7 "FairBattenModel" "half" "[I"] ++ wsX70)
def wsX7_area : List Cond := .code yX7_area cX7_area 3 (some .int) :: ([.fieldLink RX7 41 "FairBattenModel" "thrown" "I", .methodLink RX7 48 yX7_isStation, .static yX7_isStation, .initialized RX7, .code yX7_isStation cX7_isStation 1 (some .boolean), .methodLink RX7 44 yX7_in, .static yX7_in, .code yX7_in cX7_in 3 (some .boolean), .methodLink RX7 52 yX7_isWaterline, .static yX7_isWaterline, .code yX7_isWaterline cX7_isWaterline 1 (some .boolean), .methodLink RX7 96 yX7_areaOf, .instanceMethod yX7_areaOf, .selects RX7 yX7_areaOf yX7_areaOf, .code yX7_areaOf cX7_areaOf 5 (some .int), .methodLink RX7 59 yX7_halfAt, .instanceMethod yX7_halfAt, .selects RX7 yX7_halfAt yX7_halfAt, .code yX7_halfAt cX7_halfAt 3 (some .int), .fieldLink RX7 7 "FairBattenModel" "half" "[I"] ++ wsX70)
def wsX7_volumeOf : List Cond := .code yX7_volumeOf cX7_volumeOf 4 (some .int) :: ([.methodLink RX7 96 yX7_areaOf, .instanceMethod yX7_areaOf, .selects RX7 yX7_areaOf yX7_areaOf, .initialized RX7, .code yX7_areaOf cX7_areaOf 5 (some .int), .methodLink RX7 59 yX7_halfAt, .instanceMethod yX7_halfAt, .selects RX7 yX7_halfAt yX7_halfAt, .code yX7_halfAt cX7_halfAt 3 (some .int), .fieldLink RX7 7 "FairBattenModel" "half" "[I"] ++ wsX70)
def wsX7_volume : List Cond := .code yX7_volume cX7_volume 2 (some .int) :: ([.fieldLink RX7 41 "FairBattenModel" "thrown" "I", .methodLink RX7 52 yX7_isWaterline, .static yX7_isWaterline, .initialized RX7, .code yX7_isWaterline cX7_isWaterline 1 (some .boolean), .methodLink RX7 44 yX7_in, .static yX7_in, .code yX7_in cX7_in 3 (some .boolean), .methodLink RX7 99 yX7_volumeOf, .instanceMethod yX7_volumeOf, .selects RX7 yX7_volumeOf yX7_volumeOf, .code yX7_volumeOf cX7_volumeOf 4 (some .int), .methodLink RX7 96 yX7_areaOf, .instanceMethod yX7_areaOf, .selects RX7 yX7_areaOf yX7_areaOf, .code yX7_areaOf cX7_areaOf 5 (some .int), .methodLink RX7 59 yX7_halfAt, .instanceMethod yX7_halfAt, .selects RX7 yX7_halfAt yX7_halfAt, .code yX7_halfAt cX7_halfAt 3 (some .int), .fieldLink RX7 7 "FairBattenModel" "half" "[I"] ++ wsX70)
def wsX7_volumeAnew_r1 : List Cond := [Cond.methodLink RX7 102 yX7_volume, Cond.instanceMethod yX7_volume, Cond.selects RX7 yX7_volume yX7_volume, Cond.initialized RX7, Cond.code yX7_volume cX7_volume 2 (some .int), Cond.fieldLink RX7 41 "FairBattenModel" "thrown" "I", Cond.methodLink RX7 52 yX7_isWaterline, Cond.static yX7_isWaterline, Cond.code yX7_isWaterline cX7_isWaterline 1 (some .boolean), Cond.methodLink RX7 44 yX7_in, Cond.static yX7_in, Cond.code yX7_in cX7_in 3 (some .boolean), Cond.methodLink RX7 99 yX7_volumeOf, Cond.instanceMethod yX7_volumeOf, Cond.selects RX7 yX7_volumeOf yX7_volumeOf, Cond.code yX7_volumeOf cX7_volumeOf 4 (some .int), Cond.methodLink RX7 96 yX7_areaOf, Cond.instanceMethod yX7_areaOf, Cond.selects RX7 yX7_areaOf yX7_areaOf, Cond.code yX7_areaOf cX7_areaOf 5 (some .int), Cond.methodLink RX7 59 yX7_halfAt, Cond.instanceMethod yX7_halfAt, Cond.selects RX7 yX7_halfAt yX7_halfAt, Cond.code yX7_halfAt cX7_halfAt 3 (some .int)]
def wsX7_volumeAnew_r2 : List Cond := [Cond.fieldLink RX7 7 "FairBattenModel" "half" "[I"]
def wsX7_volumeAnew : List Cond := .code yX7_volumeAnew cX7_volumeAnew 2 (some .int) :: ((wsX7_volumeAnew_r1 ++ wsX7_volumeAnew_r2) ++ wsX70)
def wsX7_momentOf : List Cond := .code yX7_momentOf cX7_momentOf 4 (some .int) :: ([.methodLink RX7 96 yX7_areaOf, .instanceMethod yX7_areaOf, .selects RX7 yX7_areaOf yX7_areaOf, .initialized RX7, .code yX7_areaOf cX7_areaOf 5 (some .int), .methodLink RX7 59 yX7_halfAt, .instanceMethod yX7_halfAt, .selects RX7 yX7_halfAt yX7_halfAt, .code yX7_halfAt cX7_halfAt 3 (some .int), .fieldLink RX7 7 "FairBattenModel" "half" "[I"] ++ wsX70)
def wsX7_weigh : List Cond := .code yX7_weigh cX7_weigh 3 (some .int) :: ([.fieldLink RX7 105 "FairBattenModel" "weights" "I", .fieldLink RX7 41 "FairBattenModel" "thrown" "I", .fieldLink RX7 13 "FairBattenModel" "at" "[I", .fieldLink RX7 16 "FairBattenModel" "weight" "[I", .methodLink RX7 48 yX7_isStation, .static yX7_isStation, .initialized RX7, .code yX7_isStation cX7_isStation 1 (some .boolean), .methodLink RX7 44 yX7_in, .static yX7_in, .code yX7_in cX7_in 3 (some .boolean)] ++ wsX70)
def wsX7_change : List Cond := .code yX7_change cX7_change 5 (some .int) :: ([.fieldLink RX7 105 "FairBattenModel" "weights" "I", .fieldLink RX7 41 "FairBattenModel" "thrown" "I", .fieldLink RX7 16 "FairBattenModel" "weight" "[I", .fieldLink RX7 13 "FairBattenModel" "at" "[I", .methodLink RX7 44 yX7_in, .static yX7_in, .initialized RX7, .code yX7_in cX7_in 3 (some .boolean), .methodLink RX7 48 yX7_isStation, .static yX7_isStation, .code yX7_isStation cX7_isStation 1 (some .boolean)] ++ wsX70)
def wsX7_loadNow : List Cond := .code yX7_loadNow cX7_loadNow 3 (some .int) :: ([.fieldLink RX7 16 "FairBattenModel" "weight" "[I"] ++ wsX70)
def wsX7_loadMoment : List Cond := .code yX7_loadMoment cX7_loadMoment 3 (some .int) :: ([.fieldLink RX7 16 "FairBattenModel" "weight" "[I", .fieldLink RX7 13 "FairBattenModel" "at" "[I"] ++ wsX70)
def wsX7_draughtNow : List Cond := .code yX7_draughtNow cX7_draughtNow 4 (some .int) :: ([.methodLink RX7 108 yX7_loadNow, .instanceMethod yX7_loadNow, .selects RX7 yX7_loadNow yX7_loadNow, .initialized RX7, .code yX7_loadNow cX7_loadNow 3 (some .int), .fieldLink RX7 16 "FairBattenModel" "weight" "[I", .methodLink RX7 99 yX7_volumeOf, .instanceMethod yX7_volumeOf, .selects RX7 yX7_volumeOf yX7_volumeOf, .code yX7_volumeOf cX7_volumeOf 4 (some .int), .methodLink RX7 96 yX7_areaOf, .instanceMethod yX7_areaOf, .selects RX7 yX7_areaOf yX7_areaOf, .code yX7_areaOf cX7_areaOf 5 (some .int), .methodLink RX7 59 yX7_halfAt, .instanceMethod yX7_halfAt, .selects RX7 yX7_halfAt yX7_halfAt, .code yX7_halfAt cX7_halfAt 3 (some .int), .fieldLink RX7 7 "FairBattenModel" "half" "[I"] ++ wsX70)
def wsX7_mean : List Cond := .code yX7_mean cX7_mean 2 (some .int) :: ([])
def wsX7_trimNow_r1 : List Cond := [Cond.methodLink RX7 112 yX7_draughtNow, Cond.instanceMethod yX7_draughtNow, Cond.selects RX7 yX7_draughtNow yX7_draughtNow, Cond.initialized RX7, Cond.code yX7_draughtNow cX7_draughtNow 4 (some .int), Cond.methodLink RX7 108 yX7_loadNow, Cond.instanceMethod yX7_loadNow, Cond.selects RX7 yX7_loadNow yX7_loadNow, Cond.code yX7_loadNow cX7_loadNow 3 (some .int), Cond.fieldLink RX7 16 "FairBattenModel" "weight" "[I", Cond.methodLink RX7 99 yX7_volumeOf, Cond.instanceMethod yX7_volumeOf, Cond.selects RX7 yX7_volumeOf yX7_volumeOf, Cond.code yX7_volumeOf cX7_volumeOf 4 (some .int), Cond.methodLink RX7 96 yX7_areaOf, Cond.instanceMethod yX7_areaOf, Cond.selects RX7 yX7_areaOf yX7_areaOf, Cond.code yX7_areaOf cX7_areaOf 5 (some .int), Cond.methodLink RX7 59 yX7_halfAt, Cond.instanceMethod yX7_halfAt, Cond.selects RX7 yX7_halfAt yX7_halfAt, Cond.code yX7_halfAt cX7_halfAt 3 (some .int), Cond.fieldLink RX7 7 "FairBattenModel" "half" "[I", Cond.methodLink RX7 115 yX7_loadMoment]
def wsX7_trimNow_r2 : List Cond := [Cond.instanceMethod yX7_loadMoment, Cond.selects RX7 yX7_loadMoment yX7_loadMoment, Cond.code yX7_loadMoment cX7_loadMoment 3 (some .int), Cond.fieldLink RX7 13 "FairBattenModel" "at" "[I", Cond.methodLink RX7 118 yX7_mean, Cond.static yX7_mean, Cond.code yX7_mean cX7_mean 2 (some .int), Cond.methodLink RX7 121 yX7_momentOf, Cond.instanceMethod yX7_momentOf, Cond.selects RX7 yX7_momentOf yX7_momentOf, Cond.code yX7_momentOf cX7_momentOf 4 (some .int)]
def wsX7_trimNow : List Cond := .code yX7_trimNow cX7_trimNow 2 (some .int) :: ((wsX7_trimNow_r1 ++ wsX7_trimNow_r2) ++ wsX70)
def wsX7_ballast_r1 : List Cond := [Cond.fieldLink RX7 41 "FairBattenModel" "thrown" "I", Cond.fieldLink RX7 13 "FairBattenModel" "at" "[I", Cond.fieldLink RX7 16 "FairBattenModel" "weight" "[I", Cond.constant RX7 77 (100000000), Cond.methodLink RX7 44 yX7_in, Cond.static yX7_in, Cond.initialized RX7, Cond.code yX7_in cX7_in 3 (some .boolean), Cond.methodLink RX7 112 yX7_draughtNow, Cond.instanceMethod yX7_draughtNow, Cond.selects RX7 yX7_draughtNow yX7_draughtNow, Cond.code yX7_draughtNow cX7_draughtNow 4 (some .int), Cond.methodLink RX7 108 yX7_loadNow, Cond.instanceMethod yX7_loadNow, Cond.selects RX7 yX7_loadNow yX7_loadNow, Cond.code yX7_loadNow cX7_loadNow 3 (some .int), Cond.methodLink RX7 99 yX7_volumeOf, Cond.instanceMethod yX7_volumeOf, Cond.selects RX7 yX7_volumeOf yX7_volumeOf, Cond.code yX7_volumeOf cX7_volumeOf 4 (some .int), Cond.methodLink RX7 96 yX7_areaOf, Cond.instanceMethod yX7_areaOf, Cond.selects RX7 yX7_areaOf yX7_areaOf, Cond.code yX7_areaOf cX7_areaOf 5 (some .int)]
def wsX7_ballast_r2 : List Cond := [Cond.methodLink RX7 59 yX7_halfAt, Cond.instanceMethod yX7_halfAt, Cond.selects RX7 yX7_halfAt yX7_halfAt, Cond.code yX7_halfAt cX7_halfAt 3 (some .int), Cond.fieldLink RX7 7 "FairBattenModel" "half" "[I", Cond.methodLink RX7 124 yX7_trimNow, Cond.instanceMethod yX7_trimNow, Cond.selects RX7 yX7_trimNow yX7_trimNow, Cond.code yX7_trimNow cX7_trimNow 2 (some .int), Cond.methodLink RX7 115 yX7_loadMoment, Cond.instanceMethod yX7_loadMoment, Cond.selects RX7 yX7_loadMoment yX7_loadMoment, Cond.code yX7_loadMoment cX7_loadMoment 3 (some .int), Cond.methodLink RX7 118 yX7_mean, Cond.static yX7_mean, Cond.code yX7_mean cX7_mean 2 (some .int), Cond.methodLink RX7 121 yX7_momentOf, Cond.instanceMethod yX7_momentOf, Cond.selects RX7 yX7_momentOf yX7_momentOf, Cond.code yX7_momentOf cX7_momentOf 4 (some .int), Cond.methodLink RX7 70 yX7_size, Cond.static yX7_size, Cond.code yX7_size cX7_size 1 (some .int)]
def wsX7_ballast : List Cond := .code yX7_ballast cX7_ballast 8 (some .int) :: ((wsX7_ballast_r1 ++ wsX7_ballast_r2) ++ wsX70)
def wsX7_draught : List Cond := .code yX7_draught cX7_draught 1 (some .int) :: ([.fieldLink RX7 41 "FairBattenModel" "thrown" "I", .methodLink RX7 112 yX7_draughtNow, .instanceMethod yX7_draughtNow, .selects RX7 yX7_draughtNow yX7_draughtNow, .initialized RX7, .code yX7_draughtNow cX7_draughtNow 4 (some .int), .methodLink RX7 108 yX7_loadNow, .instanceMethod yX7_loadNow, .selects RX7 yX7_loadNow yX7_loadNow, .code yX7_loadNow cX7_loadNow 3 (some .int), .fieldLink RX7 16 "FairBattenModel" "weight" "[I", .methodLink RX7 99 yX7_volumeOf, .instanceMethod yX7_volumeOf, .selects RX7 yX7_volumeOf yX7_volumeOf, .code yX7_volumeOf cX7_volumeOf 4 (some .int), .methodLink RX7 96 yX7_areaOf, .instanceMethod yX7_areaOf, .selects RX7 yX7_areaOf yX7_areaOf, .code yX7_areaOf cX7_areaOf 5 (some .int), .methodLink RX7 59 yX7_halfAt, .instanceMethod yX7_halfAt, .selects RX7 yX7_halfAt yX7_halfAt, .code yX7_halfAt cX7_halfAt 3 (some .int), .fieldLink RX7 7 "FairBattenModel" "half" "[I"] ++ wsX70)
def wsX7_trim_r1 : List Cond := [Cond.fieldLink RX7 41 "FairBattenModel" "thrown" "I", Cond.methodLink RX7 124 yX7_trimNow, Cond.instanceMethod yX7_trimNow, Cond.selects RX7 yX7_trimNow yX7_trimNow, Cond.initialized RX7, Cond.code yX7_trimNow cX7_trimNow 2 (some .int), Cond.methodLink RX7 112 yX7_draughtNow, Cond.instanceMethod yX7_draughtNow, Cond.selects RX7 yX7_draughtNow yX7_draughtNow, Cond.code yX7_draughtNow cX7_draughtNow 4 (some .int), Cond.methodLink RX7 108 yX7_loadNow, Cond.instanceMethod yX7_loadNow, Cond.selects RX7 yX7_loadNow yX7_loadNow, Cond.code yX7_loadNow cX7_loadNow 3 (some .int), Cond.fieldLink RX7 16 "FairBattenModel" "weight" "[I", Cond.methodLink RX7 99 yX7_volumeOf, Cond.instanceMethod yX7_volumeOf, Cond.selects RX7 yX7_volumeOf yX7_volumeOf, Cond.code yX7_volumeOf cX7_volumeOf 4 (some .int), Cond.methodLink RX7 96 yX7_areaOf, Cond.instanceMethod yX7_areaOf, Cond.selects RX7 yX7_areaOf yX7_areaOf, Cond.code yX7_areaOf cX7_areaOf 5 (some .int), Cond.methodLink RX7 59 yX7_halfAt]
def wsX7_trim_r2 : List Cond := [Cond.instanceMethod yX7_halfAt, Cond.selects RX7 yX7_halfAt yX7_halfAt, Cond.code yX7_halfAt cX7_halfAt 3 (some .int), Cond.fieldLink RX7 7 "FairBattenModel" "half" "[I", Cond.methodLink RX7 115 yX7_loadMoment, Cond.instanceMethod yX7_loadMoment, Cond.selects RX7 yX7_loadMoment yX7_loadMoment, Cond.code yX7_loadMoment cX7_loadMoment 3 (some .int), Cond.fieldLink RX7 13 "FairBattenModel" "at" "[I", Cond.methodLink RX7 118 yX7_mean, Cond.static yX7_mean, Cond.code yX7_mean cX7_mean 2 (some .int), Cond.methodLink RX7 121 yX7_momentOf, Cond.instanceMethod yX7_momentOf, Cond.selects RX7 yX7_momentOf yX7_momentOf, Cond.code yX7_momentOf cX7_momentOf 4 (some .int)]
def wsX7_trim : List Cond := .code yX7_trim cX7_trim 1 (some .int) :: ((wsX7_trim_r1 ++ wsX7_trim_r2) ++ wsX70)
def wsX7_strakeOf : List Cond := .code yX7_strakeOf cX7_strakeOf 4 (some .int) :: ([.methodLink RX7 59 yX7_halfAt, .instanceMethod yX7_halfAt, .selects RX7 yX7_halfAt yX7_halfAt, .initialized RX7, .code yX7_halfAt cX7_halfAt 3 (some .int), .fieldLink RX7 7 "FairBattenModel" "half" "[I", .methodLink RX7 70 yX7_size, .static yX7_size, .code yX7_size cX7_size 1 (some .int)] ++ wsX70)
def wsX7_strake : List Cond := .code yX7_strake cX7_strake 2 (some .int) :: ([.fieldLink RX7 41 "FairBattenModel" "thrown" "I", .methodLink RX7 44 yX7_in, .static yX7_in, .initialized RX7, .code yX7_in cX7_in 3 (some .boolean), .methodLink RX7 127 yX7_strakeOf, .instanceMethod yX7_strakeOf, .selects RX7 yX7_strakeOf yX7_strakeOf, .code yX7_strakeOf cX7_strakeOf 4 (some .int), .methodLink RX7 59 yX7_halfAt, .instanceMethod yX7_halfAt, .selects RX7 yX7_halfAt yX7_halfAt, .code yX7_halfAt cX7_halfAt 3 (some .int), .fieldLink RX7 7 "FairBattenModel" "half" "[I", .methodLink RX7 70 yX7_size, .static yX7_size, .code yX7_size cX7_size 1 (some .int)] ++ wsX70)
def wsX7_strakeBehind : List Cond := .code yX7_strakeBehind cX7_strakeBehind 6 (some .int) :: ([.methodLink RX7 127 yX7_strakeOf, .instanceMethod yX7_strakeOf, .selects RX7 yX7_strakeOf yX7_strakeOf, .initialized RX7, .code yX7_strakeOf cX7_strakeOf 4 (some .int), .methodLink RX7 59 yX7_halfAt, .instanceMethod yX7_halfAt, .selects RX7 yX7_halfAt yX7_halfAt, .code yX7_halfAt cX7_halfAt 3 (some .int), .fieldLink RX7 7 "FairBattenModel" "half" "[I", .methodLink RX7 70 yX7_size, .static yX7_size, .code yX7_size cX7_size 1 (some .int)] ++ wsX70)
def wsX7_planksNow : List Cond := .code yX7_planksNow cX7_planksNow 6 (some .int) :: ([.fieldLink RX7 19 "FairBattenModel" "length" "I", .fieldLink RX7 23 "FairBattenModel" "left" "[I", .fieldLink RX7 26 "FairBattenModel" "cutFrom" "[I", .methodLink RX7 130 yX7_strakeBehind, .instanceMethod yX7_strakeBehind, .selects RX7 yX7_strakeBehind yX7_strakeBehind, .initialized RX7, .code yX7_strakeBehind cX7_strakeBehind 6 (some .int), .methodLink RX7 127 yX7_strakeOf, .instanceMethod yX7_strakeOf, .selects RX7 yX7_strakeOf yX7_strakeOf, .code yX7_strakeOf cX7_strakeOf 4 (some .int), .methodLink RX7 59 yX7_halfAt, .instanceMethod yX7_halfAt, .selects RX7 yX7_halfAt yX7_halfAt, .code yX7_halfAt cX7_halfAt 3 (some .int), .fieldLink RX7 7 "FairBattenModel" "half" "[I", .methodLink RX7 70 yX7_size, .static yX7_size, .code yX7_size cX7_size 1 (some .int)] ++ wsX70)
def wsX7_planks_r1 : List Cond := [Cond.fieldLink RX7 41 "FairBattenModel" "thrown" "I", Cond.fieldLink RX7 19 "FairBattenModel" "length" "I", Cond.methodLink RX7 44 yX7_in, Cond.static yX7_in, Cond.initialized RX7, Cond.code yX7_in cX7_in 3 (some .boolean), Cond.methodLink RX7 133 yX7_planksNow, Cond.instanceMethod yX7_planksNow, Cond.selects RX7 yX7_planksNow yX7_planksNow, Cond.code yX7_planksNow cX7_planksNow 6 (some .int), Cond.fieldLink RX7 23 "FairBattenModel" "left" "[I", Cond.fieldLink RX7 26 "FairBattenModel" "cutFrom" "[I", Cond.methodLink RX7 130 yX7_strakeBehind, Cond.instanceMethod yX7_strakeBehind, Cond.selects RX7 yX7_strakeBehind yX7_strakeBehind, Cond.code yX7_strakeBehind cX7_strakeBehind 6 (some .int), Cond.methodLink RX7 127 yX7_strakeOf, Cond.instanceMethod yX7_strakeOf, Cond.selects RX7 yX7_strakeOf yX7_strakeOf, Cond.code yX7_strakeOf cX7_strakeOf 4 (some .int), Cond.methodLink RX7 59 yX7_halfAt, Cond.instanceMethod yX7_halfAt, Cond.selects RX7 yX7_halfAt yX7_halfAt, Cond.code yX7_halfAt cX7_halfAt 3 (some .int)]
def wsX7_planks_r2 : List Cond := [Cond.fieldLink RX7 7 "FairBattenModel" "half" "[I", Cond.methodLink RX7 70 yX7_size, Cond.static yX7_size, Cond.code yX7_size cX7_size 1 (some .int)]
def wsX7_planks : List Cond := .code yX7_planks cX7_planks 2 (some .int) :: ((wsX7_planks_r1 ++ wsX7_planks_r2) ++ wsX70)
def wsX7_plankOf_r1 : List Cond := [Cond.fieldLink RX7 41 "FairBattenModel" "thrown" "I", Cond.fieldLink RX7 26 "FairBattenModel" "cutFrom" "[I", Cond.methodLink RX7 44 yX7_in, Cond.static yX7_in, Cond.initialized RX7, Cond.code yX7_in cX7_in 3 (some .boolean), Cond.methodLink RX7 133 yX7_planksNow, Cond.instanceMethod yX7_planksNow, Cond.selects RX7 yX7_planksNow yX7_planksNow, Cond.code yX7_planksNow cX7_planksNow 6 (some .int), Cond.fieldLink RX7 19 "FairBattenModel" "length" "I", Cond.fieldLink RX7 23 "FairBattenModel" "left" "[I", Cond.methodLink RX7 130 yX7_strakeBehind, Cond.instanceMethod yX7_strakeBehind, Cond.selects RX7 yX7_strakeBehind yX7_strakeBehind, Cond.code yX7_strakeBehind cX7_strakeBehind 6 (some .int), Cond.methodLink RX7 127 yX7_strakeOf, Cond.instanceMethod yX7_strakeOf, Cond.selects RX7 yX7_strakeOf yX7_strakeOf, Cond.code yX7_strakeOf cX7_strakeOf 4 (some .int), Cond.methodLink RX7 59 yX7_halfAt, Cond.instanceMethod yX7_halfAt, Cond.selects RX7 yX7_halfAt yX7_halfAt, Cond.code yX7_halfAt cX7_halfAt 3 (some .int)]
def wsX7_plankOf_r2 : List Cond := [Cond.fieldLink RX7 7 "FairBattenModel" "half" "[I", Cond.methodLink RX7 70 yX7_size, Cond.static yX7_size, Cond.code yX7_size cX7_size 1 (some .int)]
def wsX7_plankOf : List Cond := .code yX7_plankOf cX7_plankOf 3 (some .int) :: ((wsX7_plankOf_r1 ++ wsX7_plankOf_r2) ++ wsX70)
def wsX7_tideOn : List Cond := .code yX7_tideOn cX7_tideOn 4 (some .int) :: ([.fieldLink RX7 136 "FairBattenModel" "tides" "I", .fieldLink RX7 29 "FairBattenModel" "tideDay" "[I", .fieldLink RX7 32 "FairBattenModel" "tide" "[I"] ++ wsX70)
def wsX7_tide : List Cond := .code yX7_tide cX7_tide 5 (some .int) :: ([.fieldLink RX7 41 "FairBattenModel" "thrown" "I", .fieldLink RX7 136 "FairBattenModel" "tides" "I", .fieldLink RX7 29 "FairBattenModel" "tideDay" "[I", .fieldLink RX7 32 "FairBattenModel" "tide" "[I", .methodLink RX7 44 yX7_in, .static yX7_in, .initialized RX7, .code yX7_in cX7_in 3 (some .boolean), .methodLink RX7 139 yX7_tideOn, .instanceMethod yX7_tideOn, .selects RX7 yX7_tideOn yX7_tideOn, .code yX7_tideOn cX7_tideOn 4 (some .int)] ++ wsX70)
def wsX7_sill : List Cond := .code yX7_sill cX7_sill 3 (some .int) :: ([.fieldLink RX7 41 "FairBattenModel" "thrown" "I", .fieldLink RX7 142 "FairBattenModel" "sill" "I", .methodLink RX7 44 yX7_in, .static yX7_in, .initialized RX7, .code yX7_in cX7_in 3 (some .boolean)] ++ wsX70)
def wsX7_neededNow_r1 : List Cond := [Cond.fieldLink RX7 142 "FairBattenModel" "sill" "I", Cond.methodLink RX7 112 yX7_draughtNow, Cond.instanceMethod yX7_draughtNow, Cond.selects RX7 yX7_draughtNow yX7_draughtNow, Cond.initialized RX7, Cond.code yX7_draughtNow cX7_draughtNow 4 (some .int), Cond.methodLink RX7 108 yX7_loadNow, Cond.instanceMethod yX7_loadNow, Cond.selects RX7 yX7_loadNow yX7_loadNow, Cond.code yX7_loadNow cX7_loadNow 3 (some .int), Cond.fieldLink RX7 16 "FairBattenModel" "weight" "[I", Cond.methodLink RX7 99 yX7_volumeOf, Cond.instanceMethod yX7_volumeOf, Cond.selects RX7 yX7_volumeOf yX7_volumeOf, Cond.code yX7_volumeOf cX7_volumeOf 4 (some .int), Cond.methodLink RX7 96 yX7_areaOf, Cond.instanceMethod yX7_areaOf, Cond.selects RX7 yX7_areaOf yX7_areaOf, Cond.code yX7_areaOf cX7_areaOf 5 (some .int), Cond.methodLink RX7 59 yX7_halfAt, Cond.instanceMethod yX7_halfAt, Cond.selects RX7 yX7_halfAt yX7_halfAt, Cond.code yX7_halfAt cX7_halfAt 3 (some .int), Cond.fieldLink RX7 7 "FairBattenModel" "half" "[I"]
def wsX7_neededNow_r2 : List Cond := [Cond.methodLink RX7 124 yX7_trimNow, Cond.instanceMethod yX7_trimNow, Cond.selects RX7 yX7_trimNow yX7_trimNow, Cond.code yX7_trimNow cX7_trimNow 2 (some .int), Cond.methodLink RX7 115 yX7_loadMoment, Cond.instanceMethod yX7_loadMoment, Cond.selects RX7 yX7_loadMoment yX7_loadMoment, Cond.code yX7_loadMoment cX7_loadMoment 3 (some .int), Cond.fieldLink RX7 13 "FairBattenModel" "at" "[I", Cond.methodLink RX7 118 yX7_mean, Cond.static yX7_mean, Cond.code yX7_mean cX7_mean 2 (some .int), Cond.methodLink RX7 121 yX7_momentOf, Cond.instanceMethod yX7_momentOf, Cond.selects RX7 yX7_momentOf yX7_momentOf, Cond.code yX7_momentOf cX7_momentOf 4 (some .int), Cond.methodLink RX7 70 yX7_size, Cond.static yX7_size, Cond.code yX7_size cX7_size 1 (some .int)]
def wsX7_neededNow : List Cond := .code yX7_neededNow cX7_neededNow 2 (some .int) :: ((wsX7_neededNow_r1 ++ wsX7_neededNow_r2) ++ wsX70)
def wsX7_needed_r1 : List Cond := [Cond.fieldLink RX7 41 "FairBattenModel" "thrown" "I", Cond.methodLink RX7 145 yX7_neededNow, Cond.instanceMethod yX7_neededNow, Cond.selects RX7 yX7_neededNow yX7_neededNow, Cond.initialized RX7, Cond.code yX7_neededNow cX7_neededNow 2 (some .int), Cond.fieldLink RX7 142 "FairBattenModel" "sill" "I", Cond.methodLink RX7 112 yX7_draughtNow, Cond.instanceMethod yX7_draughtNow, Cond.selects RX7 yX7_draughtNow yX7_draughtNow, Cond.code yX7_draughtNow cX7_draughtNow 4 (some .int), Cond.methodLink RX7 108 yX7_loadNow, Cond.instanceMethod yX7_loadNow, Cond.selects RX7 yX7_loadNow yX7_loadNow, Cond.code yX7_loadNow cX7_loadNow 3 (some .int), Cond.fieldLink RX7 16 "FairBattenModel" "weight" "[I", Cond.methodLink RX7 99 yX7_volumeOf, Cond.instanceMethod yX7_volumeOf, Cond.selects RX7 yX7_volumeOf yX7_volumeOf, Cond.code yX7_volumeOf cX7_volumeOf 4 (some .int), Cond.methodLink RX7 96 yX7_areaOf, Cond.instanceMethod yX7_areaOf, Cond.selects RX7 yX7_areaOf yX7_areaOf, Cond.code yX7_areaOf cX7_areaOf 5 (some .int)]
def wsX7_needed_r2 : List Cond := [Cond.methodLink RX7 59 yX7_halfAt, Cond.instanceMethod yX7_halfAt, Cond.selects RX7 yX7_halfAt yX7_halfAt, Cond.code yX7_halfAt cX7_halfAt 3 (some .int), Cond.fieldLink RX7 7 "FairBattenModel" "half" "[I", Cond.methodLink RX7 124 yX7_trimNow, Cond.instanceMethod yX7_trimNow, Cond.selects RX7 yX7_trimNow yX7_trimNow, Cond.code yX7_trimNow cX7_trimNow 2 (some .int), Cond.methodLink RX7 115 yX7_loadMoment, Cond.instanceMethod yX7_loadMoment, Cond.selects RX7 yX7_loadMoment yX7_loadMoment, Cond.code yX7_loadMoment cX7_loadMoment 3 (some .int), Cond.fieldLink RX7 13 "FairBattenModel" "at" "[I", Cond.methodLink RX7 118 yX7_mean, Cond.static yX7_mean, Cond.code yX7_mean cX7_mean 2 (some .int), Cond.methodLink RX7 121 yX7_momentOf, Cond.instanceMethod yX7_momentOf, Cond.selects RX7 yX7_momentOf yX7_momentOf, Cond.code yX7_momentOf cX7_momentOf 4 (some .int), Cond.methodLink RX7 70 yX7_size, Cond.static yX7_size, Cond.code yX7_size cX7_size 1 (some .int)]
def wsX7_needed : List Cond := .code yX7_needed cX7_needed 1 (some .int) :: ((wsX7_needed_r1 ++ wsX7_needed_r2) ++ wsX70)
def wsX7_day_r1 : List Cond := [Cond.fieldLink RX7 41 "FairBattenModel" "thrown" "I", Cond.fieldLink RX7 148 "FairBattenModel" "today" "I", Cond.fieldLink RX7 55 "FairBattenModel" "isLaunched" "Z", Cond.methodLink RX7 145 yX7_neededNow, Cond.instanceMethod yX7_neededNow, Cond.selects RX7 yX7_neededNow yX7_neededNow, Cond.initialized RX7, Cond.code yX7_neededNow cX7_neededNow 2 (some .int), Cond.fieldLink RX7 142 "FairBattenModel" "sill" "I", Cond.methodLink RX7 112 yX7_draughtNow, Cond.instanceMethod yX7_draughtNow, Cond.selects RX7 yX7_draughtNow yX7_draughtNow, Cond.code yX7_draughtNow cX7_draughtNow 4 (some .int), Cond.methodLink RX7 108 yX7_loadNow, Cond.instanceMethod yX7_loadNow, Cond.selects RX7 yX7_loadNow yX7_loadNow, Cond.code yX7_loadNow cX7_loadNow 3 (some .int), Cond.fieldLink RX7 16 "FairBattenModel" "weight" "[I", Cond.methodLink RX7 99 yX7_volumeOf, Cond.instanceMethod yX7_volumeOf, Cond.selects RX7 yX7_volumeOf yX7_volumeOf, Cond.code yX7_volumeOf cX7_volumeOf 4 (some .int), Cond.methodLink RX7 96 yX7_areaOf, Cond.instanceMethod yX7_areaOf]
def wsX7_day_r2 : List Cond := [Cond.selects RX7 yX7_areaOf yX7_areaOf, Cond.code yX7_areaOf cX7_areaOf 5 (some .int), Cond.methodLink RX7 59 yX7_halfAt, Cond.instanceMethod yX7_halfAt, Cond.selects RX7 yX7_halfAt yX7_halfAt, Cond.code yX7_halfAt cX7_halfAt 3 (some .int), Cond.fieldLink RX7 7 "FairBattenModel" "half" "[I", Cond.methodLink RX7 124 yX7_trimNow, Cond.instanceMethod yX7_trimNow, Cond.selects RX7 yX7_trimNow yX7_trimNow, Cond.code yX7_trimNow cX7_trimNow 2 (some .int), Cond.methodLink RX7 115 yX7_loadMoment, Cond.instanceMethod yX7_loadMoment, Cond.selects RX7 yX7_loadMoment yX7_loadMoment, Cond.code yX7_loadMoment cX7_loadMoment 3 (some .int), Cond.fieldLink RX7 13 "FairBattenModel" "at" "[I", Cond.methodLink RX7 118 yX7_mean, Cond.static yX7_mean, Cond.code yX7_mean cX7_mean 2 (some .int), Cond.methodLink RX7 121 yX7_momentOf, Cond.instanceMethod yX7_momentOf, Cond.selects RX7 yX7_momentOf yX7_momentOf, Cond.code yX7_momentOf cX7_momentOf 4 (some .int), Cond.methodLink RX7 70 yX7_size]
def wsX7_day_r3 : List Cond := [Cond.static yX7_size, Cond.code yX7_size cX7_size 1 (some .int), Cond.methodLink RX7 139 yX7_tideOn, Cond.instanceMethod yX7_tideOn, Cond.selects RX7 yX7_tideOn yX7_tideOn, Cond.code yX7_tideOn cX7_tideOn 4 (some .int), Cond.fieldLink RX7 136 "FairBattenModel" "tides" "I", Cond.fieldLink RX7 29 "FairBattenModel" "tideDay" "[I", Cond.fieldLink RX7 32 "FairBattenModel" "tide" "[I"]
def wsX7_day : List Cond := .code yX7_day cX7_day 4 (some .int) :: ((wsX7_day_r1 ++ (wsX7_day_r2 ++ wsX7_day_r3)) ++ wsX70)
def wsX7_launch_r1 : List Cond := [Cond.fieldLink RX7 55 "FairBattenModel" "isLaunched" "Z", Cond.fieldLink RX7 148 "FairBattenModel" "today" "I", Cond.fieldLink RX7 41 "FairBattenModel" "thrown" "I", Cond.methodLink RX7 145 yX7_neededNow, Cond.instanceMethod yX7_neededNow, Cond.selects RX7 yX7_neededNow yX7_neededNow, Cond.initialized RX7, Cond.code yX7_neededNow cX7_neededNow 2 (some .int), Cond.fieldLink RX7 142 "FairBattenModel" "sill" "I", Cond.methodLink RX7 112 yX7_draughtNow, Cond.instanceMethod yX7_draughtNow, Cond.selects RX7 yX7_draughtNow yX7_draughtNow, Cond.code yX7_draughtNow cX7_draughtNow 4 (some .int), Cond.methodLink RX7 108 yX7_loadNow, Cond.instanceMethod yX7_loadNow, Cond.selects RX7 yX7_loadNow yX7_loadNow, Cond.code yX7_loadNow cX7_loadNow 3 (some .int), Cond.fieldLink RX7 16 "FairBattenModel" "weight" "[I", Cond.methodLink RX7 99 yX7_volumeOf, Cond.instanceMethod yX7_volumeOf, Cond.selects RX7 yX7_volumeOf yX7_volumeOf, Cond.code yX7_volumeOf cX7_volumeOf 4 (some .int), Cond.methodLink RX7 96 yX7_areaOf, Cond.instanceMethod yX7_areaOf]
def wsX7_launch_r2 : List Cond := [Cond.selects RX7 yX7_areaOf yX7_areaOf, Cond.code yX7_areaOf cX7_areaOf 5 (some .int), Cond.methodLink RX7 59 yX7_halfAt, Cond.instanceMethod yX7_halfAt, Cond.selects RX7 yX7_halfAt yX7_halfAt, Cond.code yX7_halfAt cX7_halfAt 3 (some .int), Cond.fieldLink RX7 7 "FairBattenModel" "half" "[I", Cond.methodLink RX7 124 yX7_trimNow, Cond.instanceMethod yX7_trimNow, Cond.selects RX7 yX7_trimNow yX7_trimNow, Cond.code yX7_trimNow cX7_trimNow 2 (some .int), Cond.methodLink RX7 115 yX7_loadMoment, Cond.instanceMethod yX7_loadMoment, Cond.selects RX7 yX7_loadMoment yX7_loadMoment, Cond.code yX7_loadMoment cX7_loadMoment 3 (some .int), Cond.fieldLink RX7 13 "FairBattenModel" "at" "[I", Cond.methodLink RX7 118 yX7_mean, Cond.static yX7_mean, Cond.code yX7_mean cX7_mean 2 (some .int), Cond.methodLink RX7 121 yX7_momentOf, Cond.instanceMethod yX7_momentOf, Cond.selects RX7 yX7_momentOf yX7_momentOf, Cond.code yX7_momentOf cX7_momentOf 4 (some .int), Cond.methodLink RX7 70 yX7_size]
def wsX7_launch_r3 : List Cond := [Cond.static yX7_size, Cond.code yX7_size cX7_size 1 (some .int), Cond.methodLink RX7 139 yX7_tideOn, Cond.instanceMethod yX7_tideOn, Cond.selects RX7 yX7_tideOn yX7_tideOn, Cond.code yX7_tideOn cX7_tideOn 4 (some .int), Cond.fieldLink RX7 136 "FairBattenModel" "tides" "I", Cond.fieldLink RX7 29 "FairBattenModel" "tideDay" "[I", Cond.fieldLink RX7 32 "FairBattenModel" "tide" "[I"]
def wsX7_launch : List Cond := .code yX7_launch cX7_launch 2 (some .int) :: ((wsX7_launch_r1 ++ (wsX7_launch_r2 ++ wsX7_launch_r3)) ++ wsX70)
def wsX7_pass : List Cond := .code yX7_pass cX7_pass 2 (some .int) :: ([.fieldLink RX7 148 "FairBattenModel" "today" "I", .fieldLink RX7 41 "FairBattenModel" "thrown" "I", .methodLink RX7 44 yX7_in, .static yX7_in, .initialized RX7, .code yX7_in cX7_in 3 (some .boolean)] ++ wsX70)
def wsJ9_abs_0f7a4 : List Cond := .code yJ9_abs_0f7a4 cJ9_abs_0f7a4 1 (some .int) :: ([])
def wsJ9_max_7cf53 : List Cond := .code yJ9_max_7cf53 cJ9_max_7cf53 2 (some .int) :: ([])
def wsJ9_min_7cf53 : List Cond := .code yJ9_min_7cf53 cJ9_min_7cf53 2 (some .int) :: ([])
def wsL_offset_r1 : List Cond := [Cond.classLink RL 13 "java/lang/IndexOutOfBoundsException", Cond.classLink RL 15 "java/lang/IllegalArgumentException", Cond.classLink RL 17 "java/lang/IllegalStateException", Cond.methodLink RL 7 yX6_offset, Cond.instanceMethod yX6_offset, Cond.selects RX6 yX6_offset yX6_offset, Cond.initialized RX6, Cond.code yX6_offset cX6_offset 5 (some .int), Cond.fieldLink RX6 10 "FairBatten" "hull" "LFairBatten$Hull;", Cond.methodLink RX6 62 yX6_refuseNoStation, Cond.static yX6_refuseNoStation, Cond.code yX6_refuseNoStation cX6_refuseNoStation 1 none, Cond.classLink RX6 202 "java/lang/IndexOutOfBoundsException", Cond.initialized "java/lang/IndexOutOfBoundsException", Cond.methodLink RX6 66 yX6_refuseNoWaterline, Cond.static yX6_refuseNoWaterline, Cond.code yX6_refuseNoWaterline cX6_refuseNoWaterline 1 none, Cond.methodLink RX6 69 yX6_refuseOutside, Cond.static yX6_refuseOutside, Cond.code yX6_refuseOutside cX6_refuseOutside 3 none, Cond.classLink RX6 216 "java/lang/IllegalArgumentException", Cond.initialized "java/lang/IllegalArgumentException", Cond.methodLink RX6 73 yX6_refuseLaunched, Cond.instanceMethod yX6_refuseLaunched]
def wsL_offset_r2 : List Cond := [Cond.selects RX6 yX6_refuseLaunched yX6_refuseLaunched, Cond.code yX6_refuseLaunched cX6_refuseLaunched 1 none, Cond.classLink RX6 103 "java/lang/IllegalStateException", Cond.initialized "java/lang/IllegalStateException", Cond.fieldLink RX6 58 "FairBatten" "launched" "Z"]
def wsL_offset : List Cond := .codeWith yL_offset cL_offset 6 (some .int) [(0, 12, 15, 13), (0, 12, 19, 15), (0, 12, 23, 17)] :: ((wsL_offset_r1 ++ wsL_offset_r2) ++ wsX60 ++ wsX40 ++ (vx_atS RX6 206 "java/lang/IndexOutOfBoundsException" ["java/lang/RuntimeException", "java/lang/Exception"]).filter goodWord ++ (vx_atS RX6 220 "java/lang/IllegalArgumentException" ["java/lang/RuntimeException", "java/lang/Exception"]).filter goodWord ++ (vx_atS RX6 107 "java/lang/IllegalStateException" ["java/lang/RuntimeException", "java/lang/Exception"]).filter goodWord)
def wsL_half : List Cond := .codeWith yL_half cL_half 5 (some .int) [(0, 10, 13, 13)] :: ([.classLink RL 13 "java/lang/IndexOutOfBoundsException", .methodLink RL 19 yX6_half, .instanceMethod yX6_half, .selects RX6 yX6_half yX6_half, .initialized RX6, .code yX6_half cX6_half 3 (some .int), .fieldLink RX6 10 "FairBatten" "hull" "LFairBatten$Hull;", .methodLink RX6 62 yX6_refuseNoStation, .static yX6_refuseNoStation, .code yX6_refuseNoStation cX6_refuseNoStation 1 none, .classLink RX6 202 "java/lang/IndexOutOfBoundsException", .initialized "java/lang/IndexOutOfBoundsException", .methodLink RX6 66 yX6_refuseNoWaterline, .static yX6_refuseNoWaterline, .code yX6_refuseNoWaterline cX6_refuseNoWaterline 1 none] ++ wsX60 ++ wsX40 ++ (vx_atS RX6 206 "java/lang/IndexOutOfBoundsException" ["java/lang/RuntimeException", "java/lang/Exception"]).filter goodWord)
def wsL_bend : List Cond := .codeWith yL_bend cL_bend 4 (some .int) [(0, 9, 12, 13)] :: ([.classLink RL 13 "java/lang/IndexOutOfBoundsException", .methodLink RL 23 yX6_bend, .instanceMethod yX6_bend, .selects RX6 yX6_bend yX6_bend, .initialized RX6, .code yX6_bend cX6_bend 2 (some .int), .fieldLink RX6 10 "FairBatten" "hull" "LFairBatten$Hull;", .methodLink RX6 66 yX6_refuseNoWaterline, .static yX6_refuseNoWaterline, .code yX6_refuseNoWaterline cX6_refuseNoWaterline 1 none, .classLink RX6 202 "java/lang/IndexOutOfBoundsException", .initialized "java/lang/IndexOutOfBoundsException", .methodLink RX6 80 yX6_bendOfLine, .static yX6_bendOfLine, .code yX6_bendOfLine cX6_bendOfLine 3 (some .int), .methodLink RX6 223 yX6_squareOfBend, .static yX6_squareOfBend, .code yX6_squareOfBend cX6_squareOfBend 4 (some .int)] ++ wsX60 ++ wsX40 ++ (vx_atS RX6 206 "java/lang/IndexOutOfBoundsException" ["java/lang/RuntimeException", "java/lang/Exception"]).filter goodWord)
def wsL_fair_r1 : List Cond := [Cond.classLink RL 13 "java/lang/IndexOutOfBoundsException", Cond.classLink RL 15 "java/lang/IllegalArgumentException", Cond.classLink RL 17 "java/lang/IllegalStateException", Cond.methodLink RL 27 yX6_fair, Cond.instanceMethod yX6_fair, Cond.selects RX6 yX6_fair yX6_fair, Cond.initialized RX6, Cond.code yX6_fair cX6_fair 5 (some .int), Cond.fieldLink RX6 10 "FairBatten" "hull" "LFairBatten$Hull;", Cond.fieldLink RX6 19 "FairBatten" "batten" "LFairBatten$Batten;", Cond.methodLink RX6 66 yX6_refuseNoWaterline, Cond.static yX6_refuseNoWaterline, Cond.code yX6_refuseNoWaterline cX6_refuseNoWaterline 1 none, Cond.classLink RX6 202 "java/lang/IndexOutOfBoundsException", Cond.initialized "java/lang/IndexOutOfBoundsException", Cond.methodLink RX6 69 yX6_refuseOutside, Cond.static yX6_refuseOutside, Cond.code yX6_refuseOutside cX6_refuseOutside 3 none, Cond.classLink RX6 216 "java/lang/IllegalArgumentException", Cond.initialized "java/lang/IllegalArgumentException", Cond.methodLink RX6 73 yX6_refuseLaunched, Cond.instanceMethod yX6_refuseLaunched, Cond.selects RX6 yX6_refuseLaunched yX6_refuseLaunched, Cond.code yX6_refuseLaunched cX6_refuseLaunched 1 none]
def wsL_fair_r2 : List Cond := [Cond.classLink RX6 103 "java/lang/IllegalStateException", Cond.initialized "java/lang/IllegalStateException", Cond.fieldLink RX6 58 "FairBatten" "launched" "Z", Cond.methodLink RX6 80 yX6_bendOfLine, Cond.static yX6_bendOfLine, Cond.code yX6_bendOfLine cX6_bendOfLine 3 (some .int), Cond.methodLink RX6 223 yX6_squareOfBend, Cond.static yX6_squareOfBend, Cond.code yX6_squareOfBend cX6_squareOfBend 4 (some .int), Cond.instanceMethod yX1_straighten, Cond.initialized RX1, Cond.selects RX1 yX1_straighten yX1_straighten, Cond.code yX1_straighten cX1_straighten 4 none, Cond.fieldLink RX1 16 "FairBatten$Batten" "lowest" "[I", Cond.methodLink RX1 23 Lib.Math.max.name, Cond.static Lib.Math.max.name, Cond.initialized "java/lang/Math", Cond.code Lib.Math.max.name Lib.Math.max.code 2 (some .int), Cond.fieldLink RX1 20 "FairBatten$Batten" "choices" "[I", Cond.methodLink RX1 29 Lib.Math.min.name, Cond.static Lib.Math.min.name, Cond.code Lib.Math.min.name Lib.Math.min.code 2 (some .int), Cond.methodLink RX1 32 yX1_reckonRest, Cond.instanceMethod yX1_reckonRest]
def wsL_fair_r3 : List Cond := [Cond.selects RX1 yX1_reckonRest yX1_reckonRest, Cond.code yX1_reckonRest cX1_reckonRest 6 none, Cond.constant RX1 40 (2000000), Cond.fieldLink RX1 13 "FairBatten$Batten" "rest" "[[I", Cond.methodLink RX1 41 yX1_bendWith, Cond.instanceMethod yX1_bendWith, Cond.selects RX1 yX1_bendWith yX1_bendWith, Cond.code yX1_bendWith cX1_bendWith 6 (some .int), Cond.methodLink RX1 36 yX1_draw, Cond.instanceMethod yX1_draw, Cond.selects RX1 yX1_draw yX1_draw, Cond.code yX1_draw cX1_draw 7 none, Cond.methodLink RX1 49 yX1_lowestThird, Cond.instanceMethod yX1_lowestThird, Cond.selects RX1 yX1_lowestThird yX1_lowestThird, Cond.code yX1_lowestThird cX1_lowestThird 8 (some .int)]
def wsL_fair : List Cond := .codeWith yL_fair cL_fair 5 (some .int) [(0, 10, 13, 13), (0, 10, 17, 15), (0, 10, 21, 17)] :: ((wsL_fair_r1 ++ (wsL_fair_r2 ++ wsL_fair_r3)) ++ wsX60 ++ wsX40 ++ wsX10 ++ (vx_atS RX6 206 "java/lang/IndexOutOfBoundsException" ["java/lang/RuntimeException", "java/lang/Exception"]).filter goodWord ++ (vx_atS RX6 220 "java/lang/IllegalArgumentException" ["java/lang/RuntimeException", "java/lang/Exception"]).filter goodWord ++ (vx_atS RX6 107 "java/lang/IllegalStateException" ["java/lang/RuntimeException", "java/lang/Exception"]).filter goodWord)
def wsL_area : List Cond := .codeWith yL_area cL_area 5 (some .int) [(0, 10, 13, 13)] :: ([.classLink RL 13 "java/lang/IndexOutOfBoundsException", .methodLink RL 30 yX6_area, .instanceMethod yX6_area, .selects RX6 yX6_area yX6_area, .initialized RX6, .code yX6_area cX6_area 3 (some .int), .fieldLink RX6 10 "FairBatten" "hull" "LFairBatten$Hull;", .methodLink RX6 62 yX6_refuseNoStation, .static yX6_refuseNoStation, .code yX6_refuseNoStation cX6_refuseNoStation 1 none, .classLink RX6 202 "java/lang/IndexOutOfBoundsException", .initialized "java/lang/IndexOutOfBoundsException", .methodLink RX6 66 yX6_refuseNoWaterline, .static yX6_refuseNoWaterline, .code yX6_refuseNoWaterline cX6_refuseNoWaterline 1 none, .instanceMethod yX4_areaUpTo, .initialized RX4, .selects RX4 yX4_areaUpTo yX4_areaUpTo, .code yX4_areaUpTo cX4_areaUpTo 5 (some .int), .fieldLink RX4 11 "FairBatten$Hull" "lines" "[[I"] ++ wsX60 ++ wsX40 ++ (vx_atS RX6 206 "java/lang/IndexOutOfBoundsException" ["java/lang/RuntimeException", "java/lang/Exception"]).filter goodWord)
def wsL_volume : List Cond := .codeWith yL_volume cL_volume 4 (some .int) [(0, 9, 12, 13)] :: ([.classLink RL 13 "java/lang/IndexOutOfBoundsException", .methodLink RL 33 yX6_volume, .instanceMethod yX6_volume, .selects RX6 yX6_volume yX6_volume, .initialized RX6, .code yX6_volume cX6_volume 2 (some .int), .fieldLink RX6 10 "FairBatten" "hull" "LFairBatten$Hull;", .methodLink RX6 66 yX6_refuseNoWaterline, .static yX6_refuseNoWaterline, .code yX6_refuseNoWaterline cX6_refuseNoWaterline 1 none, .classLink RX6 202 "java/lang/IndexOutOfBoundsException", .initialized "java/lang/IndexOutOfBoundsException", .instanceMethod yX4_volumeUpTo, .initialized RX4, .selects RX4 yX4_volumeUpTo yX4_volumeUpTo, .code yX4_volumeUpTo cX4_volumeUpTo 4 (some .int), .methodLink RX4 16 yX4_areaUpTo, .instanceMethod yX4_areaUpTo, .selects RX4 yX4_areaUpTo yX4_areaUpTo, .code yX4_areaUpTo cX4_areaUpTo 5 (some .int), .fieldLink RX4 11 "FairBatten$Hull" "lines" "[[I"] ++ wsX60 ++ wsX40 ++ (vx_atS RX6 206 "java/lang/IndexOutOfBoundsException" ["java/lang/RuntimeException", "java/lang/Exception"]).filter goodWord)
def wsL_volumeAnew : List Cond := .codeWith yL_volumeAnew cL_volumeAnew 4 (some .int) [(0, 9, 12, 13)] :: ([.classLink RL 13 "java/lang/IndexOutOfBoundsException", .methodLink RL 36 yX6_volumeAnew, .instanceMethod yX6_volumeAnew, .selects RX6 yX6_volumeAnew yX6_volumeAnew, .initialized RX6, .code yX6_volumeAnew cX6_volumeAnew 2 (some .int), .fieldLink RX6 10 "FairBatten" "hull" "LFairBatten$Hull;", .methodLink RX6 66 yX6_refuseNoWaterline, .static yX6_refuseNoWaterline, .code yX6_refuseNoWaterline cX6_refuseNoWaterline 1 none, .classLink RX6 202 "java/lang/IndexOutOfBoundsException", .initialized "java/lang/IndexOutOfBoundsException", .instanceMethod yX4_volumeBySlices, .initialized RX4, .selects RX4 yX4_volumeBySlices yX4_volumeBySlices, .code yX4_volumeBySlices cX4_volumeBySlices 4 (some .int), .methodLink RX4 20 yX4_waterlineArea, .instanceMethod yX4_waterlineArea, .selects RX4 yX4_waterlineArea yX4_waterlineArea, .code yX4_waterlineArea cX4_waterlineArea 5 (some .int), .fieldLink RX4 11 "FairBatten$Hull" "lines" "[[I"] ++ wsX60 ++ wsX40 ++ (vx_atS RX6 206 "java/lang/IndexOutOfBoundsException" ["java/lang/RuntimeException", "java/lang/Exception"]).filter goodWord)
def wsL_weigh_r1 : List Cond := [Cond.classLink RL 13 "java/lang/IndexOutOfBoundsException", Cond.classLink RL 15 "java/lang/IllegalArgumentException", Cond.classLink RL 17 "java/lang/IllegalStateException", Cond.methodLink RL 39 yX6_weigh, Cond.instanceMethod yX6_weigh, Cond.selects RX6 yX6_weigh yX6_weigh, Cond.initialized RX6, Cond.code yX6_weigh cX6_weigh 3 (some .int), Cond.classLink RX6 103 "java/lang/IllegalStateException", Cond.initialized "java/lang/IllegalStateException", Cond.fieldLink RX6 26 "FairBatten" "cargo" "LFairBatten$Cargo;", Cond.methodLink RX6 62 yX6_refuseNoStation, Cond.static yX6_refuseNoStation, Cond.code yX6_refuseNoStation cX6_refuseNoStation 1 none, Cond.classLink RX6 202 "java/lang/IndexOutOfBoundsException", Cond.initialized "java/lang/IndexOutOfBoundsException", Cond.methodLink RX6 69 yX6_refuseOutside, Cond.static yX6_refuseOutside, Cond.code yX6_refuseOutside cX6_refuseOutside 3 none, Cond.classLink RX6 216 "java/lang/IllegalArgumentException", Cond.initialized "java/lang/IllegalArgumentException", Cond.instanceMethod yX3_isFull, Cond.initialized RX3, Cond.selects RX3 yX3_isFull yX3_isFull]
def wsL_weigh_r2 : List Cond := [Cond.code yX3_isFull cX3_isFull 1 (some .boolean), Cond.fieldLink RX3 16 "FairBatten$Cargo" "count" "I", Cond.instanceMethod yX3_add, Cond.selects RX3 yX3_add yX3_add, Cond.code yX3_add cX3_add 3 (some .int), Cond.fieldLink RX3 9 "FairBatten$Cargo" "weights" "[I", Cond.fieldLink RX3 13 "FairBatten$Cargo" "stations" "[I"]
def wsL_weigh : List Cond := .codeWith yL_weigh cL_weigh 5 (some .int) [(0, 10, 13, 13), (0, 10, 17, 15), (0, 10, 21, 17)] :: ((wsL_weigh_r1 ++ wsL_weigh_r2) ++ wsX60 ++ wsX30 ++ (vx_atS RX6 107 "java/lang/IllegalStateException" ["java/lang/RuntimeException", "java/lang/Exception"]).filter goodWord ++ (vx_atS RX6 206 "java/lang/IndexOutOfBoundsException" ["java/lang/RuntimeException", "java/lang/Exception"]).filter goodWord ++ (vx_atS RX6 220 "java/lang/IllegalArgumentException" ["java/lang/RuntimeException", "java/lang/Exception"]).filter goodWord)
def wsL_change_r1 : List Cond := [Cond.classLink RL 13 "java/lang/IndexOutOfBoundsException", Cond.classLink RL 15 "java/lang/IllegalArgumentException", Cond.methodLink RL 42 yX6_change, Cond.instanceMethod yX6_change, Cond.selects RX6 yX6_change yX6_change, Cond.initialized RX6, Cond.code yX6_change cX6_change 4 (some .int), Cond.fieldLink RX6 26 "FairBatten" "cargo" "LFairBatten$Cargo;", Cond.methodLink RX6 113 yX6_refuseNoWeight, Cond.instanceMethod yX6_refuseNoWeight, Cond.selects RX6 yX6_refuseNoWeight yX6_refuseNoWeight, Cond.code yX6_refuseNoWeight cX6_refuseNoWeight 2 none, Cond.classLink RX6 202 "java/lang/IndexOutOfBoundsException", Cond.initialized "java/lang/IndexOutOfBoundsException", Cond.methodLink RX6 62 yX6_refuseNoStation, Cond.static yX6_refuseNoStation, Cond.code yX6_refuseNoStation cX6_refuseNoStation 1 none, Cond.methodLink RX6 69 yX6_refuseOutside, Cond.static yX6_refuseOutside, Cond.code yX6_refuseOutside cX6_refuseOutside 3 none, Cond.classLink RX6 216 "java/lang/IllegalArgumentException", Cond.initialized "java/lang/IllegalArgumentException", Cond.instanceMethod yX3_replace, Cond.initialized RX3]
def wsL_change_r2 : List Cond := [Cond.selects RX3 yX3_replace yX3_replace, Cond.code yX3_replace cX3_replace 5 (some .int), Cond.fieldLink RX3 9 "FairBatten$Cargo" "weights" "[I", Cond.fieldLink RX3 13 "FairBatten$Cargo" "stations" "[I"]
def wsL_change : List Cond := .codeWith yL_change cL_change 6 (some .int) [(0, 12, 15, 13), (0, 12, 19, 15)] :: ((wsL_change_r1 ++ wsL_change_r2) ++ wsX60 ++ wsX30 ++ (vx_atS RX6 206 "java/lang/IndexOutOfBoundsException" ["java/lang/RuntimeException", "java/lang/Exception"]).filter goodWord ++ (vx_atS RX6 220 "java/lang/IllegalArgumentException" ["java/lang/RuntimeException", "java/lang/Exception"]).filter goodWord)
def wsL_ballast_r1 : List Cond := [Cond.classLink RL 15 "java/lang/IllegalArgumentException", Cond.methodLink RL 45 yX6_ballast, Cond.instanceMethod yX6_ballast, Cond.selects RX6 yX6_ballast yX6_ballast, Cond.initialized RX6, Cond.code yX6_ballast cX6_ballast 2 (some .int), Cond.fieldLink RX6 33 "FairBatten" "buoyancy" "LFairBatten$Buoyancy;", Cond.fieldLink RX6 10 "FairBatten" "hull" "LFairBatten$Hull;", Cond.fieldLink RX6 26 "FairBatten" "cargo" "LFairBatten$Cargo;", Cond.methodLink RX6 69 yX6_refuseOutside, Cond.static yX6_refuseOutside, Cond.code yX6_refuseOutside cX6_refuseOutside 3 none, Cond.classLink RX6 216 "java/lang/IllegalArgumentException", Cond.initialized "java/lang/IllegalArgumentException", Cond.instanceMethod yX2_measure, Cond.initialized RX2, Cond.selects RX2 yX2_measure yX2_measure, Cond.code yX2_measure cX2_measure 3 none, Cond.fieldLink RX2 9 "FairBatten$Buoyancy" "volumes" "[I", Cond.fieldLink RX2 15 "FairBatten$Buoyancy" "moments" "[I", Cond.instanceMethod yX4_volumeUpTo, Cond.initialized RX4, Cond.selects RX4 yX4_volumeUpTo yX4_volumeUpTo, Cond.code yX4_volumeUpTo cX4_volumeUpTo 4 (some .int)]
def wsL_ballast_r2 : List Cond := [Cond.methodLink RX4 16 yX4_areaUpTo, Cond.instanceMethod yX4_areaUpTo, Cond.selects RX4 yX4_areaUpTo yX4_areaUpTo, Cond.code yX4_areaUpTo cX4_areaUpTo 5 (some .int), Cond.fieldLink RX4 11 "FairBatten$Hull" "lines" "[[I", Cond.instanceMethod yX4_momentUpTo, Cond.selects RX4 yX4_momentUpTo yX4_momentUpTo, Cond.code yX4_momentUpTo cX4_momentUpTo 5 (some .int), Cond.instanceMethod yX2_setBallast, Cond.selects RX2 yX2_setBallast yX2_setBallast, Cond.code yX2_setBallast cX2_setBallast 10 none, Cond.methodLink RX2 51 Lib.Math.abs.name, Cond.static Lib.Math.abs.name, Cond.initialized "java/lang/Math", Cond.code Lib.Math.abs.name Lib.Math.abs.code 1 (some .int), Cond.instanceMethod yX3_loadWithoutBallast, Cond.initialized RX3, Cond.selects RX3 yX3_loadWithoutBallast yX3_loadWithoutBallast, Cond.code yX3_loadWithoutBallast cX3_loadWithoutBallast 3 (some .int), Cond.fieldLink RX3 16 "FairBatten$Cargo" "count" "I", Cond.fieldLink RX3 9 "FairBatten$Cargo" "weights" "[I", Cond.instanceMethod yX3_momentWithoutBallast, Cond.selects RX3 yX3_momentWithoutBallast yX3_momentWithoutBallast, Cond.code yX3_momentWithoutBallast cX3_momentWithoutBallast 3 (some .int)]
def wsL_ballast_r3 : List Cond := [Cond.fieldLink RX3 13 "FairBatten$Cargo" "stations" "[I", Cond.methodLink RX2 27 yX2_draughtUnder, Cond.instanceMethod yX2_draughtUnder, Cond.selects RX2 yX2_draughtUnder yX2_draughtUnder, Cond.code yX2_draughtUnder cX2_draughtUnder 3 (some .int), Cond.methodLink RX2 48 yX2_trimUnder, Cond.instanceMethod yX2_trimUnder, Cond.selects RX2 yX2_trimUnder yX2_trimUnder, Cond.code yX2_trimUnder cX2_trimUnder 4 (some .int), Cond.methodLink RX2 30 yX2_hundredfold, Cond.static yX2_hundredfold, Cond.code yX2_hundredfold cX2_hundredfold 2 (some .int), Cond.methodLink RX2 34 yJ9_floorDiv_7cf53, Cond.static yJ9_floorDiv_7cf53, Cond.initialized RJ9, Cond.code yJ9_floorDiv_7cf53 cJ9_floorDiv_7cf53 3 (some .int)]
def wsL_ballast : List Cond := .codeWith yL_ballast cL_ballast 4 (some .int) [(0, 9, 12, 15)] :: ((wsL_ballast_r1 ++ (wsL_ballast_r2 ++ wsL_ballast_r3)) ++ wsX60 ++ wsX30 ++ wsX20 ++ wsX40 ++ (vx_atS RX6 220 "java/lang/IllegalArgumentException" ["java/lang/RuntimeException", "java/lang/Exception"]).filter goodWord)
def wsL_strake : List Cond := .codeWith yL_strake cL_strake 4 (some .int) [(0, 9, 12, 13)] :: ([.classLink RL 13 "java/lang/IndexOutOfBoundsException", .methodLink RL 48 yX6_strake, .instanceMethod yX6_strake, .selects RX6 yX6_strake yX6_strake, .initialized RX6, .code yX6_strake cX6_strake 2 (some .int), .fieldLink RX6 10 "FairBatten" "hull" "LFairBatten$Hull;", .methodLink RX6 147 yX6_refuseNoStrake, .static yX6_refuseNoStrake, .code yX6_refuseNoStrake cX6_refuseNoStrake 1 none, .classLink RX6 202 "java/lang/IndexOutOfBoundsException", .initialized "java/lang/IndexOutOfBoundsException", .instanceMethod yX4_strakeLength, .initialized RX4, .selects RX4 yX4_strakeLength yX4_strakeLength, .code yX4_strakeLength cX4_strakeLength 5 (some .int), .fieldLink RX4 11 "FairBatten$Hull" "lines" "[[I", .methodLink RX4 24 Lib.Math.abs.name, .static Lib.Math.abs.name, .initialized "java/lang/Math", .code Lib.Math.abs.name Lib.Math.abs.code 1 (some .int)] ++ wsX60 ++ wsX40 ++ (vx_atS RX6 206 "java/lang/IndexOutOfBoundsException" ["java/lang/RuntimeException", "java/lang/Exception"]).filter goodWord)
def wsL_planks_r1 : List Cond := [Cond.classLink RL 15 "java/lang/IllegalArgumentException", Cond.methodLink RL 51 yX6_planks, Cond.instanceMethod yX6_planks, Cond.selects RX6 yX6_planks yX6_planks, Cond.initialized RX6, Cond.code yX6_planks cX6_planks 2 (some .int), Cond.fieldLink RX6 40 "FairBatten" "nest" "LFairBatten$Nest;", Cond.fieldLink RX6 10 "FairBatten" "hull" "LFairBatten$Hull;", Cond.methodLink RX6 69 yX6_refuseOutside, Cond.static yX6_refuseOutside, Cond.code yX6_refuseOutside cX6_refuseOutside 3 none, Cond.classLink RX6 216 "java/lang/IllegalArgumentException", Cond.initialized "java/lang/IllegalArgumentException", Cond.instanceMethod yX5_cutAll, Cond.initialized RX5, Cond.selects RX5 yX5_cutAll yX5_cutAll, Cond.code yX5_cutAll cX5_cutAll 4 none, Cond.fieldLink RX5 31 "FairBatten$Nest" "taken" "I", Cond.fieldLink RX5 18 "FairBatten$Nest" "order" "[I", Cond.fieldLink RX5 21 "FairBatten$Nest" "firstEnds" "[I", Cond.fieldLink RX5 15 "FairBatten$Nest" "lengths" "[I", Cond.fieldLink RX5 24 "FairBatten$Nest" "secondEnds" "[I", Cond.methodLink RX5 34 yX5_sortByLength, Cond.instanceMethod yX5_sortByLength]
def wsL_planks_r2 : List Cond := [Cond.selects RX5 yX5_sortByLength yX5_sortByLength, Cond.code yX5_sortByLength cX5_sortByLength 4 none, Cond.instanceMethod yX4_strakeLength, Cond.initialized RX4, Cond.selects RX4 yX4_strakeLength yX4_strakeLength, Cond.code yX4_strakeLength cX4_strakeLength 5 (some .int), Cond.fieldLink RX4 11 "FairBatten$Hull" "lines" "[[I", Cond.methodLink RX4 24 Lib.Math.abs.name, Cond.static Lib.Math.abs.name, Cond.initialized "java/lang/Math", Cond.code Lib.Math.abs.name Lib.Math.abs.code 1 (some .int), Cond.methodLink RX5 38 yX5_cut, Cond.instanceMethod yX5_cut, Cond.selects RX5 yX5_cut yX5_cut, Cond.code yX5_cut cX5_cut 4 (some .int), Cond.fieldLink RX5 27 "FairBatten$Nest" "plankLength" "I", Cond.fieldLink RX5 11 "FairBatten$Nest" "left" "[I"]
def wsL_planks : List Cond := .codeWith yL_planks cL_planks 4 (some .int) [(0, 9, 12, 15)] :: ((wsL_planks_r1 ++ wsL_planks_r2) ++ wsX60 ++ wsX50 ++ wsX40 ++ (vx_atS RX6 220 "java/lang/IllegalArgumentException" ["java/lang/RuntimeException", "java/lang/Exception"]).filter goodWord)
def wsL_plankOf_r1 : List Cond := [Cond.classLink RL 13 "java/lang/IndexOutOfBoundsException", Cond.methodLink RL 54 yX6_plankOf, Cond.instanceMethod yX6_plankOf, Cond.selects RX6 yX6_plankOf yX6_plankOf, Cond.initialized RX6, Cond.code yX6_plankOf cX6_plankOf 3 (some .int), Cond.fieldLink RX6 40 "FairBatten" "nest" "LFairBatten$Nest;", Cond.fieldLink RX6 10 "FairBatten" "hull" "LFairBatten$Hull;", Cond.methodLink RX6 147 yX6_refuseNoStrake, Cond.static yX6_refuseNoStrake, Cond.code yX6_refuseNoStrake cX6_refuseNoStrake 1 none, Cond.classLink RX6 202 "java/lang/IndexOutOfBoundsException", Cond.initialized "java/lang/IndexOutOfBoundsException", Cond.instanceMethod yX5_cutAll, Cond.initialized RX5, Cond.selects RX5 yX5_cutAll yX5_cutAll, Cond.code yX5_cutAll cX5_cutAll 4 none, Cond.fieldLink RX5 31 "FairBatten$Nest" "taken" "I", Cond.fieldLink RX5 18 "FairBatten$Nest" "order" "[I", Cond.fieldLink RX5 21 "FairBatten$Nest" "firstEnds" "[I", Cond.fieldLink RX5 15 "FairBatten$Nest" "lengths" "[I", Cond.fieldLink RX5 24 "FairBatten$Nest" "secondEnds" "[I", Cond.methodLink RX5 34 yX5_sortByLength, Cond.instanceMethod yX5_sortByLength]
def wsL_plankOf_r2 : List Cond := [Cond.selects RX5 yX5_sortByLength yX5_sortByLength, Cond.code yX5_sortByLength cX5_sortByLength 4 none, Cond.instanceMethod yX4_strakeLength, Cond.initialized RX4, Cond.selects RX4 yX4_strakeLength yX4_strakeLength, Cond.code yX4_strakeLength cX4_strakeLength 5 (some .int), Cond.fieldLink RX4 11 "FairBatten$Hull" "lines" "[[I", Cond.methodLink RX4 24 Lib.Math.abs.name, Cond.static Lib.Math.abs.name, Cond.initialized "java/lang/Math", Cond.code Lib.Math.abs.name Lib.Math.abs.code 1 (some .int), Cond.methodLink RX5 38 yX5_cut, Cond.instanceMethod yX5_cut, Cond.selects RX5 yX5_cut yX5_cut, Cond.code yX5_cut cX5_cut 4 (some .int), Cond.fieldLink RX5 27 "FairBatten$Nest" "plankLength" "I", Cond.fieldLink RX5 11 "FairBatten$Nest" "left" "[I"]
def wsL_plankOf : List Cond := .codeWith yL_plankOf cL_plankOf 5 (some .int) [(0, 10, 13, 13)] :: ((wsL_plankOf_r1 ++ wsL_plankOf_r2) ++ wsX60 ++ wsX50 ++ wsX40 ++ (vx_atS RX6 206 "java/lang/IndexOutOfBoundsException" ["java/lang/RuntimeException", "java/lang/Exception"]).filter goodWord)
def wsL_tide_r1 : List Cond := [Cond.classLink RL 15 "java/lang/IllegalArgumentException", Cond.classLink RL 17 "java/lang/IllegalStateException", Cond.methodLink RL 58 yX6_tide, Cond.instanceMethod yX6_tide, Cond.selects RX6 yX6_tide yX6_tide, Cond.initialized RX6, Cond.code yX6_tide cX6_tide 4 (some .int), Cond.classLink RX6 103 "java/lang/IllegalStateException", Cond.initialized "java/lang/IllegalStateException", Cond.fieldLink RX6 47 "FairBatten" "almanac" "LFairBatten$Almanac;", Cond.methodLink RX6 69 yX6_refuseOutside, Cond.static yX6_refuseOutside, Cond.code yX6_refuseOutside cX6_refuseOutside 3 none, Cond.classLink RX6 216 "java/lang/IllegalArgumentException", Cond.initialized "java/lang/IllegalArgumentException", Cond.instanceMethod yX0_hasRoomFor, Cond.initialized RX0, Cond.selects RX0 yX0_hasRoomFor yX0_hasRoomFor, Cond.code yX0_hasRoomFor cX0_hasRoomFor 2 (some .boolean), Cond.fieldLink RX0 18 "FairBatten$Almanac" "count" "I", Cond.methodLink RX0 22 yX0_placeOf, Cond.instanceMethod yX0_placeOf, Cond.selects RX0 yX0_placeOf yX0_placeOf, Cond.code yX0_placeOf cX0_placeOf 3 (some .int)]
def wsL_tide_r2 : List Cond := [Cond.fieldLink RX0 11 "FairBatten$Almanac" "toldDays" "[I", Cond.instanceMethod yX0_heightOn, Cond.selects RX0 yX0_heightOn yX0_heightOn, Cond.code yX0_heightOn cX0_heightOn 3 (some .int), Cond.fieldLink RX0 15 "FairBatten$Almanac" "toldHeights" "[I", Cond.methodLink RX0 26 yJ9_floorMod_7cf53, Cond.static yJ9_floorMod_7cf53, Cond.initialized RJ9, Cond.code yJ9_floorMod_7cf53 cJ9_floorMod_7cf53 3 (some .int), Cond.instanceMethod yX0_tell, Cond.selects RX0 yX0_tell yX0_tell, Cond.code yX0_tell cX0_tell 4 none]
def wsL_tide : List Cond := .codeWith yL_tide cL_tide 5 (some .int) [(0, 10, 13, 15), (0, 10, 17, 17)] :: ((wsL_tide_r1 ++ wsL_tide_r2) ++ wsX60 ++ wsX00 ++ (vx_atS RX6 107 "java/lang/IllegalStateException" ["java/lang/RuntimeException", "java/lang/Exception"]).filter goodWord ++ (vx_atS RX6 220 "java/lang/IllegalArgumentException" ["java/lang/RuntimeException", "java/lang/Exception"]).filter goodWord)
def wsL_sill : List Cond := .codeWith yL_sill cL_sill 4 (some .int) [(0, 9, 12, 15)] :: ([.classLink RL 15 "java/lang/IllegalArgumentException", .methodLink RL 61 yX6_sill, .instanceMethod yX6_sill, .selects RX6 yX6_sill yX6_sill, .initialized RX6, .code yX6_sill cX6_sill 3 (some .int), .fieldLink RX6 51 "FairBatten" "sillHeight" "I", .methodLink RX6 69 yX6_refuseOutside, .static yX6_refuseOutside, .code yX6_refuseOutside cX6_refuseOutside 3 none, .classLink RX6 216 "java/lang/IllegalArgumentException", .initialized "java/lang/IllegalArgumentException"] ++ wsX60 ++ (vx_atS RX6 220 "java/lang/IllegalArgumentException" ["java/lang/RuntimeException", "java/lang/Exception"]).filter goodWord)
def wsL_launch_r1 : List Cond := [Cond.classLink RL 17 "java/lang/IllegalStateException", Cond.methodLink RL 64 yX6_launch, Cond.instanceMethod yX6_launch, Cond.selects RX6 yX6_launch yX6_launch, Cond.initialized RX6, Cond.code yX6_launch cX6_launch 3 (some .int), Cond.classLink RX6 103 "java/lang/IllegalStateException", Cond.initialized "java/lang/IllegalStateException", Cond.fieldLink RX6 47 "FairBatten" "almanac" "LFairBatten$Almanac;", Cond.fieldLink RX6 55 "FairBatten" "today" "I", Cond.fieldLink RX6 58 "FairBatten" "launched" "Z", Cond.methodLink RX6 73 yX6_refuseLaunched, Cond.instanceMethod yX6_refuseLaunched, Cond.selects RX6 yX6_refuseLaunched yX6_refuseLaunched, Cond.code yX6_refuseLaunched cX6_refuseLaunched 1 none, Cond.methodLink RX6 193 yX6_needed, Cond.instanceMethod yX6_needed, Cond.selects RX6 yX6_needed yX6_needed, Cond.code yX6_needed cX6_needed 2 (some .int), Cond.fieldLink RX6 51 "FairBatten" "sillHeight" "I", Cond.methodLink RX6 188 Lib.Math.abs.name, Cond.static Lib.Math.abs.name, Cond.initialized "java/lang/Math", Cond.code Lib.Math.abs.name Lib.Math.abs.code 1 (some .int)]
def wsL_launch_r2 : List Cond := [Cond.methodLink RX6 182 yX6_draught, Cond.instanceMethod yX6_draught, Cond.selects RX6 yX6_draught yX6_draught, Cond.code yX6_draught cX6_draught 1 (some .int), Cond.fieldLink RX6 33 "FairBatten" "buoyancy" "LFairBatten$Buoyancy;", Cond.fieldLink RX6 10 "FairBatten" "hull" "LFairBatten$Hull;", Cond.fieldLink RX6 26 "FairBatten" "cargo" "LFairBatten$Cargo;", Cond.instanceMethod yX2_measure, Cond.initialized RX2, Cond.selects RX2 yX2_measure yX2_measure, Cond.code yX2_measure cX2_measure 3 none, Cond.fieldLink RX2 9 "FairBatten$Buoyancy" "volumes" "[I", Cond.fieldLink RX2 15 "FairBatten$Buoyancy" "moments" "[I", Cond.instanceMethod yX4_volumeUpTo, Cond.initialized RX4, Cond.selects RX4 yX4_volumeUpTo yX4_volumeUpTo, Cond.code yX4_volumeUpTo cX4_volumeUpTo 4 (some .int), Cond.methodLink RX4 16 yX4_areaUpTo, Cond.instanceMethod yX4_areaUpTo, Cond.selects RX4 yX4_areaUpTo yX4_areaUpTo, Cond.code yX4_areaUpTo cX4_areaUpTo 5 (some .int), Cond.fieldLink RX4 11 "FairBatten$Hull" "lines" "[[I", Cond.instanceMethod yX4_momentUpTo, Cond.selects RX4 yX4_momentUpTo yX4_momentUpTo]
def wsL_launch_r3 : List Cond := [Cond.code yX4_momentUpTo cX4_momentUpTo 5 (some .int), Cond.instanceMethod yX3_wholeLoad, Cond.initialized RX3, Cond.selects RX3 yX3_wholeLoad yX3_wholeLoad, Cond.code yX3_wholeLoad cX3_wholeLoad 1 (some .int), Cond.fieldLink RX3 20 "FairBatten$Cargo" "ballastWeight" "I", Cond.methodLink RX3 26 yX3_loadWithoutBallast, Cond.instanceMethod yX3_loadWithoutBallast, Cond.selects RX3 yX3_loadWithoutBallast yX3_loadWithoutBallast, Cond.code yX3_loadWithoutBallast cX3_loadWithoutBallast 3 (some .int), Cond.fieldLink RX3 16 "FairBatten$Cargo" "count" "I", Cond.fieldLink RX3 9 "FairBatten$Cargo" "weights" "[I", Cond.instanceMethod yX2_draughtUnder, Cond.selects RX2 yX2_draughtUnder yX2_draughtUnder, Cond.code yX2_draughtUnder cX2_draughtUnder 3 (some .int), Cond.methodLink RX6 185 yX6_trim, Cond.instanceMethod yX6_trim, Cond.selects RX6 yX6_trim yX6_trim, Cond.code yX6_trim cX6_trim 1 (some .int), Cond.instanceMethod yX3_wholeMoment, Cond.selects RX3 yX3_wholeMoment yX3_wholeMoment, Cond.code yX3_wholeMoment cX3_wholeMoment 1 (some .int), Cond.fieldLink RX3 23 "FairBatten$Cargo" "ballastStation" "I", Cond.methodLink RX3 30 yX3_momentWithoutBallast]
def wsL_launch_r4 : List Cond := [Cond.instanceMethod yX3_momentWithoutBallast, Cond.selects RX3 yX3_momentWithoutBallast yX3_momentWithoutBallast, Cond.code yX3_momentWithoutBallast cX3_momentWithoutBallast 3 (some .int), Cond.fieldLink RX3 13 "FairBatten$Cargo" "stations" "[I", Cond.instanceMethod yX2_trimUnder, Cond.selects RX2 yX2_trimUnder yX2_trimUnder, Cond.code yX2_trimUnder cX2_trimUnder 4 (some .int), Cond.methodLink RX2 27 yX2_draughtUnder, Cond.methodLink RX2 30 yX2_hundredfold, Cond.static yX2_hundredfold, Cond.code yX2_hundredfold cX2_hundredfold 2 (some .int), Cond.methodLink RX2 34 yJ9_floorDiv_7cf53, Cond.static yJ9_floorDiv_7cf53, Cond.initialized RJ9, Cond.code yJ9_floorDiv_7cf53 cJ9_floorDiv_7cf53 3 (some .int), Cond.instanceMethod yX0_heightOn, Cond.initialized RX0, Cond.selects RX0 yX0_heightOn yX0_heightOn, Cond.code yX0_heightOn cX0_heightOn 3 (some .int), Cond.fieldLink RX0 15 "FairBatten$Almanac" "toldHeights" "[I", Cond.methodLink RX0 22 yX0_placeOf, Cond.instanceMethod yX0_placeOf, Cond.selects RX0 yX0_placeOf yX0_placeOf, Cond.code yX0_placeOf cX0_placeOf 3 (some .int)]
def wsL_launch_r5 : List Cond := [Cond.fieldLink RX0 18 "FairBatten$Almanac" "count" "I", Cond.fieldLink RX0 11 "FairBatten$Almanac" "toldDays" "[I", Cond.methodLink RX0 26 yJ9_floorMod_7cf53, Cond.static yJ9_floorMod_7cf53, Cond.code yJ9_floorMod_7cf53 cJ9_floorMod_7cf53 3 (some .int)]
def wsL_launch : List Cond := .codeWith yL_launch cL_launch 3 (some .int) [(0, 8, 11, 17)] :: ((wsL_launch_r1 ++ (wsL_launch_r2 ++ (wsL_launch_r3 ++ (wsL_launch_r4 ++ wsL_launch_r5)))) ++ wsX60 ++ wsX20 ++ wsX40 ++ wsX30 ++ wsX00 ++ (vx_atS RX6 107 "java/lang/IllegalStateException" ["java/lang/RuntimeException", "java/lang/Exception"]).filter goodWord)
def wsL_pass : List Cond := .codeWith yL_pass cL_pass 4 (some .int) [(0, 9, 12, 15), (0, 9, 15, 17)] :: ([.classLink RL 15 "java/lang/IllegalArgumentException", .classLink RL 17 "java/lang/IllegalStateException", .methodLink RL 68 yX6_pass, .instanceMethod yX6_pass, .selects RX6 yX6_pass yX6_pass, .initialized RX6, .code yX6_pass cX6_pass 2 (some .int), .classLink RX6 103 "java/lang/IllegalStateException", .initialized "java/lang/IllegalStateException", .fieldLink RX6 55 "FairBatten" "today" "I", .methodLink RX6 69 yX6_refuseOutside, .static yX6_refuseOutside, .code yX6_refuseOutside cX6_refuseOutside 3 none, .classLink RX6 216 "java/lang/IllegalArgumentException", .initialized "java/lang/IllegalArgumentException"] ++ wsX60 ++ (vx_atS RX6 107 "java/lang/IllegalStateException" ["java/lang/RuntimeException", "java/lang/Exception"]).filter goodWord ++ (vx_atS RX6 220 "java/lang/IllegalArgumentException" ["java/lang/RuntimeException", "java/lang/Exception"]).filter goodWord)
def wsL_law0_r1 : List Cond := [Cond.classLink RL 8 RX6, Cond.instantiable RX6 9, Cond.initialized RX6, Cond.classLink RL 72 RX7, Cond.instantiable RX7 16, Cond.initialized RX7, Cond.arrayClass .long, Cond.methodLink RL 71 yX6_init, Cond.instanceMethod yX6_init, Cond.code yX6_init cX6_init 1 none, Cond.methodLink RX6 1 objectInit, Cond.instanceMethod objectInit, Cond.code objectInit ⟨#[0xb1]⟩ 1 none, Cond.classLink RX6 7 RX4, Cond.instantiable RX4 1, Cond.initialized RX4, Cond.fieldLink RX6 10 "FairBatten" "hull" "LFairBatten$Hull;", Cond.classLink RX6 16 RX1, Cond.instantiable RX1 3, Cond.initialized RX1, Cond.fieldLink RX6 19 "FairBatten" "batten" "LFairBatten$Batten;", Cond.classLink RX6 23 RX3, Cond.instantiable RX3 5, Cond.initialized RX3]
def wsL_law0_r2 : List Cond := [Cond.fieldLink RX6 26 "FairBatten" "cargo" "LFairBatten$Cargo;", Cond.classLink RX6 30 RX2, Cond.instantiable RX2 2, Cond.initialized RX2, Cond.fieldLink RX6 33 "FairBatten" "buoyancy" "LFairBatten$Buoyancy;", Cond.classLink RX6 37 RX5, Cond.instantiable RX5 7, Cond.initialized RX5, Cond.fieldLink RX6 40 "FairBatten" "nest" "LFairBatten$Nest;", Cond.classLink RX6 44 RX0, Cond.instantiable RX0 3, Cond.initialized RX0, Cond.fieldLink RX6 47 "FairBatten" "almanac" "LFairBatten$Almanac;", Cond.fieldLink RX6 51 "FairBatten" "sillHeight" "I", Cond.fieldLink RX6 55 "FairBatten" "today" "I", Cond.fieldLink RX6 58 "FairBatten" "launched" "Z", Cond.instanceMethod yX4_init, Cond.code yX4_init cX4_init 1 none, Cond.methodLink RX4 3 objectInit, Cond.classLink RX4 9 "[[I", Cond.arrayClass .int, Cond.fieldLink RX4 11 "FairBatten$Hull" "lines" "[[I", Cond.instanceMethod yX1_init, Cond.code yX1_init cX1_init 1 none]
def wsL_law0_r3 : List Cond := [Cond.methodLink RX1 3 objectInit, Cond.classLink RX1 11 "[[I", Cond.fieldLink RX1 13 "FairBatten$Batten" "rest" "[[I", Cond.fieldLink RX1 16 "FairBatten$Batten" "lowest" "[I", Cond.fieldLink RX1 20 "FairBatten$Batten" "choices" "[I", Cond.instanceMethod yX3_init, Cond.code yX3_init cX3_init 1 none, Cond.methodLink RX3 1 objectInit, Cond.fieldLink RX3 9 "FairBatten$Cargo" "weights" "[I", Cond.fieldLink RX3 13 "FairBatten$Cargo" "stations" "[I", Cond.fieldLink RX3 16 "FairBatten$Cargo" "count" "I", Cond.fieldLink RX3 20 "FairBatten$Cargo" "ballastWeight" "I", Cond.fieldLink RX3 23 "FairBatten$Cargo" "ballastStation" "I", Cond.instanceMethod yX2_init, Cond.code yX2_init cX2_init 1 none, Cond.methodLink RX2 3 objectInit, Cond.fieldLink RX2 9 "FairBatten$Buoyancy" "volumes" "[I", Cond.fieldLink RX2 15 "FairBatten$Buoyancy" "moments" "[I", Cond.instanceMethod yX5_init, Cond.code yX5_init cX5_init 1 none, Cond.methodLink RX5 3 objectInit, Cond.fieldLink RX5 11 "FairBatten$Nest" "left" "[I", Cond.fieldLink RX5 15 "FairBatten$Nest" "lengths" "[I", Cond.fieldLink RX5 18 "FairBatten$Nest" "order" "[I"]
def wsL_law0_r4 : List Cond := [Cond.fieldLink RX5 21 "FairBatten$Nest" "firstEnds" "[I", Cond.fieldLink RX5 24 "FairBatten$Nest" "secondEnds" "[I", Cond.fieldLink RX5 27 "FairBatten$Nest" "plankLength" "I", Cond.fieldLink RX5 31 "FairBatten$Nest" "taken" "I", Cond.instanceMethod yX0_init, Cond.code yX0_init cX0_init 1 none, Cond.methodLink RX0 3 objectInit, Cond.fieldLink RX0 11 "FairBatten$Almanac" "toldDays" "[I", Cond.fieldLink RX0 15 "FairBatten$Almanac" "toldHeights" "[I", Cond.fieldLink RX0 18 "FairBatten$Almanac" "count" "I", Cond.methodLink RL 74 yX7_init, Cond.instanceMethod yX7_init, Cond.code yX7_init cX7_init 1 none, Cond.methodLink RX7 1 objectInit, Cond.fieldLink RX7 7 "FairBattenModel" "half" "[I", Cond.fieldLink RX7 13 "FairBattenModel" "at" "[I", Cond.fieldLink RX7 16 "FairBattenModel" "weight" "[I", Cond.fieldLink RX7 19 "FairBattenModel" "length" "I", Cond.fieldLink RX7 23 "FairBattenModel" "left" "[I", Cond.fieldLink RX7 26 "FairBattenModel" "cutFrom" "[I", Cond.fieldLink RX7 29 "FairBattenModel" "tideDay" "[I", Cond.fieldLink RX7 32 "FairBattenModel" "tide" "[I", Cond.fieldLink RX7 35 "FairBattenModel" "behind" "[I", Cond.fieldLink RX7 38 "FairBattenModel" "line" "[I"]
def wsL_law0_r5 : List Cond := [Cond.methodLink RL 75 yL_offset, Cond.static yL_offset, Cond.initialized RL, Cond.codeWith yL_offset cL_offset 6 (some .int) [(0, 12, 15, 13), (0, 12, 19, 15), (0, 12, 23, 17)], Cond.classLink RL 13 "java/lang/IndexOutOfBoundsException", Cond.classLink RL 15 "java/lang/IllegalArgumentException", Cond.classLink RL 17 "java/lang/IllegalStateException", Cond.methodLink RL 7 yX6_offset, Cond.instanceMethod yX6_offset, Cond.selects RX6 yX6_offset yX6_offset, Cond.code yX6_offset cX6_offset 5 (some .int), Cond.methodLink RX6 62 yX6_refuseNoStation, Cond.static yX6_refuseNoStation, Cond.code yX6_refuseNoStation cX6_refuseNoStation 1 none, Cond.classLink RX6 202 "java/lang/IndexOutOfBoundsException", Cond.initialized "java/lang/IndexOutOfBoundsException", Cond.methodLink RX6 66 yX6_refuseNoWaterline, Cond.static yX6_refuseNoWaterline, Cond.code yX6_refuseNoWaterline cX6_refuseNoWaterline 1 none, Cond.methodLink RX6 69 yX6_refuseOutside, Cond.static yX6_refuseOutside, Cond.code yX6_refuseOutside cX6_refuseOutside 3 none, Cond.classLink RX6 216 "java/lang/IllegalArgumentException", Cond.initialized "java/lang/IllegalArgumentException"]
def wsL_law0_r6 : List Cond := [Cond.methodLink RX6 73 yX6_refuseLaunched, Cond.instanceMethod yX6_refuseLaunched, Cond.selects RX6 yX6_refuseLaunched yX6_refuseLaunched, Cond.code yX6_refuseLaunched cX6_refuseLaunched 1 none, Cond.classLink RX6 103 "java/lang/IllegalStateException", Cond.initialized "java/lang/IllegalStateException", Cond.methodLink RL 80 yX7_offset, Cond.instanceMethod yX7_offset, Cond.selects RX7 yX7_offset yX7_offset, Cond.code yX7_offset cX7_offset 5 (some .int), Cond.fieldLink RX7 55 "FairBattenModel" "isLaunched" "Z", Cond.fieldLink RX7 41 "FairBattenModel" "thrown" "I", Cond.methodLink RX7 48 yX7_isStation, Cond.static yX7_isStation, Cond.code yX7_isStation cX7_isStation 1 (some .boolean), Cond.methodLink RX7 44 yX7_in, Cond.static yX7_in, Cond.code yX7_in cX7_in 3 (some .boolean), Cond.methodLink RX7 52 yX7_isWaterline, Cond.static yX7_isWaterline, Cond.code yX7_isWaterline cX7_isWaterline 1 (some .boolean), Cond.methodLink RX7 59 yX7_halfAt, Cond.instanceMethod yX7_halfAt, Cond.selects RX7 yX7_halfAt yX7_halfAt]
def wsL_law0_r7 : List Cond := [Cond.code yX7_halfAt cX7_halfAt 3 (some .int), Cond.methodLink RL 81 yX7_thrown, Cond.instanceMethod yX7_thrown, Cond.selects RX7 yX7_thrown yX7_thrown, Cond.code yX7_thrown cX7_thrown 1 (some .int), Cond.methodLink RL 84 yL_half, Cond.static yL_half, Cond.codeWith yL_half cL_half 5 (some .int) [(0, 10, 13, 13)], Cond.methodLink RL 19 yX6_half, Cond.instanceMethod yX6_half, Cond.selects RX6 yX6_half yX6_half, Cond.code yX6_half cX6_half 3 (some .int), Cond.methodLink RL 87 yX7_half, Cond.instanceMethod yX7_half, Cond.selects RX7 yX7_half yX7_half, Cond.code yX7_half cX7_half 3 (some .int), Cond.methodLink RL 88 yL_bend, Cond.static yL_bend, Cond.codeWith yL_bend cL_bend 4 (some .int) [(0, 9, 12, 13)], Cond.methodLink RL 23 yX6_bend, Cond.instanceMethod yX6_bend, Cond.selects RX6 yX6_bend yX6_bend, Cond.code yX6_bend cX6_bend 2 (some .int), Cond.methodLink RX6 80 yX6_bendOfLine]
def wsL_law0_r8 : List Cond := [Cond.static yX6_bendOfLine, Cond.code yX6_bendOfLine cX6_bendOfLine 3 (some .int), Cond.methodLink RX6 223 yX6_squareOfBend, Cond.static yX6_squareOfBend, Cond.code yX6_squareOfBend cX6_squareOfBend 4 (some .int), Cond.methodLink RL 91 yX7_bend, Cond.instanceMethod yX7_bend, Cond.selects RX7 yX7_bend yX7_bend, Cond.code yX7_bend cX7_bend 2 (some .int), Cond.methodLink RX7 67 yX7_bendOf, Cond.instanceMethod yX7_bendOf, Cond.selects RX7 yX7_bendOf yX7_bendOf, Cond.code yX7_bendOf cX7_bendOf 4 (some .int), Cond.methodLink RX7 63 yX7_square, Cond.static yX7_square, Cond.code yX7_square cX7_square 1 (some .int), Cond.methodLink RL 92 yL_fair, Cond.static yL_fair, Cond.codeWith yL_fair cL_fair 5 (some .int) [(0, 10, 13, 13), (0, 10, 17, 15), (0, 10, 21, 17)], Cond.methodLink RL 27 yX6_fair, Cond.instanceMethod yX6_fair, Cond.selects RX6 yX6_fair yX6_fair, Cond.code yX6_fair cX6_fair 5 (some .int), Cond.instanceMethod yX1_straighten]
def wsL_law0_r9 : List Cond := [Cond.selects RX1 yX1_straighten yX1_straighten, Cond.code yX1_straighten cX1_straighten 4 none, Cond.methodLink RX1 23 Lib.Math.max.name, Cond.static Lib.Math.max.name, Cond.initialized "java/lang/Math", Cond.code Lib.Math.max.name Lib.Math.max.code 2 (some .int), Cond.methodLink RX1 29 Lib.Math.min.name, Cond.static Lib.Math.min.name, Cond.code Lib.Math.min.name Lib.Math.min.code 2 (some .int), Cond.methodLink RX1 32 yX1_reckonRest, Cond.instanceMethod yX1_reckonRest, Cond.selects RX1 yX1_reckonRest yX1_reckonRest, Cond.code yX1_reckonRest cX1_reckonRest 6 none, Cond.constant RX1 40 (2000000), Cond.methodLink RX1 41 yX1_bendWith, Cond.instanceMethod yX1_bendWith, Cond.selects RX1 yX1_bendWith yX1_bendWith, Cond.code yX1_bendWith cX1_bendWith 6 (some .int), Cond.methodLink RX1 36 yX1_draw, Cond.instanceMethod yX1_draw, Cond.selects RX1 yX1_draw yX1_draw, Cond.code yX1_draw cX1_draw 7 none, Cond.methodLink RX1 49 yX1_lowestThird, Cond.instanceMethod yX1_lowestThird]
def wsL_law0_r10 : List Cond := [Cond.selects RX1 yX1_lowestThird yX1_lowestThird, Cond.code yX1_lowestThird cX1_lowestThird 8 (some .int), Cond.methodLink RL 94 yX7_fair, Cond.instanceMethod yX7_fair, Cond.selects RX7 yX7_fair yX7_fair, Cond.code yX7_fair cX7_fair 5 (some .int), Cond.methodLink RX7 89 yX7_findsBehind, Cond.instanceMethod yX7_findsBehind, Cond.selects RX7 yX7_findsBehind yX7_findsBehind, Cond.code yX7_findsBehind cX7_findsBehind 5 none, Cond.methodLink RX7 73 yX7_place, Cond.static yX7_place, Cond.code yX7_place cX7_place 3 (some .int), Cond.methodLink RX7 86 yX7_leastBy, Cond.instanceMethod yX7_leastBy, Cond.selects RX7 yX7_leastBy yX7_leastBy, Cond.code yX7_leastBy cX7_leastBy 9 (some .int), Cond.constant RX7 77 (100000000), Cond.methodLink RX7 78 yX7_may, Cond.instanceMethod yX7_may, Cond.selects RX7 yX7_may yX7_may, Cond.code yX7_may cX7_may 5 (some .boolean), Cond.methodLink RX7 70 yX7_size, Cond.static yX7_size]
def wsL_law0_r11 : List Cond := [Cond.code yX7_size cX7_size 1 (some .int), Cond.methodLink RX7 82 yX7_bendBy, Cond.instanceMethod yX7_bendBy, Cond.selects RX7 yX7_bendBy yX7_bendBy, Cond.code yX7_bendBy cX7_bendBy 7 (some .int), Cond.methodLink RX7 93 yX7_laysLine, Cond.instanceMethod yX7_laysLine, Cond.selects RX7 yX7_laysLine yX7_laysLine, Cond.code yX7_laysLine cX7_laysLine 9 none, Cond.methodLink RL 95 yL_area, Cond.static yL_area, Cond.codeWith yL_area cL_area 5 (some .int) [(0, 10, 13, 13)], Cond.methodLink RL 30 yX6_area, Cond.instanceMethod yX6_area, Cond.selects RX6 yX6_area yX6_area, Cond.code yX6_area cX6_area 3 (some .int), Cond.instanceMethod yX4_areaUpTo, Cond.selects RX4 yX4_areaUpTo yX4_areaUpTo, Cond.code yX4_areaUpTo cX4_areaUpTo 5 (some .int), Cond.methodLink RL 97 yX7_area, Cond.instanceMethod yX7_area, Cond.selects RX7 yX7_area yX7_area, Cond.code yX7_area cX7_area 3 (some .int), Cond.methodLink RX7 96 yX7_areaOf]
def wsL_law0_r12 : List Cond := [Cond.instanceMethod yX7_areaOf, Cond.selects RX7 yX7_areaOf yX7_areaOf, Cond.code yX7_areaOf cX7_areaOf 5 (some .int), Cond.methodLink RL 98 yL_volume, Cond.static yL_volume, Cond.codeWith yL_volume cL_volume 4 (some .int) [(0, 9, 12, 13)], Cond.methodLink RL 33 yX6_volume, Cond.instanceMethod yX6_volume, Cond.selects RX6 yX6_volume yX6_volume, Cond.code yX6_volume cX6_volume 2 (some .int), Cond.instanceMethod yX4_volumeUpTo, Cond.selects RX4 yX4_volumeUpTo yX4_volumeUpTo, Cond.code yX4_volumeUpTo cX4_volumeUpTo 4 (some .int), Cond.methodLink RX4 16 yX4_areaUpTo, Cond.methodLink RL 100 yX7_volume, Cond.instanceMethod yX7_volume, Cond.selects RX7 yX7_volume yX7_volume, Cond.code yX7_volume cX7_volume 2 (some .int), Cond.methodLink RX7 99 yX7_volumeOf, Cond.instanceMethod yX7_volumeOf, Cond.selects RX7 yX7_volumeOf yX7_volumeOf, Cond.code yX7_volumeOf cX7_volumeOf 4 (some .int), Cond.methodLink RL 101 yL_volumeAnew, Cond.static yL_volumeAnew]
def wsL_law0_r13 : List Cond := [Cond.codeWith yL_volumeAnew cL_volumeAnew 4 (some .int) [(0, 9, 12, 13)], Cond.methodLink RL 36 yX6_volumeAnew, Cond.instanceMethod yX6_volumeAnew, Cond.selects RX6 yX6_volumeAnew yX6_volumeAnew, Cond.code yX6_volumeAnew cX6_volumeAnew 2 (some .int), Cond.instanceMethod yX4_volumeBySlices, Cond.selects RX4 yX4_volumeBySlices yX4_volumeBySlices, Cond.code yX4_volumeBySlices cX4_volumeBySlices 4 (some .int), Cond.methodLink RX4 20 yX4_waterlineArea, Cond.instanceMethod yX4_waterlineArea, Cond.selects RX4 yX4_waterlineArea yX4_waterlineArea, Cond.code yX4_waterlineArea cX4_waterlineArea 5 (some .int), Cond.methodLink RL 103 yX7_volumeAnew, Cond.instanceMethod yX7_volumeAnew, Cond.selects RX7 yX7_volumeAnew yX7_volumeAnew, Cond.code yX7_volumeAnew cX7_volumeAnew 2 (some .int), Cond.methodLink RX7 102 yX7_volume, Cond.methodLink RL 104 yL_weigh, Cond.static yL_weigh, Cond.codeWith yL_weigh cL_weigh 5 (some .int) [(0, 10, 13, 13), (0, 10, 17, 15), (0, 10, 21, 17)], Cond.methodLink RL 39 yX6_weigh, Cond.instanceMethod yX6_weigh, Cond.selects RX6 yX6_weigh yX6_weigh, Cond.code yX6_weigh cX6_weigh 3 (some .int)]
def wsL_law0_r14 : List Cond := [Cond.instanceMethod yX3_isFull, Cond.selects RX3 yX3_isFull yX3_isFull, Cond.code yX3_isFull cX3_isFull 1 (some .boolean), Cond.instanceMethod yX3_add, Cond.selects RX3 yX3_add yX3_add, Cond.code yX3_add cX3_add 3 (some .int), Cond.methodLink RL 106 yX7_weigh, Cond.instanceMethod yX7_weigh, Cond.selects RX7 yX7_weigh yX7_weigh, Cond.code yX7_weigh cX7_weigh 3 (some .int), Cond.fieldLink RX7 105 "FairBattenModel" "weights" "I", Cond.methodLink RL 107 yL_change, Cond.static yL_change, Cond.codeWith yL_change cL_change 6 (some .int) [(0, 12, 15, 13), (0, 12, 19, 15)], Cond.methodLink RL 42 yX6_change, Cond.instanceMethod yX6_change, Cond.selects RX6 yX6_change yX6_change, Cond.code yX6_change cX6_change 4 (some .int), Cond.methodLink RX6 113 yX6_refuseNoWeight, Cond.instanceMethod yX6_refuseNoWeight, Cond.selects RX6 yX6_refuseNoWeight yX6_refuseNoWeight, Cond.code yX6_refuseNoWeight cX6_refuseNoWeight 2 none, Cond.instanceMethod yX3_replace, Cond.selects RX3 yX3_replace yX3_replace]
def wsL_law0_r15 : List Cond := [Cond.code yX3_replace cX3_replace 5 (some .int), Cond.methodLink RL 109 yX7_change, Cond.instanceMethod yX7_change, Cond.selects RX7 yX7_change yX7_change, Cond.code yX7_change cX7_change 5 (some .int), Cond.methodLink RL 110 yL_ballast, Cond.static yL_ballast, Cond.codeWith yL_ballast cL_ballast 4 (some .int) [(0, 9, 12, 15)], Cond.methodLink RL 45 yX6_ballast, Cond.instanceMethod yX6_ballast, Cond.selects RX6 yX6_ballast yX6_ballast, Cond.code yX6_ballast cX6_ballast 2 (some .int), Cond.instanceMethod yX2_measure, Cond.selects RX2 yX2_measure yX2_measure, Cond.code yX2_measure cX2_measure 3 none, Cond.instanceMethod yX4_momentUpTo, Cond.selects RX4 yX4_momentUpTo yX4_momentUpTo, Cond.code yX4_momentUpTo cX4_momentUpTo 5 (some .int), Cond.instanceMethod yX2_setBallast, Cond.selects RX2 yX2_setBallast yX2_setBallast, Cond.code yX2_setBallast cX2_setBallast 10 none, Cond.methodLink RX2 51 Lib.Math.abs.name, Cond.static Lib.Math.abs.name, Cond.code Lib.Math.abs.name Lib.Math.abs.code 1 (some .int)]
def wsL_law0_r16 : List Cond := [Cond.instanceMethod yX3_loadWithoutBallast, Cond.selects RX3 yX3_loadWithoutBallast yX3_loadWithoutBallast, Cond.code yX3_loadWithoutBallast cX3_loadWithoutBallast 3 (some .int), Cond.instanceMethod yX3_momentWithoutBallast, Cond.selects RX3 yX3_momentWithoutBallast yX3_momentWithoutBallast, Cond.code yX3_momentWithoutBallast cX3_momentWithoutBallast 3 (some .int), Cond.methodLink RX2 27 yX2_draughtUnder, Cond.instanceMethod yX2_draughtUnder, Cond.selects RX2 yX2_draughtUnder yX2_draughtUnder, Cond.code yX2_draughtUnder cX2_draughtUnder 3 (some .int), Cond.methodLink RX2 48 yX2_trimUnder, Cond.instanceMethod yX2_trimUnder, Cond.selects RX2 yX2_trimUnder yX2_trimUnder, Cond.code yX2_trimUnder cX2_trimUnder 4 (some .int), Cond.methodLink RX2 30 yX2_hundredfold, Cond.static yX2_hundredfold, Cond.code yX2_hundredfold cX2_hundredfold 2 (some .int), Cond.methodLink RX2 34 yJ9_floorDiv_7cf53, Cond.static yJ9_floorDiv_7cf53, Cond.initialized RJ9, Cond.code yJ9_floorDiv_7cf53 cJ9_floorDiv_7cf53 3 (some .int), Cond.methodLink RL 112 yX7_ballast, Cond.instanceMethod yX7_ballast, Cond.selects RX7 yX7_ballast yX7_ballast]
def wsL_law0_r17 : List Cond := [Cond.code yX7_ballast cX7_ballast 8 (some .int), Cond.methodLink RX7 112 yX7_draughtNow, Cond.instanceMethod yX7_draughtNow, Cond.selects RX7 yX7_draughtNow yX7_draughtNow, Cond.code yX7_draughtNow cX7_draughtNow 4 (some .int), Cond.methodLink RX7 108 yX7_loadNow, Cond.instanceMethod yX7_loadNow, Cond.selects RX7 yX7_loadNow yX7_loadNow, Cond.code yX7_loadNow cX7_loadNow 3 (some .int), Cond.methodLink RX7 124 yX7_trimNow, Cond.instanceMethod yX7_trimNow, Cond.selects RX7 yX7_trimNow yX7_trimNow, Cond.code yX7_trimNow cX7_trimNow 2 (some .int), Cond.methodLink RX7 115 yX7_loadMoment, Cond.instanceMethod yX7_loadMoment, Cond.selects RX7 yX7_loadMoment yX7_loadMoment, Cond.code yX7_loadMoment cX7_loadMoment 3 (some .int), Cond.methodLink RX7 118 yX7_mean, Cond.static yX7_mean, Cond.code yX7_mean cX7_mean 2 (some .int), Cond.methodLink RX7 121 yX7_momentOf, Cond.instanceMethod yX7_momentOf, Cond.selects RX7 yX7_momentOf yX7_momentOf, Cond.code yX7_momentOf cX7_momentOf 4 (some .int)]
def wsL_law0_r18 : List Cond := [Cond.methodLink RL 113 yX6_draught, Cond.instanceMethod yX6_draught, Cond.selects RX6 yX6_draught yX6_draught, Cond.code yX6_draught cX6_draught 1 (some .int), Cond.instanceMethod yX3_wholeLoad, Cond.selects RX3 yX3_wholeLoad yX3_wholeLoad, Cond.code yX3_wholeLoad cX3_wholeLoad 1 (some .int), Cond.methodLink RX3 26 yX3_loadWithoutBallast, Cond.methodLink RL 116 yX7_draught, Cond.instanceMethod yX7_draught, Cond.selects RX7 yX7_draught yX7_draught, Cond.code yX7_draught cX7_draught 1 (some .int), Cond.methodLink RL 117 yX6_trim, Cond.instanceMethod yX6_trim, Cond.selects RX6 yX6_trim yX6_trim, Cond.code yX6_trim cX6_trim 1 (some .int), Cond.instanceMethod yX3_wholeMoment, Cond.selects RX3 yX3_wholeMoment yX3_wholeMoment, Cond.code yX3_wholeMoment cX3_wholeMoment 1 (some .int), Cond.methodLink RX3 30 yX3_momentWithoutBallast, Cond.methodLink RL 120 yX7_trim, Cond.instanceMethod yX7_trim, Cond.selects RX7 yX7_trim yX7_trim, Cond.code yX7_trim cX7_trim 1 (some .int)]
def wsL_law0_r19 : List Cond := [Cond.methodLink RL 121 yL_strake, Cond.static yL_strake, Cond.codeWith yL_strake cL_strake 4 (some .int) [(0, 9, 12, 13)], Cond.methodLink RL 48 yX6_strake, Cond.instanceMethod yX6_strake, Cond.selects RX6 yX6_strake yX6_strake, Cond.code yX6_strake cX6_strake 2 (some .int), Cond.methodLink RX6 147 yX6_refuseNoStrake, Cond.static yX6_refuseNoStrake, Cond.code yX6_refuseNoStrake cX6_refuseNoStrake 1 none, Cond.instanceMethod yX4_strakeLength, Cond.selects RX4 yX4_strakeLength yX4_strakeLength, Cond.code yX4_strakeLength cX4_strakeLength 5 (some .int), Cond.methodLink RX4 24 Lib.Math.abs.name, Cond.methodLink RL 123 yX7_strake, Cond.instanceMethod yX7_strake, Cond.selects RX7 yX7_strake yX7_strake, Cond.code yX7_strake cX7_strake 2 (some .int), Cond.methodLink RX7 127 yX7_strakeOf, Cond.instanceMethod yX7_strakeOf, Cond.selects RX7 yX7_strakeOf yX7_strakeOf, Cond.code yX7_strakeOf cX7_strakeOf 4 (some .int), Cond.methodLink RL 124 yL_planks, Cond.static yL_planks]
def wsL_law0_r20 : List Cond := [Cond.codeWith yL_planks cL_planks 4 (some .int) [(0, 9, 12, 15)], Cond.methodLink RL 51 yX6_planks, Cond.instanceMethod yX6_planks, Cond.selects RX6 yX6_planks yX6_planks, Cond.code yX6_planks cX6_planks 2 (some .int), Cond.instanceMethod yX5_cutAll, Cond.selects RX5 yX5_cutAll yX5_cutAll, Cond.code yX5_cutAll cX5_cutAll 4 none, Cond.methodLink RX5 34 yX5_sortByLength, Cond.instanceMethod yX5_sortByLength, Cond.selects RX5 yX5_sortByLength yX5_sortByLength, Cond.code yX5_sortByLength cX5_sortByLength 4 none, Cond.methodLink RX5 38 yX5_cut, Cond.instanceMethod yX5_cut, Cond.selects RX5 yX5_cut yX5_cut, Cond.code yX5_cut cX5_cut 4 (some .int), Cond.methodLink RL 126 yX7_planks, Cond.instanceMethod yX7_planks, Cond.selects RX7 yX7_planks yX7_planks, Cond.code yX7_planks cX7_planks 2 (some .int), Cond.methodLink RX7 133 yX7_planksNow, Cond.instanceMethod yX7_planksNow, Cond.selects RX7 yX7_planksNow yX7_planksNow, Cond.code yX7_planksNow cX7_planksNow 6 (some .int)]
def wsL_law0_r21 : List Cond := [Cond.methodLink RX7 130 yX7_strakeBehind, Cond.instanceMethod yX7_strakeBehind, Cond.selects RX7 yX7_strakeBehind yX7_strakeBehind, Cond.code yX7_strakeBehind cX7_strakeBehind 6 (some .int), Cond.methodLink RL 127 yL_plankOf, Cond.static yL_plankOf, Cond.codeWith yL_plankOf cL_plankOf 5 (some .int) [(0, 10, 13, 13)], Cond.methodLink RL 54 yX6_plankOf, Cond.instanceMethod yX6_plankOf, Cond.selects RX6 yX6_plankOf yX6_plankOf, Cond.code yX6_plankOf cX6_plankOf 3 (some .int), Cond.methodLink RL 130 yX7_plankOf, Cond.instanceMethod yX7_plankOf, Cond.selects RX7 yX7_plankOf yX7_plankOf, Cond.code yX7_plankOf cX7_plankOf 3 (some .int), Cond.methodLink RL 131 yL_tide, Cond.static yL_tide, Cond.codeWith yL_tide cL_tide 5 (some .int) [(0, 10, 13, 15), (0, 10, 17, 17)], Cond.methodLink RL 58 yX6_tide, Cond.instanceMethod yX6_tide, Cond.selects RX6 yX6_tide yX6_tide, Cond.code yX6_tide cX6_tide 4 (some .int), Cond.instanceMethod yX0_hasRoomFor, Cond.selects RX0 yX0_hasRoomFor yX0_hasRoomFor]
def wsL_law0_r22 : List Cond := [Cond.code yX0_hasRoomFor cX0_hasRoomFor 2 (some .boolean), Cond.methodLink RX0 22 yX0_placeOf, Cond.instanceMethod yX0_placeOf, Cond.selects RX0 yX0_placeOf yX0_placeOf, Cond.code yX0_placeOf cX0_placeOf 3 (some .int), Cond.instanceMethod yX0_heightOn, Cond.selects RX0 yX0_heightOn yX0_heightOn, Cond.code yX0_heightOn cX0_heightOn 3 (some .int), Cond.methodLink RX0 26 yJ9_floorMod_7cf53, Cond.static yJ9_floorMod_7cf53, Cond.code yJ9_floorMod_7cf53 cJ9_floorMod_7cf53 3 (some .int), Cond.instanceMethod yX0_tell, Cond.selects RX0 yX0_tell yX0_tell, Cond.code yX0_tell cX0_tell 4 none, Cond.methodLink RL 133 yX7_tide, Cond.instanceMethod yX7_tide, Cond.selects RX7 yX7_tide yX7_tide, Cond.code yX7_tide cX7_tide 5 (some .int), Cond.fieldLink RX7 136 "FairBattenModel" "tides" "I", Cond.methodLink RX7 139 yX7_tideOn, Cond.instanceMethod yX7_tideOn, Cond.selects RX7 yX7_tideOn yX7_tideOn, Cond.code yX7_tideOn cX7_tideOn 4 (some .int), Cond.methodLink RL 134 yL_sill]
def wsL_law0_r23 : List Cond := [Cond.static yL_sill, Cond.codeWith yL_sill cL_sill 4 (some .int) [(0, 9, 12, 15)], Cond.methodLink RL 61 yX6_sill, Cond.instanceMethod yX6_sill, Cond.selects RX6 yX6_sill yX6_sill, Cond.code yX6_sill cX6_sill 3 (some .int), Cond.methodLink RL 136 yX7_sill, Cond.instanceMethod yX7_sill, Cond.selects RX7 yX7_sill yX7_sill, Cond.code yX7_sill cX7_sill 3 (some .int), Cond.fieldLink RX7 142 "FairBattenModel" "sill" "I", Cond.methodLink RL 137 yX6_needed, Cond.instanceMethod yX6_needed, Cond.selects RX6 yX6_needed yX6_needed, Cond.code yX6_needed cX6_needed 2 (some .int), Cond.methodLink RX6 188 Lib.Math.abs.name, Cond.methodLink RX6 182 yX6_draught, Cond.methodLink RX6 185 yX6_trim, Cond.methodLink RL 140 yX7_needed, Cond.instanceMethod yX7_needed, Cond.selects RX7 yX7_needed yX7_needed, Cond.code yX7_needed cX7_needed 1 (some .int), Cond.methodLink RX7 145 yX7_neededNow, Cond.instanceMethod yX7_neededNow]
def wsL_law0_r24 : List Cond := [Cond.selects RX7 yX7_neededNow yX7_neededNow, Cond.code yX7_neededNow cX7_neededNow 2 (some .int), Cond.methodLink RL 141 yX6_day, Cond.instanceMethod yX6_day, Cond.selects RX6 yX6_day yX6_day, Cond.code yX6_day cX6_day 3 (some .int), Cond.methodLink RX6 193 yX6_needed, Cond.methodLink RL 144 yX7_day, Cond.instanceMethod yX7_day, Cond.selects RX7 yX7_day yX7_day, Cond.code yX7_day cX7_day 4 (some .int), Cond.fieldLink RX7 148 "FairBattenModel" "today" "I", Cond.methodLink RL 145 yL_launch, Cond.static yL_launch, Cond.codeWith yL_launch cL_launch 3 (some .int) [(0, 8, 11, 17)], Cond.methodLink RL 64 yX6_launch, Cond.instanceMethod yX6_launch, Cond.selects RX6 yX6_launch yX6_launch, Cond.code yX6_launch cX6_launch 3 (some .int), Cond.methodLink RL 148 yX7_launch, Cond.instanceMethod yX7_launch, Cond.selects RX7 yX7_launch yX7_launch, Cond.code yX7_launch cX7_launch 2 (some .int), Cond.methodLink RL 149 yL_pass]
def wsL_law0_r25 : List Cond := [Cond.static yL_pass, Cond.codeWith yL_pass cL_pass 4 (some .int) [(0, 9, 12, 15), (0, 9, 15, 17)], Cond.methodLink RL 68 yX6_pass, Cond.instanceMethod yX6_pass, Cond.selects RX6 yX6_pass yX6_pass, Cond.code yX6_pass cX6_pass 2 (some .int), Cond.methodLink RL 151 yX7_pass, Cond.instanceMethod yX7_pass, Cond.selects RX7 yX7_pass yX7_pass, Cond.code yX7_pass cX7_pass 2 (some .int)]
def wsL_law0 : List Cond := (wsL_law0_r1 ++ (wsL_law0_r2 ++ (wsL_law0_r3 ++ (wsL_law0_r4 ++ (wsL_law0_r5 ++ (wsL_law0_r6 ++ (wsL_law0_r7 ++ (wsL_law0_r8 ++ (wsL_law0_r9 ++ (wsL_law0_r10 ++ (wsL_law0_r11 ++ (wsL_law0_r12 ++ (wsL_law0_r13 ++ (wsL_law0_r14 ++ (wsL_law0_r15 ++ (wsL_law0_r16 ++ (wsL_law0_r17 ++ (wsL_law0_r18 ++ (wsL_law0_r19 ++ (wsL_law0_r20 ++ (wsL_law0_r21 ++ (wsL_law0_r22 ++ (wsL_law0_r23 ++ (wsL_law0_r24 ++ wsL_law0_r25)))))))))))))))))))))))) ++ wsX60 ++ wsX70 ++ wsX40 ++ wsX10 ++ wsX30 ++ wsX20 ++ wsX50 ++ wsX00 ++ ([] : List Cond)
def wsL_law : List Cond := wsL_law0 ++ (vx_atS RX6 206 "java/lang/IndexOutOfBoundsException" ["java/lang/RuntimeException", "java/lang/Exception"]).filter goodWord ++ (vx_atS RX6 220 "java/lang/IllegalArgumentException" ["java/lang/RuntimeException", "java/lang/Exception"]).filter goodWord ++ (vx_atS RX6 107 "java/lang/IllegalStateException" ["java/lang/RuntimeException", "java/lang/Exception"]).filter goodWord
abbrev vwCl : List vw_C := [(RX0, TX0, 3), (RX1, TX1, 3), (RX2, TX2, 2), (RX3, TX3, 5), (RX4, TX4, 1), (RX5, TX5, 7), (RX6, TX6, 9), (RX7, TX7, 16)]
end
section
theorem dX0_init_0 : decode cX0_init 0 = .ok (.aload_n 0, 1) := by decide +kernel
theorem dX0_init_1 : decode cX0_init 1 = .ok (.invokespecial 3, 3) := by decide +kernel
theorem dX0_init_4 : decode cX0_init 4 = .ok (.aload_n 0, 1) := by decide +kernel
theorem dX0_init_5 : decode cX0_init 5 = .ok (.bipush 40, 2) := by decide +kernel
theorem dX0_init_7 : decode cX0_init 7 = .ok (.newarray .int, 2) := by decide +kernel
theorem dX0_init_9 : decode cX0_init 9 = .ok (.putfield 11, 3) := by decide +kernel
theorem dX0_init_12 : decode cX0_init 12 = .ok (.aload_n 0, 1) := by decide +kernel
theorem dX0_init_13 : decode cX0_init 13 = .ok (.bipush 40, 2) := by decide +kernel
theorem dX0_init_15 : decode cX0_init 15 = .ok (.newarray .int, 2) := by decide +kernel
theorem dX0_init_17 : decode cX0_init 17 = .ok (.putfield 15, 3) := by decide +kernel
theorem dX0_init_20 : decode cX0_init 20 = .ok (.aload_n 0, 1) := by decide +kernel
theorem dX0_init_21 : decode cX0_init 21 = .ok (.iconst 0, 1) := by decide +kernel
theorem dX0_init_22 : decode cX0_init 22 = .ok (.putfield 18, 3) := by decide +kernel
theorem dX0_init_25 : decode cX0_init 25 = .ok (.return_, 1) := by decide +kernel
theorem dX0_placeOf_0 : decode cX0_placeOf 0 = .ok (.iconst 0, 1) := by decide +kernel
theorem dX0_placeOf_1 : decode cX0_placeOf 1 = .ok (.istore_n 2, 1) := by decide +kernel
theorem dX0_placeOf_2 : decode cX0_placeOf 2 = .ok (.iload_n 2, 1) := by decide +kernel
theorem dX0_placeOf_3 : decode cX0_placeOf 3 = .ok (.aload_n 0, 1) := by decide +kernel
theorem dX0_placeOf_4 : decode cX0_placeOf 4 = .ok (.getfield 18, 3) := by decide +kernel
theorem dX0_placeOf_7 : decode cX0_placeOf 7 = .ok (.if_icmp .ge 21, 3) := by decide +kernel
theorem dX0_placeOf_10 : decode cX0_placeOf 10 = .ok (.aload_n 0, 1) := by decide +kernel
theorem dX0_placeOf_11 : decode cX0_placeOf 11 = .ok (.getfield 11, 3) := by decide +kernel
theorem dX0_placeOf_14 : decode cX0_placeOf 14 = .ok (.iload_n 2, 1) := by decide +kernel
theorem dX0_placeOf_15 : decode cX0_placeOf 15 = .ok (.iaload, 1) := by decide +kernel
theorem dX0_placeOf_16 : decode cX0_placeOf 16 = .ok (.iload_n 1, 1) := by decide +kernel
theorem dX0_placeOf_17 : decode cX0_placeOf 17 = .ok (.if_icmp .ne 5, 3) := by decide +kernel
theorem dX0_placeOf_20 : decode cX0_placeOf 20 = .ok (.iload_n 2, 1) := by decide +kernel
theorem dX0_placeOf_21 : decode cX0_placeOf 21 = .ok (.ireturn, 1) := by decide +kernel
theorem dX0_placeOf_22 : decode cX0_placeOf 22 = .ok (.iinc 2 1, 3) := by decide +kernel
theorem dX0_placeOf_25 : decode cX0_placeOf 25 = .ok (.goto (-23), 3) := by decide +kernel
theorem dX0_placeOf_28 : decode cX0_placeOf 28 = .ok (.iconst (-1), 1) := by decide +kernel
theorem dX0_placeOf_29 : decode cX0_placeOf 29 = .ok (.ireturn, 1) := by decide +kernel
set_option maxRecDepth 20000 in
theorem ggX0_hasRoomFor_X0_placeOf : GoodIn wsX0_hasRoomFor wsX0_placeOf := goodIn_r _ [6, 1, 7, 8, 9, 10] (by decide +kernel) (by decide +kernel)
set_option maxRecDepth 20000 in
theorem gX0_hasRoomFor_X0_placeOf : GoodIn wsX0_hasRoomFor (wsV RX0 22 RX0 yX0_placeOf wsX0_placeOf) := goodIn_app (goodIn_of _ (by decide +kernel)) ggX0_hasRoomFor_X0_placeOf
theorem dX0_hasRoomFor_0 : decode cX0_hasRoomFor 0 = .ok (.aload_n 0, 1) := by decide +kernel
theorem dX0_hasRoomFor_1 : decode cX0_hasRoomFor 1 = .ok (.getfield 18, 3) := by decide +kernel
theorem dX0_hasRoomFor_4 : decode cX0_hasRoomFor 4 = .ok (.bipush 40, 2) := by decide +kernel
theorem dX0_hasRoomFor_6 : decode cX0_hasRoomFor 6 = .ok (.if_icmp .lt 12, 3) := by decide +kernel
theorem dX0_hasRoomFor_9 : decode cX0_hasRoomFor 9 = .ok (.aload_n 0, 1) := by decide +kernel
theorem dX0_hasRoomFor_10 : decode cX0_hasRoomFor 10 = .ok (.iload_n 1, 1) := by decide +kernel
theorem dX0_hasRoomFor_11 : decode cX0_hasRoomFor 11 = .ok (.invokevirtual 22, 3) := by decide +kernel
theorem dX0_hasRoomFor_14 : decode cX0_hasRoomFor 14 = .ok (.iconst (-1), 1) := by decide +kernel
theorem dX0_hasRoomFor_15 : decode cX0_hasRoomFor 15 = .ok (.if_icmp .eq 7, 3) := by decide +kernel
theorem dX0_hasRoomFor_18 : decode cX0_hasRoomFor 18 = .ok (.iconst 1, 1) := by decide +kernel
theorem dX0_hasRoomFor_19 : decode cX0_hasRoomFor 19 = .ok (.goto 4, 3) := by decide +kernel
theorem dX0_hasRoomFor_22 : decode cX0_hasRoomFor 22 = .ok (.iconst 0, 1) := by decide +kernel
theorem dX0_hasRoomFor_23 : decode cX0_hasRoomFor 23 = .ok (.ireturn, 1) := by decide +kernel
set_option maxRecDepth 20000 in
theorem ggX0_heightOn_X0_placeOf : GoodIn wsX0_heightOn wsX0_placeOf := goodIn_r _ [6, 7, 8, 13, 14, 15] (by decide +kernel) (by decide +kernel)
set_option maxRecDepth 20000 in
theorem gX0_heightOn_X0_placeOf : GoodIn wsX0_heightOn (wsV RX0 22 RX0 yX0_placeOf wsX0_placeOf) := goodIn_app (goodIn_of _ (by decide +kernel)) ggX0_heightOn_X0_placeOf
set_option maxRecDepth 20000 in
theorem ggX0_heightOn_J9_floorMod_7cf53 : GoodIn wsX0_heightOn wsJ9_floorMod_7cf53 := goodIn_r _ [12] (by decide +kernel) (by decide +kernel)
set_option maxRecDepth 20000 in
theorem gX0_heightOn_J9_floorMod_7cf53 : GoodIn wsX0_heightOn (va_wsS RX0 26 yJ9_floorMod_7cf53 wsJ9_floorMod_7cf53) := goodIn_app (goodIn_of _ (by decide +kernel)) ggX0_heightOn_J9_floorMod_7cf53
theorem dX0_heightOn_0 : decode cX0_heightOn 0 = .ok (.aload_n 0, 1) := by decide +kernel
theorem dX0_heightOn_1 : decode cX0_heightOn 1 = .ok (.iload_n 1, 1) := by decide +kernel
theorem dX0_heightOn_2 : decode cX0_heightOn 2 = .ok (.invokevirtual 22, 3) := by decide +kernel
theorem dX0_heightOn_5 : decode cX0_heightOn 5 = .ok (.istore_n 2, 1) := by decide +kernel
theorem dX0_heightOn_6 : decode cX0_heightOn 6 = .ok (.iload_n 2, 1) := by decide +kernel
theorem dX0_heightOn_7 : decode cX0_heightOn 7 = .ok (.iconst (-1), 1) := by decide +kernel
theorem dX0_heightOn_8 : decode cX0_heightOn 8 = .ok (.if_icmp .ne 17, 3) := by decide +kernel
theorem dX0_heightOn_11 : decode cX0_heightOn 11 = .ok (.bipush 7, 2) := by decide +kernel
theorem dX0_heightOn_13 : decode cX0_heightOn 13 = .ok (.iload_n 1, 1) := by decide +kernel
theorem dX0_heightOn_14 : decode cX0_heightOn 14 = .ok (.imul, 1) := by decide +kernel
theorem dX0_heightOn_15 : decode cX0_heightOn 15 = .ok (.iconst 3, 1) := by decide +kernel
theorem dX0_heightOn_16 : decode cX0_heightOn 16 = .ok (.iadd, 1) := by decide +kernel
theorem dX0_heightOn_17 : decode cX0_heightOn 17 = .ok (.bipush 19, 2) := by decide +kernel
theorem dX0_heightOn_19 : decode cX0_heightOn 19 = .ok (.invokestatic 26, 3) := by decide +kernel
theorem dX0_heightOn_22 : decode cX0_heightOn 22 = .ok (.goto 9, 3) := by decide +kernel
theorem dX0_heightOn_25 : decode cX0_heightOn 25 = .ok (.aload_n 0, 1) := by decide +kernel
theorem dX0_heightOn_26 : decode cX0_heightOn 26 = .ok (.getfield 15, 3) := by decide +kernel
theorem dX0_heightOn_29 : decode cX0_heightOn 29 = .ok (.iload_n 2, 1) := by decide +kernel
theorem dX0_heightOn_30 : decode cX0_heightOn 30 = .ok (.iaload, 1) := by decide +kernel
theorem dX0_heightOn_31 : decode cX0_heightOn 31 = .ok (.ireturn, 1) := by decide +kernel
set_option maxRecDepth 20000 in
theorem ggX0_tell_X0_placeOf : GoodIn wsX0_tell wsX0_placeOf := goodIn_r _ [8, 1, 2, 9, 10, 11] (by decide +kernel) (by decide +kernel)
set_option maxRecDepth 20000 in
theorem gX0_tell_X0_placeOf : GoodIn wsX0_tell (wsV RX0 22 RX0 yX0_placeOf wsX0_placeOf) := goodIn_app (goodIn_of _ (by decide +kernel)) ggX0_tell_X0_placeOf
theorem dX0_tell_0 : decode cX0_tell 0 = .ok (.aload_n 0, 1) := by decide +kernel
theorem dX0_tell_1 : decode cX0_tell 1 = .ok (.iload_n 1, 1) := by decide +kernel
theorem dX0_tell_2 : decode cX0_tell 2 = .ok (.invokevirtual 22, 3) := by decide +kernel
theorem dX0_tell_5 : decode cX0_tell 5 = .ok (.istore_n 3, 1) := by decide +kernel
theorem dX0_tell_6 : decode cX0_tell 6 = .ok (.iload_n 3, 1) := by decide +kernel
theorem dX0_tell_7 : decode cX0_tell 7 = .ok (.iconst (-1), 1) := by decide +kernel
theorem dX0_tell_8 : decode cX0_tell 8 = .ok (.if_icmp .ne 18, 3) := by decide +kernel
theorem dX0_tell_11 : decode cX0_tell 11 = .ok (.aload_n 0, 1) := by decide +kernel
theorem dX0_tell_12 : decode cX0_tell 12 = .ok (.getfield 18, 3) := by decide +kernel
theorem dX0_tell_15 : decode cX0_tell 15 = .ok (.istore_n 3, 1) := by decide +kernel
theorem dX0_tell_16 : decode cX0_tell 16 = .ok (.aload_n 0, 1) := by decide +kernel
theorem dX0_tell_17 : decode cX0_tell 17 = .ok (.dup, 1) := by decide +kernel
theorem dX0_tell_18 : decode cX0_tell 18 = .ok (.getfield 18, 3) := by decide +kernel
theorem dX0_tell_21 : decode cX0_tell 21 = .ok (.iconst 1, 1) := by decide +kernel
theorem dX0_tell_22 : decode cX0_tell 22 = .ok (.iadd, 1) := by decide +kernel
theorem dX0_tell_23 : decode cX0_tell 23 = .ok (.putfield 18, 3) := by decide +kernel
theorem dX0_tell_26 : decode cX0_tell 26 = .ok (.aload_n 0, 1) := by decide +kernel
theorem dX0_tell_27 : decode cX0_tell 27 = .ok (.getfield 11, 3) := by decide +kernel
theorem dX0_tell_30 : decode cX0_tell 30 = .ok (.iload_n 3, 1) := by decide +kernel
theorem dX0_tell_31 : decode cX0_tell 31 = .ok (.iload_n 1, 1) := by decide +kernel
theorem dX0_tell_32 : decode cX0_tell 32 = .ok (.iastore, 1) := by decide +kernel
theorem dX0_tell_33 : decode cX0_tell 33 = .ok (.aload_n 0, 1) := by decide +kernel
theorem dX0_tell_34 : decode cX0_tell 34 = .ok (.getfield 15, 3) := by decide +kernel
theorem dX0_tell_37 : decode cX0_tell 37 = .ok (.iload_n 3, 1) := by decide +kernel
theorem dX0_tell_38 : decode cX0_tell 38 = .ok (.iload_n 2, 1) := by decide +kernel
theorem dX0_tell_39 : decode cX0_tell 39 = .ok (.iastore, 1) := by decide +kernel
theorem dX0_tell_40 : decode cX0_tell 40 = .ok (.return_, 1) := by decide +kernel
theorem dX1_init_0 : decode cX1_init 0 = .ok (.aload_n 0, 1) := by decide +kernel
theorem dX1_init_1 : decode cX1_init 1 = .ok (.invokespecial 3, 3) := by decide +kernel
theorem dX1_init_4 : decode cX1_init 4 = .ok (.aload_n 0, 1) := by decide +kernel
theorem dX1_init_5 : decode cX1_init 5 = .ok (.bipush 8, 2) := by decide +kernel
theorem dX1_init_7 : decode cX1_init 7 = .ok (.bipush 25, 2) := by decide +kernel
theorem dX1_init_9 : decode cX1_init 9 = .ok (.multianewarray 11 2, 4) := by decide +kernel
theorem dX1_init_13 : decode cX1_init 13 = .ok (.putfield 13, 3) := by decide +kernel
theorem dX1_init_16 : decode cX1_init 16 = .ok (.aload_n 0, 1) := by decide +kernel
theorem dX1_init_17 : decode cX1_init 17 = .ok (.bipush 9, 2) := by decide +kernel
theorem dX1_init_19 : decode cX1_init 19 = .ok (.newarray .int, 2) := by decide +kernel
theorem dX1_init_21 : decode cX1_init 21 = .ok (.putfield 16, 3) := by decide +kernel
theorem dX1_init_24 : decode cX1_init 24 = .ok (.aload_n 0, 1) := by decide +kernel
theorem dX1_init_25 : decode cX1_init 25 = .ok (.bipush 9, 2) := by decide +kernel
theorem dX1_init_27 : decode cX1_init 27 = .ok (.newarray .int, 2) := by decide +kernel
theorem dX1_init_29 : decode cX1_init 29 = .ok (.putfield 20, 3) := by decide +kernel
theorem dX1_init_32 : decode cX1_init 32 = .ok (.return_, 1) := by decide +kernel
set_option maxRecDepth 20000 in
theorem ggX1_straighten_X1_reckonRest : GoodIn wsX1_straighten wsX1_reckonRest := goodIn_r _ [14, 6, 15, 7, 8, 4, 9, 16, 17, 18, 19, 13, 20, 1, 21, 22, 23, 32, 33, 34] (by decide +kernel) (by decide +kernel)
set_option maxRecDepth 20000 in
theorem gX1_straighten_X1_reckonRest : GoodIn wsX1_straighten (wsV RX1 32 RX1 yX1_reckonRest wsX1_reckonRest) := goodIn_app (goodIn_of _ (by decide +kernel)) ggX1_straighten_X1_reckonRest
set_option maxRecDepth 20000 in
theorem ggX1_straighten_X1_draw : GoodIn wsX1_straighten wsX1_draw := goodIn_r _ [27, 15, 6, 16, 1, 28, 29, 30, 13, 31, 17, 18, 19, 20, 21, 22, 23, 32, 33, 34] (by decide +kernel) (by decide +kernel)
set_option maxRecDepth 20000 in
theorem gX1_straighten_X1_draw : GoodIn wsX1_straighten (wsV RX1 36 RX1 yX1_draw wsX1_draw) := goodIn_app (goodIn_of _ (by decide +kernel)) ggX1_straighten_X1_draw
theorem dX1_straighten_0 : decode cX1_straighten 0 = .ok (.iconst 0, 1) := by decide +kernel
theorem dX1_straighten_1 : decode cX1_straighten 1 = .ok (.istore_n 3, 1) := by decide +kernel
theorem dX1_straighten_2 : decode cX1_straighten 2 = .ok (.iload_n 3, 1) := by decide +kernel
theorem dX1_straighten_3 : decode cX1_straighten 3 = .ok (.bipush 9, 2) := by decide +kernel
theorem dX1_straighten_5 : decode cX1_straighten 5 = .ok (.if_icmp .ge 50, 3) := by decide +kernel
theorem dX1_straighten_8 : decode cX1_straighten 8 = .ok (.aload_n 0, 1) := by decide +kernel
theorem dX1_straighten_9 : decode cX1_straighten 9 = .ok (.getfield 16, 3) := by decide +kernel
theorem dX1_straighten_12 : decode cX1_straighten 12 = .ok (.iload_n 3, 1) := by decide +kernel
theorem dX1_straighten_13 : decode cX1_straighten 13 = .ok (.iconst 0, 1) := by decide +kernel
theorem dX1_straighten_14 : decode cX1_straighten 14 = .ok (.aload_n 1, 1) := by decide +kernel
theorem dX1_straighten_15 : decode cX1_straighten 15 = .ok (.iload_n 3, 1) := by decide +kernel
theorem dX1_straighten_16 : decode cX1_straighten 16 = .ok (.iaload, 1) := by decide +kernel
theorem dX1_straighten_17 : decode cX1_straighten 17 = .ok (.iload_n 2, 1) := by decide +kernel
theorem dX1_straighten_18 : decode cX1_straighten 18 = .ok (.isub, 1) := by decide +kernel
theorem dX1_straighten_19 : decode cX1_straighten 19 = .ok (.invokestatic 23, 3) := by decide +kernel
theorem dX1_straighten_22 : decode cX1_straighten 22 = .ok (.iastore, 1) := by decide +kernel
theorem dX1_straighten_23 : decode cX1_straighten 23 = .ok (.aload_n 0, 1) := by decide +kernel
theorem dX1_straighten_24 : decode cX1_straighten 24 = .ok (.getfield 20, 3) := by decide +kernel
theorem dX1_straighten_27 : decode cX1_straighten 27 = .ok (.iload_n 3, 1) := by decide +kernel
theorem dX1_straighten_28 : decode cX1_straighten 28 = .ok (.sipush 200, 3) := by decide +kernel
theorem dX1_straighten_31 : decode cX1_straighten 31 = .ok (.aload_n 1, 1) := by decide +kernel
theorem dX1_straighten_32 : decode cX1_straighten 32 = .ok (.iload_n 3, 1) := by decide +kernel
theorem dX1_straighten_33 : decode cX1_straighten 33 = .ok (.iaload, 1) := by decide +kernel
theorem dX1_straighten_34 : decode cX1_straighten 34 = .ok (.iload_n 2, 1) := by decide +kernel
theorem dX1_straighten_35 : decode cX1_straighten 35 = .ok (.iadd, 1) := by decide +kernel
theorem dX1_straighten_36 : decode cX1_straighten 36 = .ok (.invokestatic 29, 3) := by decide +kernel
theorem dX1_straighten_39 : decode cX1_straighten 39 = .ok (.aload_n 0, 1) := by decide +kernel
theorem dX1_straighten_40 : decode cX1_straighten 40 = .ok (.getfield 16, 3) := by decide +kernel
theorem dX1_straighten_43 : decode cX1_straighten 43 = .ok (.iload_n 3, 1) := by decide +kernel
theorem dX1_straighten_44 : decode cX1_straighten 44 = .ok (.iaload, 1) := by decide +kernel
theorem dX1_straighten_45 : decode cX1_straighten 45 = .ok (.isub, 1) := by decide +kernel
theorem dX1_straighten_46 : decode cX1_straighten 46 = .ok (.iconst 1, 1) := by decide +kernel
theorem dX1_straighten_47 : decode cX1_straighten 47 = .ok (.iadd, 1) := by decide +kernel
theorem dX1_straighten_48 : decode cX1_straighten 48 = .ok (.iastore, 1) := by decide +kernel
theorem dX1_straighten_49 : decode cX1_straighten 49 = .ok (.iinc 3 1, 3) := by decide +kernel
theorem dX1_straighten_52 : decode cX1_straighten 52 = .ok (.goto (-50), 3) := by decide +kernel
theorem dX1_straighten_55 : decode cX1_straighten 55 = .ok (.bipush 6, 2) := by decide +kernel
theorem dX1_straighten_57 : decode cX1_straighten 57 = .ok (.istore_n 3, 1) := by decide +kernel
theorem dX1_straighten_58 : decode cX1_straighten 58 = .ok (.iload_n 3, 1) := by decide +kernel
theorem dX1_straighten_59 : decode cX1_straighten 59 = .ok (.ifCond .lt 14, 3) := by decide +kernel
theorem dX1_straighten_62 : decode cX1_straighten 62 = .ok (.aload_n 0, 1) := by decide +kernel
theorem dX1_straighten_63 : decode cX1_straighten 63 = .ok (.iload_n 3, 1) := by decide +kernel
theorem dX1_straighten_64 : decode cX1_straighten 64 = .ok (.invokevirtual 32, 3) := by decide +kernel
theorem dX1_straighten_67 : decode cX1_straighten 67 = .ok (.iinc 3 (-1), 3) := by decide +kernel
theorem dX1_straighten_70 : decode cX1_straighten 70 = .ok (.goto (-12), 3) := by decide +kernel
theorem dX1_straighten_73 : decode cX1_straighten 73 = .ok (.aload_n 0, 1) := by decide +kernel
theorem dX1_straighten_74 : decode cX1_straighten 74 = .ok (.aload_n 1, 1) := by decide +kernel
theorem dX1_straighten_75 : decode cX1_straighten 75 = .ok (.invokevirtual 36, 3) := by decide +kernel
theorem dX1_straighten_78 : decode cX1_straighten 78 = .ok (.return_, 1) := by decide +kernel
set_option maxRecDepth 20000 in
theorem ggX1_reckonRest_X1_bendWith : GoodIn wsX1_reckonRest wsX1_bendWith := goodIn_r _ [12, 13, 7, 14, 15, 16, 17, 18, 19] (by decide +kernel) (by decide +kernel)
set_option maxRecDepth 20000 in
theorem gX1_reckonRest_X1_bendWith : GoodIn wsX1_reckonRest (wsV RX1 41 RX1 yX1_bendWith wsX1_bendWith) := goodIn_app (goodIn_of _ (by decide +kernel)) ggX1_reckonRest_X1_bendWith
theorem dX1_reckonRest_0 : decode cX1_reckonRest 0 = .ok (.iconst 0, 1) := by decide +kernel
theorem dX1_reckonRest_1 : decode cX1_reckonRest 1 = .ok (.istore_n 2, 1) := by decide +kernel
theorem dX1_reckonRest_2 : decode cX1_reckonRest 2 = .ok (.iload_n 2, 1) := by decide +kernel
theorem dX1_reckonRest_3 : decode cX1_reckonRest 3 = .ok (.aload_n 0, 1) := by decide +kernel
theorem dX1_reckonRest_4 : decode cX1_reckonRest 4 = .ok (.getfield 20, 3) := by decide +kernel
theorem dX1_reckonRest_7 : decode cX1_reckonRest 7 = .ok (.iload_n 1, 1) := by decide +kernel
theorem dX1_reckonRest_8 : decode cX1_reckonRest 8 = .ok (.iaload, 1) := by decide +kernel
theorem dX1_reckonRest_9 : decode cX1_reckonRest 9 = .ok (.if_icmp .ge 85, 3) := by decide +kernel
theorem dX1_reckonRest_12 : decode cX1_reckonRest 12 = .ok (.iconst 0, 1) := by decide +kernel
theorem dX1_reckonRest_13 : decode cX1_reckonRest 13 = .ok (.istore_n 3, 1) := by decide +kernel
theorem dX1_reckonRest_14 : decode cX1_reckonRest 14 = .ok (.iload_n 3, 1) := by decide +kernel
theorem dX1_reckonRest_15 : decode cX1_reckonRest 15 = .ok (.aload_n 0, 1) := by decide +kernel
theorem dX1_reckonRest_16 : decode cX1_reckonRest 16 = .ok (.getfield 20, 3) := by decide +kernel
theorem dX1_reckonRest_19 : decode cX1_reckonRest 19 = .ok (.iload_n 1, 1) := by decide +kernel
theorem dX1_reckonRest_20 : decode cX1_reckonRest 20 = .ok (.iconst 1, 1) := by decide +kernel
theorem dX1_reckonRest_21 : decode cX1_reckonRest 21 = .ok (.iadd, 1) := by decide +kernel
theorem dX1_reckonRest_22 : decode cX1_reckonRest 22 = .ok (.iaload, 1) := by decide +kernel
theorem dX1_reckonRest_23 : decode cX1_reckonRest 23 = .ok (.if_icmp .ge 65, 3) := by decide +kernel
theorem dX1_reckonRest_26 : decode cX1_reckonRest 26 = .ok (.ldc 40, 2) := by decide +kernel
theorem dX1_reckonRest_28 : decode cX1_reckonRest 28 = .ok (.istore 4, 2) := by decide +kernel
theorem dX1_reckonRest_30 : decode cX1_reckonRest 30 = .ok (.iconst 0, 1) := by decide +kernel
theorem dX1_reckonRest_31 : decode cX1_reckonRest 31 = .ok (.istore 5, 2) := by decide +kernel
theorem dX1_reckonRest_33 : decode cX1_reckonRest 33 = .ok (.iload 5, 2) := by decide +kernel
theorem dX1_reckonRest_35 : decode cX1_reckonRest 35 = .ok (.aload_n 0, 1) := by decide +kernel
theorem dX1_reckonRest_36 : decode cX1_reckonRest 36 = .ok (.getfield 20, 3) := by decide +kernel
theorem dX1_reckonRest_39 : decode cX1_reckonRest 39 = .ok (.iload_n 1, 1) := by decide +kernel
theorem dX1_reckonRest_40 : decode cX1_reckonRest 40 = .ok (.iconst 2, 1) := by decide +kernel
theorem dX1_reckonRest_41 : decode cX1_reckonRest 41 = .ok (.iadd, 1) := by decide +kernel
theorem dX1_reckonRest_42 : decode cX1_reckonRest 42 = .ok (.iaload, 1) := by decide +kernel
theorem dX1_reckonRest_43 : decode cX1_reckonRest 43 = .ok (.if_icmp .ge 25, 3) := by decide +kernel
theorem dX1_reckonRest_46 : decode cX1_reckonRest 46 = .ok (.iload 4, 2) := by decide +kernel
theorem dX1_reckonRest_48 : decode cX1_reckonRest 48 = .ok (.aload_n 0, 1) := by decide +kernel
theorem dX1_reckonRest_49 : decode cX1_reckonRest 49 = .ok (.iload_n 1, 1) := by decide +kernel
theorem dX1_reckonRest_50 : decode cX1_reckonRest 50 = .ok (.iload_n 2, 1) := by decide +kernel
theorem dX1_reckonRest_51 : decode cX1_reckonRest 51 = .ok (.iload_n 3, 1) := by decide +kernel
theorem dX1_reckonRest_52 : decode cX1_reckonRest 52 = .ok (.iload 5, 2) := by decide +kernel
theorem dX1_reckonRest_54 : decode cX1_reckonRest 54 = .ok (.invokevirtual 41, 3) := by decide +kernel
theorem dX1_reckonRest_57 : decode cX1_reckonRest 57 = .ok (.invokestatic 29, 3) := by decide +kernel
theorem dX1_reckonRest_60 : decode cX1_reckonRest 60 = .ok (.istore 4, 2) := by decide +kernel
theorem dX1_reckonRest_62 : decode cX1_reckonRest 62 = .ok (.iinc 5 1, 3) := by decide +kernel
theorem dX1_reckonRest_65 : decode cX1_reckonRest 65 = .ok (.goto (-32), 3) := by decide +kernel
theorem dX1_reckonRest_68 : decode cX1_reckonRest 68 = .ok (.aload_n 0, 1) := by decide +kernel
theorem dX1_reckonRest_69 : decode cX1_reckonRest 69 = .ok (.getfield 13, 3) := by decide +kernel
theorem dX1_reckonRest_72 : decode cX1_reckonRest 72 = .ok (.iload_n 1, 1) := by decide +kernel
theorem dX1_reckonRest_73 : decode cX1_reckonRest 73 = .ok (.aaload, 1) := by decide +kernel
theorem dX1_reckonRest_74 : decode cX1_reckonRest 74 = .ok (.iload_n 2, 1) := by decide +kernel
theorem dX1_reckonRest_75 : decode cX1_reckonRest 75 = .ok (.iconst 5, 1) := by decide +kernel
theorem dX1_reckonRest_76 : decode cX1_reckonRest 76 = .ok (.imul, 1) := by decide +kernel
theorem dX1_reckonRest_77 : decode cX1_reckonRest 77 = .ok (.iload_n 3, 1) := by decide +kernel
theorem dX1_reckonRest_78 : decode cX1_reckonRest 78 = .ok (.iadd, 1) := by decide +kernel
theorem dX1_reckonRest_79 : decode cX1_reckonRest 79 = .ok (.iload 4, 2) := by decide +kernel
theorem dX1_reckonRest_81 : decode cX1_reckonRest 81 = .ok (.iastore, 1) := by decide +kernel
theorem dX1_reckonRest_82 : decode cX1_reckonRest 82 = .ok (.iinc 3 1, 3) := by decide +kernel
theorem dX1_reckonRest_85 : decode cX1_reckonRest 85 = .ok (.goto (-71), 3) := by decide +kernel
theorem dX1_reckonRest_88 : decode cX1_reckonRest 88 = .ok (.iinc 2 1, 3) := by decide +kernel
theorem dX1_reckonRest_91 : decode cX1_reckonRest 91 = .ok (.goto (-89), 3) := by decide +kernel
theorem dX1_reckonRest_94 : decode cX1_reckonRest 94 = .ok (.return_, 1) := by decide +kernel
set_option maxRecDepth 20000 in
theorem ggX1_bendWith_X6_squareOfBend : GoodIn wsX1_bendWith wsX6_squareOfBend := goodIn_r _ [5] (by decide +kernel) (by decide +kernel)
set_option maxRecDepth 20000 in
theorem gX1_bendWith_X6_squareOfBend_n45 : GoodIn wsX1_bendWith (wsX6_squareOfBend) := ggX1_bendWith_X6_squareOfBend
theorem dX1_bendWith_0 : decode cX1_bendWith 0 = .ok (.aload_n 0, 1) := by decide +kernel
theorem dX1_bendWith_1 : decode cX1_bendWith 1 = .ok (.getfield 16, 3) := by decide +kernel
theorem dX1_bendWith_4 : decode cX1_bendWith 4 = .ok (.iload_n 1, 1) := by decide +kernel
theorem dX1_bendWith_5 : decode cX1_bendWith 5 = .ok (.iaload, 1) := by decide +kernel
theorem dX1_bendWith_6 : decode cX1_bendWith 6 = .ok (.iload_n 2, 1) := by decide +kernel
theorem dX1_bendWith_7 : decode cX1_bendWith 7 = .ok (.iadd, 1) := by decide +kernel
theorem dX1_bendWith_8 : decode cX1_bendWith 8 = .ok (.aload_n 0, 1) := by decide +kernel
theorem dX1_bendWith_9 : decode cX1_bendWith 9 = .ok (.getfield 16, 3) := by decide +kernel
theorem dX1_bendWith_12 : decode cX1_bendWith 12 = .ok (.iload_n 1, 1) := by decide +kernel
theorem dX1_bendWith_13 : decode cX1_bendWith 13 = .ok (.iconst 1, 1) := by decide +kernel
theorem dX1_bendWith_14 : decode cX1_bendWith 14 = .ok (.iadd, 1) := by decide +kernel
theorem dX1_bendWith_15 : decode cX1_bendWith 15 = .ok (.iaload, 1) := by decide +kernel
theorem dX1_bendWith_16 : decode cX1_bendWith 16 = .ok (.iload_n 3, 1) := by decide +kernel
theorem dX1_bendWith_17 : decode cX1_bendWith 17 = .ok (.iadd, 1) := by decide +kernel
theorem dX1_bendWith_18 : decode cX1_bendWith 18 = .ok (.aload_n 0, 1) := by decide +kernel
theorem dX1_bendWith_19 : decode cX1_bendWith 19 = .ok (.getfield 16, 3) := by decide +kernel
theorem dX1_bendWith_22 : decode cX1_bendWith 22 = .ok (.iload_n 1, 1) := by decide +kernel
theorem dX1_bendWith_23 : decode cX1_bendWith 23 = .ok (.iconst 2, 1) := by decide +kernel
theorem dX1_bendWith_24 : decode cX1_bendWith 24 = .ok (.iadd, 1) := by decide +kernel
theorem dX1_bendWith_25 : decode cX1_bendWith 25 = .ok (.iaload, 1) := by decide +kernel
theorem dX1_bendWith_26 : decode cX1_bendWith 26 = .ok (.iload 4, 2) := by decide +kernel
theorem dX1_bendWith_28 : decode cX1_bendWith 28 = .ok (.iadd, 1) := by decide +kernel
theorem dX1_bendWith_29 : decode cX1_bendWith 29 = .ok (.invokestatic 45, 3) := by decide +kernel
theorem dX1_bendWith_32 : decode cX1_bendWith 32 = .ok (.istore 5, 2) := by decide +kernel
theorem dX1_bendWith_34 : decode cX1_bendWith 34 = .ok (.iload 5, 2) := by decide +kernel
theorem dX1_bendWith_36 : decode cX1_bendWith 36 = .ok (.aload_n 0, 1) := by decide +kernel
theorem dX1_bendWith_37 : decode cX1_bendWith 37 = .ok (.getfield 13, 3) := by decide +kernel
theorem dX1_bendWith_40 : decode cX1_bendWith 40 = .ok (.iload_n 1, 1) := by decide +kernel
theorem dX1_bendWith_41 : decode cX1_bendWith 41 = .ok (.iconst 1, 1) := by decide +kernel
theorem dX1_bendWith_42 : decode cX1_bendWith 42 = .ok (.iadd, 1) := by decide +kernel
theorem dX1_bendWith_43 : decode cX1_bendWith 43 = .ok (.aaload, 1) := by decide +kernel
theorem dX1_bendWith_44 : decode cX1_bendWith 44 = .ok (.iload_n 3, 1) := by decide +kernel
theorem dX1_bendWith_45 : decode cX1_bendWith 45 = .ok (.iconst 5, 1) := by decide +kernel
theorem dX1_bendWith_46 : decode cX1_bendWith 46 = .ok (.imul, 1) := by decide +kernel
theorem dX1_bendWith_47 : decode cX1_bendWith 47 = .ok (.iload 4, 2) := by decide +kernel
theorem dX1_bendWith_49 : decode cX1_bendWith 49 = .ok (.iadd, 1) := by decide +kernel
theorem dX1_bendWith_50 : decode cX1_bendWith 50 = .ok (.iaload, 1) := by decide +kernel
theorem dX1_bendWith_51 : decode cX1_bendWith 51 = .ok (.iadd, 1) := by decide +kernel
theorem dX1_bendWith_52 : decode cX1_bendWith 52 = .ok (.ireturn, 1) := by decide +kernel
set_option maxRecDepth 20000 in
theorem ggX1_draw_X1_lowestThird : GoodIn wsX1_draw wsX1_lowestThird := goodIn_r _ [9, 1, 2, 10, 11, 12, 8, 13, 4, 3, 14, 15, 16, 17, 18, 19] (by decide +kernel) (by decide +kernel)
set_option maxRecDepth 20000 in
theorem gX1_draw_X1_lowestThird : GoodIn wsX1_draw (wsV RX1 49 RX1 yX1_lowestThird wsX1_lowestThird) := goodIn_app (goodIn_of _ (by decide +kernel)) ggX1_draw_X1_lowestThird
theorem dX1_draw_0 : decode cX1_draw 0 = .ok (.iconst 0, 1) := by decide +kernel
theorem dX1_draw_1 : decode cX1_draw 1 = .ok (.istore_n 2, 1) := by decide +kernel
theorem dX1_draw_2 : decode cX1_draw 2 = .ok (.iconst 0, 1) := by decide +kernel
theorem dX1_draw_3 : decode cX1_draw 3 = .ok (.istore_n 3, 1) := by decide +kernel
theorem dX1_draw_4 : decode cX1_draw 4 = .ok (.ldc 40, 2) := by decide +kernel
theorem dX1_draw_6 : decode cX1_draw 6 = .ok (.istore 4, 2) := by decide +kernel
theorem dX1_draw_8 : decode cX1_draw 8 = .ok (.iconst 0, 1) := by decide +kernel
theorem dX1_draw_9 : decode cX1_draw 9 = .ok (.istore 5, 2) := by decide +kernel
theorem dX1_draw_11 : decode cX1_draw 11 = .ok (.iload 5, 2) := by decide +kernel
theorem dX1_draw_13 : decode cX1_draw 13 = .ok (.aload_n 0, 1) := by decide +kernel
theorem dX1_draw_14 : decode cX1_draw 14 = .ok (.getfield 20, 3) := by decide +kernel
theorem dX1_draw_17 : decode cX1_draw 17 = .ok (.iconst 0, 1) := by decide +kernel
theorem dX1_draw_18 : decode cX1_draw 18 = .ok (.iaload, 1) := by decide +kernel
theorem dX1_draw_19 : decode cX1_draw 19 = .ok (.if_icmp .ge 70, 3) := by decide +kernel
theorem dX1_draw_22 : decode cX1_draw 22 = .ok (.iconst 0, 1) := by decide +kernel
theorem dX1_draw_23 : decode cX1_draw 23 = .ok (.istore 6, 2) := by decide +kernel
theorem dX1_draw_25 : decode cX1_draw 25 = .ok (.iload 6, 2) := by decide +kernel
theorem dX1_draw_27 : decode cX1_draw 27 = .ok (.aload_n 0, 1) := by decide +kernel
theorem dX1_draw_28 : decode cX1_draw 28 = .ok (.getfield 20, 3) := by decide +kernel
theorem dX1_draw_31 : decode cX1_draw 31 = .ok (.iconst 1, 1) := by decide +kernel
theorem dX1_draw_32 : decode cX1_draw 32 = .ok (.iaload, 1) := by decide +kernel
theorem dX1_draw_33 : decode cX1_draw 33 = .ok (.if_icmp .ge 50, 3) := by decide +kernel
theorem dX1_draw_36 : decode cX1_draw 36 = .ok (.aload_n 0, 1) := by decide +kernel
theorem dX1_draw_37 : decode cX1_draw 37 = .ok (.getfield 13, 3) := by decide +kernel
theorem dX1_draw_40 : decode cX1_draw 40 = .ok (.iconst 0, 1) := by decide +kernel
theorem dX1_draw_41 : decode cX1_draw 41 = .ok (.aaload, 1) := by decide +kernel
theorem dX1_draw_42 : decode cX1_draw 42 = .ok (.iload 5, 2) := by decide +kernel
theorem dX1_draw_44 : decode cX1_draw 44 = .ok (.iconst 5, 1) := by decide +kernel
theorem dX1_draw_45 : decode cX1_draw 45 = .ok (.imul, 1) := by decide +kernel
theorem dX1_draw_46 : decode cX1_draw 46 = .ok (.iload 6, 2) := by decide +kernel
theorem dX1_draw_48 : decode cX1_draw 48 = .ok (.iadd, 1) := by decide +kernel
theorem dX1_draw_49 : decode cX1_draw 49 = .ok (.iaload, 1) := by decide +kernel
theorem dX1_draw_50 : decode cX1_draw 50 = .ok (.iload 4, 2) := by decide +kernel
theorem dX1_draw_52 : decode cX1_draw 52 = .ok (.if_icmp .ge 25, 3) := by decide +kernel
theorem dX1_draw_55 : decode cX1_draw 55 = .ok (.aload_n 0, 1) := by decide +kernel
theorem dX1_draw_56 : decode cX1_draw 56 = .ok (.getfield 13, 3) := by decide +kernel
theorem dX1_draw_59 : decode cX1_draw 59 = .ok (.iconst 0, 1) := by decide +kernel
theorem dX1_draw_60 : decode cX1_draw 60 = .ok (.aaload, 1) := by decide +kernel
theorem dX1_draw_61 : decode cX1_draw 61 = .ok (.iload 5, 2) := by decide +kernel
theorem dX1_draw_63 : decode cX1_draw 63 = .ok (.iconst 5, 1) := by decide +kernel
theorem dX1_draw_64 : decode cX1_draw 64 = .ok (.imul, 1) := by decide +kernel
theorem dX1_draw_65 : decode cX1_draw 65 = .ok (.iload 6, 2) := by decide +kernel
theorem dX1_draw_67 : decode cX1_draw 67 = .ok (.iadd, 1) := by decide +kernel
theorem dX1_draw_68 : decode cX1_draw 68 = .ok (.iaload, 1) := by decide +kernel
theorem dX1_draw_69 : decode cX1_draw 69 = .ok (.istore 4, 2) := by decide +kernel
theorem dX1_draw_71 : decode cX1_draw 71 = .ok (.iload 5, 2) := by decide +kernel
theorem dX1_draw_73 : decode cX1_draw 73 = .ok (.istore_n 2, 1) := by decide +kernel
theorem dX1_draw_74 : decode cX1_draw 74 = .ok (.iload 6, 2) := by decide +kernel
theorem dX1_draw_76 : decode cX1_draw 76 = .ok (.istore_n 3, 1) := by decide +kernel
theorem dX1_draw_77 : decode cX1_draw 77 = .ok (.iinc 6 1, 3) := by decide +kernel
theorem dX1_draw_80 : decode cX1_draw 80 = .ok (.goto (-55), 3) := by decide +kernel
theorem dX1_draw_83 : decode cX1_draw 83 = .ok (.iinc 5 1, 3) := by decide +kernel
theorem dX1_draw_86 : decode cX1_draw 86 = .ok (.goto (-75), 3) := by decide +kernel
theorem dX1_draw_89 : decode cX1_draw 89 = .ok (.aload_n 1, 1) := by decide +kernel
theorem dX1_draw_90 : decode cX1_draw 90 = .ok (.iconst 0, 1) := by decide +kernel
theorem dX1_draw_91 : decode cX1_draw 91 = .ok (.aload_n 0, 1) := by decide +kernel
theorem dX1_draw_92 : decode cX1_draw 92 = .ok (.getfield 16, 3) := by decide +kernel
theorem dX1_draw_95 : decode cX1_draw 95 = .ok (.iconst 0, 1) := by decide +kernel
theorem dX1_draw_96 : decode cX1_draw 96 = .ok (.iaload, 1) := by decide +kernel
theorem dX1_draw_97 : decode cX1_draw 97 = .ok (.iload_n 2, 1) := by decide +kernel
theorem dX1_draw_98 : decode cX1_draw 98 = .ok (.iadd, 1) := by decide +kernel
theorem dX1_draw_99 : decode cX1_draw 99 = .ok (.iastore, 1) := by decide +kernel
theorem dX1_draw_100 : decode cX1_draw 100 = .ok (.aload_n 1, 1) := by decide +kernel
theorem dX1_draw_101 : decode cX1_draw 101 = .ok (.iconst 1, 1) := by decide +kernel
theorem dX1_draw_102 : decode cX1_draw 102 = .ok (.aload_n 0, 1) := by decide +kernel
theorem dX1_draw_103 : decode cX1_draw 103 = .ok (.getfield 16, 3) := by decide +kernel
theorem dX1_draw_106 : decode cX1_draw 106 = .ok (.iconst 1, 1) := by decide +kernel
theorem dX1_draw_107 : decode cX1_draw 107 = .ok (.iaload, 1) := by decide +kernel
theorem dX1_draw_108 : decode cX1_draw 108 = .ok (.iload_n 3, 1) := by decide +kernel
theorem dX1_draw_109 : decode cX1_draw 109 = .ok (.iadd, 1) := by decide +kernel
theorem dX1_draw_110 : decode cX1_draw 110 = .ok (.iastore, 1) := by decide +kernel
theorem dX1_draw_111 : decode cX1_draw 111 = .ok (.iconst 0, 1) := by decide +kernel
theorem dX1_draw_112 : decode cX1_draw 112 = .ok (.istore 5, 2) := by decide +kernel
theorem dX1_draw_114 : decode cX1_draw 114 = .ok (.iload 5, 2) := by decide +kernel
theorem dX1_draw_116 : decode cX1_draw 116 = .ok (.bipush 7, 2) := by decide +kernel
theorem dX1_draw_118 : decode cX1_draw 118 = .ok (.if_icmp .ge 42, 3) := by decide +kernel
theorem dX1_draw_121 : decode cX1_draw 121 = .ok (.aload_n 0, 1) := by decide +kernel
theorem dX1_draw_122 : decode cX1_draw 122 = .ok (.iload 5, 2) := by decide +kernel
theorem dX1_draw_124 : decode cX1_draw 124 = .ok (.iload_n 2, 1) := by decide +kernel
theorem dX1_draw_125 : decode cX1_draw 125 = .ok (.iload_n 3, 1) := by decide +kernel
theorem dX1_draw_126 : decode cX1_draw 126 = .ok (.invokevirtual 49, 3) := by decide +kernel
theorem dX1_draw_129 : decode cX1_draw 129 = .ok (.istore 6, 2) := by decide +kernel
theorem dX1_draw_131 : decode cX1_draw 131 = .ok (.aload_n 1, 1) := by decide +kernel
theorem dX1_draw_132 : decode cX1_draw 132 = .ok (.iload 5, 2) := by decide +kernel
theorem dX1_draw_134 : decode cX1_draw 134 = .ok (.iconst 2, 1) := by decide +kernel
theorem dX1_draw_135 : decode cX1_draw 135 = .ok (.iadd, 1) := by decide +kernel
theorem dX1_draw_136 : decode cX1_draw 136 = .ok (.aload_n 0, 1) := by decide +kernel
theorem dX1_draw_137 : decode cX1_draw 137 = .ok (.getfield 16, 3) := by decide +kernel
theorem dX1_draw_140 : decode cX1_draw 140 = .ok (.iload 5, 2) := by decide +kernel
theorem dX1_draw_142 : decode cX1_draw 142 = .ok (.iconst 2, 1) := by decide +kernel
theorem dX1_draw_143 : decode cX1_draw 143 = .ok (.iadd, 1) := by decide +kernel
theorem dX1_draw_144 : decode cX1_draw 144 = .ok (.iaload, 1) := by decide +kernel
theorem dX1_draw_145 : decode cX1_draw 145 = .ok (.iload 6, 2) := by decide +kernel
theorem dX1_draw_147 : decode cX1_draw 147 = .ok (.iadd, 1) := by decide +kernel
theorem dX1_draw_148 : decode cX1_draw 148 = .ok (.iastore, 1) := by decide +kernel
theorem dX1_draw_149 : decode cX1_draw 149 = .ok (.iload_n 3, 1) := by decide +kernel
theorem dX1_draw_150 : decode cX1_draw 150 = .ok (.istore_n 2, 1) := by decide +kernel
theorem dX1_draw_151 : decode cX1_draw 151 = .ok (.iload 6, 2) := by decide +kernel
theorem dX1_draw_153 : decode cX1_draw 153 = .ok (.istore_n 3, 1) := by decide +kernel
theorem dX1_draw_154 : decode cX1_draw 154 = .ok (.iinc 5 1, 3) := by decide +kernel
theorem dX1_draw_157 : decode cX1_draw 157 = .ok (.goto (-43), 3) := by decide +kernel
theorem dX1_draw_160 : decode cX1_draw 160 = .ok (.return_, 1) := by decide +kernel
set_option maxRecDepth 20000 in
theorem ggX1_lowestThird_X1_bendWith : GoodIn wsX1_lowestThird wsX1_bendWith := goodIn_r _ [7, 8, 9, 10, 11, 12, 13, 14, 15] (by decide +kernel) (by decide +kernel)
set_option maxRecDepth 20000 in
theorem gX1_lowestThird_X1_bendWith : GoodIn wsX1_lowestThird (wsV RX1 41 RX1 yX1_bendWith wsX1_bendWith) := goodIn_app (goodIn_of _ (by decide +kernel)) ggX1_lowestThird_X1_bendWith
theorem dX1_lowestThird_0 : decode cX1_lowestThird 0 = .ok (.iconst 0, 1) := by decide +kernel
theorem dX1_lowestThird_1 : decode cX1_lowestThird 1 = .ok (.istore 4, 2) := by decide +kernel
theorem dX1_lowestThird_3 : decode cX1_lowestThird 3 = .ok (.ldc 40, 2) := by decide +kernel
theorem dX1_lowestThird_5 : decode cX1_lowestThird 5 = .ok (.istore 5, 2) := by decide +kernel
theorem dX1_lowestThird_7 : decode cX1_lowestThird 7 = .ok (.iconst 0, 1) := by decide +kernel
theorem dX1_lowestThird_8 : decode cX1_lowestThird 8 = .ok (.istore 6, 2) := by decide +kernel
theorem dX1_lowestThird_10 : decode cX1_lowestThird 10 = .ok (.iload 6, 2) := by decide +kernel
theorem dX1_lowestThird_12 : decode cX1_lowestThird 12 = .ok (.aload_n 0, 1) := by decide +kernel
theorem dX1_lowestThird_13 : decode cX1_lowestThird 13 = .ok (.getfield 20, 3) := by decide +kernel
theorem dX1_lowestThird_16 : decode cX1_lowestThird 16 = .ok (.iload_n 1, 1) := by decide +kernel
theorem dX1_lowestThird_17 : decode cX1_lowestThird 17 = .ok (.iconst 2, 1) := by decide +kernel
theorem dX1_lowestThird_18 : decode cX1_lowestThird 18 = .ok (.iadd, 1) := by decide +kernel
theorem dX1_lowestThird_19 : decode cX1_lowestThird 19 = .ok (.iaload, 1) := by decide +kernel
theorem dX1_lowestThird_20 : decode cX1_lowestThird 20 = .ok (.if_icmp .ge 35, 3) := by decide +kernel
theorem dX1_lowestThird_23 : decode cX1_lowestThird 23 = .ok (.aload_n 0, 1) := by decide +kernel
theorem dX1_lowestThird_24 : decode cX1_lowestThird 24 = .ok (.iload_n 1, 1) := by decide +kernel
theorem dX1_lowestThird_25 : decode cX1_lowestThird 25 = .ok (.iload_n 2, 1) := by decide +kernel
theorem dX1_lowestThird_26 : decode cX1_lowestThird 26 = .ok (.iload_n 3, 1) := by decide +kernel
theorem dX1_lowestThird_27 : decode cX1_lowestThird 27 = .ok (.iload 6, 2) := by decide +kernel
theorem dX1_lowestThird_29 : decode cX1_lowestThird 29 = .ok (.invokevirtual 41, 3) := by decide +kernel
theorem dX1_lowestThird_32 : decode cX1_lowestThird 32 = .ok (.istore 7, 2) := by decide +kernel
theorem dX1_lowestThird_34 : decode cX1_lowestThird 34 = .ok (.iload 7, 2) := by decide +kernel
theorem dX1_lowestThird_36 : decode cX1_lowestThird 36 = .ok (.iload 5, 2) := by decide +kernel
theorem dX1_lowestThird_38 : decode cX1_lowestThird 38 = .ok (.if_icmp .ge 11, 3) := by decide +kernel
theorem dX1_lowestThird_41 : decode cX1_lowestThird 41 = .ok (.iload 7, 2) := by decide +kernel
theorem dX1_lowestThird_43 : decode cX1_lowestThird 43 = .ok (.istore 5, 2) := by decide +kernel
theorem dX1_lowestThird_45 : decode cX1_lowestThird 45 = .ok (.iload 6, 2) := by decide +kernel
theorem dX1_lowestThird_47 : decode cX1_lowestThird 47 = .ok (.istore 4, 2) := by decide +kernel
theorem dX1_lowestThird_49 : decode cX1_lowestThird 49 = .ok (.iinc 6 1, 3) := by decide +kernel
theorem dX1_lowestThird_52 : decode cX1_lowestThird 52 = .ok (.goto (-42), 3) := by decide +kernel
theorem dX1_lowestThird_55 : decode cX1_lowestThird 55 = .ok (.iload 4, 2) := by decide +kernel
theorem dX1_lowestThird_57 : decode cX1_lowestThird 57 = .ok (.ireturn, 1) := by decide +kernel
theorem dX2_init_0 : decode cX2_init 0 = .ok (.aload_n 0, 1) := by decide +kernel
theorem dX2_init_1 : decode cX2_init 1 = .ok (.invokespecial 3, 3) := by decide +kernel
theorem dX2_init_4 : decode cX2_init 4 = .ok (.aload_n 0, 1) := by decide +kernel
theorem dX2_init_5 : decode cX2_init 5 = .ok (.bipush 6, 2) := by decide +kernel
theorem dX2_init_7 : decode cX2_init 7 = .ok (.newarray .int, 2) := by decide +kernel
theorem dX2_init_9 : decode cX2_init 9 = .ok (.putfield 9, 3) := by decide +kernel
theorem dX2_init_12 : decode cX2_init 12 = .ok (.aload_n 0, 1) := by decide +kernel
theorem dX2_init_13 : decode cX2_init 13 = .ok (.bipush 6, 2) := by decide +kernel
theorem dX2_init_15 : decode cX2_init 15 = .ok (.newarray .int, 2) := by decide +kernel
theorem dX2_init_17 : decode cX2_init 17 = .ok (.putfield 15, 3) := by decide +kernel
theorem dX2_init_20 : decode cX2_init 20 = .ok (.return_, 1) := by decide +kernel
set_option maxRecDepth 20000 in
theorem ggX2_measure_X4_volumeUpTo : GoodIn wsX2_measure wsX4_volumeUpTo := goodIn_r _ [6, 7, 8, 9, 4, 10, 11, 17] (by decide +kernel) (by decide +kernel)
set_option maxRecDepth 20000 in
theorem gX2_measure_X4_volumeUpTo_n18 : GoodIn wsX2_measure (wsX4_volumeUpTo) := ggX2_measure_X4_volumeUpTo
set_option maxRecDepth 20000 in
theorem ggX2_measure_X4_momentUpTo : GoodIn wsX2_measure wsX4_momentUpTo := goodIn_r _ [14, 7, 8, 9, 4, 10, 11, 17] (by decide +kernel) (by decide +kernel)
set_option maxRecDepth 20000 in
theorem gX2_measure_X4_momentUpTo_n24 : GoodIn wsX2_measure (wsX4_momentUpTo) := ggX2_measure_X4_momentUpTo
theorem dX2_measure_0 : decode cX2_measure 0 = .ok (.iconst 0, 1) := by decide +kernel
theorem dX2_measure_1 : decode cX2_measure 1 = .ok (.istore_n 2, 1) := by decide +kernel
theorem dX2_measure_2 : decode cX2_measure 2 = .ok (.iload_n 2, 1) := by decide +kernel
theorem dX2_measure_3 : decode cX2_measure 3 = .ok (.bipush 6, 2) := by decide +kernel
theorem dX2_measure_5 : decode cX2_measure 5 = .ok (.if_icmp .ge 31, 3) := by decide +kernel
theorem dX2_measure_8 : decode cX2_measure 8 = .ok (.aload_n 0, 1) := by decide +kernel
theorem dX2_measure_9 : decode cX2_measure 9 = .ok (.getfield 9, 3) := by decide +kernel
theorem dX2_measure_12 : decode cX2_measure 12 = .ok (.iload_n 2, 1) := by decide +kernel
theorem dX2_measure_13 : decode cX2_measure 13 = .ok (.aload_n 1, 1) := by decide +kernel
theorem dX2_measure_14 : decode cX2_measure 14 = .ok (.iload_n 2, 1) := by decide +kernel
theorem dX2_measure_15 : decode cX2_measure 15 = .ok (.invokevirtual 18, 3) := by decide +kernel
theorem dX2_measure_18 : decode cX2_measure 18 = .ok (.iastore, 1) := by decide +kernel
theorem dX2_measure_19 : decode cX2_measure 19 = .ok (.aload_n 0, 1) := by decide +kernel
theorem dX2_measure_20 : decode cX2_measure 20 = .ok (.getfield 15, 3) := by decide +kernel
theorem dX2_measure_23 : decode cX2_measure 23 = .ok (.iload_n 2, 1) := by decide +kernel
theorem dX2_measure_24 : decode cX2_measure 24 = .ok (.aload_n 1, 1) := by decide +kernel
theorem dX2_measure_25 : decode cX2_measure 25 = .ok (.iload_n 2, 1) := by decide +kernel
theorem dX2_measure_26 : decode cX2_measure 26 = .ok (.invokevirtual 24, 3) := by decide +kernel
theorem dX2_measure_29 : decode cX2_measure 29 = .ok (.iastore, 1) := by decide +kernel
theorem dX2_measure_30 : decode cX2_measure 30 = .ok (.iinc 2 1, 3) := by decide +kernel
theorem dX2_measure_33 : decode cX2_measure 33 = .ok (.goto (-31), 3) := by decide +kernel
theorem dX2_measure_36 : decode cX2_measure 36 = .ok (.return_, 1) := by decide +kernel
theorem dX2_draughtUnder_0 : decode cX2_draughtUnder 0 = .ok (.iconst 0, 1) := by decide +kernel
theorem dX2_draughtUnder_1 : decode cX2_draughtUnder 1 = .ok (.istore_n 2, 1) := by decide +kernel
theorem dX2_draughtUnder_2 : decode cX2_draughtUnder 2 = .ok (.iload_n 2, 1) := by decide +kernel
theorem dX2_draughtUnder_3 : decode cX2_draughtUnder 3 = .ok (.bipush 6, 2) := by decide +kernel
theorem dX2_draughtUnder_5 : decode cX2_draughtUnder 5 = .ok (.if_icmp .ge 21, 3) := by decide +kernel
theorem dX2_draughtUnder_8 : decode cX2_draughtUnder 8 = .ok (.aload_n 0, 1) := by decide +kernel
theorem dX2_draughtUnder_9 : decode cX2_draughtUnder 9 = .ok (.getfield 9, 3) := by decide +kernel
theorem dX2_draughtUnder_12 : decode cX2_draughtUnder 12 = .ok (.iload_n 2, 1) := by decide +kernel
theorem dX2_draughtUnder_13 : decode cX2_draughtUnder 13 = .ok (.iaload, 1) := by decide +kernel
theorem dX2_draughtUnder_14 : decode cX2_draughtUnder 14 = .ok (.iload_n 1, 1) := by decide +kernel
theorem dX2_draughtUnder_15 : decode cX2_draughtUnder 15 = .ok (.if_icmp .lt 5, 3) := by decide +kernel
theorem dX2_draughtUnder_18 : decode cX2_draughtUnder 18 = .ok (.iload_n 2, 1) := by decide +kernel
theorem dX2_draughtUnder_19 : decode cX2_draughtUnder 19 = .ok (.ireturn, 1) := by decide +kernel
theorem dX2_draughtUnder_20 : decode cX2_draughtUnder 20 = .ok (.iinc 2 1, 3) := by decide +kernel
theorem dX2_draughtUnder_23 : decode cX2_draughtUnder 23 = .ok (.goto (-21), 3) := by decide +kernel
theorem dX2_draughtUnder_26 : decode cX2_draughtUnder 26 = .ok (.iconst (-1), 1) := by decide +kernel
theorem dX2_draughtUnder_27 : decode cX2_draughtUnder 27 = .ok (.ireturn, 1) := by decide +kernel
set_option maxRecDepth 20000 in
theorem ggX2_trimUnder_X2_draughtUnder : GoodIn wsX2_trimUnder wsX2_draughtUnder := goodIn_r _ [7, 2, 15, 16] (by decide +kernel) (by decide +kernel)
set_option maxRecDepth 20000 in
theorem gX2_trimUnder_X2_draughtUnder : GoodIn wsX2_trimUnder (wsV RX2 27 RX2 yX2_draughtUnder wsX2_draughtUnder) := goodIn_app (goodIn_of _ (by decide +kernel)) ggX2_trimUnder_X2_draughtUnder
set_option maxRecDepth 20000 in
theorem ggX2_trimUnder_X2_hundredfold : GoodIn wsX2_trimUnder wsX2_hundredfold := goodIn_r _ [10, 11, 12, 13, 14] (by decide +kernel) (by decide +kernel)
set_option maxRecDepth 20000 in
theorem gX2_trimUnder_X2_hundredfold : GoodIn wsX2_trimUnder (va_wsS RX2 30 yX2_hundredfold wsX2_hundredfold) := goodIn_app (goodIn_of _ (by decide +kernel)) ggX2_trimUnder_X2_hundredfold
theorem dX2_trimUnder_0 : decode cX2_trimUnder 0 = .ok (.aload_n 0, 1) := by decide +kernel
theorem dX2_trimUnder_1 : decode cX2_trimUnder 1 = .ok (.iload_n 1, 1) := by decide +kernel
theorem dX2_trimUnder_2 : decode cX2_trimUnder 2 = .ok (.invokevirtual 27, 3) := by decide +kernel
theorem dX2_trimUnder_5 : decode cX2_trimUnder 5 = .ok (.istore_n 3, 1) := by decide +kernel
theorem dX2_trimUnder_6 : decode cX2_trimUnder 6 = .ok (.iload_n 3, 1) := by decide +kernel
theorem dX2_trimUnder_7 : decode cX2_trimUnder 7 = .ok (.iconst (-1), 1) := by decide +kernel
theorem dX2_trimUnder_8 : decode cX2_trimUnder 8 = .ok (.if_icmp .ne 5, 3) := by decide +kernel
theorem dX2_trimUnder_11 : decode cX2_trimUnder 11 = .ok (.iconst 0, 1) := by decide +kernel
theorem dX2_trimUnder_12 : decode cX2_trimUnder 12 = .ok (.ireturn, 1) := by decide +kernel
theorem dX2_trimUnder_13 : decode cX2_trimUnder 13 = .ok (.iload_n 2, 1) := by decide +kernel
theorem dX2_trimUnder_14 : decode cX2_trimUnder 14 = .ok (.iload_n 1, 1) := by decide +kernel
theorem dX2_trimUnder_15 : decode cX2_trimUnder 15 = .ok (.invokestatic 30, 3) := by decide +kernel
theorem dX2_trimUnder_18 : decode cX2_trimUnder 18 = .ok (.aload_n 0, 1) := by decide +kernel
theorem dX2_trimUnder_19 : decode cX2_trimUnder 19 = .ok (.getfield 15, 3) := by decide +kernel
theorem dX2_trimUnder_22 : decode cX2_trimUnder 22 = .ok (.iload_n 3, 1) := by decide +kernel
theorem dX2_trimUnder_23 : decode cX2_trimUnder 23 = .ok (.iaload, 1) := by decide +kernel
theorem dX2_trimUnder_24 : decode cX2_trimUnder 24 = .ok (.aload_n 0, 1) := by decide +kernel
theorem dX2_trimUnder_25 : decode cX2_trimUnder 25 = .ok (.getfield 9, 3) := by decide +kernel
theorem dX2_trimUnder_28 : decode cX2_trimUnder 28 = .ok (.iload_n 3, 1) := by decide +kernel
theorem dX2_trimUnder_29 : decode cX2_trimUnder 29 = .ok (.iaload, 1) := by decide +kernel
theorem dX2_trimUnder_30 : decode cX2_trimUnder 30 = .ok (.invokestatic 30, 3) := by decide +kernel
theorem dX2_trimUnder_33 : decode cX2_trimUnder 33 = .ok (.isub, 1) := by decide +kernel
theorem dX2_trimUnder_34 : decode cX2_trimUnder 34 = .ok (.ireturn, 1) := by decide +kernel
set_option maxRecDepth 20000 in
theorem ggX2_hundredfold_J9_floorDiv_7cf53 : GoodIn wsX2_hundredfold wsJ9_floorDiv_7cf53 := goodIn_r _ [4] (by decide +kernel) (by decide +kernel)
set_option maxRecDepth 20000 in
theorem gX2_hundredfold_J9_floorDiv_7cf53 : GoodIn wsX2_hundredfold (va_wsS RX2 34 yJ9_floorDiv_7cf53 wsJ9_floorDiv_7cf53) := goodIn_app (goodIn_of _ (by decide +kernel)) ggX2_hundredfold_J9_floorDiv_7cf53
theorem dX2_hundredfold_0 : decode cX2_hundredfold 0 = .ok (.iload_n 1, 1) := by decide +kernel
theorem dX2_hundredfold_1 : decode cX2_hundredfold 1 = .ok (.ifCond .ne 7, 3) := by decide +kernel
theorem dX2_hundredfold_4 : decode cX2_hundredfold 4 = .ok (.iconst 0, 1) := by decide +kernel
theorem dX2_hundredfold_5 : decode cX2_hundredfold 5 = .ok (.goto 11, 3) := by decide +kernel
theorem dX2_hundredfold_8 : decode cX2_hundredfold 8 = .ok (.bipush 100, 2) := by decide +kernel
theorem dX2_hundredfold_10 : decode cX2_hundredfold 10 = .ok (.iload_n 0, 1) := by decide +kernel
theorem dX2_hundredfold_11 : decode cX2_hundredfold 11 = .ok (.imul, 1) := by decide +kernel
theorem dX2_hundredfold_12 : decode cX2_hundredfold 12 = .ok (.iload_n 1, 1) := by decide +kernel
theorem dX2_hundredfold_13 : decode cX2_hundredfold 13 = .ok (.invokestatic 34, 3) := by decide +kernel
theorem dX2_hundredfold_16 : decode cX2_hundredfold 16 = .ok (.ireturn, 1) := by decide +kernel
set_option maxRecDepth 20000 in
theorem ggX2_setBallast_X3_loadWithoutBallast : GoodIn wsX2_setBallast wsX3_loadWithoutBallast := goodIn_r _ [8, 9, 10, 33, 34, 35, 36, 37] (by decide +kernel) (by decide +kernel)
set_option maxRecDepth 20000 in
theorem gX2_setBallast_X3_loadWithoutBallast_n39 : GoodIn wsX2_setBallast (wsX3_loadWithoutBallast) := ggX2_setBallast_X3_loadWithoutBallast
set_option maxRecDepth 20000 in
theorem ggX2_setBallast_X3_momentWithoutBallast : GoodIn wsX2_setBallast wsX3_momentWithoutBallast := goodIn_r _ [13, 9, 10, 14, 33, 34, 35, 36, 37] (by decide +kernel) (by decide +kernel)
set_option maxRecDepth 20000 in
theorem gX2_setBallast_X3_momentWithoutBallast_n45 : GoodIn wsX2_setBallast (wsX3_momentWithoutBallast) := ggX2_setBallast_X3_momentWithoutBallast
set_option maxRecDepth 20000 in
theorem ggX2_setBallast_X2_draughtUnder : GoodIn wsX2_setBallast wsX2_draughtUnder := goodIn_r _ [19, 20, 38, 39] (by decide +kernel) (by decide +kernel)
set_option maxRecDepth 20000 in
theorem gX2_setBallast_X2_draughtUnder : GoodIn wsX2_setBallast (wsV RX2 27 RX2 yX2_draughtUnder wsX2_draughtUnder) := goodIn_app (goodIn_of _ (by decide +kernel)) ggX2_setBallast_X2_draughtUnder
set_option maxRecDepth 20000 in
theorem ggX2_setBallast_X2_trimUnder : GoodIn wsX2_setBallast wsX2_trimUnder := goodIn_r _ [24, 25, 20, 15, 16, 17, 18, 19, 26, 27, 28, 29, 30, 31, 32, 38, 39] (by decide +kernel) (by decide +kernel)
set_option maxRecDepth 20000 in
theorem gX2_setBallast_X2_trimUnder : GoodIn wsX2_setBallast (wsV RX2 48 RX2 yX2_trimUnder wsX2_trimUnder) := goodIn_app (goodIn_of _ (by decide +kernel)) ggX2_setBallast_X2_trimUnder
theorem dX2_setBallast_0 : decode cX2_setBallast 0 = .ok (.aload_n 1, 1) := by decide +kernel
theorem dX2_setBallast_1 : decode cX2_setBallast 1 = .ok (.invokevirtual 39, 3) := by decide +kernel
theorem dX2_setBallast_4 : decode cX2_setBallast 4 = .ok (.istore_n 3, 1) := by decide +kernel
theorem dX2_setBallast_5 : decode cX2_setBallast 5 = .ok (.aload_n 1, 1) := by decide +kernel
theorem dX2_setBallast_6 : decode cX2_setBallast 6 = .ok (.invokevirtual 45, 3) := by decide +kernel
theorem dX2_setBallast_9 : decode cX2_setBallast 9 = .ok (.istore 4, 2) := by decide +kernel
theorem dX2_setBallast_11 : decode cX2_setBallast 11 = .ok (.iconst 0, 1) := by decide +kernel
theorem dX2_setBallast_12 : decode cX2_setBallast 12 = .ok (.istore 5, 2) := by decide +kernel
theorem dX2_setBallast_14 : decode cX2_setBallast 14 = .ok (.iconst 0, 1) := by decide +kernel
theorem dX2_setBallast_15 : decode cX2_setBallast 15 = .ok (.istore 6, 2) := by decide +kernel
theorem dX2_setBallast_17 : decode cX2_setBallast 17 = .ok (.iconst 0, 1) := by decide +kernel
theorem dX2_setBallast_18 : decode cX2_setBallast 18 = .ok (.istore 7, 2) := by decide +kernel
theorem dX2_setBallast_20 : decode cX2_setBallast 20 = .ok (.iload 7, 2) := by decide +kernel
theorem dX2_setBallast_22 : decode cX2_setBallast 22 = .ok (.iload_n 2, 1) := by decide +kernel
theorem dX2_setBallast_23 : decode cX2_setBallast 23 = .ok (.if_icmp .gt 99, 3) := by decide +kernel
theorem dX2_setBallast_26 : decode cX2_setBallast 26 = .ok (.aload_n 0, 1) := by decide +kernel
theorem dX2_setBallast_27 : decode cX2_setBallast 27 = .ok (.iload_n 3, 1) := by decide +kernel
theorem dX2_setBallast_28 : decode cX2_setBallast 28 = .ok (.bipush 10, 2) := by decide +kernel
theorem dX2_setBallast_30 : decode cX2_setBallast 30 = .ok (.iload 7, 2) := by decide +kernel
theorem dX2_setBallast_32 : decode cX2_setBallast 32 = .ok (.imul, 1) := by decide +kernel
theorem dX2_setBallast_33 : decode cX2_setBallast 33 = .ok (.iadd, 1) := by decide +kernel
theorem dX2_setBallast_34 : decode cX2_setBallast 34 = .ok (.invokevirtual 27, 3) := by decide +kernel
theorem dX2_setBallast_37 : decode cX2_setBallast 37 = .ok (.iconst (-1), 1) := by decide +kernel
theorem dX2_setBallast_38 : decode cX2_setBallast 38 = .ok (.if_icmp .ne 4, 3) := by decide +kernel
theorem dX2_setBallast_41 : decode cX2_setBallast 41 = .ok (.return_, 1) := by decide +kernel
theorem dX2_setBallast_42 : decode cX2_setBallast 42 = .ok (.iconst 0, 1) := by decide +kernel
theorem dX2_setBallast_43 : decode cX2_setBallast 43 = .ok (.istore 8, 2) := by decide +kernel
theorem dX2_setBallast_45 : decode cX2_setBallast 45 = .ok (.iload 8, 2) := by decide +kernel
theorem dX2_setBallast_47 : decode cX2_setBallast 47 = .ok (.bipush 9, 2) := by decide +kernel
theorem dX2_setBallast_49 : decode cX2_setBallast 49 = .ok (.if_icmp .ge 67, 3) := by decide +kernel
theorem dX2_setBallast_52 : decode cX2_setBallast 52 = .ok (.aload_n 0, 1) := by decide +kernel
theorem dX2_setBallast_53 : decode cX2_setBallast 53 = .ok (.iload_n 3, 1) := by decide +kernel
theorem dX2_setBallast_54 : decode cX2_setBallast 54 = .ok (.bipush 10, 2) := by decide +kernel
theorem dX2_setBallast_56 : decode cX2_setBallast 56 = .ok (.iload 7, 2) := by decide +kernel
theorem dX2_setBallast_58 : decode cX2_setBallast 58 = .ok (.imul, 1) := by decide +kernel
theorem dX2_setBallast_59 : decode cX2_setBallast 59 = .ok (.iadd, 1) := by decide +kernel
theorem dX2_setBallast_60 : decode cX2_setBallast 60 = .ok (.iload 4, 2) := by decide +kernel
theorem dX2_setBallast_62 : decode cX2_setBallast 62 = .ok (.iload 7, 2) := by decide +kernel
theorem dX2_setBallast_64 : decode cX2_setBallast 64 = .ok (.bipush 20, 2) := by decide +kernel
theorem dX2_setBallast_66 : decode cX2_setBallast 66 = .ok (.imul, 1) := by decide +kernel
theorem dX2_setBallast_67 : decode cX2_setBallast 67 = .ok (.iload 8, 2) := by decide +kernel
theorem dX2_setBallast_69 : decode cX2_setBallast 69 = .ok (.imul, 1) := by decide +kernel
theorem dX2_setBallast_70 : decode cX2_setBallast 70 = .ok (.iadd, 1) := by decide +kernel
theorem dX2_setBallast_71 : decode cX2_setBallast 71 = .ok (.invokevirtual 48, 3) := by decide +kernel
theorem dX2_setBallast_74 : decode cX2_setBallast 74 = .ok (.invokestatic 51, 3) := by decide +kernel
theorem dX2_setBallast_77 : decode cX2_setBallast 77 = .ok (.istore 9, 2) := by decide +kernel
theorem dX2_setBallast_79 : decode cX2_setBallast 79 = .ok (.iload 5, 2) := by decide +kernel
theorem dX2_setBallast_81 : decode cX2_setBallast 81 = .ok (.ifCond .eq 10, 3) := by decide +kernel
theorem dX2_setBallast_84 : decode cX2_setBallast 84 = .ok (.iload 9, 2) := by decide +kernel
theorem dX2_setBallast_86 : decode cX2_setBallast 86 = .ok (.iload 6, 2) := by decide +kernel
theorem dX2_setBallast_88 : decode cX2_setBallast 88 = .ok (.if_icmp .ge 22, 3) := by decide +kernel
theorem dX2_setBallast_91 : decode cX2_setBallast 91 = .ok (.iconst 1, 1) := by decide +kernel
theorem dX2_setBallast_92 : decode cX2_setBallast 92 = .ok (.istore 5, 2) := by decide +kernel
theorem dX2_setBallast_94 : decode cX2_setBallast 94 = .ok (.iload 9, 2) := by decide +kernel
theorem dX2_setBallast_96 : decode cX2_setBallast 96 = .ok (.istore 6, 2) := by decide +kernel
theorem dX2_setBallast_98 : decode cX2_setBallast 98 = .ok (.aload_n 1, 1) := by decide +kernel
theorem dX2_setBallast_99 : decode cX2_setBallast 99 = .ok (.iload 7, 2) := by decide +kernel
theorem dX2_setBallast_101 : decode cX2_setBallast 101 = .ok (.putfield 54, 3) := by decide +kernel
theorem dX2_setBallast_104 : decode cX2_setBallast 104 = .ok (.aload_n 1, 1) := by decide +kernel
theorem dX2_setBallast_105 : decode cX2_setBallast 105 = .ok (.iload 8, 2) := by decide +kernel
theorem dX2_setBallast_107 : decode cX2_setBallast 107 = .ok (.putfield 58, 3) := by decide +kernel
theorem dX2_setBallast_110 : decode cX2_setBallast 110 = .ok (.iinc 8 1, 3) := by decide +kernel
theorem dX2_setBallast_113 : decode cX2_setBallast 113 = .ok (.goto (-68), 3) := by decide +kernel
theorem dX2_setBallast_116 : decode cX2_setBallast 116 = .ok (.iinc 7 1, 3) := by decide +kernel
theorem dX2_setBallast_119 : decode cX2_setBallast 119 = .ok (.goto (-99), 3) := by decide +kernel
theorem dX2_setBallast_122 : decode cX2_setBallast 122 = .ok (.return_, 1) := by decide +kernel
theorem dX3_init_0 : decode cX3_init 0 = .ok (.aload_n 0, 1) := by decide +kernel
theorem dX3_init_1 : decode cX3_init 1 = .ok (.invokespecial 1, 3) := by decide +kernel
theorem dX3_init_4 : decode cX3_init 4 = .ok (.aload_n 0, 1) := by decide +kernel
theorem dX3_init_5 : decode cX3_init 5 = .ok (.bipush 16, 2) := by decide +kernel
theorem dX3_init_7 : decode cX3_init 7 = .ok (.newarray .int, 2) := by decide +kernel
theorem dX3_init_9 : decode cX3_init 9 = .ok (.putfield 9, 3) := by decide +kernel
theorem dX3_init_12 : decode cX3_init 12 = .ok (.aload_n 0, 1) := by decide +kernel
theorem dX3_init_13 : decode cX3_init 13 = .ok (.bipush 16, 2) := by decide +kernel
theorem dX3_init_15 : decode cX3_init 15 = .ok (.newarray .int, 2) := by decide +kernel
theorem dX3_init_17 : decode cX3_init 17 = .ok (.putfield 13, 3) := by decide +kernel
theorem dX3_init_20 : decode cX3_init 20 = .ok (.aload_n 0, 1) := by decide +kernel
theorem dX3_init_21 : decode cX3_init 21 = .ok (.iconst 0, 1) := by decide +kernel
theorem dX3_init_22 : decode cX3_init 22 = .ok (.putfield 16, 3) := by decide +kernel
theorem dX3_init_25 : decode cX3_init 25 = .ok (.aload_n 0, 1) := by decide +kernel
theorem dX3_init_26 : decode cX3_init 26 = .ok (.iconst 0, 1) := by decide +kernel
theorem dX3_init_27 : decode cX3_init 27 = .ok (.putfield 20, 3) := by decide +kernel
theorem dX3_init_30 : decode cX3_init 30 = .ok (.aload_n 0, 1) := by decide +kernel
theorem dX3_init_31 : decode cX3_init 31 = .ok (.iconst 4, 1) := by decide +kernel
theorem dX3_init_32 : decode cX3_init 32 = .ok (.putfield 23, 3) := by decide +kernel
theorem dX3_init_35 : decode cX3_init 35 = .ok (.return_, 1) := by decide +kernel
theorem dX3_isFull_0 : decode cX3_isFull 0 = .ok (.aload_n 0, 1) := by decide +kernel
theorem dX3_isFull_1 : decode cX3_isFull 1 = .ok (.getfield 16, 3) := by decide +kernel
theorem dX3_isFull_4 : decode cX3_isFull 4 = .ok (.bipush 16, 2) := by decide +kernel
theorem dX3_isFull_6 : decode cX3_isFull 6 = .ok (.if_icmp .lt 7, 3) := by decide +kernel
theorem dX3_isFull_9 : decode cX3_isFull 9 = .ok (.iconst 1, 1) := by decide +kernel
theorem dX3_isFull_10 : decode cX3_isFull 10 = .ok (.goto 4, 3) := by decide +kernel
theorem dX3_isFull_13 : decode cX3_isFull 13 = .ok (.iconst 0, 1) := by decide +kernel
theorem dX3_isFull_14 : decode cX3_isFull 14 = .ok (.ireturn, 1) := by decide +kernel
theorem dX3_add_0 : decode cX3_add 0 = .ok (.aload_n 0, 1) := by decide +kernel
theorem dX3_add_1 : decode cX3_add 1 = .ok (.getfield 9, 3) := by decide +kernel
theorem dX3_add_4 : decode cX3_add 4 = .ok (.aload_n 0, 1) := by decide +kernel
theorem dX3_add_5 : decode cX3_add 5 = .ok (.getfield 16, 3) := by decide +kernel
theorem dX3_add_8 : decode cX3_add 8 = .ok (.iload_n 2, 1) := by decide +kernel
theorem dX3_add_9 : decode cX3_add 9 = .ok (.iastore, 1) := by decide +kernel
theorem dX3_add_10 : decode cX3_add 10 = .ok (.aload_n 0, 1) := by decide +kernel
theorem dX3_add_11 : decode cX3_add 11 = .ok (.getfield 13, 3) := by decide +kernel
theorem dX3_add_14 : decode cX3_add 14 = .ok (.aload_n 0, 1) := by decide +kernel
theorem dX3_add_15 : decode cX3_add 15 = .ok (.getfield 16, 3) := by decide +kernel
theorem dX3_add_18 : decode cX3_add 18 = .ok (.iload_n 1, 1) := by decide +kernel
theorem dX3_add_19 : decode cX3_add 19 = .ok (.iastore, 1) := by decide +kernel
theorem dX3_add_20 : decode cX3_add 20 = .ok (.aload_n 0, 1) := by decide +kernel
theorem dX3_add_21 : decode cX3_add 21 = .ok (.dup, 1) := by decide +kernel
theorem dX3_add_22 : decode cX3_add 22 = .ok (.getfield 16, 3) := by decide +kernel
theorem dX3_add_25 : decode cX3_add 25 = .ok (.iconst 1, 1) := by decide +kernel
theorem dX3_add_26 : decode cX3_add 26 = .ok (.iadd, 1) := by decide +kernel
theorem dX3_add_27 : decode cX3_add 27 = .ok (.putfield 16, 3) := by decide +kernel
theorem dX3_add_30 : decode cX3_add 30 = .ok (.aload_n 0, 1) := by decide +kernel
theorem dX3_add_31 : decode cX3_add 31 = .ok (.getfield 16, 3) := by decide +kernel
theorem dX3_add_34 : decode cX3_add 34 = .ok (.iconst 1, 1) := by decide +kernel
theorem dX3_add_35 : decode cX3_add 35 = .ok (.isub, 1) := by decide +kernel
theorem dX3_add_36 : decode cX3_add 36 = .ok (.ireturn, 1) := by decide +kernel
theorem dX3_replace_0 : decode cX3_replace 0 = .ok (.bipush 10, 2) := by decide +kernel
theorem dX3_replace_2 : decode cX3_replace 2 = .ok (.aload_n 0, 1) := by decide +kernel
theorem dX3_replace_3 : decode cX3_replace 3 = .ok (.getfield 9, 3) := by decide +kernel
theorem dX3_replace_6 : decode cX3_replace 6 = .ok (.iload_n 1, 1) := by decide +kernel
theorem dX3_replace_7 : decode cX3_replace 7 = .ok (.iaload, 1) := by decide +kernel
theorem dX3_replace_8 : decode cX3_replace 8 = .ok (.imul, 1) := by decide +kernel
theorem dX3_replace_9 : decode cX3_replace 9 = .ok (.aload_n 0, 1) := by decide +kernel
theorem dX3_replace_10 : decode cX3_replace 10 = .ok (.getfield 13, 3) := by decide +kernel
theorem dX3_replace_13 : decode cX3_replace 13 = .ok (.iload_n 1, 1) := by decide +kernel
theorem dX3_replace_14 : decode cX3_replace 14 = .ok (.iaload, 1) := by decide +kernel
theorem dX3_replace_15 : decode cX3_replace 15 = .ok (.iadd, 1) := by decide +kernel
theorem dX3_replace_16 : decode cX3_replace 16 = .ok (.istore 4, 2) := by decide +kernel
theorem dX3_replace_18 : decode cX3_replace 18 = .ok (.aload_n 0, 1) := by decide +kernel
theorem dX3_replace_19 : decode cX3_replace 19 = .ok (.getfield 9, 3) := by decide +kernel
theorem dX3_replace_22 : decode cX3_replace 22 = .ok (.iload_n 1, 1) := by decide +kernel
theorem dX3_replace_23 : decode cX3_replace 23 = .ok (.iload_n 3, 1) := by decide +kernel
theorem dX3_replace_24 : decode cX3_replace 24 = .ok (.iastore, 1) := by decide +kernel
theorem dX3_replace_25 : decode cX3_replace 25 = .ok (.aload_n 0, 1) := by decide +kernel
theorem dX3_replace_26 : decode cX3_replace 26 = .ok (.getfield 13, 3) := by decide +kernel
theorem dX3_replace_29 : decode cX3_replace 29 = .ok (.iload_n 1, 1) := by decide +kernel
theorem dX3_replace_30 : decode cX3_replace 30 = .ok (.iload_n 2, 1) := by decide +kernel
theorem dX3_replace_31 : decode cX3_replace 31 = .ok (.iastore, 1) := by decide +kernel
theorem dX3_replace_32 : decode cX3_replace 32 = .ok (.iload 4, 2) := by decide +kernel
theorem dX3_replace_34 : decode cX3_replace 34 = .ok (.ireturn, 1) := by decide +kernel
theorem dX3_loadWithoutBallast_0 : decode cX3_loadWithoutBallast 0 = .ok (.iconst 0, 1) := by decide +kernel
theorem dX3_loadWithoutBallast_1 : decode cX3_loadWithoutBallast 1 = .ok (.istore_n 1, 1) := by decide +kernel
theorem dX3_loadWithoutBallast_2 : decode cX3_loadWithoutBallast 2 = .ok (.iconst 0, 1) := by decide +kernel
theorem dX3_loadWithoutBallast_3 : decode cX3_loadWithoutBallast 3 = .ok (.istore_n 2, 1) := by decide +kernel
theorem dX3_loadWithoutBallast_4 : decode cX3_loadWithoutBallast 4 = .ok (.iload_n 2, 1) := by decide +kernel
theorem dX3_loadWithoutBallast_5 : decode cX3_loadWithoutBallast 5 = .ok (.aload_n 0, 1) := by decide +kernel
theorem dX3_loadWithoutBallast_6 : decode cX3_loadWithoutBallast 6 = .ok (.getfield 16, 3) := by decide +kernel
theorem dX3_loadWithoutBallast_9 : decode cX3_loadWithoutBallast 9 = .ok (.if_icmp .ge 18, 3) := by decide +kernel
theorem dX3_loadWithoutBallast_12 : decode cX3_loadWithoutBallast 12 = .ok (.iload_n 1, 1) := by decide +kernel
theorem dX3_loadWithoutBallast_13 : decode cX3_loadWithoutBallast 13 = .ok (.aload_n 0, 1) := by decide +kernel
theorem dX3_loadWithoutBallast_14 : decode cX3_loadWithoutBallast 14 = .ok (.getfield 9, 3) := by decide +kernel
theorem dX3_loadWithoutBallast_17 : decode cX3_loadWithoutBallast 17 = .ok (.iload_n 2, 1) := by decide +kernel
theorem dX3_loadWithoutBallast_18 : decode cX3_loadWithoutBallast 18 = .ok (.iaload, 1) := by decide +kernel
theorem dX3_loadWithoutBallast_19 : decode cX3_loadWithoutBallast 19 = .ok (.iadd, 1) := by decide +kernel
theorem dX3_loadWithoutBallast_20 : decode cX3_loadWithoutBallast 20 = .ok (.istore_n 1, 1) := by decide +kernel
theorem dX3_loadWithoutBallast_21 : decode cX3_loadWithoutBallast 21 = .ok (.iinc 2 1, 3) := by decide +kernel
theorem dX3_loadWithoutBallast_24 : decode cX3_loadWithoutBallast 24 = .ok (.goto (-20), 3) := by decide +kernel
theorem dX3_loadWithoutBallast_27 : decode cX3_loadWithoutBallast 27 = .ok (.bipush 10, 2) := by decide +kernel
theorem dX3_loadWithoutBallast_29 : decode cX3_loadWithoutBallast 29 = .ok (.iload_n 1, 1) := by decide +kernel
theorem dX3_loadWithoutBallast_30 : decode cX3_loadWithoutBallast 30 = .ok (.imul, 1) := by decide +kernel
theorem dX3_loadWithoutBallast_31 : decode cX3_loadWithoutBallast 31 = .ok (.ireturn, 1) := by decide +kernel
theorem dX3_momentWithoutBallast_0 : decode cX3_momentWithoutBallast 0 = .ok (.iconst 0, 1) := by decide +kernel
theorem dX3_momentWithoutBallast_1 : decode cX3_momentWithoutBallast 1 = .ok (.istore_n 1, 1) := by decide +kernel
theorem dX3_momentWithoutBallast_2 : decode cX3_momentWithoutBallast 2 = .ok (.iconst 0, 1) := by decide +kernel
theorem dX3_momentWithoutBallast_3 : decode cX3_momentWithoutBallast 3 = .ok (.istore_n 2, 1) := by decide +kernel
theorem dX3_momentWithoutBallast_4 : decode cX3_momentWithoutBallast 4 = .ok (.iload_n 2, 1) := by decide +kernel
theorem dX3_momentWithoutBallast_5 : decode cX3_momentWithoutBallast 5 = .ok (.aload_n 0, 1) := by decide +kernel
theorem dX3_momentWithoutBallast_6 : decode cX3_momentWithoutBallast 6 = .ok (.getfield 16, 3) := by decide +kernel
theorem dX3_momentWithoutBallast_9 : decode cX3_momentWithoutBallast 9 = .ok (.if_icmp .ge 28, 3) := by decide +kernel
theorem dX3_momentWithoutBallast_12 : decode cX3_momentWithoutBallast 12 = .ok (.iload_n 1, 1) := by decide +kernel
theorem dX3_momentWithoutBallast_13 : decode cX3_momentWithoutBallast 13 = .ok (.aload_n 0, 1) := by decide +kernel
theorem dX3_momentWithoutBallast_14 : decode cX3_momentWithoutBallast 14 = .ok (.getfield 9, 3) := by decide +kernel
theorem dX3_momentWithoutBallast_17 : decode cX3_momentWithoutBallast 17 = .ok (.iload_n 2, 1) := by decide +kernel
theorem dX3_momentWithoutBallast_18 : decode cX3_momentWithoutBallast 18 = .ok (.iaload, 1) := by decide +kernel
theorem dX3_momentWithoutBallast_19 : decode cX3_momentWithoutBallast 19 = .ok (.bipush 20, 2) := by decide +kernel
theorem dX3_momentWithoutBallast_21 : decode cX3_momentWithoutBallast 21 = .ok (.imul, 1) := by decide +kernel
theorem dX3_momentWithoutBallast_22 : decode cX3_momentWithoutBallast 22 = .ok (.aload_n 0, 1) := by decide +kernel
theorem dX3_momentWithoutBallast_23 : decode cX3_momentWithoutBallast 23 = .ok (.getfield 13, 3) := by decide +kernel
theorem dX3_momentWithoutBallast_26 : decode cX3_momentWithoutBallast 26 = .ok (.iload_n 2, 1) := by decide +kernel
theorem dX3_momentWithoutBallast_27 : decode cX3_momentWithoutBallast 27 = .ok (.iaload, 1) := by decide +kernel
theorem dX3_momentWithoutBallast_28 : decode cX3_momentWithoutBallast 28 = .ok (.imul, 1) := by decide +kernel
theorem dX3_momentWithoutBallast_29 : decode cX3_momentWithoutBallast 29 = .ok (.iadd, 1) := by decide +kernel
theorem dX3_momentWithoutBallast_30 : decode cX3_momentWithoutBallast 30 = .ok (.istore_n 1, 1) := by decide +kernel
theorem dX3_momentWithoutBallast_31 : decode cX3_momentWithoutBallast 31 = .ok (.iinc 2 1, 3) := by decide +kernel
theorem dX3_momentWithoutBallast_34 : decode cX3_momentWithoutBallast 34 = .ok (.goto (-30), 3) := by decide +kernel
theorem dX3_momentWithoutBallast_37 : decode cX3_momentWithoutBallast 37 = .ok (.iload_n 1, 1) := by decide +kernel
theorem dX3_momentWithoutBallast_38 : decode cX3_momentWithoutBallast 38 = .ok (.ireturn, 1) := by decide +kernel
set_option maxRecDepth 20000 in
theorem ggX3_wholeLoad_X3_loadWithoutBallast : GoodIn wsX3_wholeLoad wsX3_loadWithoutBallast := goodIn_r _ [6, 7, 8, 9, 10, 11, 12, 13] (by decide +kernel) (by decide +kernel)
set_option maxRecDepth 20000 in
theorem gX3_wholeLoad_X3_loadWithoutBallast : GoodIn wsX3_wholeLoad (wsV RX3 26 RX3 yX3_loadWithoutBallast wsX3_loadWithoutBallast) := goodIn_app (goodIn_of _ (by decide +kernel)) ggX3_wholeLoad_X3_loadWithoutBallast
theorem dX3_wholeLoad_0 : decode cX3_wholeLoad 0 = .ok (.aload_n 0, 1) := by decide +kernel
theorem dX3_wholeLoad_1 : decode cX3_wholeLoad 1 = .ok (.invokevirtual 26, 3) := by decide +kernel
theorem dX3_wholeLoad_4 : decode cX3_wholeLoad 4 = .ok (.bipush 10, 2) := by decide +kernel
theorem dX3_wholeLoad_6 : decode cX3_wholeLoad 6 = .ok (.aload_n 0, 1) := by decide +kernel
theorem dX3_wholeLoad_7 : decode cX3_wholeLoad 7 = .ok (.getfield 20, 3) := by decide +kernel
theorem dX3_wholeLoad_10 : decode cX3_wholeLoad 10 = .ok (.imul, 1) := by decide +kernel
theorem dX3_wholeLoad_11 : decode cX3_wholeLoad 11 = .ok (.iadd, 1) := by decide +kernel
theorem dX3_wholeLoad_12 : decode cX3_wholeLoad 12 = .ok (.ireturn, 1) := by decide +kernel
set_option maxRecDepth 20000 in
theorem ggX3_wholeMoment_X3_momentWithoutBallast : GoodIn wsX3_wholeMoment wsX3_momentWithoutBallast := goodIn_r _ [7, 8, 9, 10, 11, 12, 13, 14, 15] (by decide +kernel) (by decide +kernel)
set_option maxRecDepth 20000 in
theorem gX3_wholeMoment_X3_momentWithoutBallast : GoodIn wsX3_wholeMoment (wsV RX3 30 RX3 yX3_momentWithoutBallast wsX3_momentWithoutBallast) := goodIn_app (goodIn_of _ (by decide +kernel)) ggX3_wholeMoment_X3_momentWithoutBallast
theorem dX3_wholeMoment_0 : decode cX3_wholeMoment 0 = .ok (.aload_n 0, 1) := by decide +kernel
theorem dX3_wholeMoment_1 : decode cX3_wholeMoment 1 = .ok (.invokevirtual 30, 3) := by decide +kernel
theorem dX3_wholeMoment_4 : decode cX3_wholeMoment 4 = .ok (.aload_n 0, 1) := by decide +kernel
theorem dX3_wholeMoment_5 : decode cX3_wholeMoment 5 = .ok (.getfield 20, 3) := by decide +kernel
theorem dX3_wholeMoment_8 : decode cX3_wholeMoment 8 = .ok (.bipush 20, 2) := by decide +kernel
theorem dX3_wholeMoment_10 : decode cX3_wholeMoment 10 = .ok (.imul, 1) := by decide +kernel
theorem dX3_wholeMoment_11 : decode cX3_wholeMoment 11 = .ok (.aload_n 0, 1) := by decide +kernel
theorem dX3_wholeMoment_12 : decode cX3_wholeMoment 12 = .ok (.getfield 23, 3) := by decide +kernel
theorem dX3_wholeMoment_15 : decode cX3_wholeMoment 15 = .ok (.imul, 1) := by decide +kernel
theorem dX3_wholeMoment_16 : decode cX3_wholeMoment 16 = .ok (.iadd, 1) := by decide +kernel
theorem dX3_wholeMoment_17 : decode cX3_wholeMoment 17 = .ok (.ireturn, 1) := by decide +kernel
theorem dX4_init_0 : decode cX4_init 0 = .ok (.aload_n 0, 1) := by decide +kernel
theorem dX4_init_1 : decode cX4_init 1 = .ok (.invokespecial 3, 3) := by decide +kernel
theorem dX4_init_4 : decode cX4_init 4 = .ok (.aload_n 0, 1) := by decide +kernel
theorem dX4_init_5 : decode cX4_init 5 = .ok (.bipush 6, 2) := by decide +kernel
theorem dX4_init_7 : decode cX4_init 7 = .ok (.bipush 9, 2) := by decide +kernel
theorem dX4_init_9 : decode cX4_init 9 = .ok (.multianewarray 9 2, 4) := by decide +kernel
theorem dX4_init_13 : decode cX4_init 13 = .ok (.putfield 11, 3) := by decide +kernel
theorem dX4_init_16 : decode cX4_init 16 = .ok (.return_, 1) := by decide +kernel
theorem dX4_areaUpTo_0 : decode cX4_areaUpTo 0 = .ok (.iconst 0, 1) := by decide +kernel
theorem dX4_areaUpTo_1 : decode cX4_areaUpTo 1 = .ok (.istore_n 3, 1) := by decide +kernel
theorem dX4_areaUpTo_2 : decode cX4_areaUpTo 2 = .ok (.iconst 0, 1) := by decide +kernel
theorem dX4_areaUpTo_3 : decode cX4_areaUpTo 3 = .ok (.istore 4, 2) := by decide +kernel
theorem dX4_areaUpTo_5 : decode cX4_areaUpTo 5 = .ok (.iload 4, 2) := by decide +kernel
theorem dX4_areaUpTo_7 : decode cX4_areaUpTo 7 = .ok (.iload_n 2, 1) := by decide +kernel
theorem dX4_areaUpTo_8 : decode cX4_areaUpTo 8 = .ok (.if_icmp .ge 33, 3) := by decide +kernel
theorem dX4_areaUpTo_11 : decode cX4_areaUpTo 11 = .ok (.iload_n 3, 1) := by decide +kernel
theorem dX4_areaUpTo_12 : decode cX4_areaUpTo 12 = .ok (.aload_n 0, 1) := by decide +kernel
theorem dX4_areaUpTo_13 : decode cX4_areaUpTo 13 = .ok (.getfield 11, 3) := by decide +kernel
theorem dX4_areaUpTo_16 : decode cX4_areaUpTo 16 = .ok (.iload 4, 2) := by decide +kernel
theorem dX4_areaUpTo_18 : decode cX4_areaUpTo 18 = .ok (.aaload, 1) := by decide +kernel
theorem dX4_areaUpTo_19 : decode cX4_areaUpTo 19 = .ok (.iload_n 1, 1) := by decide +kernel
theorem dX4_areaUpTo_20 : decode cX4_areaUpTo 20 = .ok (.iaload, 1) := by decide +kernel
theorem dX4_areaUpTo_21 : decode cX4_areaUpTo 21 = .ok (.aload_n 0, 1) := by decide +kernel
theorem dX4_areaUpTo_22 : decode cX4_areaUpTo 22 = .ok (.getfield 11, 3) := by decide +kernel
theorem dX4_areaUpTo_25 : decode cX4_areaUpTo 25 = .ok (.iload 4, 2) := by decide +kernel
theorem dX4_areaUpTo_27 : decode cX4_areaUpTo 27 = .ok (.iconst 1, 1) := by decide +kernel
theorem dX4_areaUpTo_28 : decode cX4_areaUpTo 28 = .ok (.iadd, 1) := by decide +kernel
theorem dX4_areaUpTo_29 : decode cX4_areaUpTo 29 = .ok (.aaload, 1) := by decide +kernel
theorem dX4_areaUpTo_30 : decode cX4_areaUpTo 30 = .ok (.iload_n 1, 1) := by decide +kernel
theorem dX4_areaUpTo_31 : decode cX4_areaUpTo 31 = .ok (.iaload, 1) := by decide +kernel
theorem dX4_areaUpTo_32 : decode cX4_areaUpTo 32 = .ok (.iadd, 1) := by decide +kernel
theorem dX4_areaUpTo_33 : decode cX4_areaUpTo 33 = .ok (.iadd, 1) := by decide +kernel
theorem dX4_areaUpTo_34 : decode cX4_areaUpTo 34 = .ok (.istore_n 3, 1) := by decide +kernel
theorem dX4_areaUpTo_35 : decode cX4_areaUpTo 35 = .ok (.iinc 4 1, 3) := by decide +kernel
theorem dX4_areaUpTo_38 : decode cX4_areaUpTo 38 = .ok (.goto (-33), 3) := by decide +kernel
theorem dX4_areaUpTo_41 : decode cX4_areaUpTo 41 = .ok (.iload_n 3, 1) := by decide +kernel
theorem dX4_areaUpTo_42 : decode cX4_areaUpTo 42 = .ok (.ireturn, 1) := by decide +kernel
set_option maxRecDepth 20000 in
theorem ggX4_volumeUpTo_X4_areaUpTo : GoodIn wsX4_volumeUpTo wsX4_areaUpTo := goodIn_r _ [5, 6, 7] (by decide +kernel) (by decide +kernel)
set_option maxRecDepth 20000 in
theorem gX4_volumeUpTo_X4_areaUpTo : GoodIn wsX4_volumeUpTo (wsV RX4 16 RX4 yX4_areaUpTo wsX4_areaUpTo) := goodIn_app (goodIn_of _ (by decide +kernel)) ggX4_volumeUpTo_X4_areaUpTo
theorem dX4_volumeUpTo_0 : decode cX4_volumeUpTo 0 = .ok (.iconst 0, 1) := by decide +kernel
theorem dX4_volumeUpTo_1 : decode cX4_volumeUpTo 1 = .ok (.istore_n 2, 1) := by decide +kernel
theorem dX4_volumeUpTo_2 : decode cX4_volumeUpTo 2 = .ok (.iconst 0, 1) := by decide +kernel
theorem dX4_volumeUpTo_3 : decode cX4_volumeUpTo 3 = .ok (.istore_n 3, 1) := by decide +kernel
theorem dX4_volumeUpTo_4 : decode cX4_volumeUpTo 4 = .ok (.iload_n 3, 1) := by decide +kernel
theorem dX4_volumeUpTo_5 : decode cX4_volumeUpTo 5 = .ok (.bipush 8, 2) := by decide +kernel
theorem dX4_volumeUpTo_7 : decode cX4_volumeUpTo 7 = .ok (.if_icmp .ge 27, 3) := by decide +kernel
theorem dX4_volumeUpTo_10 : decode cX4_volumeUpTo 10 = .ok (.iload_n 2, 1) := by decide +kernel
theorem dX4_volumeUpTo_11 : decode cX4_volumeUpTo 11 = .ok (.aload_n 0, 1) := by decide +kernel
theorem dX4_volumeUpTo_12 : decode cX4_volumeUpTo 12 = .ok (.iload_n 3, 1) := by decide +kernel
theorem dX4_volumeUpTo_13 : decode cX4_volumeUpTo 13 = .ok (.iload_n 1, 1) := by decide +kernel
theorem dX4_volumeUpTo_14 : decode cX4_volumeUpTo 14 = .ok (.invokevirtual 16, 3) := by decide +kernel
theorem dX4_volumeUpTo_17 : decode cX4_volumeUpTo 17 = .ok (.aload_n 0, 1) := by decide +kernel
theorem dX4_volumeUpTo_18 : decode cX4_volumeUpTo 18 = .ok (.iload_n 3, 1) := by decide +kernel
theorem dX4_volumeUpTo_19 : decode cX4_volumeUpTo 19 = .ok (.iconst 1, 1) := by decide +kernel
theorem dX4_volumeUpTo_20 : decode cX4_volumeUpTo 20 = .ok (.iadd, 1) := by decide +kernel
theorem dX4_volumeUpTo_21 : decode cX4_volumeUpTo 21 = .ok (.iload_n 1, 1) := by decide +kernel
theorem dX4_volumeUpTo_22 : decode cX4_volumeUpTo 22 = .ok (.invokevirtual 16, 3) := by decide +kernel
theorem dX4_volumeUpTo_25 : decode cX4_volumeUpTo 25 = .ok (.iadd, 1) := by decide +kernel
theorem dX4_volumeUpTo_26 : decode cX4_volumeUpTo 26 = .ok (.iadd, 1) := by decide +kernel
theorem dX4_volumeUpTo_27 : decode cX4_volumeUpTo 27 = .ok (.istore_n 2, 1) := by decide +kernel
theorem dX4_volumeUpTo_28 : decode cX4_volumeUpTo 28 = .ok (.iinc 3 1, 3) := by decide +kernel
theorem dX4_volumeUpTo_31 : decode cX4_volumeUpTo 31 = .ok (.goto (-27), 3) := by decide +kernel
theorem dX4_volumeUpTo_34 : decode cX4_volumeUpTo 34 = .ok (.iload_n 2, 1) := by decide +kernel
theorem dX4_volumeUpTo_35 : decode cX4_volumeUpTo 35 = .ok (.ireturn, 1) := by decide +kernel
set_option maxRecDepth 20000 in
theorem ggX4_momentUpTo_X4_areaUpTo : GoodIn wsX4_momentUpTo wsX4_areaUpTo := goodIn_r _ [5, 6, 7] (by decide +kernel) (by decide +kernel)
set_option maxRecDepth 20000 in
theorem gX4_momentUpTo_X4_areaUpTo : GoodIn wsX4_momentUpTo (wsV RX4 16 RX4 yX4_areaUpTo wsX4_areaUpTo) := goodIn_app (goodIn_of _ (by decide +kernel)) ggX4_momentUpTo_X4_areaUpTo
theorem dX4_momentUpTo_0 : decode cX4_momentUpTo 0 = .ok (.iconst 0, 1) := by decide +kernel
theorem dX4_momentUpTo_1 : decode cX4_momentUpTo 1 = .ok (.istore_n 2, 1) := by decide +kernel
theorem dX4_momentUpTo_2 : decode cX4_momentUpTo 2 = .ok (.iconst 0, 1) := by decide +kernel
theorem dX4_momentUpTo_3 : decode cX4_momentUpTo 3 = .ok (.istore_n 3, 1) := by decide +kernel
theorem dX4_momentUpTo_4 : decode cX4_momentUpTo 4 = .ok (.iload_n 3, 1) := by decide +kernel
theorem dX4_momentUpTo_5 : decode cX4_momentUpTo 5 = .ok (.bipush 8, 2) := by decide +kernel
theorem dX4_momentUpTo_7 : decode cX4_momentUpTo 7 = .ok (.if_icmp .ge 37, 3) := by decide +kernel
theorem dX4_momentUpTo_10 : decode cX4_momentUpTo 10 = .ok (.aload_n 0, 1) := by decide +kernel
theorem dX4_momentUpTo_11 : decode cX4_momentUpTo 11 = .ok (.iload_n 3, 1) := by decide +kernel
theorem dX4_momentUpTo_12 : decode cX4_momentUpTo 12 = .ok (.iload_n 1, 1) := by decide +kernel
theorem dX4_momentUpTo_13 : decode cX4_momentUpTo 13 = .ok (.invokevirtual 16, 3) := by decide +kernel
theorem dX4_momentUpTo_16 : decode cX4_momentUpTo 16 = .ok (.aload_n 0, 1) := by decide +kernel
theorem dX4_momentUpTo_17 : decode cX4_momentUpTo 17 = .ok (.iload_n 3, 1) := by decide +kernel
theorem dX4_momentUpTo_18 : decode cX4_momentUpTo 18 = .ok (.iconst 1, 1) := by decide +kernel
theorem dX4_momentUpTo_19 : decode cX4_momentUpTo 19 = .ok (.iadd, 1) := by decide +kernel
theorem dX4_momentUpTo_20 : decode cX4_momentUpTo 20 = .ok (.iload_n 1, 1) := by decide +kernel
theorem dX4_momentUpTo_21 : decode cX4_momentUpTo 21 = .ok (.invokevirtual 16, 3) := by decide +kernel
theorem dX4_momentUpTo_24 : decode cX4_momentUpTo 24 = .ok (.iadd, 1) := by decide +kernel
theorem dX4_momentUpTo_25 : decode cX4_momentUpTo 25 = .ok (.istore 4, 2) := by decide +kernel
theorem dX4_momentUpTo_27 : decode cX4_momentUpTo 27 = .ok (.iload_n 2, 1) := by decide +kernel
theorem dX4_momentUpTo_28 : decode cX4_momentUpTo 28 = .ok (.iconst 2, 1) := by decide +kernel
theorem dX4_momentUpTo_29 : decode cX4_momentUpTo 29 = .ok (.iload_n 3, 1) := by decide +kernel
theorem dX4_momentUpTo_30 : decode cX4_momentUpTo 30 = .ok (.imul, 1) := by decide +kernel
theorem dX4_momentUpTo_31 : decode cX4_momentUpTo 31 = .ok (.iconst 1, 1) := by decide +kernel
theorem dX4_momentUpTo_32 : decode cX4_momentUpTo 32 = .ok (.iadd, 1) := by decide +kernel
theorem dX4_momentUpTo_33 : decode cX4_momentUpTo 33 = .ok (.iload 4, 2) := by decide +kernel
theorem dX4_momentUpTo_35 : decode cX4_momentUpTo 35 = .ok (.imul, 1) := by decide +kernel
theorem dX4_momentUpTo_36 : decode cX4_momentUpTo 36 = .ok (.iadd, 1) := by decide +kernel
theorem dX4_momentUpTo_37 : decode cX4_momentUpTo 37 = .ok (.istore_n 2, 1) := by decide +kernel
theorem dX4_momentUpTo_38 : decode cX4_momentUpTo 38 = .ok (.iinc 3 1, 3) := by decide +kernel
theorem dX4_momentUpTo_41 : decode cX4_momentUpTo 41 = .ok (.goto (-37), 3) := by decide +kernel
theorem dX4_momentUpTo_44 : decode cX4_momentUpTo 44 = .ok (.iload_n 2, 1) := by decide +kernel
theorem dX4_momentUpTo_45 : decode cX4_momentUpTo 45 = .ok (.ireturn, 1) := by decide +kernel
set_option maxRecDepth 20000 in
theorem ggX4_volumeBySlices_X4_waterlineArea : GoodIn wsX4_volumeBySlices wsX4_waterlineArea := goodIn_r _ [5, 6, 7] (by decide +kernel) (by decide +kernel)
set_option maxRecDepth 20000 in
theorem gX4_volumeBySlices_X4_waterlineArea : GoodIn wsX4_volumeBySlices (wsV RX4 20 RX4 yX4_waterlineArea wsX4_waterlineArea) := goodIn_app (goodIn_of _ (by decide +kernel)) ggX4_volumeBySlices_X4_waterlineArea
theorem dX4_volumeBySlices_0 : decode cX4_volumeBySlices 0 = .ok (.iconst 0, 1) := by decide +kernel
theorem dX4_volumeBySlices_1 : decode cX4_volumeBySlices 1 = .ok (.istore_n 2, 1) := by decide +kernel
theorem dX4_volumeBySlices_2 : decode cX4_volumeBySlices 2 = .ok (.iconst 0, 1) := by decide +kernel
theorem dX4_volumeBySlices_3 : decode cX4_volumeBySlices 3 = .ok (.istore_n 3, 1) := by decide +kernel
theorem dX4_volumeBySlices_4 : decode cX4_volumeBySlices 4 = .ok (.iload_n 3, 1) := by decide +kernel
theorem dX4_volumeBySlices_5 : decode cX4_volumeBySlices 5 = .ok (.iload_n 1, 1) := by decide +kernel
theorem dX4_volumeBySlices_6 : decode cX4_volumeBySlices 6 = .ok (.if_icmp .ge 25, 3) := by decide +kernel
theorem dX4_volumeBySlices_9 : decode cX4_volumeBySlices 9 = .ok (.iload_n 2, 1) := by decide +kernel
theorem dX4_volumeBySlices_10 : decode cX4_volumeBySlices 10 = .ok (.aload_n 0, 1) := by decide +kernel
theorem dX4_volumeBySlices_11 : decode cX4_volumeBySlices 11 = .ok (.iload_n 3, 1) := by decide +kernel
theorem dX4_volumeBySlices_12 : decode cX4_volumeBySlices 12 = .ok (.invokevirtual 20, 3) := by decide +kernel
theorem dX4_volumeBySlices_15 : decode cX4_volumeBySlices 15 = .ok (.aload_n 0, 1) := by decide +kernel
theorem dX4_volumeBySlices_16 : decode cX4_volumeBySlices 16 = .ok (.iload_n 3, 1) := by decide +kernel
theorem dX4_volumeBySlices_17 : decode cX4_volumeBySlices 17 = .ok (.iconst 1, 1) := by decide +kernel
theorem dX4_volumeBySlices_18 : decode cX4_volumeBySlices 18 = .ok (.iadd, 1) := by decide +kernel
theorem dX4_volumeBySlices_19 : decode cX4_volumeBySlices 19 = .ok (.invokevirtual 20, 3) := by decide +kernel
theorem dX4_volumeBySlices_22 : decode cX4_volumeBySlices 22 = .ok (.iadd, 1) := by decide +kernel
theorem dX4_volumeBySlices_23 : decode cX4_volumeBySlices 23 = .ok (.iadd, 1) := by decide +kernel
theorem dX4_volumeBySlices_24 : decode cX4_volumeBySlices 24 = .ok (.istore_n 2, 1) := by decide +kernel
theorem dX4_volumeBySlices_25 : decode cX4_volumeBySlices 25 = .ok (.iinc 3 1, 3) := by decide +kernel
theorem dX4_volumeBySlices_28 : decode cX4_volumeBySlices 28 = .ok (.goto (-24), 3) := by decide +kernel
theorem dX4_volumeBySlices_31 : decode cX4_volumeBySlices 31 = .ok (.iload_n 2, 1) := by decide +kernel
theorem dX4_volumeBySlices_32 : decode cX4_volumeBySlices 32 = .ok (.ireturn, 1) := by decide +kernel
theorem dX4_waterlineArea_0 : decode cX4_waterlineArea 0 = .ok (.aload_n 0, 1) := by decide +kernel
theorem dX4_waterlineArea_1 : decode cX4_waterlineArea 1 = .ok (.getfield 11, 3) := by decide +kernel
theorem dX4_waterlineArea_4 : decode cX4_waterlineArea 4 = .ok (.iload_n 1, 1) := by decide +kernel
theorem dX4_waterlineArea_5 : decode cX4_waterlineArea 5 = .ok (.aaload, 1) := by decide +kernel
theorem dX4_waterlineArea_6 : decode cX4_waterlineArea 6 = .ok (.astore_n 2, 1) := by decide +kernel
theorem dX4_waterlineArea_7 : decode cX4_waterlineArea 7 = .ok (.iconst 0, 1) := by decide +kernel
theorem dX4_waterlineArea_8 : decode cX4_waterlineArea 8 = .ok (.istore_n 3, 1) := by decide +kernel
theorem dX4_waterlineArea_9 : decode cX4_waterlineArea 9 = .ok (.iconst 0, 1) := by decide +kernel
theorem dX4_waterlineArea_10 : decode cX4_waterlineArea 10 = .ok (.istore 4, 2) := by decide +kernel
theorem dX4_waterlineArea_12 : decode cX4_waterlineArea 12 = .ok (.iload 4, 2) := by decide +kernel
theorem dX4_waterlineArea_14 : decode cX4_waterlineArea 14 = .ok (.bipush 8, 2) := by decide +kernel
theorem dX4_waterlineArea_16 : decode cX4_waterlineArea 16 = .ok (.if_icmp .ge 23, 3) := by decide +kernel
theorem dX4_waterlineArea_19 : decode cX4_waterlineArea 19 = .ok (.iload_n 3, 1) := by decide +kernel
theorem dX4_waterlineArea_20 : decode cX4_waterlineArea 20 = .ok (.aload_n 2, 1) := by decide +kernel
theorem dX4_waterlineArea_21 : decode cX4_waterlineArea 21 = .ok (.iload 4, 2) := by decide +kernel
theorem dX4_waterlineArea_23 : decode cX4_waterlineArea 23 = .ok (.iaload, 1) := by decide +kernel
theorem dX4_waterlineArea_24 : decode cX4_waterlineArea 24 = .ok (.aload_n 2, 1) := by decide +kernel
theorem dX4_waterlineArea_25 : decode cX4_waterlineArea 25 = .ok (.iload 4, 2) := by decide +kernel
theorem dX4_waterlineArea_27 : decode cX4_waterlineArea 27 = .ok (.iconst 1, 1) := by decide +kernel
theorem dX4_waterlineArea_28 : decode cX4_waterlineArea 28 = .ok (.iadd, 1) := by decide +kernel
theorem dX4_waterlineArea_29 : decode cX4_waterlineArea 29 = .ok (.iaload, 1) := by decide +kernel
theorem dX4_waterlineArea_30 : decode cX4_waterlineArea 30 = .ok (.iadd, 1) := by decide +kernel
theorem dX4_waterlineArea_31 : decode cX4_waterlineArea 31 = .ok (.iadd, 1) := by decide +kernel
theorem dX4_waterlineArea_32 : decode cX4_waterlineArea 32 = .ok (.istore_n 3, 1) := by decide +kernel
theorem dX4_waterlineArea_33 : decode cX4_waterlineArea 33 = .ok (.iinc 4 1, 3) := by decide +kernel
theorem dX4_waterlineArea_36 : decode cX4_waterlineArea 36 = .ok (.goto (-24), 3) := by decide +kernel
theorem dX4_waterlineArea_39 : decode cX4_waterlineArea 39 = .ok (.iload_n 3, 1) := by decide +kernel
theorem dX4_waterlineArea_40 : decode cX4_waterlineArea 40 = .ok (.ireturn, 1) := by decide +kernel
theorem dX4_strakeLength_0 : decode cX4_strakeLength 0 = .ok (.aload_n 0, 1) := by decide +kernel
theorem dX4_strakeLength_1 : decode cX4_strakeLength 1 = .ok (.getfield 11, 3) := by decide +kernel
theorem dX4_strakeLength_4 : decode cX4_strakeLength 4 = .ok (.iload_n 1, 1) := by decide +kernel
theorem dX4_strakeLength_5 : decode cX4_strakeLength 5 = .ok (.aaload, 1) := by decide +kernel
theorem dX4_strakeLength_6 : decode cX4_strakeLength 6 = .ok (.astore_n 2, 1) := by decide +kernel
theorem dX4_strakeLength_7 : decode cX4_strakeLength 7 = .ok (.iconst 0, 1) := by decide +kernel
theorem dX4_strakeLength_8 : decode cX4_strakeLength 8 = .ok (.istore_n 3, 1) := by decide +kernel
theorem dX4_strakeLength_9 : decode cX4_strakeLength 9 = .ok (.iconst 0, 1) := by decide +kernel
theorem dX4_strakeLength_10 : decode cX4_strakeLength 10 = .ok (.istore 4, 2) := by decide +kernel
theorem dX4_strakeLength_12 : decode cX4_strakeLength 12 = .ok (.iload 4, 2) := by decide +kernel
theorem dX4_strakeLength_14 : decode cX4_strakeLength 14 = .ok (.bipush 8, 2) := by decide +kernel
theorem dX4_strakeLength_16 : decode cX4_strakeLength 16 = .ok (.if_icmp .ge 29, 3) := by decide +kernel
theorem dX4_strakeLength_19 : decode cX4_strakeLength 19 = .ok (.iload_n 3, 1) := by decide +kernel
theorem dX4_strakeLength_20 : decode cX4_strakeLength 20 = .ok (.bipush 10, 2) := by decide +kernel
theorem dX4_strakeLength_22 : decode cX4_strakeLength 22 = .ok (.aload_n 2, 1) := by decide +kernel
theorem dX4_strakeLength_23 : decode cX4_strakeLength 23 = .ok (.iload 4, 2) := by decide +kernel
theorem dX4_strakeLength_25 : decode cX4_strakeLength 25 = .ok (.iaload, 1) := by decide +kernel
theorem dX4_strakeLength_26 : decode cX4_strakeLength 26 = .ok (.aload_n 2, 1) := by decide +kernel
theorem dX4_strakeLength_27 : decode cX4_strakeLength 27 = .ok (.iload 4, 2) := by decide +kernel
theorem dX4_strakeLength_29 : decode cX4_strakeLength 29 = .ok (.iconst 1, 1) := by decide +kernel
theorem dX4_strakeLength_30 : decode cX4_strakeLength 30 = .ok (.iadd, 1) := by decide +kernel
theorem dX4_strakeLength_31 : decode cX4_strakeLength 31 = .ok (.iaload, 1) := by decide +kernel
theorem dX4_strakeLength_32 : decode cX4_strakeLength 32 = .ok (.isub, 1) := by decide +kernel
theorem dX4_strakeLength_33 : decode cX4_strakeLength 33 = .ok (.invokestatic 24, 3) := by decide +kernel
theorem dX4_strakeLength_36 : decode cX4_strakeLength 36 = .ok (.iadd, 1) := by decide +kernel
theorem dX4_strakeLength_37 : decode cX4_strakeLength 37 = .ok (.iadd, 1) := by decide +kernel
theorem dX4_strakeLength_38 : decode cX4_strakeLength 38 = .ok (.istore_n 3, 1) := by decide +kernel
theorem dX4_strakeLength_39 : decode cX4_strakeLength 39 = .ok (.iinc 4 1, 3) := by decide +kernel
theorem dX4_strakeLength_42 : decode cX4_strakeLength 42 = .ok (.goto (-30), 3) := by decide +kernel
theorem dX4_strakeLength_45 : decode cX4_strakeLength 45 = .ok (.iload_n 3, 1) := by decide +kernel
theorem dX4_strakeLength_46 : decode cX4_strakeLength 46 = .ok (.ireturn, 1) := by decide +kernel
theorem dX5_init_0 : decode cX5_init 0 = .ok (.aload_n 0, 1) := by decide +kernel
theorem dX5_init_1 : decode cX5_init 1 = .ok (.invokespecial 3, 3) := by decide +kernel
theorem dX5_init_4 : decode cX5_init 4 = .ok (.aload_n 0, 1) := by decide +kernel
theorem dX5_init_5 : decode cX5_init 5 = .ok (.sipush 170, 3) := by decide +kernel
theorem dX5_init_8 : decode cX5_init 8 = .ok (.newarray .int, 2) := by decide +kernel
theorem dX5_init_10 : decode cX5_init 10 = .ok (.putfield 11, 3) := by decide +kernel
theorem dX5_init_13 : decode cX5_init 13 = .ok (.aload_n 0, 1) := by decide +kernel
theorem dX5_init_14 : decode cX5_init 14 = .ok (.iconst 5, 1) := by decide +kernel
theorem dX5_init_15 : decode cX5_init 15 = .ok (.newarray .int, 2) := by decide +kernel
theorem dX5_init_17 : decode cX5_init 17 = .ok (.putfield 15, 3) := by decide +kernel
theorem dX5_init_20 : decode cX5_init 20 = .ok (.aload_n 0, 1) := by decide +kernel
theorem dX5_init_21 : decode cX5_init 21 = .ok (.iconst 5, 1) := by decide +kernel
theorem dX5_init_22 : decode cX5_init 22 = .ok (.newarray .int, 2) := by decide +kernel
theorem dX5_init_24 : decode cX5_init 24 = .ok (.putfield 18, 3) := by decide +kernel
theorem dX5_init_27 : decode cX5_init 27 = .ok (.aload_n 0, 1) := by decide +kernel
theorem dX5_init_28 : decode cX5_init 28 = .ok (.iconst 5, 1) := by decide +kernel
theorem dX5_init_29 : decode cX5_init 29 = .ok (.newarray .int, 2) := by decide +kernel
theorem dX5_init_31 : decode cX5_init 31 = .ok (.putfield 21, 3) := by decide +kernel
theorem dX5_init_34 : decode cX5_init 34 = .ok (.aload_n 0, 1) := by decide +kernel
theorem dX5_init_35 : decode cX5_init 35 = .ok (.iconst 5, 1) := by decide +kernel
theorem dX5_init_36 : decode cX5_init 36 = .ok (.newarray .int, 2) := by decide +kernel
theorem dX5_init_38 : decode cX5_init 38 = .ok (.putfield 24, 3) := by decide +kernel
theorem dX5_init_41 : decode cX5_init 41 = .ok (.aload_n 0, 1) := by decide +kernel
theorem dX5_init_42 : decode cX5_init 42 = .ok (.sipush 1000, 3) := by decide +kernel
theorem dX5_init_45 : decode cX5_init 45 = .ok (.putfield 27, 3) := by decide +kernel
theorem dX5_init_48 : decode cX5_init 48 = .ok (.aload_n 0, 1) := by decide +kernel
theorem dX5_init_49 : decode cX5_init 49 = .ok (.iconst 0, 1) := by decide +kernel
theorem dX5_init_50 : decode cX5_init 50 = .ok (.putfield 31, 3) := by decide +kernel
theorem dX5_init_53 : decode cX5_init 53 = .ok (.return_, 1) := by decide +kernel
set_option maxRecDepth 20000 in
theorem ggX5_cutAll_X5_sortByLength : GoodIn wsX5_cutAll wsX5_sortByLength := goodIn_r _ [10, 4, 2, 11, 12, 13, 14, 15, 16, 17, 18, 19, 26, 27, 28, 29, 30, 31, 32, 33] (by decide +kernel) (by decide +kernel)
set_option maxRecDepth 20000 in
theorem gX5_cutAll_X5_sortByLength : GoodIn wsX5_cutAll (wsV RX5 34 RX5 yX5_sortByLength wsX5_sortByLength) := goodIn_app (goodIn_of _ (by decide +kernel)) ggX5_cutAll_X5_sortByLength
set_option maxRecDepth 20000 in
theorem ggX5_cutAll_X5_cut : GoodIn wsX5_cutAll wsX5_cut := goodIn_r _ [23, 24, 1, 25, 26, 27, 28, 29, 30, 31, 32] (by decide +kernel) (by decide +kernel)
set_option maxRecDepth 20000 in
theorem gX5_cutAll_X5_cut : GoodIn wsX5_cutAll (wsV RX5 38 RX5 yX5_cut wsX5_cut) := goodIn_app (goodIn_of _ (by decide +kernel)) ggX5_cutAll_X5_cut
theorem dX5_cutAll_0 : decode cX5_cutAll 0 = .ok (.aload_n 0, 1) := by decide +kernel
theorem dX5_cutAll_1 : decode cX5_cutAll 1 = .ok (.aload_n 1, 1) := by decide +kernel
theorem dX5_cutAll_2 : decode cX5_cutAll 2 = .ok (.invokevirtual 34, 3) := by decide +kernel
theorem dX5_cutAll_5 : decode cX5_cutAll 5 = .ok (.aload_n 0, 1) := by decide +kernel
theorem dX5_cutAll_6 : decode cX5_cutAll 6 = .ok (.iconst 0, 1) := by decide +kernel
theorem dX5_cutAll_7 : decode cX5_cutAll 7 = .ok (.putfield 31, 3) := by decide +kernel
theorem dX5_cutAll_10 : decode cX5_cutAll 10 = .ok (.iconst 0, 1) := by decide +kernel
theorem dX5_cutAll_11 : decode cX5_cutAll 11 = .ok (.istore_n 2, 1) := by decide +kernel
theorem dX5_cutAll_12 : decode cX5_cutAll 12 = .ok (.iload_n 2, 1) := by decide +kernel
theorem dX5_cutAll_13 : decode cX5_cutAll 13 = .ok (.iconst 5, 1) := by decide +kernel
theorem dX5_cutAll_14 : decode cX5_cutAll 14 = .ok (.if_icmp .ge 48, 3) := by decide +kernel
theorem dX5_cutAll_17 : decode cX5_cutAll 17 = .ok (.aload_n 0, 1) := by decide +kernel
theorem dX5_cutAll_18 : decode cX5_cutAll 18 = .ok (.getfield 18, 3) := by decide +kernel
theorem dX5_cutAll_21 : decode cX5_cutAll 21 = .ok (.iload_n 2, 1) := by decide +kernel
theorem dX5_cutAll_22 : decode cX5_cutAll 22 = .ok (.iaload, 1) := by decide +kernel
theorem dX5_cutAll_23 : decode cX5_cutAll 23 = .ok (.istore_n 3, 1) := by decide +kernel
theorem dX5_cutAll_24 : decode cX5_cutAll 24 = .ok (.aload_n 0, 1) := by decide +kernel
theorem dX5_cutAll_25 : decode cX5_cutAll 25 = .ok (.getfield 21, 3) := by decide +kernel
theorem dX5_cutAll_28 : decode cX5_cutAll 28 = .ok (.iload_n 3, 1) := by decide +kernel
theorem dX5_cutAll_29 : decode cX5_cutAll 29 = .ok (.aload_n 0, 1) := by decide +kernel
theorem dX5_cutAll_30 : decode cX5_cutAll 30 = .ok (.aload_n 0, 1) := by decide +kernel
theorem dX5_cutAll_31 : decode cX5_cutAll 31 = .ok (.getfield 15, 3) := by decide +kernel
theorem dX5_cutAll_34 : decode cX5_cutAll 34 = .ok (.iload_n 3, 1) := by decide +kernel
theorem dX5_cutAll_35 : decode cX5_cutAll 35 = .ok (.iaload, 1) := by decide +kernel
theorem dX5_cutAll_36 : decode cX5_cutAll 36 = .ok (.invokevirtual 38, 3) := by decide +kernel
theorem dX5_cutAll_39 : decode cX5_cutAll 39 = .ok (.iastore, 1) := by decide +kernel
theorem dX5_cutAll_40 : decode cX5_cutAll 40 = .ok (.aload_n 0, 1) := by decide +kernel
theorem dX5_cutAll_41 : decode cX5_cutAll 41 = .ok (.getfield 24, 3) := by decide +kernel
theorem dX5_cutAll_44 : decode cX5_cutAll 44 = .ok (.iload_n 3, 1) := by decide +kernel
theorem dX5_cutAll_45 : decode cX5_cutAll 45 = .ok (.aload_n 0, 1) := by decide +kernel
theorem dX5_cutAll_46 : decode cX5_cutAll 46 = .ok (.aload_n 0, 1) := by decide +kernel
end
section
theorem dX5_cutAll_47 : decode cX5_cutAll 47 = .ok (.getfield 15, 3) := by decide +kernel
theorem dX5_cutAll_50 : decode cX5_cutAll 50 = .ok (.iload_n 3, 1) := by decide +kernel
theorem dX5_cutAll_51 : decode cX5_cutAll 51 = .ok (.iaload, 1) := by decide +kernel
theorem dX5_cutAll_52 : decode cX5_cutAll 52 = .ok (.invokevirtual 38, 3) := by decide +kernel
theorem dX5_cutAll_55 : decode cX5_cutAll 55 = .ok (.iastore, 1) := by decide +kernel
theorem dX5_cutAll_56 : decode cX5_cutAll 56 = .ok (.iinc 2 1, 3) := by decide +kernel
theorem dX5_cutAll_59 : decode cX5_cutAll 59 = .ok (.goto (-47), 3) := by decide +kernel
theorem dX5_cutAll_62 : decode cX5_cutAll 62 = .ok (.return_, 1) := by decide +kernel
set_option maxRecDepth 20000 in
theorem ggX5_sortByLength_X4_strakeLength : GoodIn wsX5_sortByLength wsX4_strakeLength := goodIn_r _ [6, 7, 8, 9, 10, 11, 19] (by decide +kernel) (by decide +kernel)
set_option maxRecDepth 20000 in
theorem gX5_sortByLength_X4_strakeLength_n42 : GoodIn wsX5_sortByLength (wsX4_strakeLength) := ggX5_sortByLength_X4_strakeLength
theorem dX5_sortByLength_0 : decode cX5_sortByLength 0 = .ok (.iconst 0, 1) := by decide +kernel
theorem dX5_sortByLength_1 : decode cX5_sortByLength 1 = .ok (.istore_n 2, 1) := by decide +kernel
theorem dX5_sortByLength_2 : decode cX5_sortByLength 2 = .ok (.iload_n 2, 1) := by decide +kernel
theorem dX5_sortByLength_3 : decode cX5_sortByLength 3 = .ok (.iconst 5, 1) := by decide +kernel
theorem dX5_sortByLength_4 : decode cX5_sortByLength 4 = .ok (.if_icmp .ge 75, 3) := by decide +kernel
theorem dX5_sortByLength_7 : decode cX5_sortByLength 7 = .ok (.aload_n 0, 1) := by decide +kernel
theorem dX5_sortByLength_8 : decode cX5_sortByLength 8 = .ok (.getfield 15, 3) := by decide +kernel
theorem dX5_sortByLength_11 : decode cX5_sortByLength 11 = .ok (.iload_n 2, 1) := by decide +kernel
theorem dX5_sortByLength_12 : decode cX5_sortByLength 12 = .ok (.aload_n 1, 1) := by decide +kernel
theorem dX5_sortByLength_13 : decode cX5_sortByLength 13 = .ok (.iload_n 2, 1) := by decide +kernel
theorem dX5_sortByLength_14 : decode cX5_sortByLength 14 = .ok (.invokevirtual 42, 3) := by decide +kernel
theorem dX5_sortByLength_17 : decode cX5_sortByLength 17 = .ok (.iastore, 1) := by decide +kernel
theorem dX5_sortByLength_18 : decode cX5_sortByLength 18 = .ok (.iload_n 2, 1) := by decide +kernel
theorem dX5_sortByLength_19 : decode cX5_sortByLength 19 = .ok (.istore_n 3, 1) := by decide +kernel
theorem dX5_sortByLength_20 : decode cX5_sortByLength 20 = .ok (.iload_n 3, 1) := by decide +kernel
theorem dX5_sortByLength_21 : decode cX5_sortByLength 21 = .ok (.ifCond .le 45, 3) := by decide +kernel
theorem dX5_sortByLength_24 : decode cX5_sortByLength 24 = .ok (.aload_n 0, 1) := by decide +kernel
theorem dX5_sortByLength_25 : decode cX5_sortByLength 25 = .ok (.getfield 15, 3) := by decide +kernel
theorem dX5_sortByLength_28 : decode cX5_sortByLength 28 = .ok (.aload_n 0, 1) := by decide +kernel
theorem dX5_sortByLength_29 : decode cX5_sortByLength 29 = .ok (.getfield 18, 3) := by decide +kernel
theorem dX5_sortByLength_32 : decode cX5_sortByLength 32 = .ok (.iload_n 3, 1) := by decide +kernel
theorem dX5_sortByLength_33 : decode cX5_sortByLength 33 = .ok (.iconst 1, 1) := by decide +kernel
theorem dX5_sortByLength_34 : decode cX5_sortByLength 34 = .ok (.isub, 1) := by decide +kernel
theorem dX5_sortByLength_35 : decode cX5_sortByLength 35 = .ok (.iaload, 1) := by decide +kernel
theorem dX5_sortByLength_36 : decode cX5_sortByLength 36 = .ok (.iaload, 1) := by decide +kernel
theorem dX5_sortByLength_37 : decode cX5_sortByLength 37 = .ok (.aload_n 0, 1) := by decide +kernel
theorem dX5_sortByLength_38 : decode cX5_sortByLength 38 = .ok (.getfield 15, 3) := by decide +kernel
theorem dX5_sortByLength_41 : decode cX5_sortByLength 41 = .ok (.iload_n 2, 1) := by decide +kernel
theorem dX5_sortByLength_42 : decode cX5_sortByLength 42 = .ok (.iaload, 1) := by decide +kernel
theorem dX5_sortByLength_43 : decode cX5_sortByLength 43 = .ok (.if_icmp .ge 23, 3) := by decide +kernel
theorem dX5_sortByLength_46 : decode cX5_sortByLength 46 = .ok (.aload_n 0, 1) := by decide +kernel
theorem dX5_sortByLength_47 : decode cX5_sortByLength 47 = .ok (.getfield 18, 3) := by decide +kernel
theorem dX5_sortByLength_50 : decode cX5_sortByLength 50 = .ok (.iload_n 3, 1) := by decide +kernel
theorem dX5_sortByLength_51 : decode cX5_sortByLength 51 = .ok (.aload_n 0, 1) := by decide +kernel
theorem dX5_sortByLength_52 : decode cX5_sortByLength 52 = .ok (.getfield 18, 3) := by decide +kernel
theorem dX5_sortByLength_55 : decode cX5_sortByLength 55 = .ok (.iload_n 3, 1) := by decide +kernel
theorem dX5_sortByLength_56 : decode cX5_sortByLength 56 = .ok (.iconst 1, 1) := by decide +kernel
theorem dX5_sortByLength_57 : decode cX5_sortByLength 57 = .ok (.isub, 1) := by decide +kernel
theorem dX5_sortByLength_58 : decode cX5_sortByLength 58 = .ok (.iaload, 1) := by decide +kernel
theorem dX5_sortByLength_59 : decode cX5_sortByLength 59 = .ok (.iastore, 1) := by decide +kernel
theorem dX5_sortByLength_60 : decode cX5_sortByLength 60 = .ok (.iinc 3 (-1), 3) := by decide +kernel
theorem dX5_sortByLength_63 : decode cX5_sortByLength 63 = .ok (.goto (-43), 3) := by decide +kernel
theorem dX5_sortByLength_66 : decode cX5_sortByLength 66 = .ok (.aload_n 0, 1) := by decide +kernel
theorem dX5_sortByLength_67 : decode cX5_sortByLength 67 = .ok (.getfield 18, 3) := by decide +kernel
theorem dX5_sortByLength_70 : decode cX5_sortByLength 70 = .ok (.iload_n 3, 1) := by decide +kernel
theorem dX5_sortByLength_71 : decode cX5_sortByLength 71 = .ok (.iload_n 2, 1) := by decide +kernel
theorem dX5_sortByLength_72 : decode cX5_sortByLength 72 = .ok (.iastore, 1) := by decide +kernel
theorem dX5_sortByLength_73 : decode cX5_sortByLength 73 = .ok (.iinc 2 1, 3) := by decide +kernel
theorem dX5_sortByLength_76 : decode cX5_sortByLength 76 = .ok (.goto (-74), 3) := by decide +kernel
theorem dX5_sortByLength_79 : decode cX5_sortByLength 79 = .ok (.return_, 1) := by decide +kernel
theorem dX5_cut_0 : decode cX5_cut 0 = .ok (.iload_n 1, 1) := by decide +kernel
theorem dX5_cut_1 : decode cX5_cut 1 = .ok (.istore_n 2, 1) := by decide +kernel
theorem dX5_cut_2 : decode cX5_cut 2 = .ok (.iload_n 2, 1) := by decide +kernel
theorem dX5_cut_3 : decode cX5_cut 3 = .ok (.aload_n 0, 1) := by decide +kernel
theorem dX5_cut_4 : decode cX5_cut 4 = .ok (.getfield 27, 3) := by decide +kernel
theorem dX5_cut_7 : decode cX5_cut 7 = .ok (.if_icmp .le 43, 3) := by decide +kernel
theorem dX5_cut_10 : decode cX5_cut 10 = .ok (.aload_n 0, 1) := by decide +kernel
theorem dX5_cut_11 : decode cX5_cut 11 = .ok (.getfield 31, 3) := by decide +kernel
theorem dX5_cut_14 : decode cX5_cut 14 = .ok (.sipush 170, 3) := by decide +kernel
theorem dX5_cut_17 : decode cX5_cut 17 = .ok (.if_icmp .ge 33, 3) := by decide +kernel
theorem dX5_cut_20 : decode cX5_cut 20 = .ok (.aload_n 0, 1) := by decide +kernel
theorem dX5_cut_21 : decode cX5_cut 21 = .ok (.getfield 11, 3) := by decide +kernel
theorem dX5_cut_24 : decode cX5_cut 24 = .ok (.aload_n 0, 1) := by decide +kernel
theorem dX5_cut_25 : decode cX5_cut 25 = .ok (.getfield 31, 3) := by decide +kernel
theorem dX5_cut_28 : decode cX5_cut 28 = .ok (.iconst 0, 1) := by decide +kernel
theorem dX5_cut_29 : decode cX5_cut 29 = .ok (.iastore, 1) := by decide +kernel
theorem dX5_cut_30 : decode cX5_cut 30 = .ok (.aload_n 0, 1) := by decide +kernel
theorem dX5_cut_31 : decode cX5_cut 31 = .ok (.dup, 1) := by decide +kernel
theorem dX5_cut_32 : decode cX5_cut 32 = .ok (.getfield 31, 3) := by decide +kernel
theorem dX5_cut_35 : decode cX5_cut 35 = .ok (.iconst 1, 1) := by decide +kernel
theorem dX5_cut_36 : decode cX5_cut 36 = .ok (.iadd, 1) := by decide +kernel
theorem dX5_cut_37 : decode cX5_cut 37 = .ok (.putfield 31, 3) := by decide +kernel
theorem dX5_cut_40 : decode cX5_cut 40 = .ok (.iload_n 2, 1) := by decide +kernel
theorem dX5_cut_41 : decode cX5_cut 41 = .ok (.aload_n 0, 1) := by decide +kernel
theorem dX5_cut_42 : decode cX5_cut 42 = .ok (.getfield 27, 3) := by decide +kernel
theorem dX5_cut_45 : decode cX5_cut 45 = .ok (.isub, 1) := by decide +kernel
theorem dX5_cut_46 : decode cX5_cut 46 = .ok (.istore_n 2, 1) := by decide +kernel
theorem dX5_cut_47 : decode cX5_cut 47 = .ok (.goto (-45), 3) := by decide +kernel
theorem dX5_cut_50 : decode cX5_cut 50 = .ok (.iconst 0, 1) := by decide +kernel
theorem dX5_cut_51 : decode cX5_cut 51 = .ok (.istore_n 3, 1) := by decide +kernel
theorem dX5_cut_52 : decode cX5_cut 52 = .ok (.iload_n 3, 1) := by decide +kernel
theorem dX5_cut_53 : decode cX5_cut 53 = .ok (.aload_n 0, 1) := by decide +kernel
theorem dX5_cut_54 : decode cX5_cut 54 = .ok (.getfield 31, 3) := by decide +kernel
theorem dX5_cut_57 : decode cX5_cut 57 = .ok (.if_icmp .ge 31, 3) := by decide +kernel
theorem dX5_cut_60 : decode cX5_cut 60 = .ok (.aload_n 0, 1) := by decide +kernel
theorem dX5_cut_61 : decode cX5_cut 61 = .ok (.getfield 11, 3) := by decide +kernel
theorem dX5_cut_64 : decode cX5_cut 64 = .ok (.iload_n 3, 1) := by decide +kernel
theorem dX5_cut_65 : decode cX5_cut 65 = .ok (.iaload, 1) := by decide +kernel
theorem dX5_cut_66 : decode cX5_cut 66 = .ok (.iload_n 2, 1) := by decide +kernel
theorem dX5_cut_67 : decode cX5_cut 67 = .ok (.if_icmp .lt 15, 3) := by decide +kernel
theorem dX5_cut_70 : decode cX5_cut 70 = .ok (.aload_n 0, 1) := by decide +kernel
theorem dX5_cut_71 : decode cX5_cut 71 = .ok (.getfield 11, 3) := by decide +kernel
theorem dX5_cut_74 : decode cX5_cut 74 = .ok (.iload_n 3, 1) := by decide +kernel
theorem dX5_cut_75 : decode cX5_cut 75 = .ok (.dup2, 1) := by decide +kernel
theorem dX5_cut_76 : decode cX5_cut 76 = .ok (.iaload, 1) := by decide +kernel
theorem dX5_cut_77 : decode cX5_cut 77 = .ok (.iload_n 2, 1) := by decide +kernel
theorem dX5_cut_78 : decode cX5_cut 78 = .ok (.isub, 1) := by decide +kernel
theorem dX5_cut_79 : decode cX5_cut 79 = .ok (.iastore, 1) := by decide +kernel
theorem dX5_cut_80 : decode cX5_cut 80 = .ok (.iload_n 3, 1) := by decide +kernel
theorem dX5_cut_81 : decode cX5_cut 81 = .ok (.ireturn, 1) := by decide +kernel
theorem dX5_cut_82 : decode cX5_cut 82 = .ok (.iinc 3 1, 3) := by decide +kernel
theorem dX5_cut_85 : decode cX5_cut 85 = .ok (.goto (-33), 3) := by decide +kernel
theorem dX5_cut_88 : decode cX5_cut 88 = .ok (.aload_n 0, 1) := by decide +kernel
theorem dX5_cut_89 : decode cX5_cut 89 = .ok (.getfield 31, 3) := by decide +kernel
theorem dX5_cut_92 : decode cX5_cut 92 = .ok (.sipush 170, 3) := by decide +kernel
theorem dX5_cut_95 : decode cX5_cut 95 = .ok (.if_icmp .lt 5, 3) := by decide +kernel
theorem dX5_cut_98 : decode cX5_cut 98 = .ok (.iconst (-1), 1) := by decide +kernel
theorem dX5_cut_99 : decode cX5_cut 99 = .ok (.ireturn, 1) := by decide +kernel
theorem dX5_cut_100 : decode cX5_cut 100 = .ok (.aload_n 0, 1) := by decide +kernel
theorem dX5_cut_101 : decode cX5_cut 101 = .ok (.getfield 11, 3) := by decide +kernel
theorem dX5_cut_104 : decode cX5_cut 104 = .ok (.aload_n 0, 1) := by decide +kernel
theorem dX5_cut_105 : decode cX5_cut 105 = .ok (.getfield 31, 3) := by decide +kernel
theorem dX5_cut_108 : decode cX5_cut 108 = .ok (.aload_n 0, 1) := by decide +kernel
theorem dX5_cut_109 : decode cX5_cut 109 = .ok (.getfield 27, 3) := by decide +kernel
theorem dX5_cut_112 : decode cX5_cut 112 = .ok (.iload_n 2, 1) := by decide +kernel
theorem dX5_cut_113 : decode cX5_cut 113 = .ok (.isub, 1) := by decide +kernel
theorem dX5_cut_114 : decode cX5_cut 114 = .ok (.iastore, 1) := by decide +kernel
theorem dX5_cut_115 : decode cX5_cut 115 = .ok (.aload_n 0, 1) := by decide +kernel
theorem dX5_cut_116 : decode cX5_cut 116 = .ok (.dup, 1) := by decide +kernel
theorem dX5_cut_117 : decode cX5_cut 117 = .ok (.getfield 31, 3) := by decide +kernel
theorem dX5_cut_120 : decode cX5_cut 120 = .ok (.iconst 1, 1) := by decide +kernel
theorem dX5_cut_121 : decode cX5_cut 121 = .ok (.iadd, 1) := by decide +kernel
theorem dX5_cut_122 : decode cX5_cut 122 = .ok (.putfield 31, 3) := by decide +kernel
theorem dX5_cut_125 : decode cX5_cut 125 = .ok (.aload_n 0, 1) := by decide +kernel
theorem dX5_cut_126 : decode cX5_cut 126 = .ok (.getfield 31, 3) := by decide +kernel
theorem dX5_cut_129 : decode cX5_cut 129 = .ok (.iconst 1, 1) := by decide +kernel
theorem dX5_cut_130 : decode cX5_cut 130 = .ok (.isub, 1) := by decide +kernel
theorem dX5_cut_131 : decode cX5_cut 131 = .ok (.ireturn, 1) := by decide +kernel
set_option maxRecDepth 20000 in
theorem ggX6_init_X4_init : GoodIn wsX6_init wsX4_init := goodIn_r _ [32, 33, 2, 3, 34, 35, 36, 73] (by decide +kernel) (by decide +kernel)
set_option maxRecDepth 20000 in
theorem gX6_init_X4_init_n9 : GoodIn wsX6_init (wsX4_init) := ggX6_init_X4_init
set_option maxRecDepth 20000 in
theorem ggX6_init_X1_init : GoodIn wsX6_init wsX1_init := goodIn_r _ [38, 39, 2, 3, 40, 35, 41, 42, 43, 83, 84, 85] (by decide +kernel) (by decide +kernel)
set_option maxRecDepth 20000 in
theorem gX6_init_X1_init_n18 : GoodIn wsX6_init (wsX1_init) := ggX6_init_X1_init
set_option maxRecDepth 20000 in
theorem ggX6_init_X3_init : GoodIn wsX6_init wsX3_init := goodIn_r _ [45, 46, 2, 3, 35, 47, 48, 49, 50, 51, 86, 87, 88, 89, 90] (by decide +kernel) (by decide +kernel)
set_option maxRecDepth 20000 in
theorem gX6_init_X3_init_n25 : GoodIn wsX6_init (wsX3_init) := ggX6_init_X3_init
set_option maxRecDepth 20000 in
theorem ggX6_init_X2_init : GoodIn wsX6_init wsX2_init := goodIn_r _ [53, 54, 2, 3, 35, 55, 56, 91, 92] (by decide +kernel) (by decide +kernel)
set_option maxRecDepth 20000 in
theorem gX6_init_X2_init_n32 : GoodIn wsX6_init (wsX2_init) := ggX6_init_X2_init
set_option maxRecDepth 20000 in
theorem ggX6_init_X5_init : GoodIn wsX6_init wsX5_init := goodIn_r _ [58, 59, 2, 3, 35, 60, 61, 62, 63, 64, 65, 66, 93, 94, 95, 96, 97, 98, 99] (by decide +kernel) (by decide +kernel)
set_option maxRecDepth 20000 in
theorem gX6_init_X5_init_n39 : GoodIn wsX6_init (wsX5_init) := ggX6_init_X5_init
set_option maxRecDepth 20000 in
theorem ggX6_init_X0_init : GoodIn wsX6_init wsX0_init := goodIn_r _ [68, 69, 2, 3, 35, 70, 71, 72, 100, 101, 102] (by decide +kernel) (by decide +kernel)
set_option maxRecDepth 20000 in
theorem gX6_init_X0_init_n46 : GoodIn wsX6_init (wsX0_init) := ggX6_init_X0_init
theorem dX6_init_0 : decode cX6_init 0 = .ok (.aload_n 0, 1) := by decide +kernel
theorem dX6_init_1 : decode cX6_init 1 = .ok (.invokespecial 1, 3) := by decide +kernel
theorem dX6_init_4 : decode cX6_init 4 = .ok (.aload_n 0, 1) := by decide +kernel
theorem dX6_init_5 : decode cX6_init 5 = .ok (.new 7, 3) := by decide +kernel
theorem dX6_init_8 : decode cX6_init 8 = .ok (.dup, 1) := by decide +kernel
theorem dX6_init_9 : decode cX6_init 9 = .ok (.invokespecial 9, 3) := by decide +kernel
theorem dX6_init_12 : decode cX6_init 12 = .ok (.putfield 10, 3) := by decide +kernel
theorem dX6_init_15 : decode cX6_init 15 = .ok (.aload_n 0, 1) := by decide +kernel
theorem dX6_init_16 : decode cX6_init 16 = .ok (.new 16, 3) := by decide +kernel
theorem dX6_init_19 : decode cX6_init 19 = .ok (.dup, 1) := by decide +kernel
theorem dX6_init_20 : decode cX6_init 20 = .ok (.invokespecial 18, 3) := by decide +kernel
theorem dX6_init_23 : decode cX6_init 23 = .ok (.putfield 19, 3) := by decide +kernel
theorem dX6_init_26 : decode cX6_init 26 = .ok (.aload_n 0, 1) := by decide +kernel
theorem dX6_init_27 : decode cX6_init 27 = .ok (.new 23, 3) := by decide +kernel
theorem dX6_init_30 : decode cX6_init 30 = .ok (.dup, 1) := by decide +kernel
theorem dX6_init_31 : decode cX6_init 31 = .ok (.invokespecial 25, 3) := by decide +kernel
theorem dX6_init_34 : decode cX6_init 34 = .ok (.putfield 26, 3) := by decide +kernel
theorem dX6_init_37 : decode cX6_init 37 = .ok (.aload_n 0, 1) := by decide +kernel
theorem dX6_init_38 : decode cX6_init 38 = .ok (.new 30, 3) := by decide +kernel
theorem dX6_init_41 : decode cX6_init 41 = .ok (.dup, 1) := by decide +kernel
theorem dX6_init_42 : decode cX6_init 42 = .ok (.invokespecial 32, 3) := by decide +kernel
theorem dX6_init_45 : decode cX6_init 45 = .ok (.putfield 33, 3) := by decide +kernel
theorem dX6_init_48 : decode cX6_init 48 = .ok (.aload_n 0, 1) := by decide +kernel
theorem dX6_init_49 : decode cX6_init 49 = .ok (.new 37, 3) := by decide +kernel
theorem dX6_init_52 : decode cX6_init 52 = .ok (.dup, 1) := by decide +kernel
theorem dX6_init_53 : decode cX6_init 53 = .ok (.invokespecial 39, 3) := by decide +kernel
theorem dX6_init_56 : decode cX6_init 56 = .ok (.putfield 40, 3) := by decide +kernel
theorem dX6_init_59 : decode cX6_init 59 = .ok (.aload_n 0, 1) := by decide +kernel
theorem dX6_init_60 : decode cX6_init 60 = .ok (.new 44, 3) := by decide +kernel
theorem dX6_init_63 : decode cX6_init 63 = .ok (.dup, 1) := by decide +kernel
theorem dX6_init_64 : decode cX6_init 64 = .ok (.invokespecial 46, 3) := by decide +kernel
theorem dX6_init_67 : decode cX6_init 67 = .ok (.putfield 47, 3) := by decide +kernel
theorem dX6_init_70 : decode cX6_init 70 = .ok (.aload_n 0, 1) := by decide +kernel
theorem dX6_init_71 : decode cX6_init 71 = .ok (.iconst 0, 1) := by decide +kernel
theorem dX6_init_72 : decode cX6_init 72 = .ok (.putfield 51, 3) := by decide +kernel
theorem dX6_init_75 : decode cX6_init 75 = .ok (.aload_n 0, 1) := by decide +kernel
theorem dX6_init_76 : decode cX6_init 76 = .ok (.iconst 0, 1) := by decide +kernel
theorem dX6_init_77 : decode cX6_init 77 = .ok (.putfield 55, 3) := by decide +kernel
theorem dX6_init_80 : decode cX6_init 80 = .ok (.aload_n 0, 1) := by decide +kernel
theorem dX6_init_81 : decode cX6_init 81 = .ok (.iconst 0, 1) := by decide +kernel
theorem dX6_init_82 : decode cX6_init 82 = .ok (.putfield 58, 3) := by decide +kernel
theorem dX6_init_85 : decode cX6_init 85 = .ok (.return_, 1) := by decide +kernel
set_option maxRecDepth 20000 in
theorem ggX6_offset_X6_refuseNoStation : GoodIn wsX6_offset wsX6_refuseNoStation := goodIn_ca (goodIn_r _ [5, 6, 7] (by decide +kernel) (by decide +kernel)) (goodIn_sub (fun _ h => List.mem_cons_of_mem _ (List.mem_append_left _ (List.mem_append_left _ (List.mem_append_right _ h)))) (by decide +kernel))
set_option maxRecDepth 20000 in
theorem gX6_offset_X6_refuseNoStation : GoodIn wsX6_offset (va_wsS RX6 62 yX6_refuseNoStation wsX6_refuseNoStation) := goodIn_app (goodIn_of _ (by decide +kernel)) ggX6_offset_X6_refuseNoStation
set_option maxRecDepth 20000 in
theorem ggX6_offset_X6_refuseNoWaterline : GoodIn wsX6_offset wsX6_refuseNoWaterline := goodIn_ca (goodIn_r _ [10, 6, 7] (by decide +kernel) (by decide +kernel)) (goodIn_sub (fun _ h => List.mem_cons_of_mem _ (List.mem_append_left _ (List.mem_append_left _ (List.mem_append_right _ h)))) (by decide +kernel))
set_option maxRecDepth 20000 in
theorem gX6_offset_X6_refuseNoWaterline : GoodIn wsX6_offset (va_wsS RX6 66 yX6_refuseNoWaterline wsX6_refuseNoWaterline) := goodIn_app (goodIn_of _ (by decide +kernel)) ggX6_offset_X6_refuseNoWaterline
set_option maxRecDepth 20000 in
theorem ggX6_offset_X6_refuseOutside : GoodIn wsX6_offset wsX6_refuseOutside := goodIn_ca (goodIn_r _ [13, 14, 15] (by decide +kernel) (by decide +kernel)) (goodIn_sub (fun _ h => List.mem_cons_of_mem _ (List.mem_append_left _ (List.mem_append_right _ h))) (by decide +kernel))
set_option maxRecDepth 20000 in
theorem gX6_offset_X6_refuseOutside : GoodIn wsX6_offset (va_wsS RX6 69 yX6_refuseOutside wsX6_refuseOutside) := goodIn_app (goodIn_of _ (by decide +kernel)) ggX6_offset_X6_refuseOutside
set_option maxRecDepth 20000 in
theorem ggX6_offset_X6_refuseLaunched : GoodIn wsX6_offset wsX6_refuseLaunched := goodIn_ca (goodIn_r _ [19, 20, 21, 22, 23, 24, 25, 26, 27, 28, 29, 30, 31] (by decide +kernel) (by decide +kernel)) (goodIn_sub (fun _ h => List.mem_cons_of_mem _ (List.mem_append_right _ h)) (by decide +kernel))
set_option maxRecDepth 20000 in
theorem gX6_offset_X6_refuseLaunched : GoodIn wsX6_offset (wsV RX6 73 RX6 yX6_refuseLaunched wsX6_refuseLaunched) := goodIn_app (goodIn_of _ (by decide +kernel)) ggX6_offset_X6_refuseLaunched
theorem dX6_offset_0 : decode cX6_offset 0 = .ok (.iload_n 1, 1) := by decide +kernel
theorem dX6_offset_1 : decode cX6_offset 1 = .ok (.invokestatic 62, 3) := by decide +kernel
theorem dX6_offset_4 : decode cX6_offset 4 = .ok (.iload_n 2, 1) := by decide +kernel
theorem dX6_offset_5 : decode cX6_offset 5 = .ok (.invokestatic 66, 3) := by decide +kernel
theorem dX6_offset_8 : decode cX6_offset 8 = .ok (.iload_n 3, 1) := by decide +kernel
theorem dX6_offset_9 : decode cX6_offset 9 = .ok (.iconst 0, 1) := by decide +kernel
theorem dX6_offset_10 : decode cX6_offset 10 = .ok (.sipush 200, 3) := by decide +kernel
theorem dX6_offset_13 : decode cX6_offset 13 = .ok (.invokestatic 69, 3) := by decide +kernel
theorem dX6_offset_16 : decode cX6_offset 16 = .ok (.aload_n 0, 1) := by decide +kernel
theorem dX6_offset_17 : decode cX6_offset 17 = .ok (.invokevirtual 73, 3) := by decide +kernel
theorem dX6_offset_20 : decode cX6_offset 20 = .ok (.aload_n 0, 1) := by decide +kernel
theorem dX6_offset_21 : decode cX6_offset 21 = .ok (.getfield 10, 3) := by decide +kernel
theorem dX6_offset_24 : decode cX6_offset 24 = .ok (.getfield 76, 3) := by decide +kernel
theorem dX6_offset_27 : decode cX6_offset 27 = .ok (.iload_n 2, 1) := by decide +kernel
theorem dX6_offset_28 : decode cX6_offset 28 = .ok (.aaload, 1) := by decide +kernel
theorem dX6_offset_29 : decode cX6_offset 29 = .ok (.iload_n 1, 1) := by decide +kernel
theorem dX6_offset_30 : decode cX6_offset 30 = .ok (.iaload, 1) := by decide +kernel
theorem dX6_offset_31 : decode cX6_offset 31 = .ok (.istore 4, 2) := by decide +kernel
theorem dX6_offset_33 : decode cX6_offset 33 = .ok (.aload_n 0, 1) := by decide +kernel
theorem dX6_offset_34 : decode cX6_offset 34 = .ok (.getfield 10, 3) := by decide +kernel
theorem dX6_offset_37 : decode cX6_offset 37 = .ok (.getfield 76, 3) := by decide +kernel
theorem dX6_offset_40 : decode cX6_offset 40 = .ok (.iload_n 2, 1) := by decide +kernel
theorem dX6_offset_41 : decode cX6_offset 41 = .ok (.aaload, 1) := by decide +kernel
theorem dX6_offset_42 : decode cX6_offset 42 = .ok (.iload_n 1, 1) := by decide +kernel
theorem dX6_offset_43 : decode cX6_offset 43 = .ok (.iload_n 3, 1) := by decide +kernel
theorem dX6_offset_44 : decode cX6_offset 44 = .ok (.iastore, 1) := by decide +kernel
theorem dX6_offset_45 : decode cX6_offset 45 = .ok (.iload 4, 2) := by decide +kernel
theorem dX6_offset_47 : decode cX6_offset 47 = .ok (.ireturn, 1) := by decide +kernel
set_option maxRecDepth 20000 in
theorem ggX6_half_X6_refuseNoStation : GoodIn wsX6_half wsX6_refuseNoStation := goodIn_ca (goodIn_r _ [5, 6, 7] (by decide +kernel) (by decide +kernel)) (goodIn_sub (fun _ h => List.mem_cons_of_mem _ (List.mem_append_right _ h)) (by decide +kernel))
set_option maxRecDepth 20000 in
theorem gX6_half_X6_refuseNoStation : GoodIn wsX6_half (va_wsS RX6 62 yX6_refuseNoStation wsX6_refuseNoStation) := goodIn_app (goodIn_of _ (by decide +kernel)) ggX6_half_X6_refuseNoStation
set_option maxRecDepth 20000 in
theorem ggX6_half_X6_refuseNoWaterline : GoodIn wsX6_half wsX6_refuseNoWaterline := goodIn_ca (goodIn_r _ [10, 6, 7] (by decide +kernel) (by decide +kernel)) (goodIn_sub (fun _ h => List.mem_cons_of_mem _ (List.mem_append_right _ h)) (by decide +kernel))
set_option maxRecDepth 20000 in
theorem gX6_half_X6_refuseNoWaterline : GoodIn wsX6_half (va_wsS RX6 66 yX6_refuseNoWaterline wsX6_refuseNoWaterline) := goodIn_app (goodIn_of _ (by decide +kernel)) ggX6_half_X6_refuseNoWaterline
theorem dX6_half_0 : decode cX6_half 0 = .ok (.iload_n 1, 1) := by decide +kernel
theorem dX6_half_1 : decode cX6_half 1 = .ok (.invokestatic 62, 3) := by decide +kernel
theorem dX6_half_4 : decode cX6_half 4 = .ok (.iload_n 2, 1) := by decide +kernel
theorem dX6_half_5 : decode cX6_half 5 = .ok (.invokestatic 66, 3) := by decide +kernel
theorem dX6_half_8 : decode cX6_half 8 = .ok (.aload_n 0, 1) := by decide +kernel
theorem dX6_half_9 : decode cX6_half 9 = .ok (.getfield 10, 3) := by decide +kernel
theorem dX6_half_12 : decode cX6_half 12 = .ok (.getfield 76, 3) := by decide +kernel
theorem dX6_half_15 : decode cX6_half 15 = .ok (.iload_n 2, 1) := by decide +kernel
theorem dX6_half_16 : decode cX6_half 16 = .ok (.aaload, 1) := by decide +kernel
theorem dX6_half_17 : decode cX6_half 17 = .ok (.iload_n 1, 1) := by decide +kernel
theorem dX6_half_18 : decode cX6_half 18 = .ok (.iaload, 1) := by decide +kernel
theorem dX6_half_19 : decode cX6_half 19 = .ok (.ireturn, 1) := by decide +kernel
set_option maxRecDepth 20000 in
theorem ggX6_bend_X6_refuseNoWaterline : GoodIn wsX6_bend wsX6_refuseNoWaterline := goodIn_ca (goodIn_r _ [5, 6, 7] (by decide +kernel) (by decide +kernel)) (goodIn_sub (fun _ h => List.mem_cons_of_mem _ (List.mem_append_right _ h)) (by decide +kernel))
set_option maxRecDepth 20000 in
theorem gX6_bend_X6_refuseNoWaterline : GoodIn wsX6_bend (va_wsS RX6 66 yX6_refuseNoWaterline wsX6_refuseNoWaterline) := goodIn_app (goodIn_of _ (by decide +kernel)) ggX6_bend_X6_refuseNoWaterline
set_option maxRecDepth 20000 in
theorem ggX6_bend_X6_bendOfLine : GoodIn wsX6_bend wsX6_bendOfLine := goodIn_r _ [10, 11, 12, 4, 13] (by decide +kernel) (by decide +kernel)
set_option maxRecDepth 20000 in
theorem gX6_bend_X6_bendOfLine : GoodIn wsX6_bend (va_wsS RX6 80 yX6_bendOfLine wsX6_bendOfLine) := goodIn_app (goodIn_of _ (by decide +kernel)) ggX6_bend_X6_bendOfLine
theorem dX6_bend_0 : decode cX6_bend 0 = .ok (.iload_n 1, 1) := by decide +kernel
theorem dX6_bend_1 : decode cX6_bend 1 = .ok (.invokestatic 66, 3) := by decide +kernel
theorem dX6_bend_4 : decode cX6_bend 4 = .ok (.aload_n 0, 1) := by decide +kernel
theorem dX6_bend_5 : decode cX6_bend 5 = .ok (.getfield 10, 3) := by decide +kernel
theorem dX6_bend_8 : decode cX6_bend 8 = .ok (.getfield 76, 3) := by decide +kernel
theorem dX6_bend_11 : decode cX6_bend 11 = .ok (.iload_n 1, 1) := by decide +kernel
theorem dX6_bend_12 : decode cX6_bend 12 = .ok (.aaload, 1) := by decide +kernel
theorem dX6_bend_13 : decode cX6_bend 13 = .ok (.invokestatic 80, 3) := by decide +kernel
theorem dX6_bend_16 : decode cX6_bend 16 = .ok (.ireturn, 1) := by decide +kernel
set_option maxRecDepth 20000 in
theorem ggX6_fair_X6_refuseNoWaterline : GoodIn wsX6_fair wsX6_refuseNoWaterline := goodIn_ca (goodIn_r _ [6, 7, 8] (by decide +kernel) (by decide +kernel)) (goodIn_sub (fun _ h => List.mem_cons_of_mem _ (List.mem_append_left _ (List.mem_append_left _ (List.mem_append_right _ h)))) (by decide +kernel))
set_option maxRecDepth 20000 in
theorem gX6_fair_X6_refuseNoWaterline : GoodIn wsX6_fair (va_wsS RX6 66 yX6_refuseNoWaterline wsX6_refuseNoWaterline) := goodIn_app (goodIn_of _ (by decide +kernel)) ggX6_fair_X6_refuseNoWaterline
set_option maxRecDepth 20000 in
theorem ggX6_fair_X6_refuseOutside : GoodIn wsX6_fair wsX6_refuseOutside := goodIn_ca (goodIn_r _ [11, 12, 13] (by decide +kernel) (by decide +kernel)) (goodIn_sub (fun _ h => List.mem_cons_of_mem _ (List.mem_append_left _ (List.mem_append_right _ h))) (by decide +kernel))
set_option maxRecDepth 20000 in
theorem gX6_fair_X6_refuseOutside : GoodIn wsX6_fair (va_wsS RX6 69 yX6_refuseOutside wsX6_refuseOutside) := goodIn_app (goodIn_of _ (by decide +kernel)) ggX6_fair_X6_refuseOutside
set_option maxRecDepth 20000 in
theorem ggX6_fair_X6_refuseLaunched : GoodIn wsX6_fair wsX6_refuseLaunched := goodIn_ca (goodIn_r _ [17, 18, 19, 20, 58, 59, 60, 61, 62, 63, 64, 65, 66] (by decide +kernel) (by decide +kernel)) (goodIn_sub (fun _ h => List.mem_cons_of_mem _ (List.mem_append_right _ h)) (by decide +kernel))
set_option maxRecDepth 20000 in
theorem gX6_fair_X6_refuseLaunched : GoodIn wsX6_fair (wsV RX6 73 RX6 yX6_refuseLaunched wsX6_refuseLaunched) := goodIn_app (goodIn_of _ (by decide +kernel)) ggX6_fair_X6_refuseLaunched
set_option maxRecDepth 20000 in
theorem ggX6_fair_X6_bendOfLine : GoodIn wsX6_fair wsX6_bendOfLine := goodIn_r _ [23, 24, 25, 5, 26] (by decide +kernel) (by decide +kernel)
set_option maxRecDepth 20000 in
theorem gX6_fair_X6_bendOfLine : GoodIn wsX6_fair (va_wsS RX6 80 yX6_bendOfLine wsX6_bendOfLine) := goodIn_app (goodIn_of _ (by decide +kernel)) ggX6_fair_X6_bendOfLine
set_option maxRecDepth 20000 in
theorem ggX6_fair_X1_straighten : GoodIn wsX6_fair wsX1_straighten := goodIn_r _ [30, 31, 32, 33, 34, 35, 36, 37, 38, 39, 40, 41, 42, 28, 43, 44, 45, 46, 47, 48, 49, 25, 5, 26, 50, 51, 52, 53, 54, 55, 56, 57, 68, 69, 70] (by decide +kernel) (by decide +kernel)
set_option maxRecDepth 20000 in
theorem gX6_fair_X1_straighten_n84 : GoodIn wsX6_fair (wsX1_straighten) := ggX6_fair_X1_straighten
theorem dX6_fair_0 : decode cX6_fair 0 = .ok (.iload_n 1, 1) := by decide +kernel
theorem dX6_fair_1 : decode cX6_fair 1 = .ok (.invokestatic 66, 3) := by decide +kernel
theorem dX6_fair_4 : decode cX6_fair 4 = .ok (.iload_n 2, 1) := by decide +kernel
theorem dX6_fair_5 : decode cX6_fair 5 = .ok (.iconst 0, 1) := by decide +kernel
theorem dX6_fair_6 : decode cX6_fair 6 = .ok (.iconst 2, 1) := by decide +kernel
theorem dX6_fair_7 : decode cX6_fair 7 = .ok (.invokestatic 69, 3) := by decide +kernel
theorem dX6_fair_10 : decode cX6_fair 10 = .ok (.aload_n 0, 1) := by decide +kernel
theorem dX6_fair_11 : decode cX6_fair 11 = .ok (.invokevirtual 73, 3) := by decide +kernel
theorem dX6_fair_14 : decode cX6_fair 14 = .ok (.aload_n 0, 1) := by decide +kernel
theorem dX6_fair_15 : decode cX6_fair 15 = .ok (.getfield 10, 3) := by decide +kernel
theorem dX6_fair_18 : decode cX6_fair 18 = .ok (.getfield 76, 3) := by decide +kernel
theorem dX6_fair_21 : decode cX6_fair 21 = .ok (.iload_n 1, 1) := by decide +kernel
theorem dX6_fair_22 : decode cX6_fair 22 = .ok (.aaload, 1) := by decide +kernel
theorem dX6_fair_23 : decode cX6_fair 23 = .ok (.astore_n 3, 1) := by decide +kernel
theorem dX6_fair_24 : decode cX6_fair 24 = .ok (.aload_n 3, 1) := by decide +kernel
theorem dX6_fair_25 : decode cX6_fair 25 = .ok (.invokestatic 80, 3) := by decide +kernel
theorem dX6_fair_28 : decode cX6_fair 28 = .ok (.istore 4, 2) := by decide +kernel
theorem dX6_fair_30 : decode cX6_fair 30 = .ok (.aload_n 0, 1) := by decide +kernel
theorem dX6_fair_31 : decode cX6_fair 31 = .ok (.getfield 19, 3) := by decide +kernel
theorem dX6_fair_34 : decode cX6_fair 34 = .ok (.aload_n 3, 1) := by decide +kernel
theorem dX6_fair_35 : decode cX6_fair 35 = .ok (.iload_n 2, 1) := by decide +kernel
theorem dX6_fair_36 : decode cX6_fair 36 = .ok (.invokevirtual 84, 3) := by decide +kernel
theorem dX6_fair_39 : decode cX6_fair 39 = .ok (.iload 4, 2) := by decide +kernel
theorem dX6_fair_41 : decode cX6_fair 41 = .ok (.aload_n 3, 1) := by decide +kernel
theorem dX6_fair_42 : decode cX6_fair 42 = .ok (.invokestatic 80, 3) := by decide +kernel
theorem dX6_fair_45 : decode cX6_fair 45 = .ok (.isub, 1) := by decide +kernel
theorem dX6_fair_46 : decode cX6_fair 46 = .ok (.ireturn, 1) := by decide +kernel
set_option maxRecDepth 20000 in
theorem ggX6_area_X6_refuseNoStation : GoodIn wsX6_area wsX6_refuseNoStation := goodIn_ca (goodIn_r _ [5, 6, 7] (by decide +kernel) (by decide +kernel)) (goodIn_sub (fun _ h => List.mem_cons_of_mem _ (List.mem_append_right _ h)) (by decide +kernel))
set_option maxRecDepth 20000 in
theorem gX6_area_X6_refuseNoStation : GoodIn wsX6_area (va_wsS RX6 62 yX6_refuseNoStation wsX6_refuseNoStation) := goodIn_app (goodIn_of _ (by decide +kernel)) ggX6_area_X6_refuseNoStation
set_option maxRecDepth 20000 in
theorem ggX6_area_X6_refuseNoWaterline : GoodIn wsX6_area wsX6_refuseNoWaterline := goodIn_ca (goodIn_r _ [10, 6, 7] (by decide +kernel) (by decide +kernel)) (goodIn_sub (fun _ h => List.mem_cons_of_mem _ (List.mem_append_right _ h)) (by decide +kernel))
set_option maxRecDepth 20000 in
theorem gX6_area_X6_refuseNoWaterline : GoodIn wsX6_area (va_wsS RX6 66 yX6_refuseNoWaterline wsX6_refuseNoWaterline) := goodIn_app (goodIn_of _ (by decide +kernel)) ggX6_area_X6_refuseNoWaterline
set_option maxRecDepth 20000 in
theorem ggX6_area_X4_areaUpTo : GoodIn wsX6_area wsX4_areaUpTo := goodIn_r _ [14, 15, 25] (by decide +kernel) (by decide +kernel)
set_option maxRecDepth 20000 in
theorem gX6_area_X4_areaUpTo_n88 : GoodIn wsX6_area (wsX4_areaUpTo) := ggX6_area_X4_areaUpTo
theorem dX6_area_0 : decode cX6_area 0 = .ok (.iload_n 1, 1) := by decide +kernel
theorem dX6_area_1 : decode cX6_area 1 = .ok (.invokestatic 62, 3) := by decide +kernel
theorem dX6_area_4 : decode cX6_area 4 = .ok (.iload_n 2, 1) := by decide +kernel
theorem dX6_area_5 : decode cX6_area 5 = .ok (.invokestatic 66, 3) := by decide +kernel
theorem dX6_area_8 : decode cX6_area 8 = .ok (.aload_n 0, 1) := by decide +kernel
theorem dX6_area_9 : decode cX6_area 9 = .ok (.getfield 10, 3) := by decide +kernel
theorem dX6_area_12 : decode cX6_area 12 = .ok (.iload_n 1, 1) := by decide +kernel
theorem dX6_area_13 : decode cX6_area 13 = .ok (.iload_n 2, 1) := by decide +kernel
theorem dX6_area_14 : decode cX6_area 14 = .ok (.invokevirtual 88, 3) := by decide +kernel
theorem dX6_area_17 : decode cX6_area 17 = .ok (.ireturn, 1) := by decide +kernel
set_option maxRecDepth 20000 in
theorem ggX6_volume_X6_refuseNoWaterline : GoodIn wsX6_volume wsX6_refuseNoWaterline := goodIn_ca (goodIn_r _ [5, 6, 7] (by decide +kernel) (by decide +kernel)) (goodIn_sub (fun _ h => List.mem_cons_of_mem _ (List.mem_append_right _ h)) (by decide +kernel))
set_option maxRecDepth 20000 in
theorem gX6_volume_X6_refuseNoWaterline : GoodIn wsX6_volume (va_wsS RX6 66 yX6_refuseNoWaterline wsX6_refuseNoWaterline) := goodIn_app (goodIn_of _ (by decide +kernel)) ggX6_volume_X6_refuseNoWaterline
set_option maxRecDepth 20000 in
theorem ggX6_volume_X4_volumeUpTo : GoodIn wsX6_volume wsX4_volumeUpTo := goodIn_r _ [11, 12, 13, 14, 9, 15, 16, 26] (by decide +kernel) (by decide +kernel)
set_option maxRecDepth 20000 in
theorem gX6_volume_X4_volumeUpTo_n92 : GoodIn wsX6_volume (wsX4_volumeUpTo) := ggX6_volume_X4_volumeUpTo
theorem dX6_volume_0 : decode cX6_volume 0 = .ok (.iload_n 1, 1) := by decide +kernel
theorem dX6_volume_1 : decode cX6_volume 1 = .ok (.invokestatic 66, 3) := by decide +kernel
theorem dX6_volume_4 : decode cX6_volume 4 = .ok (.aload_n 0, 1) := by decide +kernel
theorem dX6_volume_5 : decode cX6_volume 5 = .ok (.getfield 10, 3) := by decide +kernel
theorem dX6_volume_8 : decode cX6_volume 8 = .ok (.iload_n 1, 1) := by decide +kernel
theorem dX6_volume_9 : decode cX6_volume 9 = .ok (.invokevirtual 92, 3) := by decide +kernel
theorem dX6_volume_12 : decode cX6_volume 12 = .ok (.ireturn, 1) := by decide +kernel
set_option maxRecDepth 20000 in
theorem ggX6_volumeAnew_X6_refuseNoWaterline : GoodIn wsX6_volumeAnew wsX6_refuseNoWaterline := goodIn_ca (goodIn_r _ [5, 6, 7] (by decide +kernel) (by decide +kernel)) (goodIn_sub (fun _ h => List.mem_cons_of_mem _ (List.mem_append_right _ h)) (by decide +kernel))
set_option maxRecDepth 20000 in
theorem gX6_volumeAnew_X6_refuseNoWaterline : GoodIn wsX6_volumeAnew (va_wsS RX6 66 yX6_refuseNoWaterline wsX6_refuseNoWaterline) := goodIn_app (goodIn_of _ (by decide +kernel)) ggX6_volumeAnew_X6_refuseNoWaterline
set_option maxRecDepth 20000 in
theorem ggX6_volumeAnew_X4_volumeBySlices : GoodIn wsX6_volumeAnew wsX4_volumeBySlices := goodIn_r _ [11, 12, 13, 14, 9, 15, 16, 26] (by decide +kernel) (by decide +kernel)
set_option maxRecDepth 20000 in
theorem gX6_volumeAnew_X4_volumeBySlices_n96 : GoodIn wsX6_volumeAnew (wsX4_volumeBySlices) := ggX6_volumeAnew_X4_volumeBySlices
theorem dX6_volumeAnew_0 : decode cX6_volumeAnew 0 = .ok (.iload_n 1, 1) := by decide +kernel
theorem dX6_volumeAnew_1 : decode cX6_volumeAnew 1 = .ok (.invokestatic 66, 3) := by decide +kernel
theorem dX6_volumeAnew_4 : decode cX6_volumeAnew 4 = .ok (.aload_n 0, 1) := by decide +kernel
theorem dX6_volumeAnew_5 : decode cX6_volumeAnew 5 = .ok (.getfield 10, 3) := by decide +kernel
theorem dX6_volumeAnew_8 : decode cX6_volumeAnew 8 = .ok (.iload_n 1, 1) := by decide +kernel
theorem dX6_volumeAnew_9 : decode cX6_volumeAnew 9 = .ok (.invokevirtual 96, 3) := by decide +kernel
theorem dX6_volumeAnew_12 : decode cX6_volumeAnew 12 = .ok (.ireturn, 1) := by decide +kernel
set_option maxRecDepth 20000 in
theorem ggX6_weigh_X6_refuseNoStation : GoodIn wsX6_weigh wsX6_refuseNoStation := goodIn_ca (goodIn_r _ [7, 8, 9] (by decide +kernel) (by decide +kernel)) (goodIn_sub (fun _ h => List.mem_cons_of_mem _ (List.mem_append_left _ (List.mem_append_right _ h))) (by decide +kernel))
set_option maxRecDepth 20000 in
theorem gX6_weigh_X6_refuseNoStation : GoodIn wsX6_weigh (va_wsS RX6 62 yX6_refuseNoStation wsX6_refuseNoStation) := goodIn_app (goodIn_of _ (by decide +kernel)) ggX6_weigh_X6_refuseNoStation
set_option maxRecDepth 20000 in
theorem ggX6_weigh_X6_refuseOutside : GoodIn wsX6_weigh wsX6_refuseOutside := goodIn_ca (goodIn_r _ [12, 13, 14] (by decide +kernel) (by decide +kernel)) (goodIn_sub (fun _ h => List.mem_cons_of_mem _ (List.mem_append_right _ h)) (by decide +kernel))
set_option maxRecDepth 20000 in
theorem gX6_weigh_X6_refuseOutside : GoodIn wsX6_weigh (va_wsS RX6 69 yX6_refuseOutside wsX6_refuseOutside) := goodIn_app (goodIn_of _ (by decide +kernel)) ggX6_weigh_X6_refuseOutside
set_option maxRecDepth 20000 in
theorem ggX6_weigh_X3_isFull : GoodIn wsX6_weigh wsX3_isFull := goodIn_r _ [18, 19, 34, 35, 36, 37, 38] (by decide +kernel) (by decide +kernel)
set_option maxRecDepth 20000 in
theorem gX6_weigh_X3_isFull_n99 : GoodIn wsX6_weigh (wsX3_isFull) := ggX6_weigh_X3_isFull
set_option maxRecDepth 20000 in
theorem ggX6_weigh_X3_add : GoodIn wsX6_weigh wsX3_add := goodIn_r _ [22, 23, 19, 24, 34, 35, 36, 37, 38] (by decide +kernel) (by decide +kernel)
set_option maxRecDepth 20000 in
theorem gX6_weigh_X3_add_n110 : GoodIn wsX6_weigh (wsX3_add) := ggX6_weigh_X3_add
theorem dX6_weigh_0 : decode cX6_weigh 0 = .ok (.iload_n 1, 1) := by decide +kernel
theorem dX6_weigh_1 : decode cX6_weigh 1 = .ok (.invokestatic 62, 3) := by decide +kernel
theorem dX6_weigh_4 : decode cX6_weigh 4 = .ok (.iload_n 2, 1) := by decide +kernel
theorem dX6_weigh_5 : decode cX6_weigh 5 = .ok (.iconst 0, 1) := by decide +kernel
theorem dX6_weigh_6 : decode cX6_weigh 6 = .ok (.sipush 999, 3) := by decide +kernel
theorem dX6_weigh_9 : decode cX6_weigh 9 = .ok (.invokestatic 69, 3) := by decide +kernel
theorem dX6_weigh_12 : decode cX6_weigh 12 = .ok (.aload_n 0, 1) := by decide +kernel
theorem dX6_weigh_13 : decode cX6_weigh 13 = .ok (.getfield 26, 3) := by decide +kernel
theorem dX6_weigh_16 : decode cX6_weigh 16 = .ok (.invokevirtual 99, 3) := by decide +kernel
theorem dX6_weigh_19 : decode cX6_weigh 19 = .ok (.ifCond .eq 13, 3) := by decide +kernel
theorem dX6_weigh_22 : decode cX6_weigh 22 = .ok (.new 103, 3) := by decide +kernel
theorem dX6_weigh_25 : decode cX6_weigh 25 = .ok (.dup, 1) := by decide +kernel
theorem dX6_weigh_26 : decode cX6_weigh 26 = .ok (.ldc 105, 2) := by decide +kernel
theorem dX6_weigh_28 : decode cX6_weigh 28 = .ok (.invokespecial 107, 3) := by decide +kernel
theorem dX6_weigh_31 : decode cX6_weigh 31 = .ok (.athrow, 1) := by decide +kernel
theorem dX6_weigh_32 : decode cX6_weigh 32 = .ok (.aload_n 0, 1) := by decide +kernel
theorem dX6_weigh_33 : decode cX6_weigh 33 = .ok (.getfield 26, 3) := by decide +kernel
theorem dX6_weigh_36 : decode cX6_weigh 36 = .ok (.iload_n 1, 1) := by decide +kernel
theorem dX6_weigh_37 : decode cX6_weigh 37 = .ok (.iload_n 2, 1) := by decide +kernel
theorem dX6_weigh_38 : decode cX6_weigh 38 = .ok (.invokevirtual 110, 3) := by decide +kernel
theorem dX6_weigh_41 : decode cX6_weigh 41 = .ok (.ireturn, 1) := by decide +kernel
set_option maxRecDepth 20000 in
theorem ggX6_change_X6_refuseNoWeight : GoodIn wsX6_change wsX6_refuseNoWeight := goodIn_ca (goodIn_r _ [6, 7, 8, 1, 23, 24, 25, 26, 27, 28, 29, 30, 31, 32, 33, 34, 35, 36] (by decide +kernel) (by decide +kernel)) (goodIn_sub (fun _ h => List.mem_cons_of_mem _ (List.mem_append_left _ (List.mem_append_right _ h))) (by decide +kernel))
set_option maxRecDepth 20000 in
theorem gX6_change_X6_refuseNoWeight : GoodIn wsX6_change (wsV RX6 113 RX6 yX6_refuseNoWeight wsX6_refuseNoWeight) := goodIn_app (goodIn_of _ (by decide +kernel)) ggX6_change_X6_refuseNoWeight
set_option maxRecDepth 20000 in
theorem ggX6_change_X6_refuseNoStation : GoodIn wsX6_change wsX6_refuseNoStation := goodIn_ca (goodIn_r _ [11, 7, 8] (by decide +kernel) (by decide +kernel)) (goodIn_sub (fun _ h => List.mem_cons_of_mem _ (List.mem_append_left _ (List.mem_append_right _ h))) (by decide +kernel))
set_option maxRecDepth 20000 in
theorem gX6_change_X6_refuseNoStation : GoodIn wsX6_change (va_wsS RX6 62 yX6_refuseNoStation wsX6_refuseNoStation) := goodIn_app (goodIn_of _ (by decide +kernel)) ggX6_change_X6_refuseNoStation
set_option maxRecDepth 20000 in
theorem ggX6_change_X6_refuseOutside : GoodIn wsX6_change wsX6_refuseOutside := goodIn_ca (goodIn_r _ [14, 15, 16] (by decide +kernel) (by decide +kernel)) (goodIn_sub (fun _ h => List.mem_cons_of_mem _ (List.mem_append_right _ h)) (by decide +kernel))
set_option maxRecDepth 20000 in
theorem gX6_change_X6_refuseOutside : GoodIn wsX6_change (va_wsS RX6 69 yX6_refuseOutside wsX6_refuseOutside) := goodIn_app (goodIn_of _ (by decide +kernel)) ggX6_change_X6_refuseOutside
set_option maxRecDepth 20000 in
theorem ggX6_change_X3_replace : GoodIn wsX6_change wsX3_replace := goodIn_r _ [20, 21, 22, 32, 33, 34, 35, 36] (by decide +kernel) (by decide +kernel)
set_option maxRecDepth 20000 in
theorem gX6_change_X3_replace_n116 : GoodIn wsX6_change (wsX3_replace) := ggX6_change_X3_replace
theorem dX6_change_0 : decode cX6_change 0 = .ok (.aload_n 0, 1) := by decide +kernel
theorem dX6_change_1 : decode cX6_change 1 = .ok (.iload_n 1, 1) := by decide +kernel
theorem dX6_change_2 : decode cX6_change 2 = .ok (.invokevirtual 113, 3) := by decide +kernel
theorem dX6_change_5 : decode cX6_change 5 = .ok (.iload_n 2, 1) := by decide +kernel
theorem dX6_change_6 : decode cX6_change 6 = .ok (.invokestatic 62, 3) := by decide +kernel
theorem dX6_change_9 : decode cX6_change 9 = .ok (.iload_n 3, 1) := by decide +kernel
theorem dX6_change_10 : decode cX6_change 10 = .ok (.iconst 0, 1) := by decide +kernel
theorem dX6_change_11 : decode cX6_change 11 = .ok (.sipush 999, 3) := by decide +kernel
theorem dX6_change_14 : decode cX6_change 14 = .ok (.invokestatic 69, 3) := by decide +kernel
theorem dX6_change_17 : decode cX6_change 17 = .ok (.aload_n 0, 1) := by decide +kernel
theorem dX6_change_18 : decode cX6_change 18 = .ok (.getfield 26, 3) := by decide +kernel
theorem dX6_change_21 : decode cX6_change 21 = .ok (.iload_n 1, 1) := by decide +kernel
theorem dX6_change_22 : decode cX6_change 22 = .ok (.iload_n 2, 1) := by decide +kernel
theorem dX6_change_23 : decode cX6_change 23 = .ok (.iload_n 3, 1) := by decide +kernel
theorem dX6_change_24 : decode cX6_change 24 = .ok (.invokevirtual 116, 3) := by decide +kernel
theorem dX6_change_27 : decode cX6_change 27 = .ok (.ireturn, 1) := by decide +kernel
set_option maxRecDepth 20000 in
theorem ggX6_ballast_X6_refuseOutside : GoodIn wsX6_ballast wsX6_refuseOutside := goodIn_ca (goodIn_r _ [7, 8, 9] (by decide +kernel) (by decide +kernel)) (goodIn_sub (fun _ h => List.mem_cons_of_mem _ (List.mem_append_right _ h)) (by decide +kernel))
set_option maxRecDepth 20000 in
theorem gX6_ballast_X6_refuseOutside : GoodIn wsX6_ballast (va_wsS RX6 69 yX6_refuseOutside wsX6_refuseOutside) := goodIn_app (goodIn_of _ (by decide +kernel)) ggX6_ballast_X6_refuseOutside
set_option maxRecDepth 20000 in
theorem ggX6_ballast_X2_measure : GoodIn wsX6_ballast wsX2_measure := goodIn_r _ [13, 14, 15, 16, 17, 18, 19, 20, 21, 22, 23, 24, 25, 26, 27, 74, 75, 76] (by decide +kernel) (by decide +kernel)
set_option maxRecDepth 20000 in
theorem gX6_ballast_X2_measure_n120 : GoodIn wsX6_ballast (wsX2_measure) := ggX6_ballast_X2_measure
set_option maxRecDepth 20000 in
theorem ggX6_ballast_X2_setBallast : GoodIn wsX6_ballast wsX2_setBallast := goodIn_r _ [30, 31, 32, 33, 34, 35, 36, 37, 38, 39, 40, 41, 42, 43, 44, 45, 46, 47, 11, 48, 14, 49, 50, 51, 52, 15, 53, 54, 55, 56, 57, 58, 59, 69, 70, 71, 72, 73, 74, 75] (by decide +kernel) (by decide +kernel)
set_option maxRecDepth 20000 in
theorem gX6_ballast_X2_setBallast_n124 : GoodIn wsX6_ballast (wsX2_setBallast) := ggX6_ballast_X2_setBallast
theorem dX6_ballast_0 : decode cX6_ballast 0 = .ok (.iload_n 1, 1) := by decide +kernel
theorem dX6_ballast_1 : decode cX6_ballast 1 = .ok (.iconst 0, 1) := by decide +kernel
theorem dX6_ballast_2 : decode cX6_ballast 2 = .ok (.bipush 99, 2) := by decide +kernel
theorem dX6_ballast_4 : decode cX6_ballast 4 = .ok (.invokestatic 69, 3) := by decide +kernel
theorem dX6_ballast_7 : decode cX6_ballast 7 = .ok (.aload_n 0, 1) := by decide +kernel
theorem dX6_ballast_8 : decode cX6_ballast 8 = .ok (.getfield 33, 3) := by decide +kernel
theorem dX6_ballast_11 : decode cX6_ballast 11 = .ok (.aload_n 0, 1) := by decide +kernel
theorem dX6_ballast_12 : decode cX6_ballast 12 = .ok (.getfield 10, 3) := by decide +kernel
theorem dX6_ballast_15 : decode cX6_ballast 15 = .ok (.invokevirtual 120, 3) := by decide +kernel
theorem dX6_ballast_18 : decode cX6_ballast 18 = .ok (.aload_n 0, 1) := by decide +kernel
theorem dX6_ballast_19 : decode cX6_ballast 19 = .ok (.getfield 33, 3) := by decide +kernel
theorem dX6_ballast_22 : decode cX6_ballast 22 = .ok (.aload_n 0, 1) := by decide +kernel
theorem dX6_ballast_23 : decode cX6_ballast 23 = .ok (.getfield 26, 3) := by decide +kernel
theorem dX6_ballast_26 : decode cX6_ballast 26 = .ok (.iload_n 1, 1) := by decide +kernel
theorem dX6_ballast_27 : decode cX6_ballast 27 = .ok (.invokevirtual 124, 3) := by decide +kernel
theorem dX6_ballast_30 : decode cX6_ballast 30 = .ok (.bipush 10, 2) := by decide +kernel
theorem dX6_ballast_32 : decode cX6_ballast 32 = .ok (.aload_n 0, 1) := by decide +kernel
theorem dX6_ballast_33 : decode cX6_ballast 33 = .ok (.getfield 26, 3) := by decide +kernel
theorem dX6_ballast_36 : decode cX6_ballast 36 = .ok (.getfield 128, 3) := by decide +kernel
theorem dX6_ballast_39 : decode cX6_ballast 39 = .ok (.imul, 1) := by decide +kernel
theorem dX6_ballast_40 : decode cX6_ballast 40 = .ok (.aload_n 0, 1) := by decide +kernel
theorem dX6_ballast_41 : decode cX6_ballast 41 = .ok (.getfield 26, 3) := by decide +kernel
theorem dX6_ballast_44 : decode cX6_ballast 44 = .ok (.getfield 131, 3) := by decide +kernel
theorem dX6_ballast_47 : decode cX6_ballast 47 = .ok (.iadd, 1) := by decide +kernel
theorem dX6_ballast_48 : decode cX6_ballast 48 = .ok (.ireturn, 1) := by decide +kernel
set_option maxRecDepth 20000 in
theorem ggX6_draught_X2_measure : GoodIn wsX6_draught wsX2_measure := goodIn_r _ [7, 8, 9, 10, 11, 12, 13, 14, 15, 16, 17, 18, 19, 20, 21, 45, 46, 47] (by decide +kernel) (by decide +kernel)
set_option maxRecDepth 20000 in
theorem gX6_draught_X2_measure_n120 : GoodIn wsX6_draught (wsX2_measure) := ggX6_draught_X2_measure
set_option maxRecDepth 20000 in
theorem ggX6_draught_X3_wholeLoad : GoodIn wsX6_draught wsX3_wholeLoad := goodIn_r _ [25, 26, 27, 28, 29, 23, 30, 31, 32, 48, 49, 50, 51, 52] (by decide +kernel) (by decide +kernel)
set_option maxRecDepth 20000 in
theorem gX6_draught_X3_wholeLoad_n134 : GoodIn wsX6_draught (wsX3_wholeLoad) := ggX6_draught_X3_wholeLoad
set_option maxRecDepth 20000 in
theorem ggX6_draught_X2_draughtUnder : GoodIn wsX6_draught wsX2_draughtUnder := goodIn_r _ [35, 8, 45, 46] (by decide +kernel) (by decide +kernel)
set_option maxRecDepth 20000 in
theorem gX6_draught_X2_draughtUnder_n138 : GoodIn wsX6_draught (wsX2_draughtUnder) := ggX6_draught_X2_draughtUnder
theorem dX6_draught_0 : decode cX6_draught 0 = .ok (.aload_n 0, 1) := by decide +kernel
theorem dX6_draught_1 : decode cX6_draught 1 = .ok (.getfield 33, 3) := by decide +kernel
theorem dX6_draught_4 : decode cX6_draught 4 = .ok (.aload_n 0, 1) := by decide +kernel
theorem dX6_draught_5 : decode cX6_draught 5 = .ok (.getfield 10, 3) := by decide +kernel
theorem dX6_draught_8 : decode cX6_draught 8 = .ok (.invokevirtual 120, 3) := by decide +kernel
theorem dX6_draught_11 : decode cX6_draught 11 = .ok (.aload_n 0, 1) := by decide +kernel
theorem dX6_draught_12 : decode cX6_draught 12 = .ok (.getfield 33, 3) := by decide +kernel
theorem dX6_draught_15 : decode cX6_draught 15 = .ok (.aload_n 0, 1) := by decide +kernel
theorem dX6_draught_16 : decode cX6_draught 16 = .ok (.getfield 26, 3) := by decide +kernel
theorem dX6_draught_19 : decode cX6_draught 19 = .ok (.invokevirtual 134, 3) := by decide +kernel
theorem dX6_draught_22 : decode cX6_draught 22 = .ok (.invokevirtual 138, 3) := by decide +kernel
theorem dX6_draught_25 : decode cX6_draught 25 = .ok (.ireturn, 1) := by decide +kernel
set_option maxRecDepth 20000 in
theorem ggX6_trim_X2_measure : GoodIn wsX6_trim wsX2_measure := goodIn_r _ [7, 8, 9, 10, 11, 12, 13, 14, 15, 16, 17, 18, 19, 20, 21, 65, 66, 67] (by decide +kernel) (by decide +kernel)
set_option maxRecDepth 20000 in
theorem gX6_trim_X2_measure_n120 : GoodIn wsX6_trim (wsX2_measure) := ggX6_trim_X2_measure
set_option maxRecDepth 20000 in
theorem ggX6_trim_X3_wholeLoad : GoodIn wsX6_trim wsX3_wholeLoad := goodIn_r _ [25, 26, 27, 28, 29, 23, 30, 31, 32, 68, 69, 70, 71, 72] (by decide +kernel) (by decide +kernel)
set_option maxRecDepth 20000 in
theorem gX6_trim_X3_wholeLoad_n134 : GoodIn wsX6_trim (wsX3_wholeLoad) := ggX6_trim_X3_wholeLoad
set_option maxRecDepth 20000 in
theorem ggX6_trim_X3_wholeMoment : GoodIn wsX6_trim wsX3_wholeMoment := goodIn_r _ [35, 26, 36, 37, 38, 39, 23, 40, 31, 32, 41, 68, 69, 70, 71, 72] (by decide +kernel) (by decide +kernel)
set_option maxRecDepth 20000 in
theorem gX6_trim_X3_wholeMoment_n141 : GoodIn wsX6_trim (wsX3_wholeMoment) := ggX6_trim_X3_wholeMoment
set_option maxRecDepth 20000 in
theorem ggX6_trim_X2_trimUnder : GoodIn wsX6_trim wsX2_trimUnder := goodIn_r _ [44, 9, 8, 45, 46, 47, 5, 48, 49, 50, 51, 52, 53, 54, 55, 65, 66] (by decide +kernel) (by decide +kernel)
set_option maxRecDepth 20000 in
theorem gX6_trim_X2_trimUnder_n144 : GoodIn wsX6_trim (wsX2_trimUnder) := ggX6_trim_X2_trimUnder
theorem dX6_trim_0 : decode cX6_trim 0 = .ok (.aload_n 0, 1) := by decide +kernel
theorem dX6_trim_1 : decode cX6_trim 1 = .ok (.getfield 33, 3) := by decide +kernel
theorem dX6_trim_4 : decode cX6_trim 4 = .ok (.aload_n 0, 1) := by decide +kernel
theorem dX6_trim_5 : decode cX6_trim 5 = .ok (.getfield 10, 3) := by decide +kernel
theorem dX6_trim_8 : decode cX6_trim 8 = .ok (.invokevirtual 120, 3) := by decide +kernel
theorem dX6_trim_11 : decode cX6_trim 11 = .ok (.aload_n 0, 1) := by decide +kernel
theorem dX6_trim_12 : decode cX6_trim 12 = .ok (.getfield 33, 3) := by decide +kernel
theorem dX6_trim_15 : decode cX6_trim 15 = .ok (.aload_n 0, 1) := by decide +kernel
theorem dX6_trim_16 : decode cX6_trim 16 = .ok (.getfield 26, 3) := by decide +kernel
theorem dX6_trim_19 : decode cX6_trim 19 = .ok (.invokevirtual 134, 3) := by decide +kernel
theorem dX6_trim_22 : decode cX6_trim 22 = .ok (.aload_n 0, 1) := by decide +kernel
theorem dX6_trim_23 : decode cX6_trim 23 = .ok (.getfield 26, 3) := by decide +kernel
theorem dX6_trim_26 : decode cX6_trim 26 = .ok (.invokevirtual 141, 3) := by decide +kernel
theorem dX6_trim_29 : decode cX6_trim 29 = .ok (.invokevirtual 144, 3) := by decide +kernel
theorem dX6_trim_32 : decode cX6_trim 32 = .ok (.ireturn, 1) := by decide +kernel
set_option maxRecDepth 20000 in
theorem ggX6_strake_X6_refuseNoStrake : GoodIn wsX6_strake wsX6_refuseNoStrake := goodIn_ca (goodIn_r _ [5, 6, 7] (by decide +kernel) (by decide +kernel)) (goodIn_sub (fun _ h => List.mem_cons_of_mem _ (List.mem_append_right _ h)) (by decide +kernel))
set_option maxRecDepth 20000 in
theorem gX6_strake_X6_refuseNoStrake : GoodIn wsX6_strake (va_wsS RX6 147 yX6_refuseNoStrake wsX6_refuseNoStrake) := goodIn_app (goodIn_of _ (by decide +kernel)) ggX6_strake_X6_refuseNoStrake
set_option maxRecDepth 20000 in
theorem ggX6_strake_X4_strakeLength : GoodIn wsX6_strake wsX4_strakeLength := goodIn_r _ [11, 12, 13, 14, 15, 16, 26] (by decide +kernel) (by decide +kernel)
set_option maxRecDepth 20000 in
theorem gX6_strake_X4_strakeLength_n150 : GoodIn wsX6_strake (wsX4_strakeLength) := ggX6_strake_X4_strakeLength
theorem dX6_strake_0 : decode cX6_strake 0 = .ok (.iload_n 1, 1) := by decide +kernel
theorem dX6_strake_1 : decode cX6_strake 1 = .ok (.invokestatic 147, 3) := by decide +kernel
theorem dX6_strake_4 : decode cX6_strake 4 = .ok (.aload_n 0, 1) := by decide +kernel
theorem dX6_strake_5 : decode cX6_strake 5 = .ok (.getfield 10, 3) := by decide +kernel
theorem dX6_strake_8 : decode cX6_strake 8 = .ok (.iload_n 1, 1) := by decide +kernel
theorem dX6_strake_9 : decode cX6_strake 9 = .ok (.invokevirtual 150, 3) := by decide +kernel
theorem dX6_strake_12 : decode cX6_strake 12 = .ok (.ireturn, 1) := by decide +kernel
set_option maxRecDepth 20000 in
theorem ggX6_planks_X6_refuseOutside : GoodIn wsX6_planks wsX6_refuseOutside := goodIn_ca (goodIn_r _ [6, 7, 8] (by decide +kernel) (by decide +kernel)) (goodIn_sub (fun _ h => List.mem_cons_of_mem _ (List.mem_append_right _ h)) (by decide +kernel))
set_option maxRecDepth 20000 in
theorem gX6_planks_X6_refuseOutside : GoodIn wsX6_planks (va_wsS RX6 69 yX6_refuseOutside wsX6_refuseOutside) := goodIn_app (goodIn_of _ (by decide +kernel)) ggX6_planks_X6_refuseOutside
set_option maxRecDepth 20000 in
theorem ggX6_planks_X5_cutAll : GoodIn wsX6_planks wsX5_cutAll := goodIn_r _ [12, 13, 14, 15, 16, 17, 18, 19, 20, 10, 21, 22, 23, 24, 25, 26, 27, 28, 29, 30, 31, 32, 33, 34, 35, 36, 46, 47, 48, 49, 50, 51, 52, 53] (by decide +kernel) (by decide +kernel)
set_option maxRecDepth 20000 in
theorem gX6_planks_X5_cutAll_n156 : GoodIn wsX6_planks (wsX5_cutAll) := ggX6_planks_X5_cutAll
theorem dX6_planks_0 : decode cX6_planks 0 = .ok (.iload_n 1, 1) := by decide +kernel
theorem dX6_planks_1 : decode cX6_planks 1 = .ok (.bipush 100, 2) := by decide +kernel
theorem dX6_planks_3 : decode cX6_planks 3 = .ok (.sipush 4000, 3) := by decide +kernel
theorem dX6_planks_6 : decode cX6_planks 6 = .ok (.invokestatic 69, 3) := by decide +kernel
theorem dX6_planks_9 : decode cX6_planks 9 = .ok (.aload_n 0, 1) := by decide +kernel
theorem dX6_planks_10 : decode cX6_planks 10 = .ok (.getfield 40, 3) := by decide +kernel
theorem dX6_planks_13 : decode cX6_planks 13 = .ok (.iload_n 1, 1) := by decide +kernel
theorem dX6_planks_14 : decode cX6_planks 14 = .ok (.putfield 153, 3) := by decide +kernel
theorem dX6_planks_17 : decode cX6_planks 17 = .ok (.aload_n 0, 1) := by decide +kernel
theorem dX6_planks_18 : decode cX6_planks 18 = .ok (.getfield 40, 3) := by decide +kernel
theorem dX6_planks_21 : decode cX6_planks 21 = .ok (.aload_n 0, 1) := by decide +kernel
theorem dX6_planks_22 : decode cX6_planks 22 = .ok (.getfield 10, 3) := by decide +kernel
theorem dX6_planks_25 : decode cX6_planks 25 = .ok (.invokevirtual 156, 3) := by decide +kernel
theorem dX6_planks_28 : decode cX6_planks 28 = .ok (.aload_n 0, 1) := by decide +kernel
theorem dX6_planks_29 : decode cX6_planks 29 = .ok (.getfield 40, 3) := by decide +kernel
theorem dX6_planks_32 : decode cX6_planks 32 = .ok (.getfield 159, 3) := by decide +kernel
theorem dX6_planks_35 : decode cX6_planks 35 = .ok (.ireturn, 1) := by decide +kernel
set_option maxRecDepth 20000 in
theorem ggX6_plankOf_X6_refuseNoStrake : GoodIn wsX6_plankOf wsX6_refuseNoStrake := goodIn_ca (goodIn_r _ [6, 7, 8] (by decide +kernel) (by decide +kernel)) (goodIn_sub (fun _ h => List.mem_cons_of_mem _ (List.mem_append_right _ h)) (by decide +kernel))
set_option maxRecDepth 20000 in
theorem gX6_plankOf_X6_refuseNoStrake : GoodIn wsX6_plankOf (va_wsS RX6 147 yX6_refuseNoStrake wsX6_refuseNoStrake) := goodIn_app (goodIn_of _ (by decide +kernel)) ggX6_plankOf_X6_refuseNoStrake
set_option maxRecDepth 20000 in
theorem ggX6_plankOf_X5_cutAll : GoodIn wsX6_plankOf wsX5_cutAll := goodIn_r _ [12, 13, 14, 15, 16, 17, 18, 19, 20, 10, 21, 22, 23, 24, 25, 26, 27, 28, 29, 30, 31, 32, 33, 34, 35, 36, 46, 47, 48, 49, 50, 51, 52, 53] (by decide +kernel) (by decide +kernel)
set_option maxRecDepth 20000 in
theorem gX6_plankOf_X5_cutAll_n156 : GoodIn wsX6_plankOf (wsX5_cutAll) := ggX6_plankOf_X5_cutAll
theorem dX6_plankOf_0 : decode cX6_plankOf 0 = .ok (.iload_n 1, 1) := by decide +kernel
theorem dX6_plankOf_1 : decode cX6_plankOf 1 = .ok (.invokestatic 147, 3) := by decide +kernel
theorem dX6_plankOf_4 : decode cX6_plankOf 4 = .ok (.aload_n 0, 1) := by decide +kernel
theorem dX6_plankOf_5 : decode cX6_plankOf 5 = .ok (.getfield 40, 3) := by decide +kernel
theorem dX6_plankOf_8 : decode cX6_plankOf 8 = .ok (.aload_n 0, 1) := by decide +kernel
theorem dX6_plankOf_9 : decode cX6_plankOf 9 = .ok (.getfield 10, 3) := by decide +kernel
theorem dX6_plankOf_12 : decode cX6_plankOf 12 = .ok (.invokevirtual 156, 3) := by decide +kernel
theorem dX6_plankOf_15 : decode cX6_plankOf 15 = .ok (.iload_n 2, 1) := by decide +kernel
theorem dX6_plankOf_16 : decode cX6_plankOf 16 = .ok (.ifCond .eq 15, 3) := by decide +kernel
theorem dX6_plankOf_19 : decode cX6_plankOf 19 = .ok (.aload_n 0, 1) := by decide +kernel
theorem dX6_plankOf_20 : decode cX6_plankOf 20 = .ok (.getfield 40, 3) := by decide +kernel
theorem dX6_plankOf_23 : decode cX6_plankOf 23 = .ok (.getfield 162, 3) := by decide +kernel
theorem dX6_plankOf_26 : decode cX6_plankOf 26 = .ok (.iload_n 1, 1) := by decide +kernel
theorem dX6_plankOf_27 : decode cX6_plankOf 27 = .ok (.iaload, 1) := by decide +kernel
theorem dX6_plankOf_28 : decode cX6_plankOf 28 = .ok (.goto 12, 3) := by decide +kernel
theorem dX6_plankOf_31 : decode cX6_plankOf 31 = .ok (.aload_n 0, 1) := by decide +kernel
theorem dX6_plankOf_32 : decode cX6_plankOf 32 = .ok (.getfield 40, 3) := by decide +kernel
theorem dX6_plankOf_35 : decode cX6_plankOf 35 = .ok (.getfield 166, 3) := by decide +kernel
theorem dX6_plankOf_38 : decode cX6_plankOf 38 = .ok (.iload_n 1, 1) := by decide +kernel
theorem dX6_plankOf_39 : decode cX6_plankOf 39 = .ok (.iaload, 1) := by decide +kernel
theorem dX6_plankOf_40 : decode cX6_plankOf 40 = .ok (.ireturn, 1) := by decide +kernel
set_option maxRecDepth 20000 in
theorem ggX6_tide_X6_refuseOutside : GoodIn wsX6_tide wsX6_refuseOutside := goodIn_ca (goodIn_r _ [7, 8, 9] (by decide +kernel) (by decide +kernel)) (goodIn_sub (fun _ h => List.mem_cons_of_mem _ (List.mem_append_right _ h)) (by decide +kernel))
set_option maxRecDepth 20000 in
theorem gX6_tide_X6_refuseOutside : GoodIn wsX6_tide (va_wsS RX6 69 yX6_refuseOutside wsX6_refuseOutside) := goodIn_app (goodIn_of _ (by decide +kernel)) ggX6_tide_X6_refuseOutside
set_option maxRecDepth 20000 in
theorem ggX6_tide_X0_hasRoomFor : GoodIn wsX6_tide wsX0_hasRoomFor := goodIn_r _ [13, 14, 15, 16, 17, 11, 18, 19, 40, 41, 42] (by decide +kernel) (by decide +kernel)
set_option maxRecDepth 20000 in
theorem gX6_tide_X0_hasRoomFor_n169 : GoodIn wsX6_tide (wsX0_hasRoomFor) := ggX6_tide_X0_hasRoomFor
set_option maxRecDepth 20000 in
theorem ggX6_tide_X0_heightOn : GoodIn wsX6_tide wsX0_heightOn := goodIn_r _ [22, 23, 15, 16, 17, 11, 18, 14, 19, 24, 25, 26, 27, 40, 41, 42] (by decide +kernel) (by decide +kernel)
set_option maxRecDepth 20000 in
theorem gX6_tide_X0_heightOn_n175 : GoodIn wsX6_tide (wsX0_heightOn) := ggX6_tide_X0_heightOn
set_option maxRecDepth 20000 in
theorem ggX6_tide_X0_tell : GoodIn wsX6_tide wsX0_tell := goodIn_r _ [30, 14, 19, 23, 15, 16, 17, 11, 18, 40, 41, 42] (by decide +kernel) (by decide +kernel)
set_option maxRecDepth 20000 in
theorem gX6_tide_X0_tell_n178 : GoodIn wsX6_tide (wsX0_tell) := ggX6_tide_X0_tell
theorem dX6_tide_0 : decode cX6_tide 0 = .ok (.iload_n 1, 1) := by decide +kernel
theorem dX6_tide_1 : decode cX6_tide 1 = .ok (.iconst 0, 1) := by decide +kernel
theorem dX6_tide_2 : decode cX6_tide 2 = .ok (.sipush 9999, 3) := by decide +kernel
theorem dX6_tide_5 : decode cX6_tide 5 = .ok (.invokestatic 69, 3) := by decide +kernel
theorem dX6_tide_8 : decode cX6_tide 8 = .ok (.iload_n 2, 1) := by decide +kernel
theorem dX6_tide_9 : decode cX6_tide 9 = .ok (.iconst 0, 1) := by decide +kernel
theorem dX6_tide_10 : decode cX6_tide 10 = .ok (.bipush 99, 2) := by decide +kernel
theorem dX6_tide_12 : decode cX6_tide 12 = .ok (.invokestatic 69, 3) := by decide +kernel
theorem dX6_tide_15 : decode cX6_tide 15 = .ok (.aload_n 0, 1) := by decide +kernel
theorem dX6_tide_16 : decode cX6_tide 16 = .ok (.getfield 47, 3) := by decide +kernel
theorem dX6_tide_19 : decode cX6_tide 19 = .ok (.iload_n 1, 1) := by decide +kernel
theorem dX6_tide_20 : decode cX6_tide 20 = .ok (.invokevirtual 169, 3) := by decide +kernel
theorem dX6_tide_23 : decode cX6_tide 23 = .ok (.ifCond .ne 13, 3) := by decide +kernel
theorem dX6_tide_26 : decode cX6_tide 26 = .ok (.new 103, 3) := by decide +kernel
theorem dX6_tide_29 : decode cX6_tide 29 = .ok (.dup, 1) := by decide +kernel
theorem dX6_tide_30 : decode cX6_tide 30 = .ok (.ldc 173, 2) := by decide +kernel
theorem dX6_tide_32 : decode cX6_tide 32 = .ok (.invokespecial 107, 3) := by decide +kernel
theorem dX6_tide_35 : decode cX6_tide 35 = .ok (.athrow, 1) := by decide +kernel
theorem dX6_tide_36 : decode cX6_tide 36 = .ok (.aload_n 0, 1) := by decide +kernel
theorem dX6_tide_37 : decode cX6_tide 37 = .ok (.getfield 47, 3) := by decide +kernel
theorem dX6_tide_40 : decode cX6_tide 40 = .ok (.iload_n 1, 1) := by decide +kernel
theorem dX6_tide_41 : decode cX6_tide 41 = .ok (.invokevirtual 175, 3) := by decide +kernel
theorem dX6_tide_44 : decode cX6_tide 44 = .ok (.istore_n 3, 1) := by decide +kernel
theorem dX6_tide_45 : decode cX6_tide 45 = .ok (.aload_n 0, 1) := by decide +kernel
theorem dX6_tide_46 : decode cX6_tide 46 = .ok (.getfield 47, 3) := by decide +kernel
theorem dX6_tide_49 : decode cX6_tide 49 = .ok (.iload_n 1, 1) := by decide +kernel
theorem dX6_tide_50 : decode cX6_tide 50 = .ok (.iload_n 2, 1) := by decide +kernel
theorem dX6_tide_51 : decode cX6_tide 51 = .ok (.invokevirtual 178, 3) := by decide +kernel
theorem dX6_tide_54 : decode cX6_tide 54 = .ok (.iload_n 3, 1) := by decide +kernel
theorem dX6_tide_55 : decode cX6_tide 55 = .ok (.ireturn, 1) := by decide +kernel
set_option maxRecDepth 20000 in
theorem ggX6_sill_X6_refuseOutside : GoodIn wsX6_sill wsX6_refuseOutside := goodIn_ca (goodIn_r _ [5, 6, 7] (by decide +kernel) (by decide +kernel)) (goodIn_sub (fun _ h => List.mem_cons_of_mem _ (List.mem_append_right _ h)) (by decide +kernel))
set_option maxRecDepth 20000 in
theorem gX6_sill_X6_refuseOutside : GoodIn wsX6_sill (va_wsS RX6 69 yX6_refuseOutside wsX6_refuseOutside) := goodIn_app (goodIn_of _ (by decide +kernel)) ggX6_sill_X6_refuseOutside
theorem dX6_sill_0 : decode cX6_sill 0 = .ok (.iload_n 1, 1) := by decide +kernel
theorem dX6_sill_1 : decode cX6_sill 1 = .ok (.iconst 0, 1) := by decide +kernel
theorem dX6_sill_2 : decode cX6_sill 2 = .ok (.bipush 50, 2) := by decide +kernel
theorem dX6_sill_4 : decode cX6_sill 4 = .ok (.invokestatic 69, 3) := by decide +kernel
theorem dX6_sill_7 : decode cX6_sill 7 = .ok (.aload_n 0, 1) := by decide +kernel
theorem dX6_sill_8 : decode cX6_sill 8 = .ok (.getfield 51, 3) := by decide +kernel
theorem dX6_sill_11 : decode cX6_sill 11 = .ok (.istore_n 2, 1) := by decide +kernel
theorem dX6_sill_12 : decode cX6_sill 12 = .ok (.aload_n 0, 1) := by decide +kernel
theorem dX6_sill_13 : decode cX6_sill 13 = .ok (.iload_n 1, 1) := by decide +kernel
theorem dX6_sill_14 : decode cX6_sill 14 = .ok (.putfield 51, 3) := by decide +kernel
theorem dX6_sill_17 : decode cX6_sill 17 = .ok (.iload_n 2, 1) := by decide +kernel
theorem dX6_sill_18 : decode cX6_sill 18 = .ok (.ireturn, 1) := by decide +kernel
set_option maxRecDepth 20000 in
theorem ggX6_needed_X6_draught : GoodIn wsX6_needed wsX6_draught := goodIn_r _ [10, 11, 12, 13, 14, 15, 16, 17, 18, 19, 20, 21, 22, 23, 24, 25, 26, 27, 28, 29, 30, 31, 32, 33, 34, 35, 36, 37, 38, 39, 40, 41, 42, 43, 44, 45, 70, 71, 72, 73, 74, 75, 76, 77, 78, 79, 80, 81, 82, 83, 84, 85, 86] (by decide +kernel) (by decide +kernel)
set_option maxRecDepth 20000 in
theorem gX6_needed_X6_draught : GoodIn wsX6_needed (wsV RX6 182 RX6 yX6_draught wsX6_draught) := goodIn_app (goodIn_of _ (by decide +kernel)) ggX6_needed_X6_draught
set_option maxRecDepth 20000 in
theorem ggX6_needed_X6_trim : GoodIn wsX6_needed wsX6_trim := goodIn_r _ [49, 11, 12, 13, 14, 15, 16, 17, 18, 19, 20, 21, 22, 23, 24, 25, 26, 27, 28, 29, 30, 31, 32, 33, 34, 35, 36, 37, 38, 39, 40, 41, 42, 50, 51, 52, 53, 54, 55, 56, 57, 58, 59, 60, 61, 62, 43, 44, 45, 63, 64, 65, 66, 67, 68, 69, 70, 71, 72, 73, 74, 75, 76, 77, 78, 79, 80, 81, 82, 83, 84, 85, 86] (by decide +kernel) (by decide +kernel)
set_option maxRecDepth 20000 in
theorem gX6_needed_X6_trim : GoodIn wsX6_needed (wsV RX6 185 RX6 yX6_trim wsX6_trim) := goodIn_app (goodIn_of _ (by decide +kernel)) ggX6_needed_X6_trim
theorem dX6_needed_0 : decode cX6_needed 0 = .ok (.aload_n 0, 1) := by decide +kernel
theorem dX6_needed_1 : decode cX6_needed 1 = .ok (.invokevirtual 182, 3) := by decide +kernel
theorem dX6_needed_4 : decode cX6_needed 4 = .ok (.istore_n 1, 1) := by decide +kernel
theorem dX6_needed_5 : decode cX6_needed 5 = .ok (.iload_n 1, 1) := by decide +kernel
theorem dX6_needed_6 : decode cX6_needed 6 = .ok (.iconst (-1), 1) := by decide +kernel
theorem dX6_needed_7 : decode cX6_needed 7 = .ok (.if_icmp .ne 5, 3) := by decide +kernel
theorem dX6_needed_10 : decode cX6_needed 10 = .ok (.iconst (-1), 1) := by decide +kernel
theorem dX6_needed_11 : decode cX6_needed 11 = .ok (.ireturn, 1) := by decide +kernel
theorem dX6_needed_12 : decode cX6_needed 12 = .ok (.bipush 10, 2) := by decide +kernel
theorem dX6_needed_14 : decode cX6_needed 14 = .ok (.iload_n 1, 1) := by decide +kernel
theorem dX6_needed_15 : decode cX6_needed 15 = .ok (.imul, 1) := by decide +kernel
theorem dX6_needed_16 : decode cX6_needed 16 = .ok (.aload_n 0, 1) := by decide +kernel
theorem dX6_needed_17 : decode cX6_needed 17 = .ok (.getfield 51, 3) := by decide +kernel
theorem dX6_needed_20 : decode cX6_needed 20 = .ok (.iadd, 1) := by decide +kernel
theorem dX6_needed_21 : decode cX6_needed 21 = .ok (.aload_n 0, 1) := by decide +kernel
theorem dX6_needed_22 : decode cX6_needed 22 = .ok (.invokevirtual 185, 3) := by decide +kernel
theorem dX6_needed_25 : decode cX6_needed 25 = .ok (.invokestatic 188, 3) := by decide +kernel
theorem dX6_needed_28 : decode cX6_needed 28 = .ok (.bipush 10, 2) := by decide +kernel
theorem dX6_needed_30 : decode cX6_needed 30 = .ok (.idiv, 1) := by decide +kernel
theorem dX6_needed_31 : decode cX6_needed 31 = .ok (.iadd, 1) := by decide +kernel
theorem dX6_needed_32 : decode cX6_needed 32 = .ok (.ireturn, 1) := by decide +kernel
set_option maxRecDepth 20000 in
theorem ggX6_day_X6_needed : GoodIn wsX6_day wsX6_needed := goodIn_r _ [8, 9, 10, 11, 12, 13, 14, 15, 16, 7, 17, 18, 19, 20, 21, 22, 23, 24, 25, 26, 27, 28, 29, 30, 31, 32, 33, 34, 35, 36, 37, 38, 39, 40, 41, 42, 43, 44, 45, 46, 47, 48, 49, 50, 51, 52, 53, 54, 55, 56, 57, 58, 59, 60, 61, 62, 63, 64, 65, 66, 67, 68, 69, 70, 71, 72, 73, 74, 75, 76, 91, 92, 93, 94, 95, 96, 97, 98, 99, 100, 101, 102, 103, 104, 105, 106, 107] (by decide +kernel) (by decide +kernel)
set_option maxRecDepth 20000 in
theorem gX6_day_X6_needed : GoodIn wsX6_day (wsV RX6 193 RX6 yX6_needed wsX6_needed) := goodIn_app (goodIn_of _ (by decide +kernel)) ggX6_day_X6_needed
set_option maxRecDepth 20000 in
theorem ggX6_day_X0_heightOn : GoodIn wsX6_day wsX0_heightOn := goodIn_r _ [80, 81, 82, 83, 84, 78, 85, 86, 87, 88, 89, 75, 90, 108, 109, 110] (by decide +kernel) (by decide +kernel)
set_option maxRecDepth 20000 in
theorem gX6_day_X0_heightOn_n175 : GoodIn wsX6_day (wsX0_heightOn) := ggX6_day_X0_heightOn
theorem dX6_day_0 : decode cX6_day 0 = .ok (.aload_n 0, 1) := by decide +kernel
theorem dX6_day_1 : decode cX6_day 1 = .ok (.invokevirtual 193, 3) := by decide +kernel
theorem dX6_day_4 : decode cX6_day 4 = .ok (.istore_n 1, 1) := by decide +kernel
theorem dX6_day_5 : decode cX6_day 5 = .ok (.aload_n 0, 1) := by decide +kernel
theorem dX6_day_6 : decode cX6_day 6 = .ok (.getfield 58, 3) := by decide +kernel
theorem dX6_day_9 : decode cX6_day 9 = .ok (.ifCond .ne 8, 3) := by decide +kernel
theorem dX6_day_12 : decode cX6_day 12 = .ok (.iload_n 1, 1) := by decide +kernel
theorem dX6_day_13 : decode cX6_day 13 = .ok (.iconst (-1), 1) := by decide +kernel
theorem dX6_day_14 : decode cX6_day 14 = .ok (.if_icmp .ne 5, 3) := by decide +kernel
theorem dX6_day_17 : decode cX6_day 17 = .ok (.iconst (-1), 1) := by decide +kernel
theorem dX6_day_18 : decode cX6_day 18 = .ok (.ireturn, 1) := by decide +kernel
theorem dX6_day_19 : decode cX6_day 19 = .ok (.iconst 0, 1) := by decide +kernel
theorem dX6_day_20 : decode cX6_day 20 = .ok (.istore_n 2, 1) := by decide +kernel
theorem dX6_day_21 : decode cX6_day 21 = .ok (.iload_n 2, 1) := by decide +kernel
theorem dX6_day_22 : decode cX6_day 22 = .ok (.bipush 99, 2) := by decide +kernel
theorem dX6_day_24 : decode cX6_day 24 = .ok (.if_icmp .gt 33, 3) := by decide +kernel
theorem dX6_day_27 : decode cX6_day 27 = .ok (.aload_n 0, 1) := by decide +kernel
theorem dX6_day_28 : decode cX6_day 28 = .ok (.getfield 47, 3) := by decide +kernel
theorem dX6_day_31 : decode cX6_day 31 = .ok (.aload_n 0, 1) := by decide +kernel
theorem dX6_day_32 : decode cX6_day 32 = .ok (.getfield 55, 3) := by decide +kernel
theorem dX6_day_35 : decode cX6_day 35 = .ok (.iload_n 2, 1) := by decide +kernel
theorem dX6_day_36 : decode cX6_day 36 = .ok (.iadd, 1) := by decide +kernel
theorem dX6_day_37 : decode cX6_day 37 = .ok (.invokevirtual 175, 3) := by decide +kernel
theorem dX6_day_40 : decode cX6_day 40 = .ok (.iload_n 1, 1) := by decide +kernel
theorem dX6_day_41 : decode cX6_day 41 = .ok (.if_icmp .lt 10, 3) := by decide +kernel
theorem dX6_day_44 : decode cX6_day 44 = .ok (.aload_n 0, 1) := by decide +kernel
theorem dX6_day_45 : decode cX6_day 45 = .ok (.getfield 55, 3) := by decide +kernel
theorem dX6_day_48 : decode cX6_day 48 = .ok (.iload_n 2, 1) := by decide +kernel
theorem dX6_day_49 : decode cX6_day 49 = .ok (.iadd, 1) := by decide +kernel
theorem dX6_day_50 : decode cX6_day 50 = .ok (.ireturn, 1) := by decide +kernel
theorem dX6_day_51 : decode cX6_day 51 = .ok (.iinc 2 1, 3) := by decide +kernel
theorem dX6_day_54 : decode cX6_day 54 = .ok (.goto (-33), 3) := by decide +kernel
theorem dX6_day_57 : decode cX6_day 57 = .ok (.iconst (-1), 1) := by decide +kernel
theorem dX6_day_58 : decode cX6_day 58 = .ok (.ireturn, 1) := by decide +kernel
set_option maxRecDepth 20000 in
theorem ggX6_launch_X6_refuseLaunched : GoodIn wsX6_launch wsX6_refuseLaunched := goodIn_ca (goodIn_r _ [10, 1, 2, 5, 97, 98, 99, 100, 101, 102, 103, 104, 105] (by decide +kernel) (by decide +kernel)) (goodIn_sub (fun _ h => List.mem_cons_of_mem _ (List.mem_append_right _ h)) (by decide +kernel))
set_option maxRecDepth 20000 in
theorem gX6_launch_X6_refuseLaunched : GoodIn wsX6_launch (wsV RX6 73 RX6 yX6_refuseLaunched wsX6_refuseLaunched) := goodIn_app (goodIn_of _ (by decide +kernel)) ggX6_launch_X6_refuseLaunched
set_option maxRecDepth 20000 in
theorem ggX6_launch_X6_needed : GoodIn wsX6_launch wsX6_needed := goodIn_r _ [14, 15, 16, 17, 18, 19, 20, 21, 22, 9, 23, 24, 25, 26, 27, 28, 29, 30, 31, 32, 33, 34, 35, 36, 37, 38, 39, 40, 41, 42, 43, 44, 45, 46, 47, 48, 49, 50, 51, 52, 53, 54, 55, 56, 57, 58, 59, 60, 61, 62, 63, 64, 65, 66, 67, 68, 69, 70, 71, 72, 73, 74, 75, 76, 77, 78, 79, 80, 81, 82, 97, 98, 99, 100, 101, 102, 103, 104, 105, 106, 107, 108, 109, 110, 111, 112, 113] (by decide +kernel) (by decide +kernel)
set_option maxRecDepth 20000 in
theorem gX6_launch_X6_needed : GoodIn wsX6_launch (wsV RX6 193 RX6 yX6_needed wsX6_needed) := goodIn_app (goodIn_of _ (by decide +kernel)) ggX6_launch_X6_needed
set_option maxRecDepth 20000 in
theorem ggX6_launch_X0_heightOn : GoodIn wsX6_launch wsX0_heightOn := goodIn_r _ [86, 87, 88, 89, 90, 84, 91, 92, 93, 94, 95, 81, 96, 114, 115, 116] (by decide +kernel) (by decide +kernel)
set_option maxRecDepth 20000 in
theorem gX6_launch_X0_heightOn_n175 : GoodIn wsX6_launch (wsX0_heightOn) := ggX6_launch_X0_heightOn
theorem dX6_launch_0 : decode cX6_launch 0 = .ok (.aload_n 0, 1) := by decide +kernel
theorem dX6_launch_1 : decode cX6_launch 1 = .ok (.invokevirtual 73, 3) := by decide +kernel
theorem dX6_launch_4 : decode cX6_launch 4 = .ok (.aload_n 0, 1) := by decide +kernel
theorem dX6_launch_5 : decode cX6_launch 5 = .ok (.invokevirtual 193, 3) := by decide +kernel
theorem dX6_launch_8 : decode cX6_launch 8 = .ok (.istore_n 1, 1) := by decide +kernel
theorem dX6_launch_9 : decode cX6_launch 9 = .ok (.iload_n 1, 1) := by decide +kernel
theorem dX6_launch_10 : decode cX6_launch 10 = .ok (.iconst (-1), 1) := by decide +kernel
theorem dX6_launch_11 : decode cX6_launch 11 = .ok (.if_icmp .ne 13, 3) := by decide +kernel
theorem dX6_launch_14 : decode cX6_launch 14 = .ok (.new 103, 3) := by decide +kernel
theorem dX6_launch_17 : decode cX6_launch 17 = .ok (.dup, 1) := by decide +kernel
theorem dX6_launch_18 : decode cX6_launch 18 = .ok (.ldc 196, 2) := by decide +kernel
theorem dX6_launch_20 : decode cX6_launch 20 = .ok (.invokespecial 107, 3) := by decide +kernel
theorem dX6_launch_23 : decode cX6_launch 23 = .ok (.athrow, 1) := by decide +kernel
theorem dX6_launch_24 : decode cX6_launch 24 = .ok (.aload_n 0, 1) := by decide +kernel
theorem dX6_launch_25 : decode cX6_launch 25 = .ok (.getfield 47, 3) := by decide +kernel
theorem dX6_launch_28 : decode cX6_launch 28 = .ok (.aload_n 0, 1) := by decide +kernel
theorem dX6_launch_29 : decode cX6_launch 29 = .ok (.getfield 55, 3) := by decide +kernel
theorem dX6_launch_32 : decode cX6_launch 32 = .ok (.invokevirtual 175, 3) := by decide +kernel
theorem dX6_launch_35 : decode cX6_launch 35 = .ok (.iload_n 1, 1) := by decide +kernel
theorem dX6_launch_36 : decode cX6_launch 36 = .ok (.isub, 1) := by decide +kernel
theorem dX6_launch_37 : decode cX6_launch 37 = .ok (.istore_n 2, 1) := by decide +kernel
theorem dX6_launch_38 : decode cX6_launch 38 = .ok (.iload_n 2, 1) := by decide +kernel
theorem dX6_launch_39 : decode cX6_launch 39 = .ok (.ifCond .ge 13, 3) := by decide +kernel
theorem dX6_launch_42 : decode cX6_launch 42 = .ok (.new 103, 3) := by decide +kernel
theorem dX6_launch_45 : decode cX6_launch 45 = .ok (.dup, 1) := by decide +kernel
theorem dX6_launch_46 : decode cX6_launch 46 = .ok (.ldc 198, 2) := by decide +kernel
theorem dX6_launch_48 : decode cX6_launch 48 = .ok (.invokespecial 107, 3) := by decide +kernel
theorem dX6_launch_51 : decode cX6_launch 51 = .ok (.athrow, 1) := by decide +kernel
theorem dX6_launch_52 : decode cX6_launch 52 = .ok (.aload_n 0, 1) := by decide +kernel
theorem dX6_launch_53 : decode cX6_launch 53 = .ok (.iconst 1, 1) := by decide +kernel
theorem dX6_launch_54 : decode cX6_launch 54 = .ok (.putfield 58, 3) := by decide +kernel
theorem dX6_launch_57 : decode cX6_launch 57 = .ok (.iload_n 2, 1) := by decide +kernel
theorem dX6_launch_58 : decode cX6_launch 58 = .ok (.ireturn, 1) := by decide +kernel
set_option maxRecDepth 20000 in
theorem ggX6_pass_X6_refuseOutside : GoodIn wsX6_pass wsX6_refuseOutside := goodIn_ca (goodIn_r _ [7, 8, 9] (by decide +kernel) (by decide +kernel)) (goodIn_sub (fun _ h => List.mem_cons_of_mem _ (List.mem_append_right _ h)) (by decide +kernel))
set_option maxRecDepth 20000 in
theorem gX6_pass_X6_refuseOutside : GoodIn wsX6_pass (va_wsS RX6 69 yX6_refuseOutside wsX6_refuseOutside) := goodIn_app (goodIn_of _ (by decide +kernel)) ggX6_pass_X6_refuseOutside
theorem dX6_pass_0 : decode cX6_pass 0 = .ok (.iload_n 1, 1) := by decide +kernel
theorem dX6_pass_1 : decode cX6_pass 1 = .ok (.iconst 1, 1) := by decide +kernel
theorem dX6_pass_2 : decode cX6_pass 2 = .ok (.bipush 99, 2) := by decide +kernel
theorem dX6_pass_4 : decode cX6_pass 4 = .ok (.invokestatic 69, 3) := by decide +kernel
theorem dX6_pass_7 : decode cX6_pass 7 = .ok (.aload_n 0, 1) := by decide +kernel
theorem dX6_pass_8 : decode cX6_pass 8 = .ok (.getfield 55, 3) := by decide +kernel
theorem dX6_pass_11 : decode cX6_pass 11 = .ok (.iload_n 1, 1) := by decide +kernel
theorem dX6_pass_12 : decode cX6_pass 12 = .ok (.iadd, 1) := by decide +kernel
theorem dX6_pass_13 : decode cX6_pass 13 = .ok (.sipush 9000, 3) := by decide +kernel
theorem dX6_pass_16 : decode cX6_pass 16 = .ok (.if_icmp .le 13, 3) := by decide +kernel
theorem dX6_pass_19 : decode cX6_pass 19 = .ok (.new 103, 3) := by decide +kernel
theorem dX6_pass_22 : decode cX6_pass 22 = .ok (.dup, 1) := by decide +kernel
theorem dX6_pass_23 : decode cX6_pass 23 = .ok (.ldc 200, 2) := by decide +kernel
theorem dX6_pass_25 : decode cX6_pass 25 = .ok (.invokespecial 107, 3) := by decide +kernel
theorem dX6_pass_28 : decode cX6_pass 28 = .ok (.athrow, 1) := by decide +kernel
theorem dX6_pass_29 : decode cX6_pass 29 = .ok (.aload_n 0, 1) := by decide +kernel
theorem dX6_pass_30 : decode cX6_pass 30 = .ok (.dup, 1) := by decide +kernel
theorem dX6_pass_31 : decode cX6_pass 31 = .ok (.getfield 55, 3) := by decide +kernel
theorem dX6_pass_34 : decode cX6_pass 34 = .ok (.iload_n 1, 1) := by decide +kernel
theorem dX6_pass_35 : decode cX6_pass 35 = .ok (.iadd, 1) := by decide +kernel
theorem dX6_pass_36 : decode cX6_pass 36 = .ok (.putfield 55, 3) := by decide +kernel
theorem dX6_pass_39 : decode cX6_pass 39 = .ok (.aload_n 0, 1) := by decide +kernel
theorem dX6_pass_40 : decode cX6_pass 40 = .ok (.getfield 55, 3) := by decide +kernel
theorem dX6_pass_43 : decode cX6_pass 43 = .ok (.ireturn, 1) := by decide +kernel
theorem dX6_refuseNoStation_0 : decode cX6_refuseNoStation 0 = .ok (.iload_n 0, 1) := by decide +kernel
theorem dX6_refuseNoStation_1 : decode cX6_refuseNoStation 1 = .ok (.ifCond .lt 9, 3) := by decide +kernel
theorem dX6_refuseNoStation_4 : decode cX6_refuseNoStation 4 = .ok (.iload_n 0, 1) := by decide +kernel
theorem dX6_refuseNoStation_5 : decode cX6_refuseNoStation 5 = .ok (.bipush 9, 2) := by decide +kernel
theorem dX6_refuseNoStation_7 : decode cX6_refuseNoStation 7 = .ok (.if_icmp .lt 13, 3) := by decide +kernel
theorem dX6_refuseNoStation_10 : decode cX6_refuseNoStation 10 = .ok (.new 202, 3) := by decide +kernel
theorem dX6_refuseNoStation_13 : decode cX6_refuseNoStation 13 = .ok (.dup, 1) := by decide +kernel
theorem dX6_refuseNoStation_14 : decode cX6_refuseNoStation 14 = .ok (.ldc 204, 2) := by decide +kernel
theorem dX6_refuseNoStation_16 : decode cX6_refuseNoStation 16 = .ok (.invokespecial 206, 3) := by decide +kernel
theorem dX6_refuseNoStation_19 : decode cX6_refuseNoStation 19 = .ok (.athrow, 1) := by decide +kernel
theorem dX6_refuseNoStation_20 : decode cX6_refuseNoStation 20 = .ok (.return_, 1) := by decide +kernel
theorem dX6_refuseNoWaterline_0 : decode cX6_refuseNoWaterline 0 = .ok (.iload_n 0, 1) := by decide +kernel
theorem dX6_refuseNoWaterline_1 : decode cX6_refuseNoWaterline 1 = .ok (.ifCond .lt 9, 3) := by decide +kernel
theorem dX6_refuseNoWaterline_4 : decode cX6_refuseNoWaterline 4 = .ok (.iload_n 0, 1) := by decide +kernel
theorem dX6_refuseNoWaterline_5 : decode cX6_refuseNoWaterline 5 = .ok (.bipush 6, 2) := by decide +kernel
theorem dX6_refuseNoWaterline_7 : decode cX6_refuseNoWaterline 7 = .ok (.if_icmp .lt 13, 3) := by decide +kernel
theorem dX6_refuseNoWaterline_10 : decode cX6_refuseNoWaterline 10 = .ok (.new 202, 3) := by decide +kernel
theorem dX6_refuseNoWaterline_13 : decode cX6_refuseNoWaterline 13 = .ok (.dup, 1) := by decide +kernel
theorem dX6_refuseNoWaterline_14 : decode cX6_refuseNoWaterline 14 = .ok (.ldc 207, 2) := by decide +kernel
theorem dX6_refuseNoWaterline_16 : decode cX6_refuseNoWaterline 16 = .ok (.invokespecial 206, 3) := by decide +kernel
theorem dX6_refuseNoWaterline_19 : decode cX6_refuseNoWaterline 19 = .ok (.athrow, 1) := by decide +kernel
theorem dX6_refuseNoWaterline_20 : decode cX6_refuseNoWaterline 20 = .ok (.return_, 1) := by decide +kernel
theorem dX6_refuseNoStrake_0 : decode cX6_refuseNoStrake 0 = .ok (.iload_n 0, 1) := by decide +kernel
theorem dX6_refuseNoStrake_1 : decode cX6_refuseNoStrake 1 = .ok (.ifCond .lt 8, 3) := by decide +kernel
theorem dX6_refuseNoStrake_4 : decode cX6_refuseNoStrake 4 = .ok (.iload_n 0, 1) := by decide +kernel
theorem dX6_refuseNoStrake_5 : decode cX6_refuseNoStrake 5 = .ok (.iconst 5, 1) := by decide +kernel
theorem dX6_refuseNoStrake_6 : decode cX6_refuseNoStrake 6 = .ok (.if_icmp .lt 13, 3) := by decide +kernel
theorem dX6_refuseNoStrake_9 : decode cX6_refuseNoStrake 9 = .ok (.new 202, 3) := by decide +kernel
theorem dX6_refuseNoStrake_12 : decode cX6_refuseNoStrake 12 = .ok (.dup, 1) := by decide +kernel
theorem dX6_refuseNoStrake_13 : decode cX6_refuseNoStrake 13 = .ok (.ldc 209, 2) := by decide +kernel
theorem dX6_refuseNoStrake_15 : decode cX6_refuseNoStrake 15 = .ok (.invokespecial 206, 3) := by decide +kernel
theorem dX6_refuseNoStrake_18 : decode cX6_refuseNoStrake 18 = .ok (.athrow, 1) := by decide +kernel
theorem dX6_refuseNoStrake_19 : decode cX6_refuseNoStrake 19 = .ok (.return_, 1) := by decide +kernel
theorem dX6_refuseNoWeight_0 : decode cX6_refuseNoWeight 0 = .ok (.iload_n 1, 1) := by decide +kernel
theorem dX6_refuseNoWeight_1 : decode cX6_refuseNoWeight 1 = .ok (.ifCond .lt 14, 3) := by decide +kernel
theorem dX6_refuseNoWeight_4 : decode cX6_refuseNoWeight 4 = .ok (.iload_n 1, 1) := by decide +kernel
theorem dX6_refuseNoWeight_5 : decode cX6_refuseNoWeight 5 = .ok (.aload_n 0, 1) := by decide +kernel
theorem dX6_refuseNoWeight_6 : decode cX6_refuseNoWeight 6 = .ok (.getfield 26, 3) := by decide +kernel
theorem dX6_refuseNoWeight_9 : decode cX6_refuseNoWeight 9 = .ok (.getfield 211, 3) := by decide +kernel
theorem dX6_refuseNoWeight_12 : decode cX6_refuseNoWeight 12 = .ok (.if_icmp .lt 13, 3) := by decide +kernel
theorem dX6_refuseNoWeight_15 : decode cX6_refuseNoWeight 15 = .ok (.new 202, 3) := by decide +kernel
theorem dX6_refuseNoWeight_18 : decode cX6_refuseNoWeight 18 = .ok (.dup, 1) := by decide +kernel
theorem dX6_refuseNoWeight_19 : decode cX6_refuseNoWeight 19 = .ok (.ldc 214, 2) := by decide +kernel
theorem dX6_refuseNoWeight_21 : decode cX6_refuseNoWeight 21 = .ok (.invokespecial 206, 3) := by decide +kernel
theorem dX6_refuseNoWeight_24 : decode cX6_refuseNoWeight 24 = .ok (.athrow, 1) := by decide +kernel
theorem dX6_refuseNoWeight_25 : decode cX6_refuseNoWeight 25 = .ok (.return_, 1) := by decide +kernel
theorem dX6_refuseOutside_0 : decode cX6_refuseOutside 0 = .ok (.iload_n 0, 1) := by decide +kernel
theorem dX6_refuseOutside_1 : decode cX6_refuseOutside 1 = .ok (.iload_n 1, 1) := by decide +kernel
theorem dX6_refuseOutside_2 : decode cX6_refuseOutside 2 = .ok (.if_icmp .lt 8, 3) := by decide +kernel
theorem dX6_refuseOutside_5 : decode cX6_refuseOutside 5 = .ok (.iload_n 0, 1) := by decide +kernel
theorem dX6_refuseOutside_6 : decode cX6_refuseOutside 6 = .ok (.iload_n 2, 1) := by decide +kernel
theorem dX6_refuseOutside_7 : decode cX6_refuseOutside 7 = .ok (.if_icmp .le 13, 3) := by decide +kernel
theorem dX6_refuseOutside_10 : decode cX6_refuseOutside 10 = .ok (.new 216, 3) := by decide +kernel
theorem dX6_refuseOutside_13 : decode cX6_refuseOutside 13 = .ok (.dup, 1) := by decide +kernel
theorem dX6_refuseOutside_14 : decode cX6_refuseOutside 14 = .ok (.ldc 218, 2) := by decide +kernel
theorem dX6_refuseOutside_16 : decode cX6_refuseOutside 16 = .ok (.invokespecial 220, 3) := by decide +kernel
theorem dX6_refuseOutside_19 : decode cX6_refuseOutside 19 = .ok (.athrow, 1) := by decide +kernel
theorem dX6_refuseOutside_20 : decode cX6_refuseOutside 20 = .ok (.return_, 1) := by decide +kernel
theorem dX6_refuseLaunched_0 : decode cX6_refuseLaunched 0 = .ok (.aload_n 0, 1) := by decide +kernel
theorem dX6_refuseLaunched_1 : decode cX6_refuseLaunched 1 = .ok (.getfield 58, 3) := by decide +kernel
theorem dX6_refuseLaunched_4 : decode cX6_refuseLaunched 4 = .ok (.ifCond .eq 13, 3) := by decide +kernel
theorem dX6_refuseLaunched_7 : decode cX6_refuseLaunched 7 = .ok (.new 103, 3) := by decide +kernel
theorem dX6_refuseLaunched_10 : decode cX6_refuseLaunched 10 = .ok (.dup, 1) := by decide +kernel
theorem dX6_refuseLaunched_11 : decode cX6_refuseLaunched 11 = .ok (.ldc 221, 2) := by decide +kernel
theorem dX6_refuseLaunched_13 : decode cX6_refuseLaunched 13 = .ok (.invokespecial 107, 3) := by decide +kernel
theorem dX6_refuseLaunched_16 : decode cX6_refuseLaunched 16 = .ok (.athrow, 1) := by decide +kernel
theorem dX6_refuseLaunched_17 : decode cX6_refuseLaunched 17 = .ok (.return_, 1) := by decide +kernel
theorem dX6_squareOfBend_0 : decode cX6_squareOfBend 0 = .ok (.iload_n 0, 1) := by decide +kernel
theorem dX6_squareOfBend_1 : decode cX6_squareOfBend 1 = .ok (.iload_n 2, 1) := by decide +kernel
theorem dX6_squareOfBend_2 : decode cX6_squareOfBend 2 = .ok (.iadd, 1) := by decide +kernel
theorem dX6_squareOfBend_3 : decode cX6_squareOfBend 3 = .ok (.iconst 2, 1) := by decide +kernel
theorem dX6_squareOfBend_4 : decode cX6_squareOfBend 4 = .ok (.iload_n 1, 1) := by decide +kernel
theorem dX6_squareOfBend_5 : decode cX6_squareOfBend 5 = .ok (.imul, 1) := by decide +kernel
theorem dX6_squareOfBend_6 : decode cX6_squareOfBend 6 = .ok (.isub, 1) := by decide +kernel
theorem dX6_squareOfBend_7 : decode cX6_squareOfBend 7 = .ok (.istore_n 3, 1) := by decide +kernel
theorem dX6_squareOfBend_8 : decode cX6_squareOfBend 8 = .ok (.iload_n 3, 1) := by decide +kernel
theorem dX6_squareOfBend_9 : decode cX6_squareOfBend 9 = .ok (.iload_n 3, 1) := by decide +kernel
theorem dX6_squareOfBend_10 : decode cX6_squareOfBend 10 = .ok (.imul, 1) := by decide +kernel
theorem dX6_squareOfBend_11 : decode cX6_squareOfBend 11 = .ok (.ireturn, 1) := by decide +kernel
set_option maxRecDepth 20000 in
theorem ggX6_bendOfLine_X6_squareOfBend : GoodIn wsX6_bendOfLine wsX6_squareOfBend := goodIn_r _ [4] (by decide +kernel) (by decide +kernel)
set_option maxRecDepth 20000 in
theorem gX6_bendOfLine_X6_squareOfBend : GoodIn wsX6_bendOfLine (va_wsS RX6 223 yX6_squareOfBend wsX6_squareOfBend) := goodIn_app (goodIn_of _ (by decide +kernel)) ggX6_bendOfLine_X6_squareOfBend
theorem dX6_bendOfLine_0 : decode cX6_bendOfLine 0 = .ok (.iconst 0, 1) := by decide +kernel
theorem dX6_bendOfLine_1 : decode cX6_bendOfLine 1 = .ok (.istore_n 1, 1) := by decide +kernel
theorem dX6_bendOfLine_2 : decode cX6_bendOfLine 2 = .ok (.iconst 1, 1) := by decide +kernel
theorem dX6_bendOfLine_3 : decode cX6_bendOfLine 3 = .ok (.istore_n 2, 1) := by decide +kernel
theorem dX6_bendOfLine_4 : decode cX6_bendOfLine 4 = .ok (.iload_n 2, 1) := by decide +kernel
theorem dX6_bendOfLine_5 : decode cX6_bendOfLine 5 = .ok (.bipush 8, 2) := by decide +kernel
theorem dX6_bendOfLine_7 : decode cX6_bendOfLine 7 = .ok (.if_icmp .ge 28, 3) := by decide +kernel
theorem dX6_bendOfLine_10 : decode cX6_bendOfLine 10 = .ok (.iload_n 1, 1) := by decide +kernel
theorem dX6_bendOfLine_11 : decode cX6_bendOfLine 11 = .ok (.aload_n 0, 1) := by decide +kernel
theorem dX6_bendOfLine_12 : decode cX6_bendOfLine 12 = .ok (.iload_n 2, 1) := by decide +kernel
theorem dX6_bendOfLine_13 : decode cX6_bendOfLine 13 = .ok (.iconst 1, 1) := by decide +kernel
theorem dX6_bendOfLine_14 : decode cX6_bendOfLine 14 = .ok (.isub, 1) := by decide +kernel
theorem dX6_bendOfLine_15 : decode cX6_bendOfLine 15 = .ok (.iaload, 1) := by decide +kernel
theorem dX6_bendOfLine_16 : decode cX6_bendOfLine 16 = .ok (.aload_n 0, 1) := by decide +kernel
theorem dX6_bendOfLine_17 : decode cX6_bendOfLine 17 = .ok (.iload_n 2, 1) := by decide +kernel
theorem dX6_bendOfLine_18 : decode cX6_bendOfLine 18 = .ok (.iaload, 1) := by decide +kernel
theorem dX6_bendOfLine_19 : decode cX6_bendOfLine 19 = .ok (.aload_n 0, 1) := by decide +kernel
theorem dX6_bendOfLine_20 : decode cX6_bendOfLine 20 = .ok (.iload_n 2, 1) := by decide +kernel
theorem dX6_bendOfLine_21 : decode cX6_bendOfLine 21 = .ok (.iconst 1, 1) := by decide +kernel
theorem dX6_bendOfLine_22 : decode cX6_bendOfLine 22 = .ok (.iadd, 1) := by decide +kernel
theorem dX6_bendOfLine_23 : decode cX6_bendOfLine 23 = .ok (.iaload, 1) := by decide +kernel
theorem dX6_bendOfLine_24 : decode cX6_bendOfLine 24 = .ok (.invokestatic 223, 3) := by decide +kernel
theorem dX6_bendOfLine_27 : decode cX6_bendOfLine 27 = .ok (.iadd, 1) := by decide +kernel
theorem dX6_bendOfLine_28 : decode cX6_bendOfLine 28 = .ok (.istore_n 1, 1) := by decide +kernel
theorem dX6_bendOfLine_29 : decode cX6_bendOfLine 29 = .ok (.iinc 2 1, 3) := by decide +kernel
theorem dX6_bendOfLine_32 : decode cX6_bendOfLine 32 = .ok (.goto (-28), 3) := by decide +kernel
theorem dX6_bendOfLine_35 : decode cX6_bendOfLine 35 = .ok (.iload_n 1, 1) := by decide +kernel
theorem dX6_bendOfLine_36 : decode cX6_bendOfLine 36 = .ok (.ireturn, 1) := by decide +kernel
theorem dX7_init_0 : decode cX7_init 0 = .ok (.aload_n 0, 1) := by decide +kernel
theorem dX7_init_1 : decode cX7_init 1 = .ok (.invokespecial 1, 3) := by decide +kernel
theorem dX7_init_4 : decode cX7_init 4 = .ok (.aload_n 0, 1) := by decide +kernel
theorem dX7_init_5 : decode cX7_init 5 = .ok (.bipush 54, 2) := by decide +kernel
theorem dX7_init_7 : decode cX7_init 7 = .ok (.newarray .int, 2) := by decide +kernel
theorem dX7_init_9 : decode cX7_init 9 = .ok (.putfield 7, 3) := by decide +kernel
theorem dX7_init_12 : decode cX7_init 12 = .ok (.aload_n 0, 1) := by decide +kernel
theorem dX7_init_13 : decode cX7_init 13 = .ok (.bipush 17, 2) := by decide +kernel
theorem dX7_init_15 : decode cX7_init 15 = .ok (.newarray .int, 2) := by decide +kernel
theorem dX7_init_17 : decode cX7_init 17 = .ok (.putfield 13, 3) := by decide +kernel
theorem dX7_init_20 : decode cX7_init 20 = .ok (.aload_n 0, 1) := by decide +kernel
theorem dX7_init_21 : decode cX7_init 21 = .ok (.bipush 17, 2) := by decide +kernel
theorem dX7_init_23 : decode cX7_init 23 = .ok (.newarray .int, 2) := by decide +kernel
theorem dX7_init_25 : decode cX7_init 25 = .ok (.putfield 16, 3) := by decide +kernel
theorem dX7_init_28 : decode cX7_init 28 = .ok (.aload_n 0, 1) := by decide +kernel
theorem dX7_init_29 : decode cX7_init 29 = .ok (.sipush 1000, 3) := by decide +kernel
theorem dX7_init_32 : decode cX7_init 32 = .ok (.putfield 19, 3) := by decide +kernel
theorem dX7_init_35 : decode cX7_init 35 = .ok (.aload_n 0, 1) := by decide +kernel
theorem dX7_init_36 : decode cX7_init 36 = .ok (.sipush 180, 3) := by decide +kernel
theorem dX7_init_39 : decode cX7_init 39 = .ok (.newarray .int, 2) := by decide +kernel
theorem dX7_init_41 : decode cX7_init 41 = .ok (.putfield 23, 3) := by decide +kernel
theorem dX7_init_44 : decode cX7_init 44 = .ok (.aload_n 0, 1) := by decide +kernel
theorem dX7_init_45 : decode cX7_init 45 = .ok (.bipush 10, 2) := by decide +kernel
theorem dX7_init_47 : decode cX7_init 47 = .ok (.newarray .int, 2) := by decide +kernel
theorem dX7_init_49 : decode cX7_init 49 = .ok (.putfield 26, 3) := by decide +kernel
theorem dX7_init_52 : decode cX7_init 52 = .ok (.aload_n 0, 1) := by decide +kernel
theorem dX7_init_53 : decode cX7_init 53 = .ok (.bipush 40, 2) := by decide +kernel
theorem dX7_init_55 : decode cX7_init 55 = .ok (.newarray .int, 2) := by decide +kernel
theorem dX7_init_57 : decode cX7_init 57 = .ok (.putfield 29, 3) := by decide +kernel
theorem dX7_init_60 : decode cX7_init 60 = .ok (.aload_n 0, 1) := by decide +kernel
theorem dX7_init_61 : decode cX7_init 61 = .ok (.bipush 40, 2) := by decide +kernel
theorem dX7_init_63 : decode cX7_init 63 = .ok (.newarray .int, 2) := by decide +kernel
theorem dX7_init_65 : decode cX7_init 65 = .ok (.putfield 32, 3) := by decide +kernel
theorem dX7_init_68 : decode cX7_init 68 = .ok (.aload_n 0, 1) := by decide +kernel
theorem dX7_init_69 : decode cX7_init 69 = .ok (.sipush 250, 3) := by decide +kernel
theorem dX7_init_72 : decode cX7_init 72 = .ok (.newarray .int, 2) := by decide +kernel
theorem dX7_init_74 : decode cX7_init 74 = .ok (.putfield 35, 3) := by decide +kernel
theorem dX7_init_77 : decode cX7_init 77 = .ok (.aload_n 0, 1) := by decide +kernel
theorem dX7_init_78 : decode cX7_init 78 = .ok (.bipush 9, 2) := by decide +kernel
theorem dX7_init_80 : decode cX7_init 80 = .ok (.newarray .int, 2) := by decide +kernel
theorem dX7_init_82 : decode cX7_init 82 = .ok (.putfield 38, 3) := by decide +kernel
theorem dX7_init_85 : decode cX7_init 85 = .ok (.aload_n 0, 1) := by decide +kernel
theorem dX7_init_86 : decode cX7_init 86 = .ok (.getfield 13, 3) := by decide +kernel
theorem dX7_init_89 : decode cX7_init 89 = .ok (.bipush 16, 2) := by decide +kernel
theorem dX7_init_91 : decode cX7_init 91 = .ok (.iconst 4, 1) := by decide +kernel
theorem dX7_init_92 : decode cX7_init 92 = .ok (.iastore, 1) := by decide +kernel
theorem dX7_init_93 : decode cX7_init 93 = .ok (.return_, 1) := by decide +kernel
theorem dX7_thrown_0 : decode cX7_thrown 0 = .ok (.aload_n 0, 1) := by decide +kernel
theorem dX7_thrown_1 : decode cX7_thrown 1 = .ok (.getfield 41, 3) := by decide +kernel
theorem dX7_thrown_4 : decode cX7_thrown 4 = .ok (.ireturn, 1) := by decide +kernel
theorem dX7_in_0 : decode cX7_in 0 = .ok (.iload_n 0, 1) := by decide +kernel
theorem dX7_in_1 : decode cX7_in 1 = .ok (.iload_n 1, 1) := by decide +kernel
theorem dX7_in_2 : decode cX7_in 2 = .ok (.if_icmp .lt 12, 3) := by decide +kernel
theorem dX7_in_5 : decode cX7_in 5 = .ok (.iload_n 0, 1) := by decide +kernel
theorem dX7_in_6 : decode cX7_in 6 = .ok (.iload_n 2, 1) := by decide +kernel
theorem dX7_in_7 : decode cX7_in 7 = .ok (.if_icmp .gt 7, 3) := by decide +kernel
theorem dX7_in_10 : decode cX7_in 10 = .ok (.iconst 1, 1) := by decide +kernel
theorem dX7_in_11 : decode cX7_in 11 = .ok (.goto 4, 3) := by decide +kernel
theorem dX7_in_14 : decode cX7_in 14 = .ok (.iconst 0, 1) := by decide +kernel
theorem dX7_in_15 : decode cX7_in 15 = .ok (.ireturn, 1) := by decide +kernel
set_option maxRecDepth 20000 in
theorem ggX7_isStation_X7_in : GoodIn wsX7_isStation wsX7_in := goodIn_r _ [4] (by decide +kernel) (by decide +kernel)
set_option maxRecDepth 20000 in
theorem gX7_isStation_X7_in : GoodIn wsX7_isStation (va_wsS RX7 44 yX7_in wsX7_in) := goodIn_app (goodIn_of _ (by decide +kernel)) ggX7_isStation_X7_in
theorem dX7_isStation_0 : decode cX7_isStation 0 = .ok (.iload_n 0, 1) := by decide +kernel
theorem dX7_isStation_1 : decode cX7_isStation 1 = .ok (.iconst 0, 1) := by decide +kernel
theorem dX7_isStation_2 : decode cX7_isStation 2 = .ok (.bipush 8, 2) := by decide +kernel
theorem dX7_isStation_4 : decode cX7_isStation 4 = .ok (.invokestatic 44, 3) := by decide +kernel
theorem dX7_isStation_7 : decode cX7_isStation 7 = .ok (.ireturn, 1) := by decide +kernel
set_option maxRecDepth 20000 in
theorem ggX7_isWaterline_X7_in : GoodIn wsX7_isWaterline wsX7_in := goodIn_r _ [4] (by decide +kernel) (by decide +kernel)
set_option maxRecDepth 20000 in
theorem gX7_isWaterline_X7_in : GoodIn wsX7_isWaterline (va_wsS RX7 44 yX7_in wsX7_in) := goodIn_app (goodIn_of _ (by decide +kernel)) ggX7_isWaterline_X7_in
theorem dX7_isWaterline_0 : decode cX7_isWaterline 0 = .ok (.iload_n 0, 1) := by decide +kernel
theorem dX7_isWaterline_1 : decode cX7_isWaterline 1 = .ok (.iconst 0, 1) := by decide +kernel
theorem dX7_isWaterline_2 : decode cX7_isWaterline 2 = .ok (.iconst 5, 1) := by decide +kernel
theorem dX7_isWaterline_3 : decode cX7_isWaterline 3 = .ok (.invokestatic 44, 3) := by decide +kernel
theorem dX7_isWaterline_6 : decode cX7_isWaterline 6 = .ok (.ireturn, 1) := by decide +kernel
theorem dX7_size_0 : decode cX7_size 0 = .ok (.iload_n 0, 1) := by decide +kernel
theorem dX7_size_1 : decode cX7_size 1 = .ok (.ifCond .ge 8, 3) := by decide +kernel
theorem dX7_size_4 : decode cX7_size 4 = .ok (.iload_n 0, 1) := by decide +kernel
theorem dX7_size_5 : decode cX7_size 5 = .ok (.ineg, 1) := by decide +kernel
theorem dX7_size_6 : decode cX7_size 6 = .ok (.goto 4, 3) := by decide +kernel
theorem dX7_size_9 : decode cX7_size 9 = .ok (.iload_n 0, 1) := by decide +kernel
theorem dX7_size_10 : decode cX7_size 10 = .ok (.ireturn, 1) := by decide +kernel
end
section
theorem dX7_halfAt_0 : decode cX7_halfAt 0 = .ok (.aload_n 0, 1) := by decide +kernel
theorem dX7_halfAt_1 : decode cX7_halfAt 1 = .ok (.getfield 7, 3) := by decide +kernel
theorem dX7_halfAt_4 : decode cX7_halfAt 4 = .ok (.bipush 9, 2) := by decide +kernel
theorem dX7_halfAt_6 : decode cX7_halfAt 6 = .ok (.iload_n 2, 1) := by decide +kernel
theorem dX7_halfAt_7 : decode cX7_halfAt 7 = .ok (.imul, 1) := by decide +kernel
theorem dX7_halfAt_8 : decode cX7_halfAt 8 = .ok (.iload_n 1, 1) := by decide +kernel
theorem dX7_halfAt_9 : decode cX7_halfAt 9 = .ok (.iadd, 1) := by decide +kernel
theorem dX7_halfAt_10 : decode cX7_halfAt 10 = .ok (.iaload, 1) := by decide +kernel
theorem dX7_halfAt_11 : decode cX7_halfAt 11 = .ok (.ireturn, 1) := by decide +kernel
set_option maxRecDepth 20000 in
theorem ggX7_offset_X7_isStation : GoodIn wsX7_offset wsX7_isStation := goodIn_r _ [7, 8, 9, 6, 10] (by decide +kernel) (by decide +kernel)
set_option maxRecDepth 20000 in
theorem gX7_offset_X7_isStation : GoodIn wsX7_offset (va_wsS RX7 48 yX7_isStation wsX7_isStation) := goodIn_app (goodIn_of _ (by decide +kernel)) ggX7_offset_X7_isStation
set_option maxRecDepth 20000 in
theorem ggX7_offset_X7_isWaterline : GoodIn wsX7_offset wsX7_isWaterline := goodIn_r _ [13, 8, 9, 6, 10] (by decide +kernel) (by decide +kernel)
set_option maxRecDepth 20000 in
theorem gX7_offset_X7_isWaterline : GoodIn wsX7_offset (va_wsS RX7 52 yX7_isWaterline wsX7_isWaterline) := goodIn_app (goodIn_of _ (by decide +kernel)) ggX7_offset_X7_isWaterline
set_option maxRecDepth 20000 in
theorem ggX7_offset_X7_in : GoodIn wsX7_offset wsX7_in := goodIn_r _ [10] (by decide +kernel) (by decide +kernel)
set_option maxRecDepth 20000 in
theorem gX7_offset_X7_in : GoodIn wsX7_offset (va_wsS RX7 44 yX7_in wsX7_in) := goodIn_app (goodIn_of _ (by decide +kernel)) ggX7_offset_X7_in
set_option maxRecDepth 20000 in
theorem ggX7_offset_X7_halfAt : GoodIn wsX7_offset wsX7_halfAt := goodIn_r _ [17, 3, 18, 19, 20, 21, 22, 23, 24, 25, 26, 27, 28, 29, 30, 31, 32, 33] (by decide +kernel) (by decide +kernel)
set_option maxRecDepth 20000 in
theorem gX7_offset_X7_halfAt : GoodIn wsX7_offset (wsV RX7 59 RX7 yX7_halfAt wsX7_halfAt) := goodIn_app (goodIn_of _ (by decide +kernel)) ggX7_offset_X7_halfAt
theorem dX7_offset_0 : decode cX7_offset 0 = .ok (.aload_n 0, 1) := by decide +kernel
theorem dX7_offset_1 : decode cX7_offset 1 = .ok (.iload_n 1, 1) := by decide +kernel
theorem dX7_offset_2 : decode cX7_offset 2 = .ok (.invokestatic 48, 3) := by decide +kernel
theorem dX7_offset_5 : decode cX7_offset 5 = .ok (.ifCond .eq 10, 3) := by decide +kernel
theorem dX7_offset_8 : decode cX7_offset 8 = .ok (.iload_n 2, 1) := by decide +kernel
theorem dX7_offset_9 : decode cX7_offset 9 = .ok (.invokestatic 52, 3) := by decide +kernel
theorem dX7_offset_12 : decode cX7_offset 12 = .ok (.ifCond .ne 7, 3) := by decide +kernel
theorem dX7_offset_15 : decode cX7_offset 15 = .ok (.iconst 1, 1) := by decide +kernel
theorem dX7_offset_16 : decode cX7_offset 16 = .ok (.goto 30, 3) := by decide +kernel
theorem dX7_offset_19 : decode cX7_offset 19 = .ok (.iload_n 3, 1) := by decide +kernel
theorem dX7_offset_20 : decode cX7_offset 20 = .ok (.iconst 0, 1) := by decide +kernel
theorem dX7_offset_21 : decode cX7_offset 21 = .ok (.sipush 200, 3) := by decide +kernel
theorem dX7_offset_24 : decode cX7_offset 24 = .ok (.invokestatic 44, 3) := by decide +kernel
theorem dX7_offset_27 : decode cX7_offset 27 = .ok (.ifCond .ne 7, 3) := by decide +kernel
theorem dX7_offset_30 : decode cX7_offset 30 = .ok (.iconst 2, 1) := by decide +kernel
theorem dX7_offset_31 : decode cX7_offset 31 = .ok (.goto 15, 3) := by decide +kernel
theorem dX7_offset_34 : decode cX7_offset 34 = .ok (.aload_n 0, 1) := by decide +kernel
theorem dX7_offset_35 : decode cX7_offset 35 = .ok (.getfield 55, 3) := by decide +kernel
theorem dX7_offset_38 : decode cX7_offset 38 = .ok (.ifCond .eq 7, 3) := by decide +kernel
theorem dX7_offset_41 : decode cX7_offset 41 = .ok (.iconst 3, 1) := by decide +kernel
theorem dX7_offset_42 : decode cX7_offset 42 = .ok (.goto 4, 3) := by decide +kernel
theorem dX7_offset_45 : decode cX7_offset 45 = .ok (.iconst 0, 1) := by decide +kernel
theorem dX7_offset_46 : decode cX7_offset 46 = .ok (.putfield 41, 3) := by decide +kernel
theorem dX7_offset_49 : decode cX7_offset 49 = .ok (.aload_n 0, 1) := by decide +kernel
theorem dX7_offset_50 : decode cX7_offset 50 = .ok (.getfield 41, 3) := by decide +kernel
theorem dX7_offset_53 : decode cX7_offset 53 = .ok (.ifCond .le 5, 3) := by decide +kernel
theorem dX7_offset_56 : decode cX7_offset 56 = .ok (.iconst 0, 1) := by decide +kernel
theorem dX7_offset_57 : decode cX7_offset 57 = .ok (.ireturn, 1) := by decide +kernel
theorem dX7_offset_58 : decode cX7_offset 58 = .ok (.aload_n 0, 1) := by decide +kernel
theorem dX7_offset_59 : decode cX7_offset 59 = .ok (.iload_n 1, 1) := by decide +kernel
theorem dX7_offset_60 : decode cX7_offset 60 = .ok (.iload_n 2, 1) := by decide +kernel
theorem dX7_offset_61 : decode cX7_offset 61 = .ok (.invokevirtual 59, 3) := by decide +kernel
theorem dX7_offset_64 : decode cX7_offset 64 = .ok (.istore 4, 2) := by decide +kernel
theorem dX7_offset_66 : decode cX7_offset 66 = .ok (.aload_n 0, 1) := by decide +kernel
theorem dX7_offset_67 : decode cX7_offset 67 = .ok (.getfield 7, 3) := by decide +kernel
theorem dX7_offset_70 : decode cX7_offset 70 = .ok (.bipush 9, 2) := by decide +kernel
theorem dX7_offset_72 : decode cX7_offset 72 = .ok (.iload_n 2, 1) := by decide +kernel
theorem dX7_offset_73 : decode cX7_offset 73 = .ok (.imul, 1) := by decide +kernel
theorem dX7_offset_74 : decode cX7_offset 74 = .ok (.iload_n 1, 1) := by decide +kernel
theorem dX7_offset_75 : decode cX7_offset 75 = .ok (.iadd, 1) := by decide +kernel
theorem dX7_offset_76 : decode cX7_offset 76 = .ok (.iload_n 3, 1) := by decide +kernel
theorem dX7_offset_77 : decode cX7_offset 77 = .ok (.iastore, 1) := by decide +kernel
theorem dX7_offset_78 : decode cX7_offset 78 = .ok (.iload 4, 2) := by decide +kernel
theorem dX7_offset_80 : decode cX7_offset 80 = .ok (.ireturn, 1) := by decide +kernel
set_option maxRecDepth 20000 in
theorem ggX7_half_X7_isStation : GoodIn wsX7_half wsX7_isStation := goodIn_r _ [5, 6, 7, 4, 8] (by decide +kernel) (by decide +kernel)
set_option maxRecDepth 20000 in
theorem gX7_half_X7_isStation : GoodIn wsX7_half (va_wsS RX7 48 yX7_isStation wsX7_isStation) := goodIn_app (goodIn_of _ (by decide +kernel)) ggX7_half_X7_isStation
set_option maxRecDepth 20000 in
theorem ggX7_half_X7_isWaterline : GoodIn wsX7_half wsX7_isWaterline := goodIn_r _ [11, 6, 7, 4, 8] (by decide +kernel) (by decide +kernel)
set_option maxRecDepth 20000 in
theorem gX7_half_X7_isWaterline : GoodIn wsX7_half (va_wsS RX7 52 yX7_isWaterline wsX7_isWaterline) := goodIn_app (goodIn_of _ (by decide +kernel)) ggX7_half_X7_isWaterline
set_option maxRecDepth 20000 in
theorem ggX7_half_X7_halfAt : GoodIn wsX7_half wsX7_halfAt := goodIn_r _ [15, 16, 17, 18, 19, 20, 21, 22, 23, 24, 25, 26, 27, 28, 29, 30, 31, 32] (by decide +kernel) (by decide +kernel)
set_option maxRecDepth 20000 in
theorem gX7_half_X7_halfAt : GoodIn wsX7_half (wsV RX7 59 RX7 yX7_halfAt wsX7_halfAt) := goodIn_app (goodIn_of _ (by decide +kernel)) ggX7_half_X7_halfAt
theorem dX7_half_0 : decode cX7_half 0 = .ok (.aload_n 0, 1) := by decide +kernel
theorem dX7_half_1 : decode cX7_half 1 = .ok (.iload_n 1, 1) := by decide +kernel
theorem dX7_half_2 : decode cX7_half 2 = .ok (.invokestatic 48, 3) := by decide +kernel
theorem dX7_half_5 : decode cX7_half 5 = .ok (.ifCond .eq 14, 3) := by decide +kernel
theorem dX7_half_8 : decode cX7_half 8 = .ok (.iload_n 2, 1) := by decide +kernel
theorem dX7_half_9 : decode cX7_half 9 = .ok (.invokestatic 52, 3) := by decide +kernel
theorem dX7_half_12 : decode cX7_half 12 = .ok (.ifCond .eq 7, 3) := by decide +kernel
theorem dX7_half_15 : decode cX7_half 15 = .ok (.iconst 0, 1) := by decide +kernel
theorem dX7_half_16 : decode cX7_half 16 = .ok (.goto 4, 3) := by decide +kernel
theorem dX7_half_19 : decode cX7_half 19 = .ok (.iconst 1, 1) := by decide +kernel
theorem dX7_half_20 : decode cX7_half 20 = .ok (.putfield 41, 3) := by decide +kernel
theorem dX7_half_23 : decode cX7_half 23 = .ok (.aload_n 0, 1) := by decide +kernel
theorem dX7_half_24 : decode cX7_half 24 = .ok (.getfield 41, 3) := by decide +kernel
theorem dX7_half_27 : decode cX7_half 27 = .ok (.ifCond .le 7, 3) := by decide +kernel
theorem dX7_half_30 : decode cX7_half 30 = .ok (.iconst 0, 1) := by decide +kernel
theorem dX7_half_31 : decode cX7_half 31 = .ok (.goto 9, 3) := by decide +kernel
theorem dX7_half_34 : decode cX7_half 34 = .ok (.aload_n 0, 1) := by decide +kernel
theorem dX7_half_35 : decode cX7_half 35 = .ok (.iload_n 1, 1) := by decide +kernel
theorem dX7_half_36 : decode cX7_half 36 = .ok (.iload_n 2, 1) := by decide +kernel
theorem dX7_half_37 : decode cX7_half 37 = .ok (.invokevirtual 59, 3) := by decide +kernel
theorem dX7_half_40 : decode cX7_half 40 = .ok (.ireturn, 1) := by decide +kernel
theorem dX7_square_0 : decode cX7_square 0 = .ok (.iload_n 0, 1) := by decide +kernel
theorem dX7_square_1 : decode cX7_square 1 = .ok (.iload_n 0, 1) := by decide +kernel
theorem dX7_square_2 : decode cX7_square 2 = .ok (.imul, 1) := by decide +kernel
theorem dX7_square_3 : decode cX7_square 3 = .ok (.ireturn, 1) := by decide +kernel
set_option maxRecDepth 20000 in
theorem ggX7_bendOf_X7_halfAt : GoodIn wsX7_bendOf wsX7_halfAt := goodIn_r _ [5, 6, 10, 11, 12, 13, 14, 15, 16, 17, 18, 19, 20, 21, 22, 23, 24, 25] (by decide +kernel) (by decide +kernel)
set_option maxRecDepth 20000 in
theorem gX7_bendOf_X7_halfAt : GoodIn wsX7_bendOf (wsV RX7 59 RX7 yX7_halfAt wsX7_halfAt) := goodIn_app (goodIn_of _ (by decide +kernel)) ggX7_bendOf_X7_halfAt
set_option maxRecDepth 20000 in
theorem ggX7_bendOf_X7_square : GoodIn wsX7_bendOf wsX7_square := goodIn_r _ [9] (by decide +kernel) (by decide +kernel)
set_option maxRecDepth 20000 in
theorem gX7_bendOf_X7_square : GoodIn wsX7_bendOf (va_wsS RX7 63 yX7_square wsX7_square) := goodIn_app (goodIn_of _ (by decide +kernel)) ggX7_bendOf_X7_square
theorem dX7_bendOf_0 : decode cX7_bendOf 0 = .ok (.iconst 0, 1) := by decide +kernel
theorem dX7_bendOf_1 : decode cX7_bendOf 1 = .ok (.istore_n 2, 1) := by decide +kernel
theorem dX7_bendOf_2 : decode cX7_bendOf 2 = .ok (.iconst 1, 1) := by decide +kernel
theorem dX7_bendOf_3 : decode cX7_bendOf 3 = .ok (.istore_n 3, 1) := by decide +kernel
theorem dX7_bendOf_4 : decode cX7_bendOf 4 = .ok (.iload_n 3, 1) := by decide +kernel
theorem dX7_bendOf_5 : decode cX7_bendOf 5 = .ok (.iconst 1, 1) := by decide +kernel
theorem dX7_bendOf_6 : decode cX7_bendOf 6 = .ok (.iadd, 1) := by decide +kernel
theorem dX7_bendOf_7 : decode cX7_bendOf 7 = .ok (.bipush 9, 2) := by decide +kernel
theorem dX7_bendOf_9 : decode cX7_bendOf 9 = .ok (.if_icmp .ge 41, 3) := by decide +kernel
theorem dX7_bendOf_12 : decode cX7_bendOf 12 = .ok (.iload_n 2, 1) := by decide +kernel
theorem dX7_bendOf_13 : decode cX7_bendOf 13 = .ok (.aload_n 0, 1) := by decide +kernel
theorem dX7_bendOf_14 : decode cX7_bendOf 14 = .ok (.iload_n 3, 1) := by decide +kernel
theorem dX7_bendOf_15 : decode cX7_bendOf 15 = .ok (.iconst 1, 1) := by decide +kernel
theorem dX7_bendOf_16 : decode cX7_bendOf 16 = .ok (.isub, 1) := by decide +kernel
theorem dX7_bendOf_17 : decode cX7_bendOf 17 = .ok (.iload_n 1, 1) := by decide +kernel
theorem dX7_bendOf_18 : decode cX7_bendOf 18 = .ok (.invokevirtual 59, 3) := by decide +kernel
theorem dX7_bendOf_21 : decode cX7_bendOf 21 = .ok (.aload_n 0, 1) := by decide +kernel
theorem dX7_bendOf_22 : decode cX7_bendOf 22 = .ok (.iload_n 3, 1) := by decide +kernel
theorem dX7_bendOf_23 : decode cX7_bendOf 23 = .ok (.iconst 1, 1) := by decide +kernel
theorem dX7_bendOf_24 : decode cX7_bendOf 24 = .ok (.iadd, 1) := by decide +kernel
theorem dX7_bendOf_25 : decode cX7_bendOf 25 = .ok (.iload_n 1, 1) := by decide +kernel
theorem dX7_bendOf_26 : decode cX7_bendOf 26 = .ok (.invokevirtual 59, 3) := by decide +kernel
theorem dX7_bendOf_29 : decode cX7_bendOf 29 = .ok (.iadd, 1) := by decide +kernel
theorem dX7_bendOf_30 : decode cX7_bendOf 30 = .ok (.iconst 2, 1) := by decide +kernel
theorem dX7_bendOf_31 : decode cX7_bendOf 31 = .ok (.aload_n 0, 1) := by decide +kernel
theorem dX7_bendOf_32 : decode cX7_bendOf 32 = .ok (.iload_n 3, 1) := by decide +kernel
theorem dX7_bendOf_33 : decode cX7_bendOf 33 = .ok (.iload_n 1, 1) := by decide +kernel
theorem dX7_bendOf_34 : decode cX7_bendOf 34 = .ok (.invokevirtual 59, 3) := by decide +kernel
theorem dX7_bendOf_37 : decode cX7_bendOf 37 = .ok (.imul, 1) := by decide +kernel
theorem dX7_bendOf_38 : decode cX7_bendOf 38 = .ok (.isub, 1) := by decide +kernel
theorem dX7_bendOf_39 : decode cX7_bendOf 39 = .ok (.invokestatic 63, 3) := by decide +kernel
theorem dX7_bendOf_42 : decode cX7_bendOf 42 = .ok (.iadd, 1) := by decide +kernel
theorem dX7_bendOf_43 : decode cX7_bendOf 43 = .ok (.istore_n 2, 1) := by decide +kernel
theorem dX7_bendOf_44 : decode cX7_bendOf 44 = .ok (.iinc 3 1, 3) := by decide +kernel
theorem dX7_bendOf_47 : decode cX7_bendOf 47 = .ok (.goto (-43), 3) := by decide +kernel
theorem dX7_bendOf_50 : decode cX7_bendOf 50 = .ok (.iload_n 2, 1) := by decide +kernel
theorem dX7_bendOf_51 : decode cX7_bendOf 51 = .ok (.ireturn, 1) := by decide +kernel
set_option maxRecDepth 20000 in
theorem ggX7_bend_X7_isWaterline : GoodIn wsX7_bend wsX7_isWaterline := goodIn_r _ [5, 6, 7, 4, 8] (by decide +kernel) (by decide +kernel)
set_option maxRecDepth 20000 in
theorem gX7_bend_X7_isWaterline : GoodIn wsX7_bend (va_wsS RX7 52 yX7_isWaterline wsX7_isWaterline) := goodIn_app (goodIn_of _ (by decide +kernel)) ggX7_bend_X7_isWaterline
set_option maxRecDepth 20000 in
theorem ggX7_bend_X7_bendOf : GoodIn wsX7_bend wsX7_bendOf := goodIn_r _ [12, 13, 14, 15, 4, 16, 17, 18, 19, 20, 21, 22, 23, 24, 25, 26, 27, 28, 29, 30, 31, 32, 33, 34, 35, 36] (by decide +kernel) (by decide +kernel)
set_option maxRecDepth 20000 in
theorem gX7_bend_X7_bendOf : GoodIn wsX7_bend (wsV RX7 67 RX7 yX7_bendOf wsX7_bendOf) := goodIn_app (goodIn_of _ (by decide +kernel)) ggX7_bend_X7_bendOf
theorem dX7_bend_0 : decode cX7_bend 0 = .ok (.aload_n 0, 1) := by decide +kernel
theorem dX7_bend_1 : decode cX7_bend 1 = .ok (.iload_n 1, 1) := by decide +kernel
theorem dX7_bend_2 : decode cX7_bend 2 = .ok (.invokestatic 52, 3) := by decide +kernel
theorem dX7_bend_5 : decode cX7_bend 5 = .ok (.ifCond .eq 7, 3) := by decide +kernel
theorem dX7_bend_8 : decode cX7_bend 8 = .ok (.iconst 0, 1) := by decide +kernel
theorem dX7_bend_9 : decode cX7_bend 9 = .ok (.goto 4, 3) := by decide +kernel
theorem dX7_bend_12 : decode cX7_bend 12 = .ok (.iconst 1, 1) := by decide +kernel
theorem dX7_bend_13 : decode cX7_bend 13 = .ok (.putfield 41, 3) := by decide +kernel
theorem dX7_bend_16 : decode cX7_bend 16 = .ok (.aload_n 0, 1) := by decide +kernel
theorem dX7_bend_17 : decode cX7_bend 17 = .ok (.getfield 41, 3) := by decide +kernel
theorem dX7_bend_20 : decode cX7_bend 20 = .ok (.ifCond .le 7, 3) := by decide +kernel
theorem dX7_bend_23 : decode cX7_bend 23 = .ok (.iconst 0, 1) := by decide +kernel
theorem dX7_bend_24 : decode cX7_bend 24 = .ok (.goto 8, 3) := by decide +kernel
theorem dX7_bend_27 : decode cX7_bend 27 = .ok (.aload_n 0, 1) := by decide +kernel
theorem dX7_bend_28 : decode cX7_bend 28 = .ok (.iload_n 1, 1) := by decide +kernel
theorem dX7_bend_29 : decode cX7_bend 29 = .ok (.invokevirtual 67, 3) := by decide +kernel
theorem dX7_bend_32 : decode cX7_bend 32 = .ok (.ireturn, 1) := by decide +kernel
theorem dX7_place_0 : decode cX7_place 0 = .ok (.bipush 25, 2) := by decide +kernel
theorem dX7_place_2 : decode cX7_place 2 = .ok (.iload_n 0, 1) := by decide +kernel
theorem dX7_place_3 : decode cX7_place 3 = .ok (.imul, 1) := by decide +kernel
theorem dX7_place_4 : decode cX7_place 4 = .ok (.iconst 5, 1) := by decide +kernel
theorem dX7_place_5 : decode cX7_place 5 = .ok (.iload_n 1, 1) := by decide +kernel
theorem dX7_place_6 : decode cX7_place 6 = .ok (.imul, 1) := by decide +kernel
theorem dX7_place_7 : decode cX7_place 7 = .ok (.iadd, 1) := by decide +kernel
theorem dX7_place_8 : decode cX7_place 8 = .ok (.iload_n 2, 1) := by decide +kernel
theorem dX7_place_9 : decode cX7_place 9 = .ok (.iadd, 1) := by decide +kernel
theorem dX7_place_10 : decode cX7_place 10 = .ok (.ireturn, 1) := by decide +kernel
set_option maxRecDepth 20000 in
theorem ggX7_may_X7_size : GoodIn wsX7_may wsX7_size := goodIn_r _ [4] (by decide +kernel) (by decide +kernel)
set_option maxRecDepth 20000 in
theorem gX7_may_X7_size : GoodIn wsX7_may (va_wsS RX7 70 yX7_size wsX7_size) := goodIn_app (goodIn_of _ (by decide +kernel)) ggX7_may_X7_size
set_option maxRecDepth 20000 in
theorem ggX7_may_X7_halfAt : GoodIn wsX7_may wsX7_halfAt := goodIn_r _ [8, 9, 13, 14, 15, 16, 17, 18, 19, 20, 21, 22, 23, 24, 25, 26, 27, 28] (by decide +kernel) (by decide +kernel)
set_option maxRecDepth 20000 in
theorem gX7_may_X7_halfAt : GoodIn wsX7_may (wsV RX7 59 RX7 yX7_halfAt wsX7_halfAt) := goodIn_app (goodIn_of _ (by decide +kernel)) ggX7_may_X7_halfAt
set_option maxRecDepth 20000 in
theorem ggX7_may_X7_in : GoodIn wsX7_may wsX7_in := goodIn_r _ [12] (by decide +kernel) (by decide +kernel)
set_option maxRecDepth 20000 in
theorem gX7_may_X7_in : GoodIn wsX7_may (va_wsS RX7 44 yX7_in wsX7_in) := goodIn_app (goodIn_of _ (by decide +kernel)) ggX7_may_X7_in
theorem dX7_may_0 : decode cX7_may 0 = .ok (.iload_n 3, 1) := by decide +kernel
theorem dX7_may_1 : decode cX7_may 1 = .ok (.iconst 2, 1) := by decide +kernel
theorem dX7_may_2 : decode cX7_may 2 = .ok (.isub, 1) := by decide +kernel
theorem dX7_may_3 : decode cX7_may 3 = .ok (.invokestatic 70, 3) := by decide +kernel
theorem dX7_may_6 : decode cX7_may 6 = .ok (.iload 4, 2) := by decide +kernel
theorem dX7_may_8 : decode cX7_may 8 = .ok (.if_icmp .gt 27, 3) := by decide +kernel
theorem dX7_may_11 : decode cX7_may 11 = .ok (.aload_n 0, 1) := by decide +kernel
theorem dX7_may_12 : decode cX7_may 12 = .ok (.iload_n 2, 1) := by decide +kernel
theorem dX7_may_13 : decode cX7_may 13 = .ok (.iload_n 1, 1) := by decide +kernel
theorem dX7_may_14 : decode cX7_may 14 = .ok (.invokevirtual 59, 3) := by decide +kernel
theorem dX7_may_17 : decode cX7_may 17 = .ok (.iload_n 3, 1) := by decide +kernel
theorem dX7_may_18 : decode cX7_may 18 = .ok (.iadd, 1) := by decide +kernel
theorem dX7_may_19 : decode cX7_may 19 = .ok (.iconst 2, 1) := by decide +kernel
theorem dX7_may_20 : decode cX7_may 20 = .ok (.isub, 1) := by decide +kernel
theorem dX7_may_21 : decode cX7_may 21 = .ok (.iconst 0, 1) := by decide +kernel
theorem dX7_may_22 : decode cX7_may 22 = .ok (.sipush 200, 3) := by decide +kernel
theorem dX7_may_25 : decode cX7_may 25 = .ok (.invokestatic 44, 3) := by decide +kernel
theorem dX7_may_28 : decode cX7_may 28 = .ok (.ifCond .eq 7, 3) := by decide +kernel
theorem dX7_may_31 : decode cX7_may 31 = .ok (.iconst 1, 1) := by decide +kernel
theorem dX7_may_32 : decode cX7_may 32 = .ok (.goto 4, 3) := by decide +kernel
theorem dX7_may_35 : decode cX7_may 35 = .ok (.iconst 0, 1) := by decide +kernel
theorem dX7_may_36 : decode cX7_may 36 = .ok (.ireturn, 1) := by decide +kernel
set_option maxRecDepth 20000 in
theorem ggX7_bendBy_X7_halfAt : GoodIn wsX7_bendBy wsX7_halfAt := goodIn_r _ [6, 7, 14, 15, 16, 17, 18, 19, 20, 21, 22, 23, 24, 25, 26, 27, 28, 29] (by decide +kernel) (by decide +kernel)
set_option maxRecDepth 20000 in
theorem gX7_bendBy_X7_halfAt : GoodIn wsX7_bendBy (wsV RX7 59 RX7 yX7_halfAt wsX7_halfAt) := goodIn_app (goodIn_of _ (by decide +kernel)) ggX7_bendBy_X7_halfAt
set_option maxRecDepth 20000 in
theorem ggX7_bendBy_X7_square : GoodIn wsX7_bendBy wsX7_square := goodIn_r _ [10] (by decide +kernel) (by decide +kernel)
set_option maxRecDepth 20000 in
theorem gX7_bendBy_X7_square : GoodIn wsX7_bendBy (va_wsS RX7 63 yX7_square wsX7_square) := goodIn_app (goodIn_of _ (by decide +kernel)) ggX7_bendBy_X7_square
set_option maxRecDepth 20000 in
theorem ggX7_bendBy_X7_place : GoodIn wsX7_bendBy wsX7_place := goodIn_r _ [13] (by decide +kernel) (by decide +kernel)
set_option maxRecDepth 20000 in
theorem gX7_bendBy_X7_place : GoodIn wsX7_bendBy (va_wsS RX7 73 yX7_place wsX7_place) := goodIn_app (goodIn_of _ (by decide +kernel)) ggX7_bendBy_X7_place
theorem dX7_bendBy_0 : decode cX7_bendBy 0 = .ok (.aload_n 0, 1) := by decide +kernel
theorem dX7_bendBy_1 : decode cX7_bendBy 1 = .ok (.iload_n 2, 1) := by decide +kernel
theorem dX7_bendBy_2 : decode cX7_bendBy 2 = .ok (.iconst 1, 1) := by decide +kernel
theorem dX7_bendBy_3 : decode cX7_bendBy 3 = .ok (.isub, 1) := by decide +kernel
theorem dX7_bendBy_4 : decode cX7_bendBy 4 = .ok (.iload_n 1, 1) := by decide +kernel
theorem dX7_bendBy_5 : decode cX7_bendBy 5 = .ok (.invokevirtual 59, 3) := by decide +kernel
theorem dX7_bendBy_8 : decode cX7_bendBy 8 = .ok (.iload_n 3, 1) := by decide +kernel
theorem dX7_bendBy_9 : decode cX7_bendBy 9 = .ok (.iadd, 1) := by decide +kernel
theorem dX7_bendBy_10 : decode cX7_bendBy 10 = .ok (.iconst 2, 1) := by decide +kernel
theorem dX7_bendBy_11 : decode cX7_bendBy 11 = .ok (.isub, 1) := by decide +kernel
theorem dX7_bendBy_12 : decode cX7_bendBy 12 = .ok (.aload_n 0, 1) := by decide +kernel
theorem dX7_bendBy_13 : decode cX7_bendBy 13 = .ok (.iload_n 2, 1) := by decide +kernel
theorem dX7_bendBy_14 : decode cX7_bendBy 14 = .ok (.iconst 1, 1) := by decide +kernel
theorem dX7_bendBy_15 : decode cX7_bendBy 15 = .ok (.iadd, 1) := by decide +kernel
theorem dX7_bendBy_16 : decode cX7_bendBy 16 = .ok (.iload_n 1, 1) := by decide +kernel
theorem dX7_bendBy_17 : decode cX7_bendBy 17 = .ok (.invokevirtual 59, 3) := by decide +kernel
theorem dX7_bendBy_20 : decode cX7_bendBy 20 = .ok (.iadd, 1) := by decide +kernel
theorem dX7_bendBy_21 : decode cX7_bendBy 21 = .ok (.iload 5, 2) := by decide +kernel
theorem dX7_bendBy_23 : decode cX7_bendBy 23 = .ok (.iadd, 1) := by decide +kernel
theorem dX7_bendBy_24 : decode cX7_bendBy 24 = .ok (.iconst 2, 1) := by decide +kernel
theorem dX7_bendBy_25 : decode cX7_bendBy 25 = .ok (.isub, 1) := by decide +kernel
theorem dX7_bendBy_26 : decode cX7_bendBy 26 = .ok (.iconst 2, 1) := by decide +kernel
theorem dX7_bendBy_27 : decode cX7_bendBy 27 = .ok (.aload_n 0, 1) := by decide +kernel
theorem dX7_bendBy_28 : decode cX7_bendBy 28 = .ok (.iload_n 2, 1) := by decide +kernel
theorem dX7_bendBy_29 : decode cX7_bendBy 29 = .ok (.iload_n 1, 1) := by decide +kernel
theorem dX7_bendBy_30 : decode cX7_bendBy 30 = .ok (.invokevirtual 59, 3) := by decide +kernel
theorem dX7_bendBy_33 : decode cX7_bendBy 33 = .ok (.iload 4, 2) := by decide +kernel
theorem dX7_bendBy_35 : decode cX7_bendBy 35 = .ok (.iadd, 1) := by decide +kernel
theorem dX7_bendBy_36 : decode cX7_bendBy 36 = .ok (.iconst 2, 1) := by decide +kernel
theorem dX7_bendBy_37 : decode cX7_bendBy 37 = .ok (.isub, 1) := by decide +kernel
theorem dX7_bendBy_38 : decode cX7_bendBy 38 = .ok (.imul, 1) := by decide +kernel
theorem dX7_bendBy_39 : decode cX7_bendBy 39 = .ok (.isub, 1) := by decide +kernel
theorem dX7_bendBy_40 : decode cX7_bendBy 40 = .ok (.istore 6, 2) := by decide +kernel
theorem dX7_bendBy_42 : decode cX7_bendBy 42 = .ok (.iload 6, 2) := by decide +kernel
theorem dX7_bendBy_44 : decode cX7_bendBy 44 = .ok (.invokestatic 63, 3) := by decide +kernel
theorem dX7_bendBy_47 : decode cX7_bendBy 47 = .ok (.aload_n 0, 1) := by decide +kernel
theorem dX7_bendBy_48 : decode cX7_bendBy 48 = .ok (.getfield 35, 3) := by decide +kernel
theorem dX7_bendBy_51 : decode cX7_bendBy 51 = .ok (.iload_n 2, 1) := by decide +kernel
theorem dX7_bendBy_52 : decode cX7_bendBy 52 = .ok (.iconst 1, 1) := by decide +kernel
theorem dX7_bendBy_53 : decode cX7_bendBy 53 = .ok (.iadd, 1) := by decide +kernel
theorem dX7_bendBy_54 : decode cX7_bendBy 54 = .ok (.iload 4, 2) := by decide +kernel
theorem dX7_bendBy_56 : decode cX7_bendBy 56 = .ok (.iload 5, 2) := by decide +kernel
theorem dX7_bendBy_58 : decode cX7_bendBy 58 = .ok (.invokestatic 73, 3) := by decide +kernel
theorem dX7_bendBy_61 : decode cX7_bendBy 61 = .ok (.iaload, 1) := by decide +kernel
theorem dX7_bendBy_62 : decode cX7_bendBy 62 = .ok (.iadd, 1) := by decide +kernel
theorem dX7_bendBy_63 : decode cX7_bendBy 63 = .ok (.ireturn, 1) := by decide +kernel
set_option maxRecDepth 20000 in
theorem ggX7_leastBy_X7_may : GoodIn wsX7_leastBy wsX7_may := goodIn_r _ [6, 7, 8, 5, 9, 10, 11, 12, 13, 14, 15, 16, 17, 29, 30, 31, 32, 33, 34, 35, 36, 37, 38, 39, 40, 41, 42, 43, 44] (by decide +kernel) (by decide +kernel)
set_option maxRecDepth 20000 in
theorem gX7_leastBy_X7_may : GoodIn wsX7_leastBy (wsV RX7 78 RX7 yX7_may wsX7_may) := goodIn_app (goodIn_of _ (by decide +kernel)) ggX7_leastBy_X7_may
set_option maxRecDepth 20000 in
theorem ggX7_leastBy_X7_bendBy : GoodIn wsX7_leastBy wsX7_bendBy := goodIn_r _ [21, 22, 10, 11, 12, 5, 13, 14, 23, 24, 25, 26, 27, 28, 29, 30, 31, 32, 33, 34, 35, 36, 37, 38, 39, 40, 41, 42, 43, 44] (by decide +kernel) (by decide +kernel)
set_option maxRecDepth 20000 in
theorem gX7_leastBy_X7_bendBy : GoodIn wsX7_leastBy (wsV RX7 82 RX7 yX7_bendBy wsX7_bendBy) := goodIn_app (goodIn_of _ (by decide +kernel)) ggX7_leastBy_X7_bendBy
theorem dX7_leastBy_0 : decode cX7_leastBy 0 = .ok (.ldc 77, 2) := by decide +kernel
theorem dX7_leastBy_2 : decode cX7_leastBy 2 = .ok (.istore 6, 2) := by decide +kernel
theorem dX7_leastBy_4 : decode cX7_leastBy 4 = .ok (.iconst 0, 1) := by decide +kernel
theorem dX7_leastBy_5 : decode cX7_leastBy 5 = .ok (.istore 7, 2) := by decide +kernel
theorem dX7_leastBy_7 : decode cX7_leastBy 7 = .ok (.iload 7, 2) := by decide +kernel
theorem dX7_leastBy_9 : decode cX7_leastBy 9 = .ok (.iconst 5, 1) := by decide +kernel
theorem dX7_leastBy_10 : decode cX7_leastBy 10 = .ok (.if_icmp .ge 58, 3) := by decide +kernel
theorem dX7_leastBy_13 : decode cX7_leastBy 13 = .ok (.aload_n 0, 1) := by decide +kernel
theorem dX7_leastBy_14 : decode cX7_leastBy 14 = .ok (.iload_n 1, 1) := by decide +kernel
theorem dX7_leastBy_15 : decode cX7_leastBy 15 = .ok (.iload_n 2, 1) := by decide +kernel
theorem dX7_leastBy_16 : decode cX7_leastBy 16 = .ok (.iconst 1, 1) := by decide +kernel
theorem dX7_leastBy_17 : decode cX7_leastBy 17 = .ok (.iadd, 1) := by decide +kernel
theorem dX7_leastBy_18 : decode cX7_leastBy 18 = .ok (.iload 7, 2) := by decide +kernel
theorem dX7_leastBy_20 : decode cX7_leastBy 20 = .ok (.iload 5, 2) := by decide +kernel
theorem dX7_leastBy_22 : decode cX7_leastBy 22 = .ok (.invokevirtual 78, 3) := by decide +kernel
theorem dX7_leastBy_25 : decode cX7_leastBy 25 = .ok (.ifCond .eq 17, 3) := by decide +kernel
theorem dX7_leastBy_28 : decode cX7_leastBy 28 = .ok (.aload_n 0, 1) := by decide +kernel
theorem dX7_leastBy_29 : decode cX7_leastBy 29 = .ok (.iload_n 1, 1) := by decide +kernel
theorem dX7_leastBy_30 : decode cX7_leastBy 30 = .ok (.iload_n 2, 1) := by decide +kernel
theorem dX7_leastBy_31 : decode cX7_leastBy 31 = .ok (.iload_n 3, 1) := by decide +kernel
theorem dX7_leastBy_32 : decode cX7_leastBy 32 = .ok (.iload 4, 2) := by decide +kernel
theorem dX7_leastBy_34 : decode cX7_leastBy 34 = .ok (.iload 7, 2) := by decide +kernel
theorem dX7_leastBy_36 : decode cX7_leastBy 36 = .ok (.invokevirtual 82, 3) := by decide +kernel
theorem dX7_leastBy_39 : decode cX7_leastBy 39 = .ok (.goto 5, 3) := by decide +kernel
theorem dX7_leastBy_42 : decode cX7_leastBy 42 = .ok (.ldc 77, 2) := by decide +kernel
theorem dX7_leastBy_44 : decode cX7_leastBy 44 = .ok (.istore 8, 2) := by decide +kernel
theorem dX7_leastBy_46 : decode cX7_leastBy 46 = .ok (.iload 8, 2) := by decide +kernel
theorem dX7_leastBy_48 : decode cX7_leastBy 48 = .ok (.iload 6, 2) := by decide +kernel
theorem dX7_leastBy_50 : decode cX7_leastBy 50 = .ok (.if_icmp .ge 8, 3) := by decide +kernel
theorem dX7_leastBy_53 : decode cX7_leastBy 53 = .ok (.iload 8, 2) := by decide +kernel
theorem dX7_leastBy_55 : decode cX7_leastBy 55 = .ok (.goto 5, 3) := by decide +kernel
theorem dX7_leastBy_58 : decode cX7_leastBy 58 = .ok (.iload 6, 2) := by decide +kernel
theorem dX7_leastBy_60 : decode cX7_leastBy 60 = .ok (.istore 6, 2) := by decide +kernel
theorem dX7_leastBy_62 : decode cX7_leastBy 62 = .ok (.iinc 7 1, 3) := by decide +kernel
theorem dX7_leastBy_65 : decode cX7_leastBy 65 = .ok (.goto (-58), 3) := by decide +kernel
theorem dX7_leastBy_68 : decode cX7_leastBy 68 = .ok (.iload 6, 2) := by decide +kernel
theorem dX7_leastBy_70 : decode cX7_leastBy 70 = .ok (.ireturn, 1) := by decide +kernel
set_option maxRecDepth 20000 in
theorem ggX7_findsBehind_X7_place : GoodIn wsX7_findsBehind wsX7_place := goodIn_r _ [5] (by decide +kernel) (by decide +kernel)
set_option maxRecDepth 20000 in
theorem gX7_findsBehind_X7_place : GoodIn wsX7_findsBehind (va_wsS RX7 73 yX7_place wsX7_place) := goodIn_app (goodIn_of _ (by decide +kernel)) ggX7_findsBehind_X7_place
set_option maxRecDepth 20000 in
theorem ggX7_findsBehind_X7_leastBy : GoodIn wsX7_findsBehind wsX7_leastBy := goodIn_r _ [9, 10, 11, 12, 13, 4, 14, 15, 16, 17, 18, 19, 20, 21, 22, 23, 24, 25, 26, 27, 28, 29, 1, 30, 31, 32, 2, 3, 5, 33, 34, 35, 36, 37, 38, 39, 40, 41, 42, 43, 44, 45, 46, 47, 48] (by decide +kernel) (by decide +kernel)
set_option maxRecDepth 20000 in
theorem gX7_findsBehind_X7_leastBy : GoodIn wsX7_findsBehind (wsV RX7 86 RX7 yX7_leastBy wsX7_leastBy) := goodIn_app (goodIn_of _ (by decide +kernel)) ggX7_findsBehind_X7_leastBy
theorem dX7_findsBehind_0 : decode cX7_findsBehind 0 = .ok (.iconst 0, 1) := by decide +kernel
theorem dX7_findsBehind_1 : decode cX7_findsBehind 1 = .ok (.istore_n 3, 1) := by decide +kernel
theorem dX7_findsBehind_2 : decode cX7_findsBehind 2 = .ok (.iload_n 3, 1) := by decide +kernel
theorem dX7_findsBehind_3 : decode cX7_findsBehind 3 = .ok (.bipush 25, 2) := by decide +kernel
theorem dX7_findsBehind_5 : decode cX7_findsBehind 5 = .ok (.if_icmp .ge 22, 3) := by decide +kernel
theorem dX7_findsBehind_8 : decode cX7_findsBehind 8 = .ok (.aload_n 0, 1) := by decide +kernel
theorem dX7_findsBehind_9 : decode cX7_findsBehind 9 = .ok (.getfield 35, 3) := by decide +kernel
theorem dX7_findsBehind_12 : decode cX7_findsBehind 12 = .ok (.bipush 8, 2) := by decide +kernel
theorem dX7_findsBehind_14 : decode cX7_findsBehind 14 = .ok (.iconst 0, 1) := by decide +kernel
theorem dX7_findsBehind_15 : decode cX7_findsBehind 15 = .ok (.iload_n 3, 1) := by decide +kernel
theorem dX7_findsBehind_16 : decode cX7_findsBehind 16 = .ok (.invokestatic 73, 3) := by decide +kernel
theorem dX7_findsBehind_19 : decode cX7_findsBehind 19 = .ok (.iconst 0, 1) := by decide +kernel
theorem dX7_findsBehind_20 : decode cX7_findsBehind 20 = .ok (.iastore, 1) := by decide +kernel
theorem dX7_findsBehind_21 : decode cX7_findsBehind 21 = .ok (.iinc 3 1, 3) := by decide +kernel
theorem dX7_findsBehind_24 : decode cX7_findsBehind 24 = .ok (.goto (-22), 3) := by decide +kernel
theorem dX7_findsBehind_27 : decode cX7_findsBehind 27 = .ok (.bipush 7, 2) := by decide +kernel
theorem dX7_findsBehind_29 : decode cX7_findsBehind 29 = .ok (.istore_n 3, 1) := by decide +kernel
theorem dX7_findsBehind_30 : decode cX7_findsBehind 30 = .ok (.iload_n 3, 1) := by decide +kernel
theorem dX7_findsBehind_31 : decode cX7_findsBehind 31 = .ok (.ifCond .le 52, 3) := by decide +kernel
theorem dX7_findsBehind_34 : decode cX7_findsBehind 34 = .ok (.iconst 0, 1) := by decide +kernel
theorem dX7_findsBehind_35 : decode cX7_findsBehind 35 = .ok (.istore 4, 2) := by decide +kernel
theorem dX7_findsBehind_37 : decode cX7_findsBehind 37 = .ok (.iload 4, 2) := by decide +kernel
theorem dX7_findsBehind_39 : decode cX7_findsBehind 39 = .ok (.bipush 25, 2) := by decide +kernel
theorem dX7_findsBehind_41 : decode cX7_findsBehind 41 = .ok (.if_icmp .ge 36, 3) := by decide +kernel
theorem dX7_findsBehind_44 : decode cX7_findsBehind 44 = .ok (.aload_n 0, 1) := by decide +kernel
theorem dX7_findsBehind_45 : decode cX7_findsBehind 45 = .ok (.getfield 35, 3) := by decide +kernel
theorem dX7_findsBehind_48 : decode cX7_findsBehind 48 = .ok (.iload_n 3, 1) := by decide +kernel
theorem dX7_findsBehind_49 : decode cX7_findsBehind 49 = .ok (.iconst 0, 1) := by decide +kernel
theorem dX7_findsBehind_50 : decode cX7_findsBehind 50 = .ok (.iload 4, 2) := by decide +kernel
theorem dX7_findsBehind_52 : decode cX7_findsBehind 52 = .ok (.invokestatic 73, 3) := by decide +kernel
theorem dX7_findsBehind_55 : decode cX7_findsBehind 55 = .ok (.aload_n 0, 1) := by decide +kernel
theorem dX7_findsBehind_56 : decode cX7_findsBehind 56 = .ok (.iload_n 1, 1) := by decide +kernel
theorem dX7_findsBehind_57 : decode cX7_findsBehind 57 = .ok (.iload_n 3, 1) := by decide +kernel
theorem dX7_findsBehind_58 : decode cX7_findsBehind 58 = .ok (.iload 4, 2) := by decide +kernel
theorem dX7_findsBehind_60 : decode cX7_findsBehind 60 = .ok (.iconst 5, 1) := by decide +kernel
theorem dX7_findsBehind_61 : decode cX7_findsBehind 61 = .ok (.idiv, 1) := by decide +kernel
theorem dX7_findsBehind_62 : decode cX7_findsBehind 62 = .ok (.iload 4, 2) := by decide +kernel
theorem dX7_findsBehind_64 : decode cX7_findsBehind 64 = .ok (.iconst 5, 1) := by decide +kernel
theorem dX7_findsBehind_65 : decode cX7_findsBehind 65 = .ok (.irem, 1) := by decide +kernel
theorem dX7_findsBehind_66 : decode cX7_findsBehind 66 = .ok (.iload_n 2, 1) := by decide +kernel
theorem dX7_findsBehind_67 : decode cX7_findsBehind 67 = .ok (.invokevirtual 86, 3) := by decide +kernel
theorem dX7_findsBehind_70 : decode cX7_findsBehind 70 = .ok (.iastore, 1) := by decide +kernel
theorem dX7_findsBehind_71 : decode cX7_findsBehind 71 = .ok (.iinc 4 1, 3) := by decide +kernel
theorem dX7_findsBehind_74 : decode cX7_findsBehind 74 = .ok (.goto (-37), 3) := by decide +kernel
theorem dX7_findsBehind_77 : decode cX7_findsBehind 77 = .ok (.iinc 3 (-1), 3) := by decide +kernel
theorem dX7_findsBehind_80 : decode cX7_findsBehind 80 = .ok (.goto (-50), 3) := by decide +kernel
theorem dX7_findsBehind_83 : decode cX7_findsBehind 83 = .ok (.return_, 1) := by decide +kernel
set_option maxRecDepth 20000 in
theorem ggX7_laysLine_X7_may : GoodIn wsX7_laysLine wsX7_may := goodIn_r _ [8, 9, 10, 7, 11, 12, 13, 14, 15, 16, 17, 18, 19, 30, 31, 32, 33, 34, 35, 36, 37, 38, 39, 40, 41, 42, 43, 44, 45] (by decide +kernel) (by decide +kernel)
set_option maxRecDepth 20000 in
theorem gX7_laysLine_X7_may : GoodIn wsX7_laysLine (wsV RX7 78 RX7 yX7_may wsX7_may) := goodIn_app (goodIn_of _ (by decide +kernel)) ggX7_laysLine_X7_may
set_option maxRecDepth 20000 in
theorem ggX7_laysLine_X7_place : GoodIn wsX7_laysLine wsX7_place := goodIn_r _ [22] (by decide +kernel) (by decide +kernel)
set_option maxRecDepth 20000 in
theorem gX7_laysLine_X7_place : GoodIn wsX7_laysLine (va_wsS RX7 73 yX7_place wsX7_place) := goodIn_app (goodIn_of _ (by decide +kernel)) ggX7_laysLine_X7_place
set_option maxRecDepth 20000 in
theorem ggX7_laysLine_X7_bendBy : GoodIn wsX7_laysLine wsX7_bendBy := goodIn_r _ [26, 2, 12, 13, 14, 7, 15, 16, 27, 28, 29, 20, 21, 22, 30, 31, 32, 33, 34, 35, 36, 37, 38, 39, 40, 41, 42, 43, 44, 45] (by decide +kernel) (by decide +kernel)
set_option maxRecDepth 20000 in
theorem gX7_laysLine_X7_bendBy : GoodIn wsX7_laysLine (wsV RX7 82 RX7 yX7_bendBy wsX7_bendBy) := goodIn_app (goodIn_of _ (by decide +kernel)) ggX7_laysLine_X7_bendBy
theorem dX7_laysLine_0 : decode cX7_laysLine 0 = .ok (.ldc 77, 2) := by decide +kernel
theorem dX7_laysLine_2 : decode cX7_laysLine 2 = .ok (.istore_n 3, 1) := by decide +kernel
theorem dX7_laysLine_3 : decode cX7_laysLine 3 = .ok (.iconst 0, 1) := by decide +kernel
theorem dX7_laysLine_4 : decode cX7_laysLine 4 = .ok (.istore 4, 2) := by decide +kernel
theorem dX7_laysLine_6 : decode cX7_laysLine 6 = .ok (.iconst 0, 1) := by decide +kernel
theorem dX7_laysLine_7 : decode cX7_laysLine 7 = .ok (.istore 5, 2) := by decide +kernel
theorem dX7_laysLine_9 : decode cX7_laysLine 9 = .ok (.iload 5, 2) := by decide +kernel
theorem dX7_laysLine_11 : decode cX7_laysLine 11 = .ok (.bipush 25, 2) := by decide +kernel
theorem dX7_laysLine_13 : decode cX7_laysLine 13 = .ok (.if_icmp .ge 82, 3) := by decide +kernel
theorem dX7_laysLine_16 : decode cX7_laysLine 16 = .ok (.aload_n 0, 1) := by decide +kernel
theorem dX7_laysLine_17 : decode cX7_laysLine 17 = .ok (.iload_n 1, 1) := by decide +kernel
theorem dX7_laysLine_18 : decode cX7_laysLine 18 = .ok (.iconst 0, 1) := by decide +kernel
theorem dX7_laysLine_19 : decode cX7_laysLine 19 = .ok (.iload 5, 2) := by decide +kernel
theorem dX7_laysLine_21 : decode cX7_laysLine 21 = .ok (.iconst 5, 1) := by decide +kernel
theorem dX7_laysLine_22 : decode cX7_laysLine 22 = .ok (.idiv, 1) := by decide +kernel
theorem dX7_laysLine_23 : decode cX7_laysLine 23 = .ok (.iload_n 2, 1) := by decide +kernel
theorem dX7_laysLine_24 : decode cX7_laysLine 24 = .ok (.invokevirtual 78, 3) := by decide +kernel
theorem dX7_laysLine_27 : decode cX7_laysLine 27 = .ok (.ifCond .eq 21, 3) := by decide +kernel
theorem dX7_laysLine_30 : decode cX7_laysLine 30 = .ok (.aload_n 0, 1) := by decide +kernel
theorem dX7_laysLine_31 : decode cX7_laysLine 31 = .ok (.iload_n 1, 1) := by decide +kernel
theorem dX7_laysLine_32 : decode cX7_laysLine 32 = .ok (.iconst 1, 1) := by decide +kernel
theorem dX7_laysLine_33 : decode cX7_laysLine 33 = .ok (.iload 5, 2) := by decide +kernel
theorem dX7_laysLine_35 : decode cX7_laysLine 35 = .ok (.iconst 5, 1) := by decide +kernel
theorem dX7_laysLine_36 : decode cX7_laysLine 36 = .ok (.irem, 1) := by decide +kernel
theorem dX7_laysLine_37 : decode cX7_laysLine 37 = .ok (.iload_n 2, 1) := by decide +kernel
theorem dX7_laysLine_38 : decode cX7_laysLine 38 = .ok (.invokevirtual 78, 3) := by decide +kernel
theorem dX7_laysLine_41 : decode cX7_laysLine 41 = .ok (.ifCond .eq 7, 3) := by decide +kernel
theorem dX7_laysLine_44 : decode cX7_laysLine 44 = .ok (.iconst 1, 1) := by decide +kernel
theorem dX7_laysLine_45 : decode cX7_laysLine 45 = .ok (.goto 4, 3) := by decide +kernel
theorem dX7_laysLine_48 : decode cX7_laysLine 48 = .ok (.iconst 0, 1) := by decide +kernel
theorem dX7_laysLine_49 : decode cX7_laysLine 49 = .ok (.istore 6, 2) := by decide +kernel
theorem dX7_laysLine_51 : decode cX7_laysLine 51 = .ok (.iload 6, 2) := by decide +kernel
theorem dX7_laysLine_53 : decode cX7_laysLine 53 = .ok (.ifCond .eq 36, 3) := by decide +kernel
theorem dX7_laysLine_56 : decode cX7_laysLine 56 = .ok (.aload_n 0, 1) := by decide +kernel
theorem dX7_laysLine_57 : decode cX7_laysLine 57 = .ok (.getfield 35, 3) := by decide +kernel
theorem dX7_laysLine_60 : decode cX7_laysLine 60 = .ok (.iconst 1, 1) := by decide +kernel
theorem dX7_laysLine_61 : decode cX7_laysLine 61 = .ok (.iconst 0, 1) := by decide +kernel
theorem dX7_laysLine_62 : decode cX7_laysLine 62 = .ok (.iload 5, 2) := by decide +kernel
theorem dX7_laysLine_64 : decode cX7_laysLine 64 = .ok (.invokestatic 73, 3) := by decide +kernel
theorem dX7_laysLine_67 : decode cX7_laysLine 67 = .ok (.iaload, 1) := by decide +kernel
theorem dX7_laysLine_68 : decode cX7_laysLine 68 = .ok (.iload_n 3, 1) := by decide +kernel
theorem dX7_laysLine_69 : decode cX7_laysLine 69 = .ok (.if_icmp .ge 20, 3) := by decide +kernel
theorem dX7_laysLine_72 : decode cX7_laysLine 72 = .ok (.aload_n 0, 1) := by decide +kernel
theorem dX7_laysLine_73 : decode cX7_laysLine 73 = .ok (.getfield 35, 3) := by decide +kernel
theorem dX7_laysLine_76 : decode cX7_laysLine 76 = .ok (.iconst 1, 1) := by decide +kernel
theorem dX7_laysLine_77 : decode cX7_laysLine 77 = .ok (.iconst 0, 1) := by decide +kernel
theorem dX7_laysLine_78 : decode cX7_laysLine 78 = .ok (.iload 5, 2) := by decide +kernel
theorem dX7_laysLine_80 : decode cX7_laysLine 80 = .ok (.invokestatic 73, 3) := by decide +kernel
theorem dX7_laysLine_83 : decode cX7_laysLine 83 = .ok (.iaload, 1) := by decide +kernel
theorem dX7_laysLine_84 : decode cX7_laysLine 84 = .ok (.istore_n 3, 1) := by decide +kernel
theorem dX7_laysLine_85 : decode cX7_laysLine 85 = .ok (.iload 5, 2) := by decide +kernel
theorem dX7_laysLine_87 : decode cX7_laysLine 87 = .ok (.istore 4, 2) := by decide +kernel
theorem dX7_laysLine_89 : decode cX7_laysLine 89 = .ok (.iinc 5 1, 3) := by decide +kernel
theorem dX7_laysLine_92 : decode cX7_laysLine 92 = .ok (.goto (-83), 3) := by decide +kernel
theorem dX7_laysLine_95 : decode cX7_laysLine 95 = .ok (.aload_n 0, 1) := by decide +kernel
theorem dX7_laysLine_96 : decode cX7_laysLine 96 = .ok (.getfield 38, 3) := by decide +kernel
theorem dX7_laysLine_99 : decode cX7_laysLine 99 = .ok (.iconst 0, 1) := by decide +kernel
theorem dX7_laysLine_100 : decode cX7_laysLine 100 = .ok (.iload 4, 2) := by decide +kernel
theorem dX7_laysLine_102 : decode cX7_laysLine 102 = .ok (.iconst 5, 1) := by decide +kernel
theorem dX7_laysLine_103 : decode cX7_laysLine 103 = .ok (.idiv, 1) := by decide +kernel
theorem dX7_laysLine_104 : decode cX7_laysLine 104 = .ok (.iastore, 1) := by decide +kernel
theorem dX7_laysLine_105 : decode cX7_laysLine 105 = .ok (.aload_n 0, 1) := by decide +kernel
theorem dX7_laysLine_106 : decode cX7_laysLine 106 = .ok (.getfield 38, 3) := by decide +kernel
theorem dX7_laysLine_109 : decode cX7_laysLine 109 = .ok (.iconst 1, 1) := by decide +kernel
theorem dX7_laysLine_110 : decode cX7_laysLine 110 = .ok (.iload 4, 2) := by decide +kernel
theorem dX7_laysLine_112 : decode cX7_laysLine 112 = .ok (.iconst 5, 1) := by decide +kernel
theorem dX7_laysLine_113 : decode cX7_laysLine 113 = .ok (.irem, 1) := by decide +kernel
theorem dX7_laysLine_114 : decode cX7_laysLine 114 = .ok (.iastore, 1) := by decide +kernel
theorem dX7_laysLine_115 : decode cX7_laysLine 115 = .ok (.iconst 1, 1) := by decide +kernel
theorem dX7_laysLine_116 : decode cX7_laysLine 116 = .ok (.istore 5, 2) := by decide +kernel
theorem dX7_laysLine_118 : decode cX7_laysLine 118 = .ok (.iload 5, 2) := by decide +kernel
theorem dX7_laysLine_120 : decode cX7_laysLine 120 = .ok (.iconst 1, 1) := by decide +kernel
theorem dX7_laysLine_121 : decode cX7_laysLine 121 = .ok (.iadd, 1) := by decide +kernel
theorem dX7_laysLine_122 : decode cX7_laysLine 122 = .ok (.bipush 9, 2) := by decide +kernel
theorem dX7_laysLine_124 : decode cX7_laysLine 124 = .ok (.if_icmp .ge 119, 3) := by decide +kernel
theorem dX7_laysLine_127 : decode cX7_laysLine 127 = .ok (.aload_n 0, 1) := by decide +kernel
theorem dX7_laysLine_128 : decode cX7_laysLine 128 = .ok (.getfield 35, 3) := by decide +kernel
theorem dX7_laysLine_131 : decode cX7_laysLine 131 = .ok (.iload 5, 2) := by decide +kernel
theorem dX7_laysLine_133 : decode cX7_laysLine 133 = .ok (.aload_n 0, 1) := by decide +kernel
theorem dX7_laysLine_134 : decode cX7_laysLine 134 = .ok (.getfield 38, 3) := by decide +kernel
theorem dX7_laysLine_137 : decode cX7_laysLine 137 = .ok (.iload 5, 2) := by decide +kernel
theorem dX7_laysLine_139 : decode cX7_laysLine 139 = .ok (.iconst 1, 1) := by decide +kernel
theorem dX7_laysLine_140 : decode cX7_laysLine 140 = .ok (.isub, 1) := by decide +kernel
theorem dX7_laysLine_141 : decode cX7_laysLine 141 = .ok (.iaload, 1) := by decide +kernel
theorem dX7_laysLine_142 : decode cX7_laysLine 142 = .ok (.aload_n 0, 1) := by decide +kernel
theorem dX7_laysLine_143 : decode cX7_laysLine 143 = .ok (.getfield 38, 3) := by decide +kernel
theorem dX7_laysLine_146 : decode cX7_laysLine 146 = .ok (.iload 5, 2) := by decide +kernel
theorem dX7_laysLine_148 : decode cX7_laysLine 148 = .ok (.iaload, 1) := by decide +kernel
theorem dX7_laysLine_149 : decode cX7_laysLine 149 = .ok (.invokestatic 73, 3) := by decide +kernel
theorem dX7_laysLine_152 : decode cX7_laysLine 152 = .ok (.iaload, 1) := by decide +kernel
theorem dX7_laysLine_153 : decode cX7_laysLine 153 = .ok (.istore 6, 2) := by decide +kernel
theorem dX7_laysLine_155 : decode cX7_laysLine 155 = .ok (.iconst (-1), 1) := by decide +kernel
theorem dX7_laysLine_156 : decode cX7_laysLine 156 = .ok (.istore 7, 2) := by decide +kernel
theorem dX7_laysLine_158 : decode cX7_laysLine 158 = .ok (.iconst 4, 1) := by decide +kernel
theorem dX7_laysLine_159 : decode cX7_laysLine 159 = .ok (.istore 8, 2) := by decide +kernel
theorem dX7_laysLine_161 : decode cX7_laysLine 161 = .ok (.iload 8, 2) := by decide +kernel
theorem dX7_laysLine_163 : decode cX7_laysLine 163 = .ok (.ifCond .lt 63, 3) := by decide +kernel
theorem dX7_laysLine_166 : decode cX7_laysLine 166 = .ok (.aload_n 0, 1) := by decide +kernel
theorem dX7_laysLine_167 : decode cX7_laysLine 167 = .ok (.iload_n 1, 1) := by decide +kernel
theorem dX7_laysLine_168 : decode cX7_laysLine 168 = .ok (.iload 5, 2) := by decide +kernel
theorem dX7_laysLine_170 : decode cX7_laysLine 170 = .ok (.iconst 1, 1) := by decide +kernel
theorem dX7_laysLine_171 : decode cX7_laysLine 171 = .ok (.iadd, 1) := by decide +kernel
theorem dX7_laysLine_172 : decode cX7_laysLine 172 = .ok (.iload 8, 2) := by decide +kernel
theorem dX7_laysLine_174 : decode cX7_laysLine 174 = .ok (.iload_n 2, 1) := by decide +kernel
theorem dX7_laysLine_175 : decode cX7_laysLine 175 = .ok (.invokevirtual 78, 3) := by decide +kernel
theorem dX7_laysLine_178 : decode cX7_laysLine 178 = .ok (.ifCond .eq 38, 3) := by decide +kernel
theorem dX7_laysLine_181 : decode cX7_laysLine 181 = .ok (.aload_n 0, 1) := by decide +kernel
theorem dX7_laysLine_182 : decode cX7_laysLine 182 = .ok (.iload_n 1, 1) := by decide +kernel
theorem dX7_laysLine_183 : decode cX7_laysLine 183 = .ok (.iload 5, 2) := by decide +kernel
theorem dX7_laysLine_185 : decode cX7_laysLine 185 = .ok (.aload_n 0, 1) := by decide +kernel
theorem dX7_laysLine_186 : decode cX7_laysLine 186 = .ok (.getfield 38, 3) := by decide +kernel
theorem dX7_laysLine_189 : decode cX7_laysLine 189 = .ok (.iload 5, 2) := by decide +kernel
theorem dX7_laysLine_191 : decode cX7_laysLine 191 = .ok (.iconst 1, 1) := by decide +kernel
theorem dX7_laysLine_192 : decode cX7_laysLine 192 = .ok (.isub, 1) := by decide +kernel
theorem dX7_laysLine_193 : decode cX7_laysLine 193 = .ok (.iaload, 1) := by decide +kernel
theorem dX7_laysLine_194 : decode cX7_laysLine 194 = .ok (.aload_n 0, 1) := by decide +kernel
theorem dX7_laysLine_195 : decode cX7_laysLine 195 = .ok (.getfield 38, 3) := by decide +kernel
theorem dX7_laysLine_198 : decode cX7_laysLine 198 = .ok (.iload 5, 2) := by decide +kernel
theorem dX7_laysLine_200 : decode cX7_laysLine 200 = .ok (.iaload, 1) := by decide +kernel
theorem dX7_laysLine_201 : decode cX7_laysLine 201 = .ok (.iload 8, 2) := by decide +kernel
theorem dX7_laysLine_203 : decode cX7_laysLine 203 = .ok (.invokevirtual 82, 3) := by decide +kernel
theorem dX7_laysLine_206 : decode cX7_laysLine 206 = .ok (.iload 6, 2) := by decide +kernel
theorem dX7_laysLine_208 : decode cX7_laysLine 208 = .ok (.if_icmp .ne 8, 3) := by decide +kernel
theorem dX7_laysLine_211 : decode cX7_laysLine 211 = .ok (.iload 8, 2) := by decide +kernel
theorem dX7_laysLine_213 : decode cX7_laysLine 213 = .ok (.goto 5, 3) := by decide +kernel
theorem dX7_laysLine_216 : decode cX7_laysLine 216 = .ok (.iload 7, 2) := by decide +kernel
theorem dX7_laysLine_218 : decode cX7_laysLine 218 = .ok (.istore 7, 2) := by decide +kernel
theorem dX7_laysLine_220 : decode cX7_laysLine 220 = .ok (.iinc 8 (-1), 3) := by decide +kernel
theorem dX7_laysLine_223 : decode cX7_laysLine 223 = .ok (.goto (-62), 3) := by decide +kernel
theorem dX7_laysLine_226 : decode cX7_laysLine 226 = .ok (.aload_n 0, 1) := by decide +kernel
theorem dX7_laysLine_227 : decode cX7_laysLine 227 = .ok (.getfield 38, 3) := by decide +kernel
theorem dX7_laysLine_230 : decode cX7_laysLine 230 = .ok (.iload 5, 2) := by decide +kernel
theorem dX7_laysLine_232 : decode cX7_laysLine 232 = .ok (.iconst 1, 1) := by decide +kernel
theorem dX7_laysLine_233 : decode cX7_laysLine 233 = .ok (.iadd, 1) := by decide +kernel
theorem dX7_laysLine_234 : decode cX7_laysLine 234 = .ok (.iload 7, 2) := by decide +kernel
theorem dX7_laysLine_236 : decode cX7_laysLine 236 = .ok (.iastore, 1) := by decide +kernel
theorem dX7_laysLine_237 : decode cX7_laysLine 237 = .ok (.iinc 5 1, 3) := by decide +kernel
theorem dX7_laysLine_240 : decode cX7_laysLine 240 = .ok (.goto (-122), 3) := by decide +kernel
theorem dX7_laysLine_243 : decode cX7_laysLine 243 = .ok (.return_, 1) := by decide +kernel
set_option maxRecDepth 20000 in
theorem ggX7_fair_X7_isWaterline : GoodIn wsX7_fair wsX7_isWaterline := goodIn_r _ [8, 9, 10, 7, 11] (by decide +kernel) (by decide +kernel)
set_option maxRecDepth 20000 in
theorem gX7_fair_X7_isWaterline : GoodIn wsX7_fair (va_wsS RX7 52 yX7_isWaterline wsX7_isWaterline) := goodIn_app (goodIn_of _ (by decide +kernel)) ggX7_fair_X7_isWaterline
set_option maxRecDepth 20000 in
theorem ggX7_fair_X7_in : GoodIn wsX7_fair wsX7_in := goodIn_r _ [11] (by decide +kernel) (by decide +kernel)
set_option maxRecDepth 20000 in
theorem gX7_fair_X7_in : GoodIn wsX7_fair (va_wsS RX7 44 yX7_in wsX7_in) := goodIn_app (goodIn_of _ (by decide +kernel)) ggX7_fair_X7_in
set_option maxRecDepth 20000 in
theorem ggX7_fair_X7_bendOf : GoodIn wsX7_fair wsX7_bendOf := goodIn_r _ [15, 16, 17, 18, 7, 19, 3, 20, 21, 22, 51, 52, 53, 54, 55, 56, 57, 58, 59, 60, 61, 62, 63, 64, 65, 66] (by decide +kernel) (by decide +kernel)
set_option maxRecDepth 20000 in
theorem gX7_fair_X7_bendOf : GoodIn wsX7_fair (wsV RX7 67 RX7 yX7_bendOf wsX7_bendOf) := goodIn_app (goodIn_of _ (by decide +kernel)) ggX7_fair_X7_bendOf
set_option maxRecDepth 20000 in
theorem ggX7_fair_X7_findsBehind : GoodIn wsX7_fair wsX7_findsBehind := goodIn_r _ [26, 27, 28, 29, 7, 30, 31, 32, 33, 34, 35, 36, 37, 38, 39, 40, 41, 42, 16, 17, 18, 19, 3, 9, 10, 11, 43, 44, 45, 46, 20, 21, 22, 51, 52, 53, 54, 55, 56, 57, 58, 59, 60, 61, 62, 63, 64, 65, 66] (by decide +kernel) (by decide +kernel)
set_option maxRecDepth 20000 in
theorem gX7_fair_X7_findsBehind : GoodIn wsX7_fair (wsV RX7 89 RX7 yX7_findsBehind wsX7_findsBehind) := goodIn_app (goodIn_of _ (by decide +kernel)) ggX7_fair_X7_findsBehind
set_option maxRecDepth 20000 in
theorem ggX7_fair_X7_laysLine : GoodIn wsX7_fair wsX7_laysLine := goodIn_r _ [50, 35, 27, 4, 36, 37, 38, 7, 39, 40, 41, 42, 16, 17, 18, 19, 3, 9, 10, 11, 28, 29, 30, 43, 44, 45, 46, 20, 21, 22, 51, 52, 53, 54, 55, 56, 57, 58, 59, 60, 61, 62, 63, 64, 65, 66] (by decide +kernel) (by decide +kernel)
set_option maxRecDepth 20000 in
theorem gX7_fair_X7_laysLine : GoodIn wsX7_fair (wsV RX7 93 RX7 yX7_laysLine wsX7_laysLine) := goodIn_app (goodIn_of _ (by decide +kernel)) ggX7_fair_X7_laysLine
theorem dX7_fair_0 : decode cX7_fair 0 = .ok (.aload_n 0, 1) := by decide +kernel
theorem dX7_fair_1 : decode cX7_fair 1 = .ok (.iload_n 1, 1) := by decide +kernel
theorem dX7_fair_2 : decode cX7_fair 2 = .ok (.invokestatic 52, 3) := by decide +kernel
theorem dX7_fair_5 : decode cX7_fair 5 = .ok (.ifCond .ne 7, 3) := by decide +kernel
theorem dX7_fair_8 : decode cX7_fair 8 = .ok (.iconst 1, 1) := by decide +kernel
theorem dX7_fair_9 : decode cX7_fair 9 = .ok (.goto 28, 3) := by decide +kernel
theorem dX7_fair_12 : decode cX7_fair 12 = .ok (.iload_n 2, 1) := by decide +kernel
theorem dX7_fair_13 : decode cX7_fair 13 = .ok (.iconst 0, 1) := by decide +kernel
theorem dX7_fair_14 : decode cX7_fair 14 = .ok (.iconst 2, 1) := by decide +kernel
theorem dX7_fair_15 : decode cX7_fair 15 = .ok (.invokestatic 44, 3) := by decide +kernel
theorem dX7_fair_18 : decode cX7_fair 18 = .ok (.ifCond .ne 7, 3) := by decide +kernel
theorem dX7_fair_21 : decode cX7_fair 21 = .ok (.iconst 2, 1) := by decide +kernel
theorem dX7_fair_22 : decode cX7_fair 22 = .ok (.goto 15, 3) := by decide +kernel
theorem dX7_fair_25 : decode cX7_fair 25 = .ok (.aload_n 0, 1) := by decide +kernel
theorem dX7_fair_26 : decode cX7_fair 26 = .ok (.getfield 55, 3) := by decide +kernel
theorem dX7_fair_29 : decode cX7_fair 29 = .ok (.ifCond .eq 7, 3) := by decide +kernel
theorem dX7_fair_32 : decode cX7_fair 32 = .ok (.iconst 3, 1) := by decide +kernel
theorem dX7_fair_33 : decode cX7_fair 33 = .ok (.goto 4, 3) := by decide +kernel
theorem dX7_fair_36 : decode cX7_fair 36 = .ok (.iconst 0, 1) := by decide +kernel
theorem dX7_fair_37 : decode cX7_fair 37 = .ok (.putfield 41, 3) := by decide +kernel
theorem dX7_fair_40 : decode cX7_fair 40 = .ok (.aload_n 0, 1) := by decide +kernel
theorem dX7_fair_41 : decode cX7_fair 41 = .ok (.getfield 41, 3) := by decide +kernel
theorem dX7_fair_44 : decode cX7_fair 44 = .ok (.ifCond .le 5, 3) := by decide +kernel
theorem dX7_fair_47 : decode cX7_fair 47 = .ok (.iconst 0, 1) := by decide +kernel
theorem dX7_fair_48 : decode cX7_fair 48 = .ok (.ireturn, 1) := by decide +kernel
theorem dX7_fair_49 : decode cX7_fair 49 = .ok (.aload_n 0, 1) := by decide +kernel
theorem dX7_fair_50 : decode cX7_fair 50 = .ok (.iload_n 1, 1) := by decide +kernel
theorem dX7_fair_51 : decode cX7_fair 51 = .ok (.invokevirtual 67, 3) := by decide +kernel
theorem dX7_fair_54 : decode cX7_fair 54 = .ok (.istore_n 3, 1) := by decide +kernel
theorem dX7_fair_55 : decode cX7_fair 55 = .ok (.aload_n 0, 1) := by decide +kernel
theorem dX7_fair_56 : decode cX7_fair 56 = .ok (.iload_n 1, 1) := by decide +kernel
theorem dX7_fair_57 : decode cX7_fair 57 = .ok (.iload_n 2, 1) := by decide +kernel
theorem dX7_fair_58 : decode cX7_fair 58 = .ok (.invokevirtual 89, 3) := by decide +kernel
theorem dX7_fair_61 : decode cX7_fair 61 = .ok (.aload_n 0, 1) := by decide +kernel
theorem dX7_fair_62 : decode cX7_fair 62 = .ok (.iload_n 1, 1) := by decide +kernel
theorem dX7_fair_63 : decode cX7_fair 63 = .ok (.iload_n 2, 1) := by decide +kernel
theorem dX7_fair_64 : decode cX7_fair 64 = .ok (.invokevirtual 93, 3) := by decide +kernel
theorem dX7_fair_67 : decode cX7_fair 67 = .ok (.iconst 0, 1) := by decide +kernel
theorem dX7_fair_68 : decode cX7_fair 68 = .ok (.istore 4, 2) := by decide +kernel
theorem dX7_fair_70 : decode cX7_fair 70 = .ok (.iload 4, 2) := by decide +kernel
theorem dX7_fair_72 : decode cX7_fair 72 = .ok (.bipush 9, 2) := by decide +kernel
theorem dX7_fair_74 : decode cX7_fair 74 = .ok (.if_icmp .ge 33, 3) := by decide +kernel
theorem dX7_fair_77 : decode cX7_fair 77 = .ok (.aload_n 0, 1) := by decide +kernel
theorem dX7_fair_78 : decode cX7_fair 78 = .ok (.getfield 7, 3) := by decide +kernel
theorem dX7_fair_81 : decode cX7_fair 81 = .ok (.bipush 9, 2) := by decide +kernel
theorem dX7_fair_83 : decode cX7_fair 83 = .ok (.iload_n 1, 1) := by decide +kernel
theorem dX7_fair_84 : decode cX7_fair 84 = .ok (.imul, 1) := by decide +kernel
theorem dX7_fair_85 : decode cX7_fair 85 = .ok (.iload 4, 2) := by decide +kernel
theorem dX7_fair_87 : decode cX7_fair 87 = .ok (.iadd, 1) := by decide +kernel
theorem dX7_fair_88 : decode cX7_fair 88 = .ok (.dup2, 1) := by decide +kernel
theorem dX7_fair_89 : decode cX7_fair 89 = .ok (.iaload, 1) := by decide +kernel
theorem dX7_fair_90 : decode cX7_fair 90 = .ok (.aload_n 0, 1) := by decide +kernel
theorem dX7_fair_91 : decode cX7_fair 91 = .ok (.getfield 38, 3) := by decide +kernel
theorem dX7_fair_94 : decode cX7_fair 94 = .ok (.iload 4, 2) := by decide +kernel
theorem dX7_fair_96 : decode cX7_fair 96 = .ok (.iaload, 1) := by decide +kernel
theorem dX7_fair_97 : decode cX7_fair 97 = .ok (.iconst 2, 1) := by decide +kernel
theorem dX7_fair_98 : decode cX7_fair 98 = .ok (.isub, 1) := by decide +kernel
theorem dX7_fair_99 : decode cX7_fair 99 = .ok (.iadd, 1) := by decide +kernel
theorem dX7_fair_100 : decode cX7_fair 100 = .ok (.iastore, 1) := by decide +kernel
theorem dX7_fair_101 : decode cX7_fair 101 = .ok (.iinc 4 1, 3) := by decide +kernel
theorem dX7_fair_104 : decode cX7_fair 104 = .ok (.goto (-34), 3) := by decide +kernel
theorem dX7_fair_107 : decode cX7_fair 107 = .ok (.iload_n 3, 1) := by decide +kernel
theorem dX7_fair_108 : decode cX7_fair 108 = .ok (.aload_n 0, 1) := by decide +kernel
theorem dX7_fair_109 : decode cX7_fair 109 = .ok (.iload_n 1, 1) := by decide +kernel
theorem dX7_fair_110 : decode cX7_fair 110 = .ok (.invokevirtual 67, 3) := by decide +kernel
theorem dX7_fair_113 : decode cX7_fair 113 = .ok (.isub, 1) := by decide +kernel
theorem dX7_fair_114 : decode cX7_fair 114 = .ok (.ireturn, 1) := by decide +kernel
set_option maxRecDepth 20000 in
theorem ggX7_areaOf_X7_halfAt : GoodIn wsX7_areaOf wsX7_halfAt := goodIn_r _ [5, 6, 7, 8, 9, 10, 11, 12, 13, 14, 15, 16, 17, 18, 19, 20, 21, 22] (by decide +kernel) (by decide +kernel)
set_option maxRecDepth 20000 in
theorem gX7_areaOf_X7_halfAt : GoodIn wsX7_areaOf (wsV RX7 59 RX7 yX7_halfAt wsX7_halfAt) := goodIn_app (goodIn_of _ (by decide +kernel)) ggX7_areaOf_X7_halfAt
theorem dX7_areaOf_0 : decode cX7_areaOf 0 = .ok (.iconst 0, 1) := by decide +kernel
theorem dX7_areaOf_1 : decode cX7_areaOf 1 = .ok (.istore_n 3, 1) := by decide +kernel
theorem dX7_areaOf_2 : decode cX7_areaOf 2 = .ok (.iconst 0, 1) := by decide +kernel
theorem dX7_areaOf_3 : decode cX7_areaOf 3 = .ok (.istore 4, 2) := by decide +kernel
theorem dX7_areaOf_5 : decode cX7_areaOf 5 = .ok (.iload 4, 2) := by decide +kernel
theorem dX7_areaOf_7 : decode cX7_areaOf 7 = .ok (.iload_n 2, 1) := by decide +kernel
theorem dX7_areaOf_8 : decode cX7_areaOf 8 = .ok (.if_icmp .ge 29, 3) := by decide +kernel
theorem dX7_areaOf_11 : decode cX7_areaOf 11 = .ok (.iload_n 3, 1) := by decide +kernel
theorem dX7_areaOf_12 : decode cX7_areaOf 12 = .ok (.aload_n 0, 1) := by decide +kernel
theorem dX7_areaOf_13 : decode cX7_areaOf 13 = .ok (.iload_n 1, 1) := by decide +kernel
theorem dX7_areaOf_14 : decode cX7_areaOf 14 = .ok (.iload 4, 2) := by decide +kernel
theorem dX7_areaOf_16 : decode cX7_areaOf 16 = .ok (.invokevirtual 59, 3) := by decide +kernel
theorem dX7_areaOf_19 : decode cX7_areaOf 19 = .ok (.aload_n 0, 1) := by decide +kernel
theorem dX7_areaOf_20 : decode cX7_areaOf 20 = .ok (.iload_n 1, 1) := by decide +kernel
theorem dX7_areaOf_21 : decode cX7_areaOf 21 = .ok (.iload 4, 2) := by decide +kernel
theorem dX7_areaOf_23 : decode cX7_areaOf 23 = .ok (.iconst 1, 1) := by decide +kernel
theorem dX7_areaOf_24 : decode cX7_areaOf 24 = .ok (.iadd, 1) := by decide +kernel
theorem dX7_areaOf_25 : decode cX7_areaOf 25 = .ok (.invokevirtual 59, 3) := by decide +kernel
theorem dX7_areaOf_28 : decode cX7_areaOf 28 = .ok (.iadd, 1) := by decide +kernel
theorem dX7_areaOf_29 : decode cX7_areaOf 29 = .ok (.iadd, 1) := by decide +kernel
theorem dX7_areaOf_30 : decode cX7_areaOf 30 = .ok (.istore_n 3, 1) := by decide +kernel
theorem dX7_areaOf_31 : decode cX7_areaOf 31 = .ok (.iinc 4 1, 3) := by decide +kernel
theorem dX7_areaOf_34 : decode cX7_areaOf 34 = .ok (.goto (-29), 3) := by decide +kernel
theorem dX7_areaOf_37 : decode cX7_areaOf 37 = .ok (.iload_n 3, 1) := by decide +kernel
theorem dX7_areaOf_38 : decode cX7_areaOf 38 = .ok (.ireturn, 1) := by decide +kernel
set_option maxRecDepth 20000 in
theorem ggX7_area_X7_isStation : GoodIn wsX7_area wsX7_isStation := goodIn_r _ [5, 6, 7, 4, 8] (by decide +kernel) (by decide +kernel)
set_option maxRecDepth 20000 in
theorem gX7_area_X7_isStation : GoodIn wsX7_area (va_wsS RX7 48 yX7_isStation wsX7_isStation) := goodIn_app (goodIn_of _ (by decide +kernel)) ggX7_area_X7_isStation
set_option maxRecDepth 20000 in
theorem ggX7_area_X7_isWaterline : GoodIn wsX7_area wsX7_isWaterline := goodIn_r _ [11, 6, 7, 4, 8] (by decide +kernel) (by decide +kernel)
set_option maxRecDepth 20000 in
theorem gX7_area_X7_isWaterline : GoodIn wsX7_area (va_wsS RX7 52 yX7_isWaterline wsX7_isWaterline) := goodIn_app (goodIn_of _ (by decide +kernel)) ggX7_area_X7_isWaterline
set_option maxRecDepth 20000 in
theorem ggX7_area_X7_areaOf : GoodIn wsX7_area wsX7_areaOf := goodIn_r _ [15, 16, 17, 18, 4, 19, 20, 21, 22, 23, 24, 25, 26, 27, 28, 29, 30, 31, 32, 33, 34, 35, 36] (by decide +kernel) (by decide +kernel)
set_option maxRecDepth 20000 in
theorem gX7_area_X7_areaOf : GoodIn wsX7_area (wsV RX7 96 RX7 yX7_areaOf wsX7_areaOf) := goodIn_app (goodIn_of _ (by decide +kernel)) ggX7_area_X7_areaOf
theorem dX7_area_0 : decode cX7_area 0 = .ok (.aload_n 0, 1) := by decide +kernel
theorem dX7_area_1 : decode cX7_area 1 = .ok (.iload_n 1, 1) := by decide +kernel
theorem dX7_area_2 : decode cX7_area 2 = .ok (.invokestatic 48, 3) := by decide +kernel
theorem dX7_area_5 : decode cX7_area 5 = .ok (.ifCond .eq 14, 3) := by decide +kernel
theorem dX7_area_8 : decode cX7_area 8 = .ok (.iload_n 2, 1) := by decide +kernel
theorem dX7_area_9 : decode cX7_area 9 = .ok (.invokestatic 52, 3) := by decide +kernel
theorem dX7_area_12 : decode cX7_area 12 = .ok (.ifCond .eq 7, 3) := by decide +kernel
theorem dX7_area_15 : decode cX7_area 15 = .ok (.iconst 0, 1) := by decide +kernel
theorem dX7_area_16 : decode cX7_area 16 = .ok (.goto 4, 3) := by decide +kernel
theorem dX7_area_19 : decode cX7_area 19 = .ok (.iconst 1, 1) := by decide +kernel
theorem dX7_area_20 : decode cX7_area 20 = .ok (.putfield 41, 3) := by decide +kernel
theorem dX7_area_23 : decode cX7_area 23 = .ok (.aload_n 0, 1) := by decide +kernel
theorem dX7_area_24 : decode cX7_area 24 = .ok (.getfield 41, 3) := by decide +kernel
theorem dX7_area_27 : decode cX7_area 27 = .ok (.ifCond .le 7, 3) := by decide +kernel
theorem dX7_area_30 : decode cX7_area 30 = .ok (.iconst 0, 1) := by decide +kernel
theorem dX7_area_31 : decode cX7_area 31 = .ok (.goto 9, 3) := by decide +kernel
theorem dX7_area_34 : decode cX7_area 34 = .ok (.aload_n 0, 1) := by decide +kernel
theorem dX7_area_35 : decode cX7_area 35 = .ok (.iload_n 1, 1) := by decide +kernel
theorem dX7_area_36 : decode cX7_area 36 = .ok (.iload_n 2, 1) := by decide +kernel
theorem dX7_area_37 : decode cX7_area 37 = .ok (.invokevirtual 96, 3) := by decide +kernel
theorem dX7_area_40 : decode cX7_area 40 = .ok (.ireturn, 1) := by decide +kernel
set_option maxRecDepth 20000 in
theorem ggX7_volumeOf_X7_areaOf : GoodIn wsX7_volumeOf wsX7_areaOf := goodIn_r _ [5, 6, 7, 8, 4, 9, 10, 11, 12, 13, 14, 15, 16, 17, 18, 19, 20, 21, 22, 23, 24, 25, 26] (by decide +kernel) (by decide +kernel)
set_option maxRecDepth 20000 in
theorem gX7_volumeOf_X7_areaOf : GoodIn wsX7_volumeOf (wsV RX7 96 RX7 yX7_areaOf wsX7_areaOf) := goodIn_app (goodIn_of _ (by decide +kernel)) ggX7_volumeOf_X7_areaOf
theorem dX7_volumeOf_0 : decode cX7_volumeOf 0 = .ok (.iconst 0, 1) := by decide +kernel
theorem dX7_volumeOf_1 : decode cX7_volumeOf 1 = .ok (.istore_n 2, 1) := by decide +kernel
theorem dX7_volumeOf_2 : decode cX7_volumeOf 2 = .ok (.iconst 0, 1) := by decide +kernel
theorem dX7_volumeOf_3 : decode cX7_volumeOf 3 = .ok (.istore_n 3, 1) := by decide +kernel
theorem dX7_volumeOf_4 : decode cX7_volumeOf 4 = .ok (.iload_n 3, 1) := by decide +kernel
theorem dX7_volumeOf_5 : decode cX7_volumeOf 5 = .ok (.iconst 1, 1) := by decide +kernel
theorem dX7_volumeOf_6 : decode cX7_volumeOf 6 = .ok (.iadd, 1) := by decide +kernel
theorem dX7_volumeOf_7 : decode cX7_volumeOf 7 = .ok (.bipush 9, 2) := by decide +kernel
theorem dX7_volumeOf_9 : decode cX7_volumeOf 9 = .ok (.if_icmp .ge 27, 3) := by decide +kernel
theorem dX7_volumeOf_12 : decode cX7_volumeOf 12 = .ok (.iload_n 2, 1) := by decide +kernel
theorem dX7_volumeOf_13 : decode cX7_volumeOf 13 = .ok (.aload_n 0, 1) := by decide +kernel
theorem dX7_volumeOf_14 : decode cX7_volumeOf 14 = .ok (.iload_n 3, 1) := by decide +kernel
theorem dX7_volumeOf_15 : decode cX7_volumeOf 15 = .ok (.iload_n 1, 1) := by decide +kernel
theorem dX7_volumeOf_16 : decode cX7_volumeOf 16 = .ok (.invokevirtual 96, 3) := by decide +kernel
theorem dX7_volumeOf_19 : decode cX7_volumeOf 19 = .ok (.aload_n 0, 1) := by decide +kernel
theorem dX7_volumeOf_20 : decode cX7_volumeOf 20 = .ok (.iload_n 3, 1) := by decide +kernel
theorem dX7_volumeOf_21 : decode cX7_volumeOf 21 = .ok (.iconst 1, 1) := by decide +kernel
theorem dX7_volumeOf_22 : decode cX7_volumeOf 22 = .ok (.iadd, 1) := by decide +kernel
theorem dX7_volumeOf_23 : decode cX7_volumeOf 23 = .ok (.iload_n 1, 1) := by decide +kernel
theorem dX7_volumeOf_24 : decode cX7_volumeOf 24 = .ok (.invokevirtual 96, 3) := by decide +kernel
theorem dX7_volumeOf_27 : decode cX7_volumeOf 27 = .ok (.iadd, 1) := by decide +kernel
theorem dX7_volumeOf_28 : decode cX7_volumeOf 28 = .ok (.iadd, 1) := by decide +kernel
theorem dX7_volumeOf_29 : decode cX7_volumeOf 29 = .ok (.istore_n 2, 1) := by decide +kernel
theorem dX7_volumeOf_30 : decode cX7_volumeOf 30 = .ok (.iinc 3 1, 3) := by decide +kernel
theorem dX7_volumeOf_33 : decode cX7_volumeOf 33 = .ok (.goto (-29), 3) := by decide +kernel
theorem dX7_volumeOf_36 : decode cX7_volumeOf 36 = .ok (.iload_n 2, 1) := by decide +kernel
theorem dX7_volumeOf_37 : decode cX7_volumeOf 37 = .ok (.ireturn, 1) := by decide +kernel
set_option maxRecDepth 20000 in
theorem ggX7_volume_X7_isWaterline : GoodIn wsX7_volume wsX7_isWaterline := goodIn_r _ [5, 6, 7, 4, 8] (by decide +kernel) (by decide +kernel)
set_option maxRecDepth 20000 in
theorem gX7_volume_X7_isWaterline : GoodIn wsX7_volume (va_wsS RX7 52 yX7_isWaterline wsX7_isWaterline) := goodIn_app (goodIn_of _ (by decide +kernel)) ggX7_volume_X7_isWaterline
set_option maxRecDepth 20000 in
theorem ggX7_volume_X7_volumeOf : GoodIn wsX7_volume wsX7_volumeOf := goodIn_r _ [12, 13, 14, 15, 4, 16, 17, 18, 19, 20, 21, 22, 23, 24, 25, 26, 27, 28, 29, 30, 31, 32, 33, 34, 35, 36, 37] (by decide +kernel) (by decide +kernel)
set_option maxRecDepth 20000 in
theorem gX7_volume_X7_volumeOf : GoodIn wsX7_volume (wsV RX7 99 RX7 yX7_volumeOf wsX7_volumeOf) := goodIn_app (goodIn_of _ (by decide +kernel)) ggX7_volume_X7_volumeOf
theorem dX7_volume_0 : decode cX7_volume 0 = .ok (.aload_n 0, 1) := by decide +kernel
theorem dX7_volume_1 : decode cX7_volume 1 = .ok (.iload_n 1, 1) := by decide +kernel
theorem dX7_volume_2 : decode cX7_volume 2 = .ok (.invokestatic 52, 3) := by decide +kernel
theorem dX7_volume_5 : decode cX7_volume 5 = .ok (.ifCond .eq 7, 3) := by decide +kernel
theorem dX7_volume_8 : decode cX7_volume 8 = .ok (.iconst 0, 1) := by decide +kernel
theorem dX7_volume_9 : decode cX7_volume 9 = .ok (.goto 4, 3) := by decide +kernel
theorem dX7_volume_12 : decode cX7_volume 12 = .ok (.iconst 1, 1) := by decide +kernel
theorem dX7_volume_13 : decode cX7_volume 13 = .ok (.putfield 41, 3) := by decide +kernel
theorem dX7_volume_16 : decode cX7_volume 16 = .ok (.aload_n 0, 1) := by decide +kernel
theorem dX7_volume_17 : decode cX7_volume 17 = .ok (.getfield 41, 3) := by decide +kernel
theorem dX7_volume_20 : decode cX7_volume 20 = .ok (.ifCond .le 7, 3) := by decide +kernel
theorem dX7_volume_23 : decode cX7_volume 23 = .ok (.iconst 0, 1) := by decide +kernel
theorem dX7_volume_24 : decode cX7_volume 24 = .ok (.goto 8, 3) := by decide +kernel
theorem dX7_volume_27 : decode cX7_volume 27 = .ok (.aload_n 0, 1) := by decide +kernel
theorem dX7_volume_28 : decode cX7_volume 28 = .ok (.iload_n 1, 1) := by decide +kernel
theorem dX7_volume_29 : decode cX7_volume 29 = .ok (.invokevirtual 99, 3) := by decide +kernel
theorem dX7_volume_32 : decode cX7_volume 32 = .ok (.ireturn, 1) := by decide +kernel
set_option maxRecDepth 20000 in
theorem ggX7_volumeAnew_X7_volume : GoodIn wsX7_volumeAnew wsX7_volume := goodIn_r _ [5, 6, 7, 8, 4, 9, 10, 11, 12, 13, 14, 15, 16, 17, 18, 19, 20, 21, 22, 23, 24, 25, 26, 27, 28, 29, 30, 31, 32, 33, 34, 35, 36, 37, 38, 39, 40, 41] (by decide +kernel) (by decide +kernel)
set_option maxRecDepth 20000 in
theorem gX7_volumeAnew_X7_volume : GoodIn wsX7_volumeAnew (wsV RX7 102 RX7 yX7_volume wsX7_volume) := goodIn_app (goodIn_of _ (by decide +kernel)) ggX7_volumeAnew_X7_volume
theorem dX7_volumeAnew_0 : decode cX7_volumeAnew 0 = .ok (.aload_n 0, 1) := by decide +kernel
theorem dX7_volumeAnew_1 : decode cX7_volumeAnew 1 = .ok (.iload_n 1, 1) := by decide +kernel
theorem dX7_volumeAnew_2 : decode cX7_volumeAnew 2 = .ok (.invokevirtual 102, 3) := by decide +kernel
theorem dX7_volumeAnew_5 : decode cX7_volumeAnew 5 = .ok (.ireturn, 1) := by decide +kernel
set_option maxRecDepth 20000 in
theorem ggX7_momentOf_X7_areaOf : GoodIn wsX7_momentOf wsX7_areaOf := goodIn_r _ [5, 6, 7, 8, 4, 9, 10, 11, 12, 13, 14, 15, 16, 17, 18, 19, 20, 21, 22, 23, 24, 25, 26] (by decide +kernel) (by decide +kernel)
set_option maxRecDepth 20000 in
theorem gX7_momentOf_X7_areaOf : GoodIn wsX7_momentOf (wsV RX7 96 RX7 yX7_areaOf wsX7_areaOf) := goodIn_app (goodIn_of _ (by decide +kernel)) ggX7_momentOf_X7_areaOf
theorem dX7_momentOf_0 : decode cX7_momentOf 0 = .ok (.iconst 0, 1) := by decide +kernel
theorem dX7_momentOf_1 : decode cX7_momentOf 1 = .ok (.istore_n 2, 1) := by decide +kernel
theorem dX7_momentOf_2 : decode cX7_momentOf 2 = .ok (.iconst 0, 1) := by decide +kernel
theorem dX7_momentOf_3 : decode cX7_momentOf 3 = .ok (.istore_n 3, 1) := by decide +kernel
theorem dX7_momentOf_4 : decode cX7_momentOf 4 = .ok (.iload_n 3, 1) := by decide +kernel
theorem dX7_momentOf_5 : decode cX7_momentOf 5 = .ok (.iconst 1, 1) := by decide +kernel
theorem dX7_momentOf_6 : decode cX7_momentOf 6 = .ok (.iadd, 1) := by decide +kernel
theorem dX7_momentOf_7 : decode cX7_momentOf 7 = .ok (.bipush 9, 2) := by decide +kernel
theorem dX7_momentOf_9 : decode cX7_momentOf 9 = .ok (.if_icmp .ge 33, 3) := by decide +kernel
theorem dX7_momentOf_12 : decode cX7_momentOf 12 = .ok (.iload_n 2, 1) := by decide +kernel
theorem dX7_momentOf_13 : decode cX7_momentOf 13 = .ok (.iconst 2, 1) := by decide +kernel
theorem dX7_momentOf_14 : decode cX7_momentOf 14 = .ok (.iload_n 3, 1) := by decide +kernel
theorem dX7_momentOf_15 : decode cX7_momentOf 15 = .ok (.imul, 1) := by decide +kernel
theorem dX7_momentOf_16 : decode cX7_momentOf 16 = .ok (.iconst 1, 1) := by decide +kernel
theorem dX7_momentOf_17 : decode cX7_momentOf 17 = .ok (.iadd, 1) := by decide +kernel
theorem dX7_momentOf_18 : decode cX7_momentOf 18 = .ok (.aload_n 0, 1) := by decide +kernel
theorem dX7_momentOf_19 : decode cX7_momentOf 19 = .ok (.iload_n 3, 1) := by decide +kernel
theorem dX7_momentOf_20 : decode cX7_momentOf 20 = .ok (.iload_n 1, 1) := by decide +kernel
theorem dX7_momentOf_21 : decode cX7_momentOf 21 = .ok (.invokevirtual 96, 3) := by decide +kernel
theorem dX7_momentOf_24 : decode cX7_momentOf 24 = .ok (.aload_n 0, 1) := by decide +kernel
theorem dX7_momentOf_25 : decode cX7_momentOf 25 = .ok (.iload_n 3, 1) := by decide +kernel
theorem dX7_momentOf_26 : decode cX7_momentOf 26 = .ok (.iconst 1, 1) := by decide +kernel
theorem dX7_momentOf_27 : decode cX7_momentOf 27 = .ok (.iadd, 1) := by decide +kernel
theorem dX7_momentOf_28 : decode cX7_momentOf 28 = .ok (.iload_n 1, 1) := by decide +kernel
theorem dX7_momentOf_29 : decode cX7_momentOf 29 = .ok (.invokevirtual 96, 3) := by decide +kernel
theorem dX7_momentOf_32 : decode cX7_momentOf 32 = .ok (.iadd, 1) := by decide +kernel
theorem dX7_momentOf_33 : decode cX7_momentOf 33 = .ok (.imul, 1) := by decide +kernel
theorem dX7_momentOf_34 : decode cX7_momentOf 34 = .ok (.iadd, 1) := by decide +kernel
theorem dX7_momentOf_35 : decode cX7_momentOf 35 = .ok (.istore_n 2, 1) := by decide +kernel
theorem dX7_momentOf_36 : decode cX7_momentOf 36 = .ok (.iinc 3 1, 3) := by decide +kernel
theorem dX7_momentOf_39 : decode cX7_momentOf 39 = .ok (.goto (-35), 3) := by decide +kernel
theorem dX7_momentOf_42 : decode cX7_momentOf 42 = .ok (.iload_n 2, 1) := by decide +kernel
theorem dX7_momentOf_43 : decode cX7_momentOf 43 = .ok (.ireturn, 1) := by decide +kernel
set_option maxRecDepth 20000 in
theorem ggX7_weigh_X7_isStation : GoodIn wsX7_weigh wsX7_isStation := goodIn_r _ [8, 9, 10, 7, 11] (by decide +kernel) (by decide +kernel)
set_option maxRecDepth 20000 in
theorem gX7_weigh_X7_isStation : GoodIn wsX7_weigh (va_wsS RX7 48 yX7_isStation wsX7_isStation) := goodIn_app (goodIn_of _ (by decide +kernel)) ggX7_weigh_X7_isStation
set_option maxRecDepth 20000 in
theorem ggX7_weigh_X7_in : GoodIn wsX7_weigh wsX7_in := goodIn_r _ [11] (by decide +kernel) (by decide +kernel)
set_option maxRecDepth 20000 in
theorem gX7_weigh_X7_in : GoodIn wsX7_weigh (va_wsS RX7 44 yX7_in wsX7_in) := goodIn_app (goodIn_of _ (by decide +kernel)) ggX7_weigh_X7_in
theorem dX7_weigh_0 : decode cX7_weigh 0 = .ok (.aload_n 0, 1) := by decide +kernel
theorem dX7_weigh_1 : decode cX7_weigh 1 = .ok (.iload_n 1, 1) := by decide +kernel
theorem dX7_weigh_2 : decode cX7_weigh 2 = .ok (.invokestatic 48, 3) := by decide +kernel
theorem dX7_weigh_5 : decode cX7_weigh 5 = .ok (.ifCond .ne 7, 3) := by decide +kernel
theorem dX7_weigh_8 : decode cX7_weigh 8 = .ok (.iconst 1, 1) := by decide +kernel
theorem dX7_weigh_9 : decode cX7_weigh 9 = .ok (.goto 32, 3) := by decide +kernel
theorem dX7_weigh_12 : decode cX7_weigh 12 = .ok (.iload_n 2, 1) := by decide +kernel
theorem dX7_weigh_13 : decode cX7_weigh 13 = .ok (.iconst 0, 1) := by decide +kernel
theorem dX7_weigh_14 : decode cX7_weigh 14 = .ok (.sipush 999, 3) := by decide +kernel
theorem dX7_weigh_17 : decode cX7_weigh 17 = .ok (.invokestatic 44, 3) := by decide +kernel
theorem dX7_weigh_20 : decode cX7_weigh 20 = .ok (.ifCond .ne 7, 3) := by decide +kernel
theorem dX7_weigh_23 : decode cX7_weigh 23 = .ok (.iconst 2, 1) := by decide +kernel
theorem dX7_weigh_24 : decode cX7_weigh 24 = .ok (.goto 17, 3) := by decide +kernel
theorem dX7_weigh_27 : decode cX7_weigh 27 = .ok (.aload_n 0, 1) := by decide +kernel
theorem dX7_weigh_28 : decode cX7_weigh 28 = .ok (.getfield 105, 3) := by decide +kernel
theorem dX7_weigh_31 : decode cX7_weigh 31 = .ok (.bipush 16, 2) := by decide +kernel
theorem dX7_weigh_33 : decode cX7_weigh 33 = .ok (.if_icmp .ne 7, 3) := by decide +kernel
theorem dX7_weigh_36 : decode cX7_weigh 36 = .ok (.iconst 3, 1) := by decide +kernel
theorem dX7_weigh_37 : decode cX7_weigh 37 = .ok (.goto 4, 3) := by decide +kernel
theorem dX7_weigh_40 : decode cX7_weigh 40 = .ok (.iconst 0, 1) := by decide +kernel
theorem dX7_weigh_41 : decode cX7_weigh 41 = .ok (.putfield 41, 3) := by decide +kernel
theorem dX7_weigh_44 : decode cX7_weigh 44 = .ok (.aload_n 0, 1) := by decide +kernel
theorem dX7_weigh_45 : decode cX7_weigh 45 = .ok (.getfield 41, 3) := by decide +kernel
theorem dX7_weigh_48 : decode cX7_weigh 48 = .ok (.ifCond .le 5, 3) := by decide +kernel
theorem dX7_weigh_51 : decode cX7_weigh 51 = .ok (.iconst 0, 1) := by decide +kernel
theorem dX7_weigh_52 : decode cX7_weigh 52 = .ok (.ireturn, 1) := by decide +kernel
theorem dX7_weigh_53 : decode cX7_weigh 53 = .ok (.aload_n 0, 1) := by decide +kernel
theorem dX7_weigh_54 : decode cX7_weigh 54 = .ok (.getfield 13, 3) := by decide +kernel
theorem dX7_weigh_57 : decode cX7_weigh 57 = .ok (.aload_n 0, 1) := by decide +kernel
theorem dX7_weigh_58 : decode cX7_weigh 58 = .ok (.getfield 105, 3) := by decide +kernel
theorem dX7_weigh_61 : decode cX7_weigh 61 = .ok (.iload_n 1, 1) := by decide +kernel
theorem dX7_weigh_62 : decode cX7_weigh 62 = .ok (.iastore, 1) := by decide +kernel
theorem dX7_weigh_63 : decode cX7_weigh 63 = .ok (.aload_n 0, 1) := by decide +kernel
theorem dX7_weigh_64 : decode cX7_weigh 64 = .ok (.getfield 16, 3) := by decide +kernel
theorem dX7_weigh_67 : decode cX7_weigh 67 = .ok (.aload_n 0, 1) := by decide +kernel
theorem dX7_weigh_68 : decode cX7_weigh 68 = .ok (.getfield 105, 3) := by decide +kernel
theorem dX7_weigh_71 : decode cX7_weigh 71 = .ok (.iload_n 2, 1) := by decide +kernel
theorem dX7_weigh_72 : decode cX7_weigh 72 = .ok (.iastore, 1) := by decide +kernel
theorem dX7_weigh_73 : decode cX7_weigh 73 = .ok (.aload_n 0, 1) := by decide +kernel
theorem dX7_weigh_74 : decode cX7_weigh 74 = .ok (.dup, 1) := by decide +kernel
theorem dX7_weigh_75 : decode cX7_weigh 75 = .ok (.getfield 105, 3) := by decide +kernel
theorem dX7_weigh_78 : decode cX7_weigh 78 = .ok (.iconst 1, 1) := by decide +kernel
theorem dX7_weigh_79 : decode cX7_weigh 79 = .ok (.iadd, 1) := by decide +kernel
theorem dX7_weigh_80 : decode cX7_weigh 80 = .ok (.putfield 105, 3) := by decide +kernel
theorem dX7_weigh_83 : decode cX7_weigh 83 = .ok (.aload_n 0, 1) := by decide +kernel
theorem dX7_weigh_84 : decode cX7_weigh 84 = .ok (.getfield 105, 3) := by decide +kernel
theorem dX7_weigh_87 : decode cX7_weigh 87 = .ok (.iconst 1, 1) := by decide +kernel
theorem dX7_weigh_88 : decode cX7_weigh 88 = .ok (.isub, 1) := by decide +kernel
theorem dX7_weigh_89 : decode cX7_weigh 89 = .ok (.ireturn, 1) := by decide +kernel
set_option maxRecDepth 20000 in
theorem ggX7_change_X7_in : GoodIn wsX7_change wsX7_in := goodIn_r _ [8] (by decide +kernel) (by decide +kernel)
set_option maxRecDepth 20000 in
theorem gX7_change_X7_in : GoodIn wsX7_change (va_wsS RX7 44 yX7_in wsX7_in) := goodIn_app (goodIn_of _ (by decide +kernel)) ggX7_change_X7_in
set_option maxRecDepth 20000 in
theorem ggX7_change_X7_isStation : GoodIn wsX7_change wsX7_isStation := goodIn_r _ [11, 5, 6, 7, 8] (by decide +kernel) (by decide +kernel)
set_option maxRecDepth 20000 in
theorem gX7_change_X7_isStation : GoodIn wsX7_change (va_wsS RX7 48 yX7_isStation wsX7_isStation) := goodIn_app (goodIn_of _ (by decide +kernel)) ggX7_change_X7_isStation
theorem dX7_change_0 : decode cX7_change 0 = .ok (.aload_n 0, 1) := by decide +kernel
theorem dX7_change_1 : decode cX7_change 1 = .ok (.iload_n 1, 1) := by decide +kernel
theorem dX7_change_2 : decode cX7_change 2 = .ok (.iconst 0, 1) := by decide +kernel
theorem dX7_change_3 : decode cX7_change 3 = .ok (.aload_n 0, 1) := by decide +kernel
theorem dX7_change_4 : decode cX7_change 4 = .ok (.getfield 105, 3) := by decide +kernel
theorem dX7_change_7 : decode cX7_change 7 = .ok (.iconst 1, 1) := by decide +kernel
theorem dX7_change_8 : decode cX7_change 8 = .ok (.isub, 1) := by decide +kernel
theorem dX7_change_9 : decode cX7_change 9 = .ok (.invokestatic 44, 3) := by decide +kernel
theorem dX7_change_12 : decode cX7_change 12 = .ok (.ifCond .eq 10, 3) := by decide +kernel
theorem dX7_change_15 : decode cX7_change 15 = .ok (.iload_n 2, 1) := by decide +kernel
theorem dX7_change_16 : decode cX7_change 16 = .ok (.invokestatic 48, 3) := by decide +kernel
theorem dX7_change_19 : decode cX7_change 19 = .ok (.ifCond .ne 7, 3) := by decide +kernel
theorem dX7_change_22 : decode cX7_change 22 = .ok (.iconst 1, 1) := by decide +kernel
theorem dX7_change_23 : decode cX7_change 23 = .ok (.goto 19, 3) := by decide +kernel
theorem dX7_change_26 : decode cX7_change 26 = .ok (.iload_n 3, 1) := by decide +kernel
theorem dX7_change_27 : decode cX7_change 27 = .ok (.iconst 0, 1) := by decide +kernel
theorem dX7_change_28 : decode cX7_change 28 = .ok (.sipush 999, 3) := by decide +kernel
theorem dX7_change_31 : decode cX7_change 31 = .ok (.invokestatic 44, 3) := by decide +kernel
theorem dX7_change_34 : decode cX7_change 34 = .ok (.ifCond .eq 7, 3) := by decide +kernel
theorem dX7_change_37 : decode cX7_change 37 = .ok (.iconst 0, 1) := by decide +kernel
theorem dX7_change_38 : decode cX7_change 38 = .ok (.goto 4, 3) := by decide +kernel
theorem dX7_change_41 : decode cX7_change 41 = .ok (.iconst 2, 1) := by decide +kernel
theorem dX7_change_42 : decode cX7_change 42 = .ok (.putfield 41, 3) := by decide +kernel
theorem dX7_change_45 : decode cX7_change 45 = .ok (.aload_n 0, 1) := by decide +kernel
theorem dX7_change_46 : decode cX7_change 46 = .ok (.getfield 41, 3) := by decide +kernel
theorem dX7_change_49 : decode cX7_change 49 = .ok (.ifCond .le 5, 3) := by decide +kernel
theorem dX7_change_52 : decode cX7_change 52 = .ok (.iconst 0, 1) := by decide +kernel
theorem dX7_change_53 : decode cX7_change 53 = .ok (.ireturn, 1) := by decide +kernel
theorem dX7_change_54 : decode cX7_change 54 = .ok (.bipush 10, 2) := by decide +kernel
theorem dX7_change_56 : decode cX7_change 56 = .ok (.aload_n 0, 1) := by decide +kernel
theorem dX7_change_57 : decode cX7_change 57 = .ok (.getfield 16, 3) := by decide +kernel
theorem dX7_change_60 : decode cX7_change 60 = .ok (.iload_n 1, 1) := by decide +kernel
theorem dX7_change_61 : decode cX7_change 61 = .ok (.iaload, 1) := by decide +kernel
theorem dX7_change_62 : decode cX7_change 62 = .ok (.imul, 1) := by decide +kernel
theorem dX7_change_63 : decode cX7_change 63 = .ok (.aload_n 0, 1) := by decide +kernel
theorem dX7_change_64 : decode cX7_change 64 = .ok (.getfield 13, 3) := by decide +kernel
theorem dX7_change_67 : decode cX7_change 67 = .ok (.iload_n 1, 1) := by decide +kernel
theorem dX7_change_68 : decode cX7_change 68 = .ok (.iaload, 1) := by decide +kernel
theorem dX7_change_69 : decode cX7_change 69 = .ok (.iadd, 1) := by decide +kernel
theorem dX7_change_70 : decode cX7_change 70 = .ok (.istore 4, 2) := by decide +kernel
theorem dX7_change_72 : decode cX7_change 72 = .ok (.aload_n 0, 1) := by decide +kernel
theorem dX7_change_73 : decode cX7_change 73 = .ok (.getfield 13, 3) := by decide +kernel
theorem dX7_change_76 : decode cX7_change 76 = .ok (.iload_n 1, 1) := by decide +kernel
theorem dX7_change_77 : decode cX7_change 77 = .ok (.iload_n 2, 1) := by decide +kernel
theorem dX7_change_78 : decode cX7_change 78 = .ok (.iastore, 1) := by decide +kernel
theorem dX7_change_79 : decode cX7_change 79 = .ok (.aload_n 0, 1) := by decide +kernel
theorem dX7_change_80 : decode cX7_change 80 = .ok (.getfield 16, 3) := by decide +kernel
theorem dX7_change_83 : decode cX7_change 83 = .ok (.iload_n 1, 1) := by decide +kernel
theorem dX7_change_84 : decode cX7_change 84 = .ok (.iload_n 3, 1) := by decide +kernel
theorem dX7_change_85 : decode cX7_change 85 = .ok (.iastore, 1) := by decide +kernel
theorem dX7_change_86 : decode cX7_change 86 = .ok (.iload 4, 2) := by decide +kernel
theorem dX7_change_88 : decode cX7_change 88 = .ok (.ireturn, 1) := by decide +kernel
theorem dX7_loadNow_0 : decode cX7_loadNow 0 = .ok (.iconst 0, 1) := by decide +kernel
theorem dX7_loadNow_1 : decode cX7_loadNow 1 = .ok (.istore_n 1, 1) := by decide +kernel
theorem dX7_loadNow_2 : decode cX7_loadNow 2 = .ok (.iconst 0, 1) := by decide +kernel
theorem dX7_loadNow_3 : decode cX7_loadNow 3 = .ok (.istore_n 2, 1) := by decide +kernel
theorem dX7_loadNow_4 : decode cX7_loadNow 4 = .ok (.iload_n 2, 1) := by decide +kernel
theorem dX7_loadNow_5 : decode cX7_loadNow 5 = .ok (.bipush 16, 2) := by decide +kernel
theorem dX7_loadNow_7 : decode cX7_loadNow 7 = .ok (.if_icmp .gt 21, 3) := by decide +kernel
theorem dX7_loadNow_10 : decode cX7_loadNow 10 = .ok (.iload_n 1, 1) := by decide +kernel
theorem dX7_loadNow_11 : decode cX7_loadNow 11 = .ok (.bipush 10, 2) := by decide +kernel
theorem dX7_loadNow_13 : decode cX7_loadNow 13 = .ok (.aload_n 0, 1) := by decide +kernel
theorem dX7_loadNow_14 : decode cX7_loadNow 14 = .ok (.getfield 16, 3) := by decide +kernel
theorem dX7_loadNow_17 : decode cX7_loadNow 17 = .ok (.iload_n 2, 1) := by decide +kernel
theorem dX7_loadNow_18 : decode cX7_loadNow 18 = .ok (.iaload, 1) := by decide +kernel
theorem dX7_loadNow_19 : decode cX7_loadNow 19 = .ok (.imul, 1) := by decide +kernel
theorem dX7_loadNow_20 : decode cX7_loadNow 20 = .ok (.iadd, 1) := by decide +kernel
theorem dX7_loadNow_21 : decode cX7_loadNow 21 = .ok (.istore_n 1, 1) := by decide +kernel
theorem dX7_loadNow_22 : decode cX7_loadNow 22 = .ok (.iinc 2 1, 3) := by decide +kernel
theorem dX7_loadNow_25 : decode cX7_loadNow 25 = .ok (.goto (-21), 3) := by decide +kernel
theorem dX7_loadNow_28 : decode cX7_loadNow 28 = .ok (.iload_n 1, 1) := by decide +kernel
theorem dX7_loadNow_29 : decode cX7_loadNow 29 = .ok (.ireturn, 1) := by decide +kernel
theorem dX7_loadMoment_0 : decode cX7_loadMoment 0 = .ok (.iconst 0, 1) := by decide +kernel
theorem dX7_loadMoment_1 : decode cX7_loadMoment 1 = .ok (.istore_n 1, 1) := by decide +kernel
theorem dX7_loadMoment_2 : decode cX7_loadMoment 2 = .ok (.iconst 0, 1) := by decide +kernel
theorem dX7_loadMoment_3 : decode cX7_loadMoment 3 = .ok (.istore_n 2, 1) := by decide +kernel
theorem dX7_loadMoment_4 : decode cX7_loadMoment 4 = .ok (.iload_n 2, 1) := by decide +kernel
theorem dX7_loadMoment_5 : decode cX7_loadMoment 5 = .ok (.bipush 16, 2) := by decide +kernel
theorem dX7_loadMoment_7 : decode cX7_loadMoment 7 = .ok (.if_icmp .gt 28, 3) := by decide +kernel
theorem dX7_loadMoment_10 : decode cX7_loadMoment 10 = .ok (.iload_n 1, 1) := by decide +kernel
theorem dX7_loadMoment_11 : decode cX7_loadMoment 11 = .ok (.aload_n 0, 1) := by decide +kernel
theorem dX7_loadMoment_12 : decode cX7_loadMoment 12 = .ok (.getfield 16, 3) := by decide +kernel
theorem dX7_loadMoment_15 : decode cX7_loadMoment 15 = .ok (.iload_n 2, 1) := by decide +kernel
theorem dX7_loadMoment_16 : decode cX7_loadMoment 16 = .ok (.iaload, 1) := by decide +kernel
theorem dX7_loadMoment_17 : decode cX7_loadMoment 17 = .ok (.bipush 20, 2) := by decide +kernel
theorem dX7_loadMoment_19 : decode cX7_loadMoment 19 = .ok (.imul, 1) := by decide +kernel
theorem dX7_loadMoment_20 : decode cX7_loadMoment 20 = .ok (.aload_n 0, 1) := by decide +kernel
theorem dX7_loadMoment_21 : decode cX7_loadMoment 21 = .ok (.getfield 13, 3) := by decide +kernel
theorem dX7_loadMoment_24 : decode cX7_loadMoment 24 = .ok (.iload_n 2, 1) := by decide +kernel
theorem dX7_loadMoment_25 : decode cX7_loadMoment 25 = .ok (.iaload, 1) := by decide +kernel
theorem dX7_loadMoment_26 : decode cX7_loadMoment 26 = .ok (.imul, 1) := by decide +kernel
theorem dX7_loadMoment_27 : decode cX7_loadMoment 27 = .ok (.iadd, 1) := by decide +kernel
theorem dX7_loadMoment_28 : decode cX7_loadMoment 28 = .ok (.istore_n 1, 1) := by decide +kernel
theorem dX7_loadMoment_29 : decode cX7_loadMoment 29 = .ok (.iinc 2 1, 3) := by decide +kernel
theorem dX7_loadMoment_32 : decode cX7_loadMoment 32 = .ok (.goto (-28), 3) := by decide +kernel
theorem dX7_loadMoment_35 : decode cX7_loadMoment 35 = .ok (.iload_n 1, 1) := by decide +kernel
theorem dX7_loadMoment_36 : decode cX7_loadMoment 36 = .ok (.ireturn, 1) := by decide +kernel
set_option maxRecDepth 20000 in
theorem ggX7_draughtNow_X7_loadNow : GoodIn wsX7_draughtNow wsX7_loadNow := goodIn_r _ [5, 6, 20, 21, 22, 23, 24, 25, 26, 27, 28, 29, 30, 31, 32, 33, 34, 35] (by decide +kernel) (by decide +kernel)
set_option maxRecDepth 20000 in
theorem gX7_draughtNow_X7_loadNow : GoodIn wsX7_draughtNow (wsV RX7 108 RX7 yX7_loadNow wsX7_loadNow) := goodIn_app (goodIn_of _ (by decide +kernel)) ggX7_draughtNow_X7_loadNow
set_option maxRecDepth 20000 in
theorem ggX7_draughtNow_X7_volumeOf : GoodIn wsX7_draughtNow wsX7_volumeOf := goodIn_r _ [10, 11, 12, 13, 4, 14, 15, 16, 17, 18, 19, 20, 21, 22, 23, 24, 25, 26, 27, 28, 29, 30, 31, 32, 33, 34, 35] (by decide +kernel) (by decide +kernel)
set_option maxRecDepth 20000 in
theorem gX7_draughtNow_X7_volumeOf : GoodIn wsX7_draughtNow (wsV RX7 99 RX7 yX7_volumeOf wsX7_volumeOf) := goodIn_app (goodIn_of _ (by decide +kernel)) ggX7_draughtNow_X7_volumeOf
theorem dX7_draughtNow_0 : decode cX7_draughtNow 0 = .ok (.iconst (-1), 1) := by decide +kernel
theorem dX7_draughtNow_1 : decode cX7_draughtNow 1 = .ok (.istore_n 1, 1) := by decide +kernel
theorem dX7_draughtNow_2 : decode cX7_draughtNow 2 = .ok (.aload_n 0, 1) := by decide +kernel
theorem dX7_draughtNow_3 : decode cX7_draughtNow 3 = .ok (.invokevirtual 108, 3) := by decide +kernel
theorem dX7_draughtNow_6 : decode cX7_draughtNow 6 = .ok (.istore_n 2, 1) := by decide +kernel
theorem dX7_draughtNow_7 : decode cX7_draughtNow 7 = .ok (.iconst 5, 1) := by decide +kernel
theorem dX7_draughtNow_8 : decode cX7_draughtNow 8 = .ok (.istore_n 3, 1) := by decide +kernel
theorem dX7_draughtNow_9 : decode cX7_draughtNow 9 = .ok (.iload_n 3, 1) := by decide +kernel
theorem dX7_draughtNow_10 : decode cX7_draughtNow 10 = .ok (.ifCond .lt 24, 3) := by decide +kernel
theorem dX7_draughtNow_13 : decode cX7_draughtNow 13 = .ok (.aload_n 0, 1) := by decide +kernel
theorem dX7_draughtNow_14 : decode cX7_draughtNow 14 = .ok (.iload_n 3, 1) := by decide +kernel
theorem dX7_draughtNow_15 : decode cX7_draughtNow 15 = .ok (.invokevirtual 99, 3) := by decide +kernel
theorem dX7_draughtNow_18 : decode cX7_draughtNow 18 = .ok (.iload_n 2, 1) := by decide +kernel
theorem dX7_draughtNow_19 : decode cX7_draughtNow 19 = .ok (.if_icmp .lt 7, 3) := by decide +kernel
theorem dX7_draughtNow_22 : decode cX7_draughtNow 22 = .ok (.iload_n 3, 1) := by decide +kernel
theorem dX7_draughtNow_23 : decode cX7_draughtNow 23 = .ok (.goto 4, 3) := by decide +kernel
theorem dX7_draughtNow_26 : decode cX7_draughtNow 26 = .ok (.iload_n 1, 1) := by decide +kernel
theorem dX7_draughtNow_27 : decode cX7_draughtNow 27 = .ok (.istore_n 1, 1) := by decide +kernel
theorem dX7_draughtNow_28 : decode cX7_draughtNow 28 = .ok (.iinc 3 (-1), 3) := by decide +kernel
theorem dX7_draughtNow_31 : decode cX7_draughtNow 31 = .ok (.goto (-22), 3) := by decide +kernel
theorem dX7_draughtNow_34 : decode cX7_draughtNow 34 = .ok (.iload_n 1, 1) := by decide +kernel
theorem dX7_draughtNow_35 : decode cX7_draughtNow 35 = .ok (.ireturn, 1) := by decide +kernel
theorem dX7_mean_0 : decode cX7_mean 0 = .ok (.iload_n 1, 1) := by decide +kernel
theorem dX7_mean_1 : decode cX7_mean 1 = .ok (.ifCond .ne 7, 3) := by decide +kernel
theorem dX7_mean_4 : decode cX7_mean 4 = .ok (.iconst 0, 1) := by decide +kernel
theorem dX7_mean_5 : decode cX7_mean 5 = .ok (.goto 9, 3) := by decide +kernel
theorem dX7_mean_8 : decode cX7_mean 8 = .ok (.bipush 100, 2) := by decide +kernel
theorem dX7_mean_10 : decode cX7_mean 10 = .ok (.iload_n 0, 1) := by decide +kernel
theorem dX7_mean_11 : decode cX7_mean 11 = .ok (.imul, 1) := by decide +kernel
theorem dX7_mean_12 : decode cX7_mean 12 = .ok (.iload_n 1, 1) := by decide +kernel
theorem dX7_mean_13 : decode cX7_mean 13 = .ok (.idiv, 1) := by decide +kernel
theorem dX7_mean_14 : decode cX7_mean 14 = .ok (.ireturn, 1) := by decide +kernel
set_option maxRecDepth 20000 in
theorem ggX7_trimNow_X7_draughtNow : GoodIn wsX7_trimNow wsX7_draughtNow := goodIn_r _ [5, 6, 7, 8, 4, 9, 10, 11, 12, 13, 14, 15, 16, 17, 18, 19, 20, 21, 22, 23, 36, 37, 38, 39, 40, 41, 42, 43, 44, 45, 46, 47, 48, 49, 50, 51] (by decide +kernel) (by decide +kernel)
set_option maxRecDepth 20000 in
theorem gX7_trimNow_X7_draughtNow : GoodIn wsX7_trimNow (wsV RX7 112 RX7 yX7_draughtNow wsX7_draughtNow) := goodIn_app (goodIn_of _ (by decide +kernel)) ggX7_trimNow_X7_draughtNow
set_option maxRecDepth 20000 in
theorem ggX7_trimNow_X7_loadMoment : GoodIn wsX7_trimNow wsX7_loadMoment := goodIn_r _ [27, 10, 28, 36, 37, 38, 39, 40, 41, 42, 43, 44, 45, 46, 47, 48, 49, 50, 51] (by decide +kernel) (by decide +kernel)
set_option maxRecDepth 20000 in
theorem gX7_trimNow_X7_loadMoment : GoodIn wsX7_trimNow (wsV RX7 115 RX7 yX7_loadMoment wsX7_loadMoment) := goodIn_app (goodIn_of _ (by decide +kernel)) ggX7_trimNow_X7_loadMoment
set_option maxRecDepth 20000 in
theorem ggX7_trimNow_X7_loadNow : GoodIn wsX7_trimNow wsX7_loadNow := goodIn_r _ [9, 10, 36, 37, 38, 39, 40, 41, 42, 43, 44, 45, 46, 47, 48, 49, 50, 51] (by decide +kernel) (by decide +kernel)
set_option maxRecDepth 20000 in
theorem gX7_trimNow_X7_loadNow : GoodIn wsX7_trimNow (wsV RX7 108 RX7 yX7_loadNow wsX7_loadNow) := goodIn_app (goodIn_of _ (by decide +kernel)) ggX7_trimNow_X7_loadNow
set_option maxRecDepth 20000 in
theorem ggX7_trimNow_X7_mean : GoodIn wsX7_trimNow wsX7_mean := goodIn_r _ [31] (by decide +kernel) (by decide +kernel)
set_option maxRecDepth 20000 in
theorem gX7_trimNow_X7_mean : GoodIn wsX7_trimNow (va_wsS RX7 118 yX7_mean wsX7_mean) := goodIn_app (goodIn_of _ (by decide +kernel)) ggX7_trimNow_X7_mean
set_option maxRecDepth 20000 in
theorem ggX7_trimNow_X7_momentOf : GoodIn wsX7_trimNow wsX7_momentOf := goodIn_r _ [35, 15, 16, 17, 4, 18, 19, 20, 21, 22, 23, 36, 37, 38, 39, 40, 41, 42, 43, 44, 45, 46, 47, 48, 49, 50, 51] (by decide +kernel) (by decide +kernel)
set_option maxRecDepth 20000 in
theorem gX7_trimNow_X7_momentOf : GoodIn wsX7_trimNow (wsV RX7 121 RX7 yX7_momentOf wsX7_momentOf) := goodIn_app (goodIn_of _ (by decide +kernel)) ggX7_trimNow_X7_momentOf
set_option maxRecDepth 20000 in
theorem ggX7_trimNow_X7_volumeOf : GoodIn wsX7_trimNow wsX7_volumeOf := goodIn_r _ [14, 15, 16, 17, 4, 18, 19, 20, 21, 22, 23, 36, 37, 38, 39, 40, 41, 42, 43, 44, 45, 46, 47, 48, 49, 50, 51] (by decide +kernel) (by decide +kernel)
set_option maxRecDepth 20000 in
theorem gX7_trimNow_X7_volumeOf : GoodIn wsX7_trimNow (wsV RX7 99 RX7 yX7_volumeOf wsX7_volumeOf) := goodIn_app (goodIn_of _ (by decide +kernel)) ggX7_trimNow_X7_volumeOf
theorem dX7_trimNow_0 : decode cX7_trimNow 0 = .ok (.aload_n 0, 1) := by decide +kernel
theorem dX7_trimNow_1 : decode cX7_trimNow 1 = .ok (.invokevirtual 112, 3) := by decide +kernel
theorem dX7_trimNow_4 : decode cX7_trimNow 4 = .ok (.istore_n 1, 1) := by decide +kernel
theorem dX7_trimNow_5 : decode cX7_trimNow 5 = .ok (.iload_n 1, 1) := by decide +kernel
theorem dX7_trimNow_6 : decode cX7_trimNow 6 = .ok (.iconst (-1), 1) := by decide +kernel
theorem dX7_trimNow_7 : decode cX7_trimNow 7 = .ok (.if_icmp .ne 7, 3) := by decide +kernel
theorem dX7_trimNow_10 : decode cX7_trimNow 10 = .ok (.iconst 0, 1) := by decide +kernel
theorem dX7_trimNow_11 : decode cX7_trimNow 11 = .ok (.goto 28, 3) := by decide +kernel
theorem dX7_trimNow_14 : decode cX7_trimNow 14 = .ok (.aload_n 0, 1) := by decide +kernel
theorem dX7_trimNow_15 : decode cX7_trimNow 15 = .ok (.invokevirtual 115, 3) := by decide +kernel
theorem dX7_trimNow_18 : decode cX7_trimNow 18 = .ok (.aload_n 0, 1) := by decide +kernel
theorem dX7_trimNow_19 : decode cX7_trimNow 19 = .ok (.invokevirtual 108, 3) := by decide +kernel
theorem dX7_trimNow_22 : decode cX7_trimNow 22 = .ok (.invokestatic 118, 3) := by decide +kernel
end
section
theorem dX7_trimNow_25 : decode cX7_trimNow 25 = .ok (.aload_n 0, 1) := by decide +kernel
theorem dX7_trimNow_26 : decode cX7_trimNow 26 = .ok (.iload_n 1, 1) := by decide +kernel
theorem dX7_trimNow_27 : decode cX7_trimNow 27 = .ok (.invokevirtual 121, 3) := by decide +kernel
theorem dX7_trimNow_30 : decode cX7_trimNow 30 = .ok (.aload_n 0, 1) := by decide +kernel
theorem dX7_trimNow_31 : decode cX7_trimNow 31 = .ok (.iload_n 1, 1) := by decide +kernel
theorem dX7_trimNow_32 : decode cX7_trimNow 32 = .ok (.invokevirtual 99, 3) := by decide +kernel
theorem dX7_trimNow_35 : decode cX7_trimNow 35 = .ok (.invokestatic 118, 3) := by decide +kernel
theorem dX7_trimNow_38 : decode cX7_trimNow 38 = .ok (.isub, 1) := by decide +kernel
theorem dX7_trimNow_39 : decode cX7_trimNow 39 = .ok (.ireturn, 1) := by decide +kernel
set_option maxRecDepth 20000 in
theorem ggX7_ballast_X7_in : GoodIn wsX7_ballast wsX7_in := goodIn_r _ [8] (by decide +kernel) (by decide +kernel)
set_option maxRecDepth 20000 in
theorem gX7_ballast_X7_in : GoodIn wsX7_ballast (va_wsS RX7 44 yX7_in wsX7_in) := goodIn_app (goodIn_of _ (by decide +kernel)) ggX7_ballast_X7_in
set_option maxRecDepth 20000 in
theorem ggX7_ballast_X7_draughtNow : GoodIn wsX7_ballast wsX7_draughtNow := goodIn_r _ [12, 13, 14, 15, 7, 16, 3, 17, 18, 19, 20, 21, 22, 23, 24, 25, 26, 27, 28, 29, 48, 49, 50, 51, 52, 53, 54, 55, 56, 57, 58, 59, 60, 61, 62, 63] (by decide +kernel) (by decide +kernel)
set_option maxRecDepth 20000 in
theorem gX7_ballast_X7_draughtNow : GoodIn wsX7_ballast (wsV RX7 112 RX7 yX7_draughtNow wsX7_draughtNow) := goodIn_app (goodIn_of _ (by decide +kernel)) ggX7_ballast_X7_draughtNow
set_option maxRecDepth 20000 in
theorem ggX7_ballast_X7_trimNow : GoodIn wsX7_ballast wsX7_trimNow := goodIn_r _ [33, 9, 10, 11, 7, 12, 13, 14, 15, 16, 3, 17, 18, 19, 20, 21, 22, 23, 24, 25, 26, 27, 28, 29, 34, 35, 36, 37, 2, 38, 39, 40, 41, 42, 43, 44, 48, 49, 50, 51, 52, 53, 54, 55, 56, 57, 58, 59, 60, 61, 62, 63] (by decide +kernel) (by decide +kernel)
set_option maxRecDepth 20000 in
theorem gX7_ballast_X7_trimNow : GoodIn wsX7_ballast (wsV RX7 124 RX7 yX7_trimNow wsX7_trimNow) := goodIn_app (goodIn_of _ (by decide +kernel)) ggX7_ballast_X7_trimNow
set_option maxRecDepth 20000 in
theorem ggX7_ballast_X7_size : GoodIn wsX7_ballast wsX7_size := goodIn_r _ [47] (by decide +kernel) (by decide +kernel)
set_option maxRecDepth 20000 in
theorem gX7_ballast_X7_size : GoodIn wsX7_ballast (va_wsS RX7 70 yX7_size wsX7_size) := goodIn_app (goodIn_of _ (by decide +kernel)) ggX7_ballast_X7_size
theorem dX7_ballast_0 : decode cX7_ballast 0 = .ok (.aload_n 0, 1) := by decide +kernel
theorem dX7_ballast_1 : decode cX7_ballast 1 = .ok (.iload_n 1, 1) := by decide +kernel
theorem dX7_ballast_2 : decode cX7_ballast 2 = .ok (.iconst 0, 1) := by decide +kernel
theorem dX7_ballast_3 : decode cX7_ballast 3 = .ok (.bipush 99, 2) := by decide +kernel
theorem dX7_ballast_5 : decode cX7_ballast 5 = .ok (.invokestatic 44, 3) := by decide +kernel
theorem dX7_ballast_8 : decode cX7_ballast 8 = .ok (.ifCond .eq 7, 3) := by decide +kernel
theorem dX7_ballast_11 : decode cX7_ballast 11 = .ok (.iconst 0, 1) := by decide +kernel
theorem dX7_ballast_12 : decode cX7_ballast 12 = .ok (.goto 4, 3) := by decide +kernel
theorem dX7_ballast_15 : decode cX7_ballast 15 = .ok (.iconst 1, 1) := by decide +kernel
theorem dX7_ballast_16 : decode cX7_ballast 16 = .ok (.putfield 41, 3) := by decide +kernel
theorem dX7_ballast_19 : decode cX7_ballast 19 = .ok (.aload_n 0, 1) := by decide +kernel
theorem dX7_ballast_20 : decode cX7_ballast 20 = .ok (.getfield 41, 3) := by decide +kernel
theorem dX7_ballast_23 : decode cX7_ballast 23 = .ok (.ifCond .le 5, 3) := by decide +kernel
theorem dX7_ballast_26 : decode cX7_ballast 26 = .ok (.iconst 0, 1) := by decide +kernel
theorem dX7_ballast_27 : decode cX7_ballast 27 = .ok (.ireturn, 1) := by decide +kernel
theorem dX7_ballast_28 : decode cX7_ballast 28 = .ok (.aload_n 0, 1) := by decide +kernel
theorem dX7_ballast_29 : decode cX7_ballast 29 = .ok (.getfield 13, 3) := by decide +kernel
theorem dX7_ballast_32 : decode cX7_ballast 32 = .ok (.bipush 16, 2) := by decide +kernel
theorem dX7_ballast_34 : decode cX7_ballast 34 = .ok (.iaload, 1) := by decide +kernel
theorem dX7_ballast_35 : decode cX7_ballast 35 = .ok (.istore_n 2, 1) := by decide +kernel
theorem dX7_ballast_36 : decode cX7_ballast 36 = .ok (.aload_n 0, 1) := by decide +kernel
theorem dX7_ballast_37 : decode cX7_ballast 37 = .ok (.getfield 16, 3) := by decide +kernel
theorem dX7_ballast_40 : decode cX7_ballast 40 = .ok (.bipush 16, 2) := by decide +kernel
theorem dX7_ballast_42 : decode cX7_ballast 42 = .ok (.iaload, 1) := by decide +kernel
theorem dX7_ballast_43 : decode cX7_ballast 43 = .ok (.istore_n 3, 1) := by decide +kernel
theorem dX7_ballast_44 : decode cX7_ballast 44 = .ok (.ldc 77, 2) := by decide +kernel
theorem dX7_ballast_46 : decode cX7_ballast 46 = .ok (.istore 4, 2) := by decide +kernel
theorem dX7_ballast_48 : decode cX7_ballast 48 = .ok (.iconst 0, 1) := by decide +kernel
theorem dX7_ballast_49 : decode cX7_ballast 49 = .ok (.istore 5, 2) := by decide +kernel
theorem dX7_ballast_51 : decode cX7_ballast 51 = .ok (.iload 5, 2) := by decide +kernel
theorem dX7_ballast_53 : decode cX7_ballast 53 = .ok (.iload_n 1, 1) := by decide +kernel
theorem dX7_ballast_54 : decode cX7_ballast 54 = .ok (.if_icmp .gt 82, 3) := by decide +kernel
theorem dX7_ballast_57 : decode cX7_ballast 57 = .ok (.iconst 0, 1) := by decide +kernel
theorem dX7_ballast_58 : decode cX7_ballast 58 = .ok (.istore 6, 2) := by decide +kernel
theorem dX7_ballast_60 : decode cX7_ballast 60 = .ok (.iload 6, 2) := by decide +kernel
theorem dX7_ballast_62 : decode cX7_ballast 62 = .ok (.bipush 9, 2) := by decide +kernel
theorem dX7_ballast_64 : decode cX7_ballast 64 = .ok (.if_icmp .ge 66, 3) := by decide +kernel
theorem dX7_ballast_67 : decode cX7_ballast 67 = .ok (.aload_n 0, 1) := by decide +kernel
theorem dX7_ballast_68 : decode cX7_ballast 68 = .ok (.getfield 13, 3) := by decide +kernel
theorem dX7_ballast_71 : decode cX7_ballast 71 = .ok (.bipush 16, 2) := by decide +kernel
theorem dX7_ballast_73 : decode cX7_ballast 73 = .ok (.iload 6, 2) := by decide +kernel
theorem dX7_ballast_75 : decode cX7_ballast 75 = .ok (.iastore, 1) := by decide +kernel
theorem dX7_ballast_76 : decode cX7_ballast 76 = .ok (.aload_n 0, 1) := by decide +kernel
theorem dX7_ballast_77 : decode cX7_ballast 77 = .ok (.getfield 16, 3) := by decide +kernel
theorem dX7_ballast_80 : decode cX7_ballast 80 = .ok (.bipush 16, 2) := by decide +kernel
theorem dX7_ballast_82 : decode cX7_ballast 82 = .ok (.iload 5, 2) := by decide +kernel
theorem dX7_ballast_84 : decode cX7_ballast 84 = .ok (.iastore, 1) := by decide +kernel
theorem dX7_ballast_85 : decode cX7_ballast 85 = .ok (.aload_n 0, 1) := by decide +kernel
theorem dX7_ballast_86 : decode cX7_ballast 86 = .ok (.invokevirtual 112, 3) := by decide +kernel
theorem dX7_ballast_89 : decode cX7_ballast 89 = .ok (.iconst (-1), 1) := by decide +kernel
theorem dX7_ballast_90 : decode cX7_ballast 90 = .ok (.if_icmp .ne 8, 3) := by decide +kernel
theorem dX7_ballast_93 : decode cX7_ballast 93 = .ok (.ldc 77, 2) := by decide +kernel
theorem dX7_ballast_95 : decode cX7_ballast 95 = .ok (.goto 10, 3) := by decide +kernel
theorem dX7_ballast_98 : decode cX7_ballast 98 = .ok (.aload_n 0, 1) := by decide +kernel
theorem dX7_ballast_99 : decode cX7_ballast 99 = .ok (.invokevirtual 124, 3) := by decide +kernel
theorem dX7_ballast_102 : decode cX7_ballast 102 = .ok (.invokestatic 70, 3) := by decide +kernel
theorem dX7_ballast_105 : decode cX7_ballast 105 = .ok (.istore 7, 2) := by decide +kernel
theorem dX7_ballast_107 : decode cX7_ballast 107 = .ok (.iload 7, 2) := by decide +kernel
theorem dX7_ballast_109 : decode cX7_ballast 109 = .ok (.iload 4, 2) := by decide +kernel
theorem dX7_ballast_111 : decode cX7_ballast 111 = .ok (.if_icmp .ge 13, 3) := by decide +kernel
theorem dX7_ballast_114 : decode cX7_ballast 114 = .ok (.iload 7, 2) := by decide +kernel
theorem dX7_ballast_116 : decode cX7_ballast 116 = .ok (.istore 4, 2) := by decide +kernel
theorem dX7_ballast_118 : decode cX7_ballast 118 = .ok (.iload 6, 2) := by decide +kernel
theorem dX7_ballast_120 : decode cX7_ballast 120 = .ok (.istore_n 2, 1) := by decide +kernel
theorem dX7_ballast_121 : decode cX7_ballast 121 = .ok (.iload 5, 2) := by decide +kernel
theorem dX7_ballast_123 : decode cX7_ballast 123 = .ok (.istore_n 3, 1) := by decide +kernel
theorem dX7_ballast_124 : decode cX7_ballast 124 = .ok (.iinc 6 1, 3) := by decide +kernel
theorem dX7_ballast_127 : decode cX7_ballast 127 = .ok (.goto (-67), 3) := by decide +kernel
theorem dX7_ballast_130 : decode cX7_ballast 130 = .ok (.iinc 5 1, 3) := by decide +kernel
theorem dX7_ballast_133 : decode cX7_ballast 133 = .ok (.goto (-82), 3) := by decide +kernel
theorem dX7_ballast_136 : decode cX7_ballast 136 = .ok (.aload_n 0, 1) := by decide +kernel
theorem dX7_ballast_137 : decode cX7_ballast 137 = .ok (.getfield 13, 3) := by decide +kernel
theorem dX7_ballast_140 : decode cX7_ballast 140 = .ok (.bipush 16, 2) := by decide +kernel
theorem dX7_ballast_142 : decode cX7_ballast 142 = .ok (.iload_n 2, 1) := by decide +kernel
theorem dX7_ballast_143 : decode cX7_ballast 143 = .ok (.iastore, 1) := by decide +kernel
theorem dX7_ballast_144 : decode cX7_ballast 144 = .ok (.aload_n 0, 1) := by decide +kernel
theorem dX7_ballast_145 : decode cX7_ballast 145 = .ok (.getfield 16, 3) := by decide +kernel
theorem dX7_ballast_148 : decode cX7_ballast 148 = .ok (.bipush 16, 2) := by decide +kernel
theorem dX7_ballast_150 : decode cX7_ballast 150 = .ok (.iload_n 3, 1) := by decide +kernel
theorem dX7_ballast_151 : decode cX7_ballast 151 = .ok (.iastore, 1) := by decide +kernel
theorem dX7_ballast_152 : decode cX7_ballast 152 = .ok (.bipush 10, 2) := by decide +kernel
theorem dX7_ballast_154 : decode cX7_ballast 154 = .ok (.iload_n 3, 1) := by decide +kernel
theorem dX7_ballast_155 : decode cX7_ballast 155 = .ok (.imul, 1) := by decide +kernel
theorem dX7_ballast_156 : decode cX7_ballast 156 = .ok (.iload_n 2, 1) := by decide +kernel
theorem dX7_ballast_157 : decode cX7_ballast 157 = .ok (.iadd, 1) := by decide +kernel
theorem dX7_ballast_158 : decode cX7_ballast 158 = .ok (.ireturn, 1) := by decide +kernel
set_option maxRecDepth 20000 in
theorem ggX7_draught_X7_draughtNow : GoodIn wsX7_draught wsX7_draughtNow := goodIn_r _ [6, 7, 8, 9, 5, 10, 11, 12, 13, 14, 15, 16, 17, 18, 19, 20, 21, 22, 23, 24, 25, 26, 27, 28, 29, 30, 31, 32, 33, 34, 35, 36, 37, 38, 39, 40] (by decide +kernel) (by decide +kernel)
set_option maxRecDepth 20000 in
theorem gX7_draught_X7_draughtNow : GoodIn wsX7_draught (wsV RX7 112 RX7 yX7_draughtNow wsX7_draughtNow) := goodIn_app (goodIn_of _ (by decide +kernel)) ggX7_draught_X7_draughtNow
theorem dX7_draught_0 : decode cX7_draught 0 = .ok (.aload_n 0, 1) := by decide +kernel
theorem dX7_draught_1 : decode cX7_draught 1 = .ok (.iconst 0, 1) := by decide +kernel
theorem dX7_draught_2 : decode cX7_draught 2 = .ok (.putfield 41, 3) := by decide +kernel
theorem dX7_draught_5 : decode cX7_draught 5 = .ok (.aload_n 0, 1) := by decide +kernel
theorem dX7_draught_6 : decode cX7_draught 6 = .ok (.invokevirtual 112, 3) := by decide +kernel
theorem dX7_draught_9 : decode cX7_draught 9 = .ok (.ireturn, 1) := by decide +kernel
set_option maxRecDepth 20000 in
theorem ggX7_trim_X7_trimNow : GoodIn wsX7_trim wsX7_trimNow := goodIn_r _ [6, 7, 8, 9, 5, 10, 11, 12, 13, 14, 15, 16, 17, 18, 19, 20, 21, 22, 23, 24, 25, 26, 27, 28, 29, 30, 31, 32, 33, 34, 35, 36, 37, 38, 39, 40, 41, 42, 43, 44, 45, 46, 47, 48, 49, 50, 51, 52, 53, 54, 55, 56] (by decide +kernel) (by decide +kernel)
set_option maxRecDepth 20000 in
theorem gX7_trim_X7_trimNow : GoodIn wsX7_trim (wsV RX7 124 RX7 yX7_trimNow wsX7_trimNow) := goodIn_app (goodIn_of _ (by decide +kernel)) ggX7_trim_X7_trimNow
theorem dX7_trim_0 : decode cX7_trim 0 = .ok (.aload_n 0, 1) := by decide +kernel
theorem dX7_trim_1 : decode cX7_trim 1 = .ok (.iconst 0, 1) := by decide +kernel
theorem dX7_trim_2 : decode cX7_trim 2 = .ok (.putfield 41, 3) := by decide +kernel
theorem dX7_trim_5 : decode cX7_trim 5 = .ok (.aload_n 0, 1) := by decide +kernel
theorem dX7_trim_6 : decode cX7_trim 6 = .ok (.invokevirtual 124, 3) := by decide +kernel
theorem dX7_trim_9 : decode cX7_trim 9 = .ok (.ireturn, 1) := by decide +kernel
set_option maxRecDepth 20000 in
theorem ggX7_strakeOf_X7_halfAt : GoodIn wsX7_strakeOf wsX7_halfAt := goodIn_r _ [5, 6, 10, 11, 12, 13, 14, 15, 16, 17, 18, 19, 20, 21, 22, 23, 24, 25] (by decide +kernel) (by decide +kernel)
set_option maxRecDepth 20000 in
theorem gX7_strakeOf_X7_halfAt : GoodIn wsX7_strakeOf (wsV RX7 59 RX7 yX7_halfAt wsX7_halfAt) := goodIn_app (goodIn_of _ (by decide +kernel)) ggX7_strakeOf_X7_halfAt
set_option maxRecDepth 20000 in
theorem ggX7_strakeOf_X7_size : GoodIn wsX7_strakeOf wsX7_size := goodIn_r _ [9] (by decide +kernel) (by decide +kernel)
set_option maxRecDepth 20000 in
theorem gX7_strakeOf_X7_size : GoodIn wsX7_strakeOf (va_wsS RX7 70 yX7_size wsX7_size) := goodIn_app (goodIn_of _ (by decide +kernel)) ggX7_strakeOf_X7_size
theorem dX7_strakeOf_0 : decode cX7_strakeOf 0 = .ok (.iconst 0, 1) := by decide +kernel
theorem dX7_strakeOf_1 : decode cX7_strakeOf 1 = .ok (.istore_n 2, 1) := by decide +kernel
theorem dX7_strakeOf_2 : decode cX7_strakeOf 2 = .ok (.iconst 0, 1) := by decide +kernel
theorem dX7_strakeOf_3 : decode cX7_strakeOf 3 = .ok (.istore_n 3, 1) := by decide +kernel
theorem dX7_strakeOf_4 : decode cX7_strakeOf 4 = .ok (.iload_n 3, 1) := by decide +kernel
theorem dX7_strakeOf_5 : decode cX7_strakeOf 5 = .ok (.iconst 1, 1) := by decide +kernel
theorem dX7_strakeOf_6 : decode cX7_strakeOf 6 = .ok (.iadd, 1) := by decide +kernel
theorem dX7_strakeOf_7 : decode cX7_strakeOf 7 = .ok (.bipush 9, 2) := by decide +kernel
theorem dX7_strakeOf_9 : decode cX7_strakeOf 9 = .ok (.if_icmp .ge 33, 3) := by decide +kernel
theorem dX7_strakeOf_12 : decode cX7_strakeOf 12 = .ok (.iload_n 2, 1) := by decide +kernel
theorem dX7_strakeOf_13 : decode cX7_strakeOf 13 = .ok (.bipush 10, 2) := by decide +kernel
theorem dX7_strakeOf_15 : decode cX7_strakeOf 15 = .ok (.aload_n 0, 1) := by decide +kernel
theorem dX7_strakeOf_16 : decode cX7_strakeOf 16 = .ok (.iload_n 3, 1) := by decide +kernel
theorem dX7_strakeOf_17 : decode cX7_strakeOf 17 = .ok (.iload_n 1, 1) := by decide +kernel
theorem dX7_strakeOf_18 : decode cX7_strakeOf 18 = .ok (.invokevirtual 59, 3) := by decide +kernel
theorem dX7_strakeOf_21 : decode cX7_strakeOf 21 = .ok (.aload_n 0, 1) := by decide +kernel
theorem dX7_strakeOf_22 : decode cX7_strakeOf 22 = .ok (.iload_n 3, 1) := by decide +kernel
theorem dX7_strakeOf_23 : decode cX7_strakeOf 23 = .ok (.iconst 1, 1) := by decide +kernel
theorem dX7_strakeOf_24 : decode cX7_strakeOf 24 = .ok (.iadd, 1) := by decide +kernel
theorem dX7_strakeOf_25 : decode cX7_strakeOf 25 = .ok (.iload_n 1, 1) := by decide +kernel
theorem dX7_strakeOf_26 : decode cX7_strakeOf 26 = .ok (.invokevirtual 59, 3) := by decide +kernel
theorem dX7_strakeOf_29 : decode cX7_strakeOf 29 = .ok (.isub, 1) := by decide +kernel
theorem dX7_strakeOf_30 : decode cX7_strakeOf 30 = .ok (.invokestatic 70, 3) := by decide +kernel
theorem dX7_strakeOf_33 : decode cX7_strakeOf 33 = .ok (.iadd, 1) := by decide +kernel
theorem dX7_strakeOf_34 : decode cX7_strakeOf 34 = .ok (.iadd, 1) := by decide +kernel
theorem dX7_strakeOf_35 : decode cX7_strakeOf 35 = .ok (.istore_n 2, 1) := by decide +kernel
theorem dX7_strakeOf_36 : decode cX7_strakeOf 36 = .ok (.iinc 3 1, 3) := by decide +kernel
theorem dX7_strakeOf_39 : decode cX7_strakeOf 39 = .ok (.goto (-35), 3) := by decide +kernel
theorem dX7_strakeOf_42 : decode cX7_strakeOf 42 = .ok (.iload_n 2, 1) := by decide +kernel
theorem dX7_strakeOf_43 : decode cX7_strakeOf 43 = .ok (.ireturn, 1) := by decide +kernel
set_option maxRecDepth 20000 in
theorem ggX7_strake_X7_in : GoodIn wsX7_strake wsX7_in := goodIn_r _ [5] (by decide +kernel) (by decide +kernel)
set_option maxRecDepth 20000 in
theorem gX7_strake_X7_in : GoodIn wsX7_strake (va_wsS RX7 44 yX7_in wsX7_in) := goodIn_app (goodIn_of _ (by decide +kernel)) ggX7_strake_X7_in
set_option maxRecDepth 20000 in
theorem ggX7_strake_X7_strakeOf : GoodIn wsX7_strake wsX7_strakeOf := goodIn_r _ [9, 10, 11, 12, 4, 13, 14, 15, 16, 17, 18, 19, 20, 21, 22, 23, 24, 25, 26, 27, 28, 29, 30, 31, 32, 33] (by decide +kernel) (by decide +kernel)
set_option maxRecDepth 20000 in
theorem gX7_strake_X7_strakeOf : GoodIn wsX7_strake (wsV RX7 127 RX7 yX7_strakeOf wsX7_strakeOf) := goodIn_app (goodIn_of _ (by decide +kernel)) ggX7_strake_X7_strakeOf
theorem dX7_strake_0 : decode cX7_strake 0 = .ok (.aload_n 0, 1) := by decide +kernel
theorem dX7_strake_1 : decode cX7_strake 1 = .ok (.iload_n 1, 1) := by decide +kernel
theorem dX7_strake_2 : decode cX7_strake 2 = .ok (.iconst 0, 1) := by decide +kernel
theorem dX7_strake_3 : decode cX7_strake 3 = .ok (.iconst 4, 1) := by decide +kernel
theorem dX7_strake_4 : decode cX7_strake 4 = .ok (.invokestatic 44, 3) := by decide +kernel
theorem dX7_strake_7 : decode cX7_strake 7 = .ok (.ifCond .eq 7, 3) := by decide +kernel
theorem dX7_strake_10 : decode cX7_strake 10 = .ok (.iconst 0, 1) := by decide +kernel
theorem dX7_strake_11 : decode cX7_strake 11 = .ok (.goto 4, 3) := by decide +kernel
theorem dX7_strake_14 : decode cX7_strake 14 = .ok (.iconst 1, 1) := by decide +kernel
theorem dX7_strake_15 : decode cX7_strake 15 = .ok (.putfield 41, 3) := by decide +kernel
theorem dX7_strake_18 : decode cX7_strake 18 = .ok (.aload_n 0, 1) := by decide +kernel
theorem dX7_strake_19 : decode cX7_strake 19 = .ok (.getfield 41, 3) := by decide +kernel
theorem dX7_strake_22 : decode cX7_strake 22 = .ok (.ifCond .le 7, 3) := by decide +kernel
theorem dX7_strake_25 : decode cX7_strake 25 = .ok (.iconst 0, 1) := by decide +kernel
theorem dX7_strake_26 : decode cX7_strake 26 = .ok (.goto 8, 3) := by decide +kernel
theorem dX7_strake_29 : decode cX7_strake 29 = .ok (.aload_n 0, 1) := by decide +kernel
theorem dX7_strake_30 : decode cX7_strake 30 = .ok (.iload_n 1, 1) := by decide +kernel
theorem dX7_strake_31 : decode cX7_strake 31 = .ok (.invokevirtual 127, 3) := by decide +kernel
theorem dX7_strake_34 : decode cX7_strake 34 = .ok (.ireturn, 1) := by decide +kernel
set_option maxRecDepth 20000 in
theorem ggX7_strakeBehind_X7_strakeOf : GoodIn wsX7_strakeBehind wsX7_strakeOf := goodIn_r _ [5, 6, 7, 8, 4, 9, 10, 11, 12, 13, 14, 15, 16, 17, 18, 19, 20, 21, 22, 23, 24, 25, 26, 27, 28, 29] (by decide +kernel) (by decide +kernel)
set_option maxRecDepth 20000 in
theorem gX7_strakeBehind_X7_strakeOf : GoodIn wsX7_strakeBehind (wsV RX7 127 RX7 yX7_strakeOf wsX7_strakeOf) := goodIn_app (goodIn_of _ (by decide +kernel)) ggX7_strakeBehind_X7_strakeOf
theorem dX7_strakeBehind_0 : decode cX7_strakeBehind 0 = .ok (.iconst (-1), 1) := by decide +kernel
theorem dX7_strakeBehind_1 : decode cX7_strakeBehind 1 = .ok (.istore_n 2, 1) := by decide +kernel
theorem dX7_strakeBehind_2 : decode cX7_strakeBehind 2 = .ok (.iconst 0, 1) := by decide +kernel
theorem dX7_strakeBehind_3 : decode cX7_strakeBehind 3 = .ok (.istore_n 3, 1) := by decide +kernel
theorem dX7_strakeBehind_4 : decode cX7_strakeBehind 4 = .ok (.iload_n 3, 1) := by decide +kernel
theorem dX7_strakeBehind_5 : decode cX7_strakeBehind 5 = .ok (.iconst 5, 1) := by decide +kernel
theorem dX7_strakeBehind_6 : decode cX7_strakeBehind 6 = .ok (.if_icmp .ge 83, 3) := by decide +kernel
theorem dX7_strakeBehind_9 : decode cX7_strakeBehind 9 = .ok (.iconst 0, 1) := by decide +kernel
theorem dX7_strakeBehind_10 : decode cX7_strakeBehind 10 = .ok (.istore 4, 2) := by decide +kernel
theorem dX7_strakeBehind_12 : decode cX7_strakeBehind 12 = .ok (.iconst 0, 1) := by decide +kernel
theorem dX7_strakeBehind_13 : decode cX7_strakeBehind 13 = .ok (.istore 5, 2) := by decide +kernel
theorem dX7_strakeBehind_15 : decode cX7_strakeBehind 15 = .ok (.iload 5, 2) := by decide +kernel
theorem dX7_strakeBehind_17 : decode cX7_strakeBehind 17 = .ok (.iconst 5, 1) := by decide +kernel
theorem dX7_strakeBehind_18 : decode cX7_strakeBehind 18 = .ok (.if_icmp .ge 53, 3) := by decide +kernel
theorem dX7_strakeBehind_21 : decode cX7_strakeBehind 21 = .ok (.iload 4, 2) := by decide +kernel
theorem dX7_strakeBehind_23 : decode cX7_strakeBehind 23 = .ok (.aload_n 0, 1) := by decide +kernel
theorem dX7_strakeBehind_24 : decode cX7_strakeBehind 24 = .ok (.iload 5, 2) := by decide +kernel
theorem dX7_strakeBehind_26 : decode cX7_strakeBehind 26 = .ok (.invokevirtual 127, 3) := by decide +kernel
theorem dX7_strakeBehind_29 : decode cX7_strakeBehind 29 = .ok (.aload_n 0, 1) := by decide +kernel
theorem dX7_strakeBehind_30 : decode cX7_strakeBehind 30 = .ok (.iload_n 3, 1) := by decide +kernel
theorem dX7_strakeBehind_31 : decode cX7_strakeBehind 31 = .ok (.invokevirtual 127, 3) := by decide +kernel
theorem dX7_strakeBehind_34 : decode cX7_strakeBehind 34 = .ok (.if_icmp .gt 23, 3) := by decide +kernel
theorem dX7_strakeBehind_37 : decode cX7_strakeBehind 37 = .ok (.aload_n 0, 1) := by decide +kernel
theorem dX7_strakeBehind_38 : decode cX7_strakeBehind 38 = .ok (.iload 5, 2) := by decide +kernel
theorem dX7_strakeBehind_40 : decode cX7_strakeBehind 40 = .ok (.invokevirtual 127, 3) := by decide +kernel
theorem dX7_strakeBehind_43 : decode cX7_strakeBehind 43 = .ok (.aload_n 0, 1) := by decide +kernel
theorem dX7_strakeBehind_44 : decode cX7_strakeBehind 44 = .ok (.iload_n 3, 1) := by decide +kernel
theorem dX7_strakeBehind_45 : decode cX7_strakeBehind 45 = .ok (.invokevirtual 127, 3) := by decide +kernel
theorem dX7_strakeBehind_48 : decode cX7_strakeBehind 48 = .ok (.if_icmp .ne 13, 3) := by decide +kernel
theorem dX7_strakeBehind_51 : decode cX7_strakeBehind 51 = .ok (.iload 5, 2) := by decide +kernel
theorem dX7_strakeBehind_53 : decode cX7_strakeBehind 53 = .ok (.iload_n 3, 1) := by decide +kernel
theorem dX7_strakeBehind_54 : decode cX7_strakeBehind 54 = .ok (.if_icmp .ge 7, 3) := by decide +kernel
theorem dX7_strakeBehind_57 : decode cX7_strakeBehind 57 = .ok (.iconst 1, 1) := by decide +kernel
theorem dX7_strakeBehind_58 : decode cX7_strakeBehind 58 = .ok (.goto 4, 3) := by decide +kernel
theorem dX7_strakeBehind_61 : decode cX7_strakeBehind 61 = .ok (.iconst 0, 1) := by decide +kernel
theorem dX7_strakeBehind_62 : decode cX7_strakeBehind 62 = .ok (.iadd, 1) := by decide +kernel
theorem dX7_strakeBehind_63 : decode cX7_strakeBehind 63 = .ok (.istore 4, 2) := by decide +kernel
theorem dX7_strakeBehind_65 : decode cX7_strakeBehind 65 = .ok (.iinc 5 1, 3) := by decide +kernel
theorem dX7_strakeBehind_68 : decode cX7_strakeBehind 68 = .ok (.goto (-53), 3) := by decide +kernel
theorem dX7_strakeBehind_71 : decode cX7_strakeBehind 71 = .ok (.iload 4, 2) := by decide +kernel
theorem dX7_strakeBehind_73 : decode cX7_strakeBehind 73 = .ok (.iload_n 1, 1) := by decide +kernel
theorem dX7_strakeBehind_74 : decode cX7_strakeBehind 74 = .ok (.if_icmp .ne 7, 3) := by decide +kernel
theorem dX7_strakeBehind_77 : decode cX7_strakeBehind 77 = .ok (.iload_n 3, 1) := by decide +kernel
theorem dX7_strakeBehind_78 : decode cX7_strakeBehind 78 = .ok (.goto 4, 3) := by decide +kernel
theorem dX7_strakeBehind_81 : decode cX7_strakeBehind 81 = .ok (.iload_n 2, 1) := by decide +kernel
theorem dX7_strakeBehind_82 : decode cX7_strakeBehind 82 = .ok (.istore_n 2, 1) := by decide +kernel
theorem dX7_strakeBehind_83 : decode cX7_strakeBehind 83 = .ok (.iinc 3 1, 3) := by decide +kernel
theorem dX7_strakeBehind_86 : decode cX7_strakeBehind 86 = .ok (.goto (-82), 3) := by decide +kernel
theorem dX7_strakeBehind_89 : decode cX7_strakeBehind 89 = .ok (.iload_n 2, 1) := by decide +kernel
theorem dX7_strakeBehind_90 : decode cX7_strakeBehind 90 = .ok (.ireturn, 1) := by decide +kernel
set_option maxRecDepth 20000 in
theorem ggX7_planksNow_X7_strakeBehind : GoodIn wsX7_planksNow wsX7_strakeBehind := goodIn_r _ [8, 9, 10, 11, 7, 12, 13, 14, 15, 16, 17, 18, 19, 20, 21, 22, 23, 24, 25, 26, 27, 28, 29, 30, 31, 32, 33, 34, 35, 36] (by decide +kernel) (by decide +kernel)
set_option maxRecDepth 20000 in
theorem gX7_planksNow_X7_strakeBehind : GoodIn wsX7_planksNow (wsV RX7 130 RX7 yX7_strakeBehind wsX7_strakeBehind) := goodIn_app (goodIn_of _ (by decide +kernel)) ggX7_planksNow_X7_strakeBehind
set_option maxRecDepth 20000 in
theorem ggX7_planksNow_X7_strakeOf : GoodIn wsX7_planksNow wsX7_strakeOf := goodIn_r _ [12, 13, 14, 15, 7, 16, 17, 18, 19, 20, 21, 22, 23, 24, 25, 26, 27, 28, 29, 30, 31, 32, 33, 34, 35, 36] (by decide +kernel) (by decide +kernel)
set_option maxRecDepth 20000 in
theorem gX7_planksNow_X7_strakeOf : GoodIn wsX7_planksNow (wsV RX7 127 RX7 yX7_strakeOf wsX7_strakeOf) := goodIn_app (goodIn_of _ (by decide +kernel)) ggX7_planksNow_X7_strakeOf
theorem dX7_planksNow_0 : decode cX7_planksNow 0 = .ok (.iconst 0, 1) := by decide +kernel
theorem dX7_planksNow_1 : decode cX7_planksNow 1 = .ok (.istore_n 1, 1) := by decide +kernel
theorem dX7_planksNow_2 : decode cX7_planksNow 2 = .ok (.iconst 0, 1) := by decide +kernel
theorem dX7_planksNow_3 : decode cX7_planksNow 3 = .ok (.istore_n 2, 1) := by decide +kernel
theorem dX7_planksNow_4 : decode cX7_planksNow 4 = .ok (.iload_n 2, 1) := by decide +kernel
theorem dX7_planksNow_5 : decode cX7_planksNow 5 = .ok (.bipush 10, 2) := by decide +kernel
theorem dX7_planksNow_7 : decode cX7_planksNow 7 = .ok (.if_icmp .ge 127, 3) := by decide +kernel
theorem dX7_planksNow_10 : decode cX7_planksNow 10 = .ok (.aload_n 0, 1) := by decide +kernel
theorem dX7_planksNow_11 : decode cX7_planksNow 11 = .ok (.iload_n 2, 1) := by decide +kernel
theorem dX7_planksNow_12 : decode cX7_planksNow 12 = .ok (.iconst 2, 1) := by decide +kernel
theorem dX7_planksNow_13 : decode cX7_planksNow 13 = .ok (.idiv, 1) := by decide +kernel
theorem dX7_planksNow_14 : decode cX7_planksNow 14 = .ok (.invokevirtual 130, 3) := by decide +kernel
theorem dX7_planksNow_17 : decode cX7_planksNow 17 = .ok (.istore_n 3, 1) := by decide +kernel
theorem dX7_planksNow_18 : decode cX7_planksNow 18 = .ok (.aload_n 0, 1) := by decide +kernel
theorem dX7_planksNow_19 : decode cX7_planksNow 19 = .ok (.iload_n 3, 1) := by decide +kernel
theorem dX7_planksNow_20 : decode cX7_planksNow 20 = .ok (.invokevirtual 127, 3) := by decide +kernel
theorem dX7_planksNow_23 : decode cX7_planksNow 23 = .ok (.istore 4, 2) := by decide +kernel
theorem dX7_planksNow_25 : decode cX7_planksNow 25 = .ok (.iload 4, 2) := by decide +kernel
theorem dX7_planksNow_27 : decode cX7_planksNow 27 = .ok (.aload_n 0, 1) := by decide +kernel
theorem dX7_planksNow_28 : decode cX7_planksNow 28 = .ok (.getfield 19, 3) := by decide +kernel
theorem dX7_planksNow_31 : decode cX7_planksNow 31 = .ok (.if_icmp .le 25, 3) := by decide +kernel
theorem dX7_planksNow_34 : decode cX7_planksNow 34 = .ok (.aload_n 0, 1) := by decide +kernel
theorem dX7_planksNow_35 : decode cX7_planksNow 35 = .ok (.getfield 23, 3) := by decide +kernel
theorem dX7_planksNow_38 : decode cX7_planksNow 38 = .ok (.iload_n 1, 1) := by decide +kernel
theorem dX7_planksNow_39 : decode cX7_planksNow 39 = .ok (.iconst 0, 1) := by decide +kernel
theorem dX7_planksNow_40 : decode cX7_planksNow 40 = .ok (.iastore, 1) := by decide +kernel
theorem dX7_planksNow_41 : decode cX7_planksNow 41 = .ok (.iinc 1 1, 3) := by decide +kernel
theorem dX7_planksNow_44 : decode cX7_planksNow 44 = .ok (.iload 4, 2) := by decide +kernel
theorem dX7_planksNow_46 : decode cX7_planksNow 46 = .ok (.aload_n 0, 1) := by decide +kernel
theorem dX7_planksNow_47 : decode cX7_planksNow 47 = .ok (.getfield 19, 3) := by decide +kernel
theorem dX7_planksNow_50 : decode cX7_planksNow 50 = .ok (.isub, 1) := by decide +kernel
theorem dX7_planksNow_51 : decode cX7_planksNow 51 = .ok (.istore 4, 2) := by decide +kernel
theorem dX7_planksNow_53 : decode cX7_planksNow 53 = .ok (.goto (-28), 3) := by decide +kernel
theorem dX7_planksNow_56 : decode cX7_planksNow 56 = .ok (.iconst 0, 1) := by decide +kernel
theorem dX7_planksNow_57 : decode cX7_planksNow 57 = .ok (.istore 5, 2) := by decide +kernel
theorem dX7_planksNow_59 : decode cX7_planksNow 59 = .ok (.iload 5, 2) := by decide +kernel
theorem dX7_planksNow_61 : decode cX7_planksNow 61 = .ok (.iload_n 1, 1) := by decide +kernel
theorem dX7_planksNow_62 : decode cX7_planksNow 62 = .ok (.if_icmp .ge 21, 3) := by decide +kernel
theorem dX7_planksNow_65 : decode cX7_planksNow 65 = .ok (.aload_n 0, 1) := by decide +kernel
theorem dX7_planksNow_66 : decode cX7_planksNow 66 = .ok (.getfield 23, 3) := by decide +kernel
theorem dX7_planksNow_69 : decode cX7_planksNow 69 = .ok (.iload 5, 2) := by decide +kernel
theorem dX7_planksNow_71 : decode cX7_planksNow 71 = .ok (.iaload, 1) := by decide +kernel
theorem dX7_planksNow_72 : decode cX7_planksNow 72 = .ok (.iload 4, 2) := by decide +kernel
theorem dX7_planksNow_74 : decode cX7_planksNow 74 = .ok (.if_icmp .ge 9, 3) := by decide +kernel
theorem dX7_planksNow_77 : decode cX7_planksNow 77 = .ok (.iinc 5 1, 3) := by decide +kernel
theorem dX7_planksNow_80 : decode cX7_planksNow 80 = .ok (.goto (-21), 3) := by decide +kernel
theorem dX7_planksNow_83 : decode cX7_planksNow 83 = .ok (.iload 5, 2) := by decide +kernel
theorem dX7_planksNow_85 : decode cX7_planksNow 85 = .ok (.iload_n 1, 1) := by decide +kernel
theorem dX7_planksNow_86 : decode cX7_planksNow 86 = .ok (.if_icmp .ne 16, 3) := by decide +kernel
theorem dX7_planksNow_89 : decode cX7_planksNow 89 = .ok (.aload_n 0, 1) := by decide +kernel
theorem dX7_planksNow_90 : decode cX7_planksNow 90 = .ok (.getfield 23, 3) := by decide +kernel
theorem dX7_planksNow_93 : decode cX7_planksNow 93 = .ok (.iload_n 1, 1) := by decide +kernel
theorem dX7_planksNow_94 : decode cX7_planksNow 94 = .ok (.aload_n 0, 1) := by decide +kernel
theorem dX7_planksNow_95 : decode cX7_planksNow 95 = .ok (.getfield 19, 3) := by decide +kernel
theorem dX7_planksNow_98 : decode cX7_planksNow 98 = .ok (.iastore, 1) := by decide +kernel
theorem dX7_planksNow_99 : decode cX7_planksNow 99 = .ok (.iinc 1 1, 3) := by decide +kernel
theorem dX7_planksNow_102 : decode cX7_planksNow 102 = .ok (.aload_n 0, 1) := by decide +kernel
theorem dX7_planksNow_103 : decode cX7_planksNow 103 = .ok (.getfield 23, 3) := by decide +kernel
theorem dX7_planksNow_106 : decode cX7_planksNow 106 = .ok (.iload 5, 2) := by decide +kernel
theorem dX7_planksNow_108 : decode cX7_planksNow 108 = .ok (.dup2, 1) := by decide +kernel
theorem dX7_planksNow_109 : decode cX7_planksNow 109 = .ok (.iaload, 1) := by decide +kernel
theorem dX7_planksNow_110 : decode cX7_planksNow 110 = .ok (.iload 4, 2) := by decide +kernel
theorem dX7_planksNow_112 : decode cX7_planksNow 112 = .ok (.isub, 1) := by decide +kernel
theorem dX7_planksNow_113 : decode cX7_planksNow 113 = .ok (.iastore, 1) := by decide +kernel
theorem dX7_planksNow_114 : decode cX7_planksNow 114 = .ok (.aload_n 0, 1) := by decide +kernel
theorem dX7_planksNow_115 : decode cX7_planksNow 115 = .ok (.getfield 26, 3) := by decide +kernel
theorem dX7_planksNow_118 : decode cX7_planksNow 118 = .ok (.iconst 2, 1) := by decide +kernel
theorem dX7_planksNow_119 : decode cX7_planksNow 119 = .ok (.iload_n 3, 1) := by decide +kernel
theorem dX7_planksNow_120 : decode cX7_planksNow 120 = .ok (.imul, 1) := by decide +kernel
theorem dX7_planksNow_121 : decode cX7_planksNow 121 = .ok (.iload_n 2, 1) := by decide +kernel
theorem dX7_planksNow_122 : decode cX7_planksNow 122 = .ok (.iconst 2, 1) := by decide +kernel
theorem dX7_planksNow_123 : decode cX7_planksNow 123 = .ok (.irem, 1) := by decide +kernel
theorem dX7_planksNow_124 : decode cX7_planksNow 124 = .ok (.iadd, 1) := by decide +kernel
theorem dX7_planksNow_125 : decode cX7_planksNow 125 = .ok (.iload 5, 2) := by decide +kernel
theorem dX7_planksNow_127 : decode cX7_planksNow 127 = .ok (.iastore, 1) := by decide +kernel
theorem dX7_planksNow_128 : decode cX7_planksNow 128 = .ok (.iinc 2 1, 3) := by decide +kernel
theorem dX7_planksNow_131 : decode cX7_planksNow 131 = .ok (.goto (-127), 3) := by decide +kernel
theorem dX7_planksNow_134 : decode cX7_planksNow 134 = .ok (.iload_n 1, 1) := by decide +kernel
theorem dX7_planksNow_135 : decode cX7_planksNow 135 = .ok (.ireturn, 1) := by decide +kernel
set_option maxRecDepth 20000 in
theorem ggX7_planks_X7_in : GoodIn wsX7_planks wsX7_in := goodIn_r _ [6] (by decide +kernel) (by decide +kernel)
set_option maxRecDepth 20000 in
theorem gX7_planks_X7_in : GoodIn wsX7_planks (va_wsS RX7 44 yX7_in wsX7_in) := goodIn_app (goodIn_of _ (by decide +kernel)) ggX7_planks_X7_in
set_option maxRecDepth 20000 in
theorem ggX7_planks_X7_planksNow : GoodIn wsX7_planks wsX7_planksNow := goodIn_r _ [10, 2, 11, 12, 13, 14, 15, 5, 16, 17, 18, 19, 20, 21, 22, 23, 24, 25, 26, 27, 28, 29, 30, 31, 32, 33, 34, 35, 36, 37, 38, 39, 40, 41, 42, 43, 44] (by decide +kernel) (by decide +kernel)
set_option maxRecDepth 20000 in
theorem gX7_planks_X7_planksNow : GoodIn wsX7_planks (wsV RX7 133 RX7 yX7_planksNow wsX7_planksNow) := goodIn_app (goodIn_of _ (by decide +kernel)) ggX7_planks_X7_planksNow
theorem dX7_planks_0 : decode cX7_planks 0 = .ok (.aload_n 0, 1) := by decide +kernel
theorem dX7_planks_1 : decode cX7_planks 1 = .ok (.iload_n 1, 1) := by decide +kernel
theorem dX7_planks_2 : decode cX7_planks 2 = .ok (.bipush 100, 2) := by decide +kernel
theorem dX7_planks_4 : decode cX7_planks 4 = .ok (.sipush 4000, 3) := by decide +kernel
theorem dX7_planks_7 : decode cX7_planks 7 = .ok (.invokestatic 44, 3) := by decide +kernel
theorem dX7_planks_10 : decode cX7_planks 10 = .ok (.ifCond .eq 7, 3) := by decide +kernel
theorem dX7_planks_13 : decode cX7_planks 13 = .ok (.iconst 0, 1) := by decide +kernel
theorem dX7_planks_14 : decode cX7_planks 14 = .ok (.goto 4, 3) := by decide +kernel
theorem dX7_planks_17 : decode cX7_planks 17 = .ok (.iconst 1, 1) := by decide +kernel
theorem dX7_planks_18 : decode cX7_planks 18 = .ok (.putfield 41, 3) := by decide +kernel
theorem dX7_planks_21 : decode cX7_planks 21 = .ok (.aload_n 0, 1) := by decide +kernel
theorem dX7_planks_22 : decode cX7_planks 22 = .ok (.getfield 41, 3) := by decide +kernel
theorem dX7_planks_25 : decode cX7_planks 25 = .ok (.ifCond .le 5, 3) := by decide +kernel
theorem dX7_planks_28 : decode cX7_planks 28 = .ok (.iconst 0, 1) := by decide +kernel
theorem dX7_planks_29 : decode cX7_planks 29 = .ok (.ireturn, 1) := by decide +kernel
theorem dX7_planks_30 : decode cX7_planks 30 = .ok (.aload_n 0, 1) := by decide +kernel
theorem dX7_planks_31 : decode cX7_planks 31 = .ok (.iload_n 1, 1) := by decide +kernel
theorem dX7_planks_32 : decode cX7_planks 32 = .ok (.putfield 19, 3) := by decide +kernel
theorem dX7_planks_35 : decode cX7_planks 35 = .ok (.aload_n 0, 1) := by decide +kernel
theorem dX7_planks_36 : decode cX7_planks 36 = .ok (.invokevirtual 133, 3) := by decide +kernel
theorem dX7_planks_39 : decode cX7_planks 39 = .ok (.ireturn, 1) := by decide +kernel
set_option maxRecDepth 20000 in
theorem ggX7_plankOf_X7_in : GoodIn wsX7_plankOf wsX7_in := goodIn_r _ [6] (by decide +kernel) (by decide +kernel)
set_option maxRecDepth 20000 in
theorem gX7_plankOf_X7_in : GoodIn wsX7_plankOf (va_wsS RX7 44 yX7_in wsX7_in) := goodIn_app (goodIn_of _ (by decide +kernel)) ggX7_plankOf_X7_in
set_option maxRecDepth 20000 in
theorem ggX7_plankOf_X7_planksNow : GoodIn wsX7_plankOf wsX7_planksNow := goodIn_r _ [10, 11, 12, 2, 13, 14, 15, 5, 16, 17, 18, 19, 20, 21, 22, 23, 24, 25, 26, 27, 28, 29, 30, 31, 32, 33, 34, 35, 36, 37, 38, 39, 40, 41, 42, 43, 44] (by decide +kernel) (by decide +kernel)
set_option maxRecDepth 20000 in
theorem gX7_plankOf_X7_planksNow : GoodIn wsX7_plankOf (wsV RX7 133 RX7 yX7_planksNow wsX7_planksNow) := goodIn_app (goodIn_of _ (by decide +kernel)) ggX7_plankOf_X7_planksNow
theorem dX7_plankOf_0 : decode cX7_plankOf 0 = .ok (.aload_n 0, 1) := by decide +kernel
theorem dX7_plankOf_1 : decode cX7_plankOf 1 = .ok (.iload_n 1, 1) := by decide +kernel
theorem dX7_plankOf_2 : decode cX7_plankOf 2 = .ok (.iconst 0, 1) := by decide +kernel
theorem dX7_plankOf_3 : decode cX7_plankOf 3 = .ok (.iconst 4, 1) := by decide +kernel
theorem dX7_plankOf_4 : decode cX7_plankOf 4 = .ok (.invokestatic 44, 3) := by decide +kernel
theorem dX7_plankOf_7 : decode cX7_plankOf 7 = .ok (.ifCond .eq 7, 3) := by decide +kernel
theorem dX7_plankOf_10 : decode cX7_plankOf 10 = .ok (.iconst 0, 1) := by decide +kernel
theorem dX7_plankOf_11 : decode cX7_plankOf 11 = .ok (.goto 4, 3) := by decide +kernel
theorem dX7_plankOf_14 : decode cX7_plankOf 14 = .ok (.iconst 1, 1) := by decide +kernel
theorem dX7_plankOf_15 : decode cX7_plankOf 15 = .ok (.putfield 41, 3) := by decide +kernel
theorem dX7_plankOf_18 : decode cX7_plankOf 18 = .ok (.aload_n 0, 1) := by decide +kernel
theorem dX7_plankOf_19 : decode cX7_plankOf 19 = .ok (.getfield 41, 3) := by decide +kernel
theorem dX7_plankOf_22 : decode cX7_plankOf 22 = .ok (.ifCond .le 5, 3) := by decide +kernel
theorem dX7_plankOf_25 : decode cX7_plankOf 25 = .ok (.iconst 0, 1) := by decide +kernel
theorem dX7_plankOf_26 : decode cX7_plankOf 26 = .ok (.ireturn, 1) := by decide +kernel
theorem dX7_plankOf_27 : decode cX7_plankOf 27 = .ok (.aload_n 0, 1) := by decide +kernel
theorem dX7_plankOf_28 : decode cX7_plankOf 28 = .ok (.invokevirtual 133, 3) := by decide +kernel
theorem dX7_plankOf_31 : decode cX7_plankOf 31 = .ok (.pop, 1) := by decide +kernel
theorem dX7_plankOf_32 : decode cX7_plankOf 32 = .ok (.aload_n 0, 1) := by decide +kernel
theorem dX7_plankOf_33 : decode cX7_plankOf 33 = .ok (.getfield 26, 3) := by decide +kernel
theorem dX7_plankOf_36 : decode cX7_plankOf 36 = .ok (.iconst 2, 1) := by decide +kernel
theorem dX7_plankOf_37 : decode cX7_plankOf 37 = .ok (.iload_n 1, 1) := by decide +kernel
theorem dX7_plankOf_38 : decode cX7_plankOf 38 = .ok (.imul, 1) := by decide +kernel
theorem dX7_plankOf_39 : decode cX7_plankOf 39 = .ok (.iload_n 2, 1) := by decide +kernel
theorem dX7_plankOf_40 : decode cX7_plankOf 40 = .ok (.ifCond .eq 7, 3) := by decide +kernel
theorem dX7_plankOf_43 : decode cX7_plankOf 43 = .ok (.iconst 1, 1) := by decide +kernel
theorem dX7_plankOf_44 : decode cX7_plankOf 44 = .ok (.goto 4, 3) := by decide +kernel
theorem dX7_plankOf_47 : decode cX7_plankOf 47 = .ok (.iconst 0, 1) := by decide +kernel
theorem dX7_plankOf_48 : decode cX7_plankOf 48 = .ok (.iadd, 1) := by decide +kernel
theorem dX7_plankOf_49 : decode cX7_plankOf 49 = .ok (.iaload, 1) := by decide +kernel
theorem dX7_plankOf_50 : decode cX7_plankOf 50 = .ok (.ireturn, 1) := by decide +kernel
theorem dX7_tideOn_0 : decode cX7_tideOn 0 = .ok (.bipush 7, 2) := by decide +kernel
theorem dX7_tideOn_2 : decode cX7_tideOn 2 = .ok (.iload_n 1, 1) := by decide +kernel
theorem dX7_tideOn_3 : decode cX7_tideOn 3 = .ok (.imul, 1) := by decide +kernel
theorem dX7_tideOn_4 : decode cX7_tideOn 4 = .ok (.iconst 3, 1) := by decide +kernel
theorem dX7_tideOn_5 : decode cX7_tideOn 5 = .ok (.iadd, 1) := by decide +kernel
theorem dX7_tideOn_6 : decode cX7_tideOn 6 = .ok (.bipush 19, 2) := by decide +kernel
theorem dX7_tideOn_8 : decode cX7_tideOn 8 = .ok (.irem, 1) := by decide +kernel
theorem dX7_tideOn_9 : decode cX7_tideOn 9 = .ok (.istore_n 2, 1) := by decide +kernel
theorem dX7_tideOn_10 : decode cX7_tideOn 10 = .ok (.iconst 0, 1) := by decide +kernel
theorem dX7_tideOn_11 : decode cX7_tideOn 11 = .ok (.istore_n 3, 1) := by decide +kernel
theorem dX7_tideOn_12 : decode cX7_tideOn 12 = .ok (.iload_n 3, 1) := by decide +kernel
theorem dX7_tideOn_13 : decode cX7_tideOn 13 = .ok (.aload_n 0, 1) := by decide +kernel
theorem dX7_tideOn_14 : decode cX7_tideOn 14 = .ok (.getfield 136, 3) := by decide +kernel
theorem dX7_tideOn_17 : decode cX7_tideOn 17 = .ok (.if_icmp .ge 30, 3) := by decide +kernel
theorem dX7_tideOn_20 : decode cX7_tideOn 20 = .ok (.aload_n 0, 1) := by decide +kernel
theorem dX7_tideOn_21 : decode cX7_tideOn 21 = .ok (.getfield 29, 3) := by decide +kernel
theorem dX7_tideOn_24 : decode cX7_tideOn 24 = .ok (.iload_n 3, 1) := by decide +kernel
theorem dX7_tideOn_25 : decode cX7_tideOn 25 = .ok (.iaload, 1) := by decide +kernel
theorem dX7_tideOn_26 : decode cX7_tideOn 26 = .ok (.iload_n 1, 1) := by decide +kernel
theorem dX7_tideOn_27 : decode cX7_tideOn 27 = .ok (.if_icmp .ne 12, 3) := by decide +kernel
theorem dX7_tideOn_30 : decode cX7_tideOn 30 = .ok (.aload_n 0, 1) := by decide +kernel
theorem dX7_tideOn_31 : decode cX7_tideOn 31 = .ok (.getfield 32, 3) := by decide +kernel
theorem dX7_tideOn_34 : decode cX7_tideOn 34 = .ok (.iload_n 3, 1) := by decide +kernel
theorem dX7_tideOn_35 : decode cX7_tideOn 35 = .ok (.iaload, 1) := by decide +kernel
theorem dX7_tideOn_36 : decode cX7_tideOn 36 = .ok (.goto 4, 3) := by decide +kernel
theorem dX7_tideOn_39 : decode cX7_tideOn 39 = .ok (.iload_n 2, 1) := by decide +kernel
theorem dX7_tideOn_40 : decode cX7_tideOn 40 = .ok (.istore_n 2, 1) := by decide +kernel
theorem dX7_tideOn_41 : decode cX7_tideOn 41 = .ok (.iinc 3 1, 3) := by decide +kernel
theorem dX7_tideOn_44 : decode cX7_tideOn 44 = .ok (.goto (-32), 3) := by decide +kernel
theorem dX7_tideOn_47 : decode cX7_tideOn 47 = .ok (.iload_n 2, 1) := by decide +kernel
theorem dX7_tideOn_48 : decode cX7_tideOn 48 = .ok (.ireturn, 1) := by decide +kernel
set_option maxRecDepth 20000 in
theorem ggX7_tide_X7_in : GoodIn wsX7_tide wsX7_in := goodIn_r _ [8] (by decide +kernel) (by decide +kernel)
set_option maxRecDepth 20000 in
theorem gX7_tide_X7_in : GoodIn wsX7_tide (va_wsS RX7 44 yX7_in wsX7_in) := goodIn_app (goodIn_of _ (by decide +kernel)) ggX7_tide_X7_in
set_option maxRecDepth 20000 in
theorem ggX7_tide_X7_tideOn : GoodIn wsX7_tide wsX7_tideOn := goodIn_r _ [12, 2, 3, 4, 13, 14, 15, 16, 17, 18, 19, 20, 21, 22, 23, 24, 25, 26, 27, 28] (by decide +kernel) (by decide +kernel)
set_option maxRecDepth 20000 in
theorem gX7_tide_X7_tideOn : GoodIn wsX7_tide (wsV RX7 139 RX7 yX7_tideOn wsX7_tideOn) := goodIn_app (goodIn_of _ (by decide +kernel)) ggX7_tide_X7_tideOn
theorem dX7_tide_0 : decode cX7_tide 0 = .ok (.aload_n 0, 1) := by decide +kernel
theorem dX7_tide_1 : decode cX7_tide 1 = .ok (.iload_n 1, 1) := by decide +kernel
theorem dX7_tide_2 : decode cX7_tide 2 = .ok (.iconst 0, 1) := by decide +kernel
theorem dX7_tide_3 : decode cX7_tide 3 = .ok (.sipush 9999, 3) := by decide +kernel
theorem dX7_tide_6 : decode cX7_tide 6 = .ok (.invokestatic 44, 3) := by decide +kernel
theorem dX7_tide_9 : decode cX7_tide 9 = .ok (.ifCond .eq 17, 3) := by decide +kernel
theorem dX7_tide_12 : decode cX7_tide 12 = .ok (.iload_n 2, 1) := by decide +kernel
theorem dX7_tide_13 : decode cX7_tide 13 = .ok (.iconst 0, 1) := by decide +kernel
theorem dX7_tide_14 : decode cX7_tide 14 = .ok (.bipush 99, 2) := by decide +kernel
theorem dX7_tide_16 : decode cX7_tide 16 = .ok (.invokestatic 44, 3) := by decide +kernel
theorem dX7_tide_19 : decode cX7_tide 19 = .ok (.ifCond .eq 7, 3) := by decide +kernel
theorem dX7_tide_22 : decode cX7_tide 22 = .ok (.iconst 0, 1) := by decide +kernel
theorem dX7_tide_23 : decode cX7_tide 23 = .ok (.goto 4, 3) := by decide +kernel
theorem dX7_tide_26 : decode cX7_tide 26 = .ok (.iconst 1, 1) := by decide +kernel
theorem dX7_tide_27 : decode cX7_tide 27 = .ok (.putfield 41, 3) := by decide +kernel
theorem dX7_tide_30 : decode cX7_tide 30 = .ok (.aload_n 0, 1) := by decide +kernel
theorem dX7_tide_31 : decode cX7_tide 31 = .ok (.getfield 41, 3) := by decide +kernel
theorem dX7_tide_34 : decode cX7_tide 34 = .ok (.ifCond .le 5, 3) := by decide +kernel
theorem dX7_tide_37 : decode cX7_tide 37 = .ok (.iconst 0, 1) := by decide +kernel
theorem dX7_tide_38 : decode cX7_tide 38 = .ok (.ireturn, 1) := by decide +kernel
theorem dX7_tide_39 : decode cX7_tide 39 = .ok (.aload_n 0, 1) := by decide +kernel
theorem dX7_tide_40 : decode cX7_tide 40 = .ok (.getfield 136, 3) := by decide +kernel
theorem dX7_tide_43 : decode cX7_tide 43 = .ok (.istore_n 3, 1) := by decide +kernel
theorem dX7_tide_44 : decode cX7_tide 44 = .ok (.iconst 0, 1) := by decide +kernel
theorem dX7_tide_45 : decode cX7_tide 45 = .ok (.istore 4, 2) := by decide +kernel
theorem dX7_tide_47 : decode cX7_tide 47 = .ok (.iload 4, 2) := by decide +kernel
theorem dX7_tide_49 : decode cX7_tide 49 = .ok (.aload_n 0, 1) := by decide +kernel
theorem dX7_tide_50 : decode cX7_tide 50 = .ok (.getfield 136, 3) := by decide +kernel
theorem dX7_tide_53 : decode cX7_tide 53 = .ok (.if_icmp .ge 27, 3) := by decide +kernel
theorem dX7_tide_56 : decode cX7_tide 56 = .ok (.aload_n 0, 1) := by decide +kernel
theorem dX7_tide_57 : decode cX7_tide 57 = .ok (.getfield 29, 3) := by decide +kernel
theorem dX7_tide_60 : decode cX7_tide 60 = .ok (.iload 4, 2) := by decide +kernel
theorem dX7_tide_62 : decode cX7_tide 62 = .ok (.iaload, 1) := by decide +kernel
theorem dX7_tide_63 : decode cX7_tide 63 = .ok (.iload_n 1, 1) := by decide +kernel
theorem dX7_tide_64 : decode cX7_tide 64 = .ok (.if_icmp .ne 8, 3) := by decide +kernel
theorem dX7_tide_67 : decode cX7_tide 67 = .ok (.iload 4, 2) := by decide +kernel
theorem dX7_tide_69 : decode cX7_tide 69 = .ok (.goto 4, 3) := by decide +kernel
theorem dX7_tide_72 : decode cX7_tide 72 = .ok (.iload_n 3, 1) := by decide +kernel
theorem dX7_tide_73 : decode cX7_tide 73 = .ok (.istore_n 3, 1) := by decide +kernel
theorem dX7_tide_74 : decode cX7_tide 74 = .ok (.iinc 4 1, 3) := by decide +kernel
theorem dX7_tide_77 : decode cX7_tide 77 = .ok (.goto (-30), 3) := by decide +kernel
theorem dX7_tide_80 : decode cX7_tide 80 = .ok (.aload_n 0, 1) := by decide +kernel
theorem dX7_tide_81 : decode cX7_tide 81 = .ok (.iload_n 3, 1) := by decide +kernel
theorem dX7_tide_82 : decode cX7_tide 82 = .ok (.bipush 40, 2) := by decide +kernel
theorem dX7_tide_84 : decode cX7_tide 84 = .ok (.if_icmp .ne 7, 3) := by decide +kernel
theorem dX7_tide_87 : decode cX7_tide 87 = .ok (.iconst 2, 1) := by decide +kernel
theorem dX7_tide_88 : decode cX7_tide 88 = .ok (.goto 4, 3) := by decide +kernel
theorem dX7_tide_91 : decode cX7_tide 91 = .ok (.iconst 0, 1) := by decide +kernel
theorem dX7_tide_92 : decode cX7_tide 92 = .ok (.putfield 41, 3) := by decide +kernel
theorem dX7_tide_95 : decode cX7_tide 95 = .ok (.aload_n 0, 1) := by decide +kernel
theorem dX7_tide_96 : decode cX7_tide 96 = .ok (.getfield 41, 3) := by decide +kernel
theorem dX7_tide_99 : decode cX7_tide 99 = .ok (.ifCond .le 5, 3) := by decide +kernel
theorem dX7_tide_102 : decode cX7_tide 102 = .ok (.iconst 0, 1) := by decide +kernel
theorem dX7_tide_103 : decode cX7_tide 103 = .ok (.ireturn, 1) := by decide +kernel
theorem dX7_tide_104 : decode cX7_tide 104 = .ok (.aload_n 0, 1) := by decide +kernel
theorem dX7_tide_105 : decode cX7_tide 105 = .ok (.iload_n 1, 1) := by decide +kernel
theorem dX7_tide_106 : decode cX7_tide 106 = .ok (.invokevirtual 139, 3) := by decide +kernel
theorem dX7_tide_109 : decode cX7_tide 109 = .ok (.istore 4, 2) := by decide +kernel
theorem dX7_tide_111 : decode cX7_tide 111 = .ok (.aload_n 0, 1) := by decide +kernel
theorem dX7_tide_112 : decode cX7_tide 112 = .ok (.getfield 29, 3) := by decide +kernel
theorem dX7_tide_115 : decode cX7_tide 115 = .ok (.iload_n 3, 1) := by decide +kernel
theorem dX7_tide_116 : decode cX7_tide 116 = .ok (.iload_n 1, 1) := by decide +kernel
theorem dX7_tide_117 : decode cX7_tide 117 = .ok (.iastore, 1) := by decide +kernel
theorem dX7_tide_118 : decode cX7_tide 118 = .ok (.aload_n 0, 1) := by decide +kernel
theorem dX7_tide_119 : decode cX7_tide 119 = .ok (.getfield 32, 3) := by decide +kernel
theorem dX7_tide_122 : decode cX7_tide 122 = .ok (.iload_n 3, 1) := by decide +kernel
theorem dX7_tide_123 : decode cX7_tide 123 = .ok (.iload_n 2, 1) := by decide +kernel
theorem dX7_tide_124 : decode cX7_tide 124 = .ok (.iastore, 1) := by decide +kernel
theorem dX7_tide_125 : decode cX7_tide 125 = .ok (.aload_n 0, 1) := by decide +kernel
theorem dX7_tide_126 : decode cX7_tide 126 = .ok (.dup, 1) := by decide +kernel
theorem dX7_tide_127 : decode cX7_tide 127 = .ok (.getfield 136, 3) := by decide +kernel
theorem dX7_tide_130 : decode cX7_tide 130 = .ok (.iload_n 3, 1) := by decide +kernel
theorem dX7_tide_131 : decode cX7_tide 131 = .ok (.aload_n 0, 1) := by decide +kernel
theorem dX7_tide_132 : decode cX7_tide 132 = .ok (.getfield 136, 3) := by decide +kernel
theorem dX7_tide_135 : decode cX7_tide 135 = .ok (.if_icmp .ne 7, 3) := by decide +kernel
theorem dX7_tide_138 : decode cX7_tide 138 = .ok (.iconst 1, 1) := by decide +kernel
theorem dX7_tide_139 : decode cX7_tide 139 = .ok (.goto 4, 3) := by decide +kernel
theorem dX7_tide_142 : decode cX7_tide 142 = .ok (.iconst 0, 1) := by decide +kernel
theorem dX7_tide_143 : decode cX7_tide 143 = .ok (.iadd, 1) := by decide +kernel
theorem dX7_tide_144 : decode cX7_tide 144 = .ok (.putfield 136, 3) := by decide +kernel
theorem dX7_tide_147 : decode cX7_tide 147 = .ok (.iload 4, 2) := by decide +kernel
theorem dX7_tide_149 : decode cX7_tide 149 = .ok (.ireturn, 1) := by decide +kernel
set_option maxRecDepth 20000 in
theorem ggX7_sill_X7_in : GoodIn wsX7_sill wsX7_in := goodIn_r _ [6] (by decide +kernel) (by decide +kernel)
set_option maxRecDepth 20000 in
theorem gX7_sill_X7_in : GoodIn wsX7_sill (va_wsS RX7 44 yX7_in wsX7_in) := goodIn_app (goodIn_of _ (by decide +kernel)) ggX7_sill_X7_in
theorem dX7_sill_0 : decode cX7_sill 0 = .ok (.aload_n 0, 1) := by decide +kernel
theorem dX7_sill_1 : decode cX7_sill 1 = .ok (.iload_n 1, 1) := by decide +kernel
theorem dX7_sill_2 : decode cX7_sill 2 = .ok (.iconst 0, 1) := by decide +kernel
theorem dX7_sill_3 : decode cX7_sill 3 = .ok (.bipush 50, 2) := by decide +kernel
theorem dX7_sill_5 : decode cX7_sill 5 = .ok (.invokestatic 44, 3) := by decide +kernel
theorem dX7_sill_8 : decode cX7_sill 8 = .ok (.ifCond .eq 7, 3) := by decide +kernel
theorem dX7_sill_11 : decode cX7_sill 11 = .ok (.iconst 0, 1) := by decide +kernel
theorem dX7_sill_12 : decode cX7_sill 12 = .ok (.goto 4, 3) := by decide +kernel
theorem dX7_sill_15 : decode cX7_sill 15 = .ok (.iconst 1, 1) := by decide +kernel
theorem dX7_sill_16 : decode cX7_sill 16 = .ok (.putfield 41, 3) := by decide +kernel
theorem dX7_sill_19 : decode cX7_sill 19 = .ok (.aload_n 0, 1) := by decide +kernel
theorem dX7_sill_20 : decode cX7_sill 20 = .ok (.getfield 41, 3) := by decide +kernel
theorem dX7_sill_23 : decode cX7_sill 23 = .ok (.ifCond .le 5, 3) := by decide +kernel
theorem dX7_sill_26 : decode cX7_sill 26 = .ok (.iconst 0, 1) := by decide +kernel
theorem dX7_sill_27 : decode cX7_sill 27 = .ok (.ireturn, 1) := by decide +kernel
theorem dX7_sill_28 : decode cX7_sill 28 = .ok (.aload_n 0, 1) := by decide +kernel
theorem dX7_sill_29 : decode cX7_sill 29 = .ok (.getfield 142, 3) := by decide +kernel
theorem dX7_sill_32 : decode cX7_sill 32 = .ok (.istore_n 2, 1) := by decide +kernel
theorem dX7_sill_33 : decode cX7_sill 33 = .ok (.aload_n 0, 1) := by decide +kernel
theorem dX7_sill_34 : decode cX7_sill 34 = .ok (.iload_n 1, 1) := by decide +kernel
theorem dX7_sill_35 : decode cX7_sill 35 = .ok (.putfield 142, 3) := by decide +kernel
theorem dX7_sill_38 : decode cX7_sill 38 = .ok (.iload_n 2, 1) := by decide +kernel
theorem dX7_sill_39 : decode cX7_sill 39 = .ok (.ireturn, 1) := by decide +kernel
set_option maxRecDepth 20000 in
theorem ggX7_neededNow_X7_draughtNow : GoodIn wsX7_neededNow wsX7_draughtNow := goodIn_r _ [6, 7, 8, 9, 5, 10, 11, 12, 13, 14, 15, 16, 17, 18, 19, 20, 21, 22, 23, 24, 44, 45, 46, 47, 48, 49, 50, 51, 52, 53, 54, 55, 56, 57, 58, 59] (by decide +kernel) (by decide +kernel)
set_option maxRecDepth 20000 in
theorem gX7_neededNow_X7_draughtNow : GoodIn wsX7_neededNow (wsV RX7 112 RX7 yX7_draughtNow wsX7_draughtNow) := goodIn_app (goodIn_of _ (by decide +kernel)) ggX7_neededNow_X7_draughtNow
set_option maxRecDepth 20000 in
theorem ggX7_neededNow_X7_trimNow : GoodIn wsX7_neededNow wsX7_trimNow := goodIn_r _ [28, 2, 3, 4, 5, 6, 7, 8, 9, 10, 11, 12, 13, 14, 15, 16, 17, 18, 19, 20, 21, 22, 23, 24, 29, 30, 31, 32, 33, 34, 35, 36, 37, 38, 39, 40, 44, 45, 46, 47, 48, 49, 50, 51, 52, 53, 54, 55, 56, 57, 58, 59] (by decide +kernel) (by decide +kernel)
set_option maxRecDepth 20000 in
theorem gX7_neededNow_X7_trimNow : GoodIn wsX7_neededNow (wsV RX7 124 RX7 yX7_trimNow wsX7_trimNow) := goodIn_app (goodIn_of _ (by decide +kernel)) ggX7_neededNow_X7_trimNow
set_option maxRecDepth 20000 in
theorem ggX7_neededNow_X7_size : GoodIn wsX7_neededNow wsX7_size := goodIn_r _ [43] (by decide +kernel) (by decide +kernel)
set_option maxRecDepth 20000 in
theorem gX7_neededNow_X7_size : GoodIn wsX7_neededNow (va_wsS RX7 70 yX7_size wsX7_size) := goodIn_app (goodIn_of _ (by decide +kernel)) ggX7_neededNow_X7_size
theorem dX7_neededNow_0 : decode cX7_neededNow 0 = .ok (.aload_n 0, 1) := by decide +kernel
theorem dX7_neededNow_1 : decode cX7_neededNow 1 = .ok (.invokevirtual 112, 3) := by decide +kernel
theorem dX7_neededNow_4 : decode cX7_neededNow 4 = .ok (.istore_n 1, 1) := by decide +kernel
theorem dX7_neededNow_5 : decode cX7_neededNow 5 = .ok (.iload_n 1, 1) := by decide +kernel
theorem dX7_neededNow_6 : decode cX7_neededNow 6 = .ok (.iconst (-1), 1) := by decide +kernel
theorem dX7_neededNow_7 : decode cX7_neededNow 7 = .ok (.if_icmp .ne 7, 3) := by decide +kernel
theorem dX7_neededNow_10 : decode cX7_neededNow 10 = .ok (.iconst (-1), 1) := by decide +kernel
theorem dX7_neededNow_11 : decode cX7_neededNow 11 = .ok (.goto 23, 3) := by decide +kernel
theorem dX7_neededNow_14 : decode cX7_neededNow 14 = .ok (.bipush 10, 2) := by decide +kernel
theorem dX7_neededNow_16 : decode cX7_neededNow 16 = .ok (.iload_n 1, 1) := by decide +kernel
theorem dX7_neededNow_17 : decode cX7_neededNow 17 = .ok (.imul, 1) := by decide +kernel
theorem dX7_neededNow_18 : decode cX7_neededNow 18 = .ok (.aload_n 0, 1) := by decide +kernel
theorem dX7_neededNow_19 : decode cX7_neededNow 19 = .ok (.getfield 142, 3) := by decide +kernel
theorem dX7_neededNow_22 : decode cX7_neededNow 22 = .ok (.iadd, 1) := by decide +kernel
theorem dX7_neededNow_23 : decode cX7_neededNow 23 = .ok (.aload_n 0, 1) := by decide +kernel
theorem dX7_neededNow_24 : decode cX7_neededNow 24 = .ok (.invokevirtual 124, 3) := by decide +kernel
theorem dX7_neededNow_27 : decode cX7_neededNow 27 = .ok (.invokestatic 70, 3) := by decide +kernel
theorem dX7_neededNow_30 : decode cX7_neededNow 30 = .ok (.bipush 10, 2) := by decide +kernel
theorem dX7_neededNow_32 : decode cX7_neededNow 32 = .ok (.idiv, 1) := by decide +kernel
theorem dX7_neededNow_33 : decode cX7_neededNow 33 = .ok (.iadd, 1) := by decide +kernel
theorem dX7_neededNow_34 : decode cX7_neededNow 34 = .ok (.ireturn, 1) := by decide +kernel
set_option maxRecDepth 20000 in
theorem ggX7_needed_X7_neededNow : GoodIn wsX7_needed wsX7_neededNow := goodIn_r _ [6, 7, 8, 9, 10, 5, 11, 12, 13, 14, 15, 16, 17, 18, 19, 20, 21, 22, 23, 24, 25, 26, 27, 28, 29, 30, 31, 32, 33, 34, 35, 36, 37, 38, 39, 40, 41, 42, 43, 44, 45, 46, 47, 48, 49, 50, 51, 52, 53, 54, 55, 56, 57, 58, 59, 60, 61, 62, 63, 64] (by decide +kernel) (by decide +kernel)
set_option maxRecDepth 20000 in
theorem gX7_needed_X7_neededNow : GoodIn wsX7_needed (wsV RX7 145 RX7 yX7_neededNow wsX7_neededNow) := goodIn_app (goodIn_of _ (by decide +kernel)) ggX7_needed_X7_neededNow
theorem dX7_needed_0 : decode cX7_needed 0 = .ok (.aload_n 0, 1) := by decide +kernel
theorem dX7_needed_1 : decode cX7_needed 1 = .ok (.iconst 0, 1) := by decide +kernel
theorem dX7_needed_2 : decode cX7_needed 2 = .ok (.putfield 41, 3) := by decide +kernel
theorem dX7_needed_5 : decode cX7_needed 5 = .ok (.aload_n 0, 1) := by decide +kernel
theorem dX7_needed_6 : decode cX7_needed 6 = .ok (.invokevirtual 145, 3) := by decide +kernel
theorem dX7_needed_9 : decode cX7_needed 9 = .ok (.ireturn, 1) := by decide +kernel
set_option maxRecDepth 20000 in
theorem ggX7_day_X7_neededNow : GoodIn wsX7_day wsX7_neededNow := goodIn_r _ [8, 9, 10, 11, 12, 7, 13, 14, 15, 16, 17, 18, 19, 20, 21, 22, 23, 24, 25, 26, 27, 28, 29, 30, 31, 32, 33, 34, 35, 36, 37, 38, 39, 40, 41, 42, 43, 44, 45, 46, 47, 48, 49, 50, 58, 59, 60, 61, 62, 63, 64, 65, 66, 67, 68, 69, 70, 71, 72, 73] (by decide +kernel) (by decide +kernel)
set_option maxRecDepth 20000 in
theorem gX7_day_X7_neededNow : GoodIn wsX7_day (wsV RX7 145 RX7 yX7_neededNow wsX7_neededNow) := goodIn_app (goodIn_of _ (by decide +kernel)) ggX7_day_X7_neededNow
set_option maxRecDepth 20000 in
theorem ggX7_day_X7_tideOn : GoodIn wsX7_day wsX7_tideOn := goodIn_r _ [54, 55, 56, 57, 58, 59, 60, 61, 62, 63, 64, 65, 66, 67, 68, 69, 70, 71, 72, 73] (by decide +kernel) (by decide +kernel)
set_option maxRecDepth 20000 in
theorem gX7_day_X7_tideOn : GoodIn wsX7_day (wsV RX7 139 RX7 yX7_tideOn wsX7_tideOn) := goodIn_app (goodIn_of _ (by decide +kernel)) ggX7_day_X7_tideOn
theorem dX7_day_0 : decode cX7_day 0 = .ok (.aload_n 0, 1) := by decide +kernel
theorem dX7_day_1 : decode cX7_day 1 = .ok (.iconst 0, 1) := by decide +kernel
theorem dX7_day_2 : decode cX7_day 2 = .ok (.putfield 41, 3) := by decide +kernel
theorem dX7_day_5 : decode cX7_day 5 = .ok (.aload_n 0, 1) := by decide +kernel
theorem dX7_day_6 : decode cX7_day 6 = .ok (.invokevirtual 145, 3) := by decide +kernel
theorem dX7_day_9 : decode cX7_day 9 = .ok (.istore_n 1, 1) := by decide +kernel
theorem dX7_day_10 : decode cX7_day 10 = .ok (.iconst (-1), 1) := by decide +kernel
theorem dX7_day_11 : decode cX7_day 11 = .ok (.istore_n 2, 1) := by decide +kernel
theorem dX7_day_12 : decode cX7_day 12 = .ok (.aload_n 0, 1) := by decide +kernel
theorem dX7_day_13 : decode cX7_day 13 = .ok (.getfield 148, 3) := by decide +kernel
theorem dX7_day_16 : decode cX7_day 16 = .ok (.bipush 99, 2) := by decide +kernel
theorem dX7_day_18 : decode cX7_day 18 = .ok (.iadd, 1) := by decide +kernel
theorem dX7_day_19 : decode cX7_day 19 = .ok (.istore_n 3, 1) := by decide +kernel
theorem dX7_day_20 : decode cX7_day 20 = .ok (.iload_n 3, 1) := by decide +kernel
theorem dX7_day_21 : decode cX7_day 21 = .ok (.aload_n 0, 1) := by decide +kernel
theorem dX7_day_22 : decode cX7_day 22 = .ok (.getfield 148, 3) := by decide +kernel
theorem dX7_day_25 : decode cX7_day 25 = .ok (.if_icmp .lt 36, 3) := by decide +kernel
theorem dX7_day_28 : decode cX7_day 28 = .ok (.iload_n 1, 1) := by decide +kernel
theorem dX7_day_29 : decode cX7_day 29 = .ok (.iconst (-1), 1) := by decide +kernel
theorem dX7_day_30 : decode cX7_day 30 = .ok (.if_icmp .eq 31, 3) := by decide +kernel
theorem dX7_day_33 : decode cX7_day 33 = .ok (.aload_n 0, 1) := by decide +kernel
theorem dX7_day_34 : decode cX7_day 34 = .ok (.getfield 55, 3) := by decide +kernel
theorem dX7_day_37 : decode cX7_day 37 = .ok (.ifCond .ne 24, 3) := by decide +kernel
theorem dX7_day_40 : decode cX7_day 40 = .ok (.aload_n 0, 1) := by decide +kernel
theorem dX7_day_41 : decode cX7_day 41 = .ok (.iload_n 3, 1) := by decide +kernel
theorem dX7_day_42 : decode cX7_day 42 = .ok (.invokevirtual 139, 3) := by decide +kernel
theorem dX7_day_45 : decode cX7_day 45 = .ok (.iload_n 1, 1) := by decide +kernel
theorem dX7_day_46 : decode cX7_day 46 = .ok (.if_icmp .lt 7, 3) := by decide +kernel
theorem dX7_day_49 : decode cX7_day 49 = .ok (.iload_n 3, 1) := by decide +kernel
theorem dX7_day_50 : decode cX7_day 50 = .ok (.goto 4, 3) := by decide +kernel
theorem dX7_day_53 : decode cX7_day 53 = .ok (.iload_n 2, 1) := by decide +kernel
theorem dX7_day_54 : decode cX7_day 54 = .ok (.istore_n 2, 1) := by decide +kernel
theorem dX7_day_55 : decode cX7_day 55 = .ok (.iinc 3 (-1), 3) := by decide +kernel
theorem dX7_day_58 : decode cX7_day 58 = .ok (.goto (-38), 3) := by decide +kernel
theorem dX7_day_61 : decode cX7_day 61 = .ok (.iload_n 2, 1) := by decide +kernel
theorem dX7_day_62 : decode cX7_day 62 = .ok (.ireturn, 1) := by decide +kernel
set_option maxRecDepth 20000 in
theorem ggX7_launch_X7_neededNow : GoodIn wsX7_launch wsX7_neededNow := goodIn_r _ [8, 9, 10, 11, 12, 7, 13, 14, 15, 16, 17, 18, 19, 20, 21, 22, 23, 24, 25, 26, 27, 28, 29, 30, 31, 32, 33, 34, 35, 36, 37, 38, 39, 40, 41, 42, 43, 44, 45, 46, 47, 48, 49, 50, 58, 59, 60, 61, 62, 63, 64, 65, 66, 67, 68, 69, 70, 71, 72, 73] (by decide +kernel) (by decide +kernel)
set_option maxRecDepth 20000 in
theorem gX7_launch_X7_neededNow : GoodIn wsX7_launch (wsV RX7 145 RX7 yX7_neededNow wsX7_neededNow) := goodIn_app (goodIn_of _ (by decide +kernel)) ggX7_launch_X7_neededNow
set_option maxRecDepth 20000 in
theorem ggX7_launch_X7_tideOn : GoodIn wsX7_launch wsX7_tideOn := goodIn_r _ [54, 55, 56, 57, 58, 59, 60, 61, 62, 63, 64, 65, 66, 67, 68, 69, 70, 71, 72, 73] (by decide +kernel) (by decide +kernel)
set_option maxRecDepth 20000 in
theorem gX7_launch_X7_tideOn : GoodIn wsX7_launch (wsV RX7 139 RX7 yX7_tideOn wsX7_tideOn) := goodIn_app (goodIn_of _ (by decide +kernel)) ggX7_launch_X7_tideOn
theorem dX7_launch_0 : decode cX7_launch 0 = .ok (.aload_n 0, 1) := by decide +kernel
theorem dX7_launch_1 : decode cX7_launch 1 = .ok (.invokevirtual 145, 3) := by decide +kernel
theorem dX7_launch_4 : decode cX7_launch 4 = .ok (.istore_n 1, 1) := by decide +kernel
theorem dX7_launch_5 : decode cX7_launch 5 = .ok (.aload_n 0, 1) := by decide +kernel
theorem dX7_launch_6 : decode cX7_launch 6 = .ok (.aload_n 0, 1) := by decide +kernel
theorem dX7_launch_7 : decode cX7_launch 7 = .ok (.getfield 55, 3) := by decide +kernel
theorem dX7_launch_10 : decode cX7_launch 10 = .ok (.ifCond .ne 20, 3) := by decide +kernel
theorem dX7_launch_13 : decode cX7_launch 13 = .ok (.iload_n 1, 1) := by decide +kernel
theorem dX7_launch_14 : decode cX7_launch 14 = .ok (.iconst (-1), 1) := by decide +kernel
theorem dX7_launch_15 : decode cX7_launch 15 = .ok (.if_icmp .eq 15, 3) := by decide +kernel
theorem dX7_launch_18 : decode cX7_launch 18 = .ok (.aload_n 0, 1) := by decide +kernel
theorem dX7_launch_19 : decode cX7_launch 19 = .ok (.aload_n 0, 1) := by decide +kernel
theorem dX7_launch_20 : decode cX7_launch 20 = .ok (.getfield 148, 3) := by decide +kernel
theorem dX7_launch_23 : decode cX7_launch 23 = .ok (.invokevirtual 139, 3) := by decide +kernel
theorem dX7_launch_26 : decode cX7_launch 26 = .ok (.iload_n 1, 1) := by decide +kernel
theorem dX7_launch_27 : decode cX7_launch 27 = .ok (.if_icmp .ge 7, 3) := by decide +kernel
theorem dX7_launch_30 : decode cX7_launch 30 = .ok (.iconst 1, 1) := by decide +kernel
theorem dX7_launch_31 : decode cX7_launch 31 = .ok (.goto 4, 3) := by decide +kernel
theorem dX7_launch_34 : decode cX7_launch 34 = .ok (.iconst 0, 1) := by decide +kernel
theorem dX7_launch_35 : decode cX7_launch 35 = .ok (.putfield 41, 3) := by decide +kernel
theorem dX7_launch_38 : decode cX7_launch 38 = .ok (.aload_n 0, 1) := by decide +kernel
theorem dX7_launch_39 : decode cX7_launch 39 = .ok (.getfield 41, 3) := by decide +kernel
theorem dX7_launch_42 : decode cX7_launch 42 = .ok (.ifCond .le 5, 3) := by decide +kernel
theorem dX7_launch_45 : decode cX7_launch 45 = .ok (.iconst 0, 1) := by decide +kernel
theorem dX7_launch_46 : decode cX7_launch 46 = .ok (.ireturn, 1) := by decide +kernel
theorem dX7_launch_47 : decode cX7_launch 47 = .ok (.aload_n 0, 1) := by decide +kernel
theorem dX7_launch_48 : decode cX7_launch 48 = .ok (.iconst 1, 1) := by decide +kernel
theorem dX7_launch_49 : decode cX7_launch 49 = .ok (.putfield 55, 3) := by decide +kernel
theorem dX7_launch_52 : decode cX7_launch 52 = .ok (.aload_n 0, 1) := by decide +kernel
theorem dX7_launch_53 : decode cX7_launch 53 = .ok (.aload_n 0, 1) := by decide +kernel
theorem dX7_launch_54 : decode cX7_launch 54 = .ok (.getfield 148, 3) := by decide +kernel
theorem dX7_launch_57 : decode cX7_launch 57 = .ok (.invokevirtual 139, 3) := by decide +kernel
theorem dX7_launch_60 : decode cX7_launch 60 = .ok (.iload_n 1, 1) := by decide +kernel
theorem dX7_launch_61 : decode cX7_launch 61 = .ok (.isub, 1) := by decide +kernel
theorem dX7_launch_62 : decode cX7_launch 62 = .ok (.ireturn, 1) := by decide +kernel
set_option maxRecDepth 20000 in
theorem ggX7_pass_X7_in : GoodIn wsX7_pass wsX7_in := goodIn_r _ [6] (by decide +kernel) (by decide +kernel)
set_option maxRecDepth 20000 in
theorem gX7_pass_X7_in : GoodIn wsX7_pass (va_wsS RX7 44 yX7_in wsX7_in) := goodIn_app (goodIn_of _ (by decide +kernel)) ggX7_pass_X7_in
theorem dX7_pass_0 : decode cX7_pass 0 = .ok (.aload_n 0, 1) := by decide +kernel
theorem dX7_pass_1 : decode cX7_pass 1 = .ok (.iload_n 1, 1) := by decide +kernel
theorem dX7_pass_2 : decode cX7_pass 2 = .ok (.iconst 1, 1) := by decide +kernel
theorem dX7_pass_3 : decode cX7_pass 3 = .ok (.bipush 99, 2) := by decide +kernel
theorem dX7_pass_5 : decode cX7_pass 5 = .ok (.invokestatic 44, 3) := by decide +kernel
theorem dX7_pass_8 : decode cX7_pass 8 = .ok (.ifCond .ne 7, 3) := by decide +kernel
theorem dX7_pass_11 : decode cX7_pass 11 = .ok (.iconst 1, 1) := by decide +kernel
theorem dX7_pass_12 : decode cX7_pass 12 = .ok (.goto 20, 3) := by decide +kernel
theorem dX7_pass_15 : decode cX7_pass 15 = .ok (.aload_n 0, 1) := by decide +kernel
theorem dX7_pass_16 : decode cX7_pass 16 = .ok (.getfield 148, 3) := by decide +kernel
theorem dX7_pass_19 : decode cX7_pass 19 = .ok (.iload_n 1, 1) := by decide +kernel
theorem dX7_pass_20 : decode cX7_pass 20 = .ok (.iadd, 1) := by decide +kernel
theorem dX7_pass_21 : decode cX7_pass 21 = .ok (.sipush 9000, 3) := by decide +kernel
theorem dX7_pass_24 : decode cX7_pass 24 = .ok (.if_icmp .le 7, 3) := by decide +kernel
theorem dX7_pass_27 : decode cX7_pass 27 = .ok (.iconst 2, 1) := by decide +kernel
theorem dX7_pass_28 : decode cX7_pass 28 = .ok (.goto 4, 3) := by decide +kernel
theorem dX7_pass_31 : decode cX7_pass 31 = .ok (.iconst 0, 1) := by decide +kernel
theorem dX7_pass_32 : decode cX7_pass 32 = .ok (.putfield 41, 3) := by decide +kernel
theorem dX7_pass_35 : decode cX7_pass 35 = .ok (.aload_n 0, 1) := by decide +kernel
theorem dX7_pass_36 : decode cX7_pass 36 = .ok (.getfield 41, 3) := by decide +kernel
theorem dX7_pass_39 : decode cX7_pass 39 = .ok (.ifCond .le 5, 3) := by decide +kernel
theorem dX7_pass_42 : decode cX7_pass 42 = .ok (.iconst 0, 1) := by decide +kernel
theorem dX7_pass_43 : decode cX7_pass 43 = .ok (.ireturn, 1) := by decide +kernel
theorem dX7_pass_44 : decode cX7_pass 44 = .ok (.aload_n 0, 1) := by decide +kernel
theorem dX7_pass_45 : decode cX7_pass 45 = .ok (.dup, 1) := by decide +kernel
theorem dX7_pass_46 : decode cX7_pass 46 = .ok (.getfield 148, 3) := by decide +kernel
theorem dX7_pass_49 : decode cX7_pass 49 = .ok (.iload_n 1, 1) := by decide +kernel
theorem dX7_pass_50 : decode cX7_pass 50 = .ok (.iadd, 1) := by decide +kernel
theorem dX7_pass_51 : decode cX7_pass 51 = .ok (.putfield 148, 3) := by decide +kernel
theorem dX7_pass_54 : decode cX7_pass 54 = .ok (.aload_n 0, 1) := by decide +kernel
theorem dX7_pass_55 : decode cX7_pass 55 = .ok (.getfield 148, 3) := by decide +kernel
theorem dX7_pass_58 : decode cX7_pass 58 = .ok (.ireturn, 1) := by decide +kernel
theorem dJ9_floorDiv_7cf53_0 : decode cJ9_floorDiv_7cf53 0 = .ok (.iload_n 0, 1) := by decide +kernel
theorem dJ9_floorDiv_7cf53_1 : decode cJ9_floorDiv_7cf53 1 = .ok (.iload_n 1, 1) := by decide +kernel
theorem dJ9_floorDiv_7cf53_2 : decode cJ9_floorDiv_7cf53 2 = .ok (.idiv, 1) := by decide +kernel
theorem dJ9_floorDiv_7cf53_3 : decode cJ9_floorDiv_7cf53 3 = .ok (.istore_n 2, 1) := by decide +kernel
theorem dJ9_floorDiv_7cf53_4 : decode cJ9_floorDiv_7cf53 4 = .ok (.iload_n 0, 1) := by decide +kernel
theorem dJ9_floorDiv_7cf53_5 : decode cJ9_floorDiv_7cf53 5 = .ok (.iload_n 1, 1) := by decide +kernel
theorem dJ9_floorDiv_7cf53_6 : decode cJ9_floorDiv_7cf53 6 = .ok (.ixor, 1) := by decide +kernel
theorem dJ9_floorDiv_7cf53_7 : decode cJ9_floorDiv_7cf53 7 = .ok (.ifCond .ge 14, 3) := by decide +kernel
theorem dJ9_floorDiv_7cf53_10 : decode cJ9_floorDiv_7cf53 10 = .ok (.iload_n 2, 1) := by decide +kernel
theorem dJ9_floorDiv_7cf53_11 : decode cJ9_floorDiv_7cf53 11 = .ok (.iload_n 1, 1) := by decide +kernel
theorem dJ9_floorDiv_7cf53_12 : decode cJ9_floorDiv_7cf53 12 = .ok (.imul, 1) := by decide +kernel
theorem dJ9_floorDiv_7cf53_13 : decode cJ9_floorDiv_7cf53 13 = .ok (.iload_n 0, 1) := by decide +kernel
theorem dJ9_floorDiv_7cf53_14 : decode cJ9_floorDiv_7cf53 14 = .ok (.if_icmp .eq 7, 3) := by decide +kernel
theorem dJ9_floorDiv_7cf53_17 : decode cJ9_floorDiv_7cf53 17 = .ok (.iload_n 2, 1) := by decide +kernel
theorem dJ9_floorDiv_7cf53_18 : decode cJ9_floorDiv_7cf53 18 = .ok (.iconst 1, 1) := by decide +kernel
theorem dJ9_floorDiv_7cf53_19 : decode cJ9_floorDiv_7cf53 19 = .ok (.isub, 1) := by decide +kernel
theorem dJ9_floorDiv_7cf53_20 : decode cJ9_floorDiv_7cf53 20 = .ok (.ireturn, 1) := by decide +kernel
theorem dJ9_floorDiv_7cf53_21 : decode cJ9_floorDiv_7cf53 21 = .ok (.iload_n 2, 1) := by decide +kernel
theorem dJ9_floorDiv_7cf53_22 : decode cJ9_floorDiv_7cf53 22 = .ok (.ireturn, 1) := by decide +kernel
theorem dJ9_floorMod_7cf53_0 : decode cJ9_floorMod_7cf53 0 = .ok (.iload_n 0, 1) := by decide +kernel
theorem dJ9_floorMod_7cf53_1 : decode cJ9_floorMod_7cf53 1 = .ok (.iload_n 1, 1) := by decide +kernel
theorem dJ9_floorMod_7cf53_2 : decode cJ9_floorMod_7cf53 2 = .ok (.irem, 1) := by decide +kernel
theorem dJ9_floorMod_7cf53_3 : decode cJ9_floorMod_7cf53 3 = .ok (.istore_n 2, 1) := by decide +kernel
theorem dJ9_floorMod_7cf53_4 : decode cJ9_floorMod_7cf53 4 = .ok (.iload_n 0, 1) := by decide +kernel
theorem dJ9_floorMod_7cf53_5 : decode cJ9_floorMod_7cf53 5 = .ok (.iload_n 1, 1) := by decide +kernel
theorem dJ9_floorMod_7cf53_6 : decode cJ9_floorMod_7cf53 6 = .ok (.ixor, 1) := by decide +kernel
theorem dJ9_floorMod_7cf53_7 : decode cJ9_floorMod_7cf53 7 = .ok (.ifCond .ge 11, 3) := by decide +kernel
theorem dJ9_floorMod_7cf53_10 : decode cJ9_floorMod_7cf53 10 = .ok (.iload_n 2, 1) := by decide +kernel
theorem dJ9_floorMod_7cf53_11 : decode cJ9_floorMod_7cf53 11 = .ok (.ifCond .eq 7, 3) := by decide +kernel
theorem dJ9_floorMod_7cf53_14 : decode cJ9_floorMod_7cf53 14 = .ok (.iload_n 2, 1) := by decide +kernel
theorem dJ9_floorMod_7cf53_15 : decode cJ9_floorMod_7cf53 15 = .ok (.iload_n 1, 1) := by decide +kernel
theorem dJ9_floorMod_7cf53_16 : decode cJ9_floorMod_7cf53 16 = .ok (.iadd, 1) := by decide +kernel
theorem dJ9_floorMod_7cf53_17 : decode cJ9_floorMod_7cf53 17 = .ok (.ireturn, 1) := by decide +kernel
theorem dJ9_floorMod_7cf53_18 : decode cJ9_floorMod_7cf53 18 = .ok (.iload_n 2, 1) := by decide +kernel
theorem dJ9_floorMod_7cf53_19 : decode cJ9_floorMod_7cf53 19 = .ok (.ireturn, 1) := by decide +kernel
theorem dJ9_abs_0f7a4_0 : decode cJ9_abs_0f7a4 0 = .ok (.iload_n 0, 1) := by decide +kernel
theorem dJ9_abs_0f7a4_1 : decode cJ9_abs_0f7a4 1 = .ok (.ifCond .ge 8, 3) := by decide +kernel
theorem dJ9_abs_0f7a4_4 : decode cJ9_abs_0f7a4 4 = .ok (.iload_n 0, 1) := by decide +kernel
theorem dJ9_abs_0f7a4_5 : decode cJ9_abs_0f7a4 5 = .ok (.ineg, 1) := by decide +kernel
theorem dJ9_abs_0f7a4_6 : decode cJ9_abs_0f7a4 6 = .ok (.goto 4, 3) := by decide +kernel
theorem dJ9_abs_0f7a4_9 : decode cJ9_abs_0f7a4 9 = .ok (.iload_n 0, 1) := by decide +kernel
theorem dJ9_abs_0f7a4_10 : decode cJ9_abs_0f7a4 10 = .ok (.ireturn, 1) := by decide +kernel
theorem dJ9_max_7cf53_0 : decode cJ9_max_7cf53 0 = .ok (.iload_n 0, 1) := by decide +kernel
theorem dJ9_max_7cf53_1 : decode cJ9_max_7cf53 1 = .ok (.iload_n 1, 1) := by decide +kernel
theorem dJ9_max_7cf53_2 : decode cJ9_max_7cf53 2 = .ok (.if_icmp .lt 7, 3) := by decide +kernel
theorem dJ9_max_7cf53_5 : decode cJ9_max_7cf53 5 = .ok (.iload_n 0, 1) := by decide +kernel
theorem dJ9_max_7cf53_6 : decode cJ9_max_7cf53 6 = .ok (.goto 4, 3) := by decide +kernel
theorem dJ9_max_7cf53_9 : decode cJ9_max_7cf53 9 = .ok (.iload_n 1, 1) := by decide +kernel
theorem dJ9_max_7cf53_10 : decode cJ9_max_7cf53 10 = .ok (.ireturn, 1) := by decide +kernel
theorem dJ9_min_7cf53_0 : decode cJ9_min_7cf53 0 = .ok (.iload_n 0, 1) := by decide +kernel
theorem dJ9_min_7cf53_1 : decode cJ9_min_7cf53 1 = .ok (.iload_n 1, 1) := by decide +kernel
theorem dJ9_min_7cf53_2 : decode cJ9_min_7cf53 2 = .ok (.if_icmp .gt 7, 3) := by decide +kernel
theorem dJ9_min_7cf53_5 : decode cJ9_min_7cf53 5 = .ok (.iload_n 0, 1) := by decide +kernel
theorem dJ9_min_7cf53_6 : decode cJ9_min_7cf53 6 = .ok (.goto 4, 3) := by decide +kernel
theorem dJ9_min_7cf53_9 : decode cJ9_min_7cf53 9 = .ok (.iload_n 1, 1) := by decide +kernel
theorem dJ9_min_7cf53_10 : decode cJ9_min_7cf53 10 = .ok (.ireturn, 1) := by decide +kernel
set_option maxRecDepth 20000 in
theorem ggL_offset_X6_offset : GoodIn wsL_offset wsX6_offset := goodIn_ca (goodIn_ca (goodIn_ca (goodIn_r _ [8, 9, 10, 11, 7, 12, 13, 14, 15, 16, 17, 18, 19, 20, 21, 22, 23, 24, 25, 26, 27, 28, 29, 30, 31, 32, 33, 34, 35, 36, 37, 38, 39] (by decide +kernel) (by decide +kernel)) (goodIn_sub (fun _ h => List.mem_cons_of_mem _ (List.mem_append_left _ (List.mem_append_left _ (List.mem_append_right _ h)))) (by decide +kernel))) (goodIn_sub (fun _ h => List.mem_cons_of_mem _ (List.mem_append_left _ (List.mem_append_right _ h))) (by decide +kernel))) (goodIn_sub (fun _ h => List.mem_cons_of_mem _ (List.mem_append_right _ h)) (by decide +kernel))
set_option maxRecDepth 20000 in
theorem gL_offset_X6_offset : GoodIn wsL_offset (wsV RL 7 RX6 yX6_offset wsX6_offset) := goodIn_app (goodIn_of _ (by decide +kernel)) ggL_offset_X6_offset
theorem dL_offset_0 : decode cL_offset 0 = .ok (.aload 4, 2) := by decide +kernel
theorem dL_offset_2 : decode cL_offset 2 = .ok (.iconst 0, 1) := by decide +kernel
theorem dL_offset_3 : decode cL_offset 3 = .ok (.aload_n 0, 1) := by decide +kernel
theorem dL_offset_4 : decode cL_offset 4 = .ok (.iload_n 1, 1) := by decide +kernel
theorem dL_offset_5 : decode cL_offset 5 = .ok (.iload_n 2, 1) := by decide +kernel
theorem dL_offset_6 : decode cL_offset 6 = .ok (.iload_n 3, 1) := by decide +kernel
theorem dL_offset_7 : decode cL_offset 7 = .ok (.invokevirtual 7, 3) := by decide +kernel
theorem dL_offset_10 : decode cL_offset 10 = .ok (.i2l, 1) := by decide +kernel
theorem dL_offset_11 : decode cL_offset 11 = .ok (.lastore, 1) := by decide +kernel
theorem dL_offset_12 : decode cL_offset 12 = .ok (.goto 15, 3) := by decide +kernel
theorem dL_offset_15 : decode cL_offset 15 = .ok (.astore 5, 2) := by decide +kernel
theorem dL_offset_17 : decode cL_offset 17 = .ok (.iconst 1, 1) := by decide +kernel
theorem dL_offset_18 : decode cL_offset 18 = .ok (.ireturn, 1) := by decide +kernel
theorem dL_offset_19 : decode cL_offset 19 = .ok (.astore 5, 2) := by decide +kernel
theorem dL_offset_21 : decode cL_offset 21 = .ok (.iconst 2, 1) := by decide +kernel
theorem dL_offset_22 : decode cL_offset 22 = .ok (.ireturn, 1) := by decide +kernel
theorem dL_offset_23 : decode cL_offset 23 = .ok (.astore 5, 2) := by decide +kernel
theorem dL_offset_25 : decode cL_offset 25 = .ok (.iconst 3, 1) := by decide +kernel
theorem dL_offset_26 : decode cL_offset 26 = .ok (.ireturn, 1) := by decide +kernel
theorem dL_offset_27 : decode cL_offset 27 = .ok (.iconst 0, 1) := by decide +kernel
theorem dL_offset_28 : decode cL_offset 28 = .ok (.ireturn, 1) := by decide +kernel
set_option maxRecDepth 20000 in
theorem ggL_half_X6_half : GoodIn wsL_half wsX6_half := goodIn_ca (goodIn_r _ [6, 7, 8, 9, 5, 10, 11, 12, 13, 14, 15, 16, 17, 18, 19, 20, 21, 22, 23, 24, 25] (by decide +kernel) (by decide +kernel)) (goodIn_sub (fun _ h => List.mem_cons_of_mem _ (List.mem_append_right _ h)) (by decide +kernel))
set_option maxRecDepth 20000 in
theorem gL_half_X6_half : GoodIn wsL_half (wsV RL 19 RX6 yX6_half wsX6_half) := goodIn_app (goodIn_of _ (by decide +kernel)) ggL_half_X6_half
theorem dL_half_0 : decode cL_half 0 = .ok (.aload_n 3, 1) := by decide +kernel
theorem dL_half_1 : decode cL_half 1 = .ok (.iconst 0, 1) := by decide +kernel
theorem dL_half_2 : decode cL_half 2 = .ok (.aload_n 0, 1) := by decide +kernel
theorem dL_half_3 : decode cL_half 3 = .ok (.iload_n 1, 1) := by decide +kernel
theorem dL_half_4 : decode cL_half 4 = .ok (.iload_n 2, 1) := by decide +kernel
theorem dL_half_5 : decode cL_half 5 = .ok (.invokevirtual 19, 3) := by decide +kernel
theorem dL_half_8 : decode cL_half 8 = .ok (.i2l, 1) := by decide +kernel
theorem dL_half_9 : decode cL_half 9 = .ok (.lastore, 1) := by decide +kernel
theorem dL_half_10 : decode cL_half 10 = .ok (.goto 7, 3) := by decide +kernel
theorem dL_half_13 : decode cL_half 13 = .ok (.astore 4, 2) := by decide +kernel
theorem dL_half_15 : decode cL_half 15 = .ok (.iconst 1, 1) := by decide +kernel
theorem dL_half_16 : decode cL_half 16 = .ok (.ireturn, 1) := by decide +kernel
theorem dL_half_17 : decode cL_half 17 = .ok (.iconst 0, 1) := by decide +kernel
theorem dL_half_18 : decode cL_half 18 = .ok (.ireturn, 1) := by decide +kernel
set_option maxRecDepth 20000 in
theorem ggL_bend_X6_bend : GoodIn wsL_bend wsX6_bend := goodIn_ca (goodIn_r _ [6, 7, 8, 9, 5, 10, 11, 12, 13, 14, 15, 16, 17, 18, 19, 20, 21, 22, 23, 24, 25, 26, 27, 28] (by decide +kernel) (by decide +kernel)) (goodIn_sub (fun _ h => List.mem_cons_of_mem _ (List.mem_append_right _ h)) (by decide +kernel))
set_option maxRecDepth 20000 in
theorem gL_bend_X6_bend : GoodIn wsL_bend (wsV RL 23 RX6 yX6_bend wsX6_bend) := goodIn_app (goodIn_of _ (by decide +kernel)) ggL_bend_X6_bend
theorem dL_bend_0 : decode cL_bend 0 = .ok (.aload_n 2, 1) := by decide +kernel
theorem dL_bend_1 : decode cL_bend 1 = .ok (.iconst 0, 1) := by decide +kernel
theorem dL_bend_2 : decode cL_bend 2 = .ok (.aload_n 0, 1) := by decide +kernel
theorem dL_bend_3 : decode cL_bend 3 = .ok (.iload_n 1, 1) := by decide +kernel
theorem dL_bend_4 : decode cL_bend 4 = .ok (.invokevirtual 23, 3) := by decide +kernel
theorem dL_bend_7 : decode cL_bend 7 = .ok (.i2l, 1) := by decide +kernel
theorem dL_bend_8 : decode cL_bend 8 = .ok (.lastore, 1) := by decide +kernel
theorem dL_bend_9 : decode cL_bend 9 = .ok (.goto 6, 3) := by decide +kernel
theorem dL_bend_12 : decode cL_bend 12 = .ok (.astore_n 3, 1) := by decide +kernel
theorem dL_bend_13 : decode cL_bend 13 = .ok (.iconst 1, 1) := by decide +kernel
theorem dL_bend_14 : decode cL_bend 14 = .ok (.ireturn, 1) := by decide +kernel
theorem dL_bend_15 : decode cL_bend 15 = .ok (.iconst 0, 1) := by decide +kernel
theorem dL_bend_16 : decode cL_bend 16 = .ok (.ireturn, 1) := by decide +kernel
set_option maxRecDepth 20000 in
theorem ggL_fair_X6_fair : GoodIn wsL_fair wsX6_fair := goodIn_ca (goodIn_ca (goodIn_ca (goodIn_r _ [8, 9, 10, 11, 12, 7, 13, 14, 15, 16, 17, 18, 19, 20, 21, 22, 23, 24, 25, 26, 27, 28, 29, 30, 31, 32, 33, 34, 35, 36, 37, 38, 39, 40, 41, 42, 43, 44, 45, 46, 47, 48, 49, 50, 51, 52, 53, 54, 55, 56, 57, 58, 59, 60, 61, 62, 63, 64, 65, 66, 67, 68, 69, 70, 71, 72, 73, 74, 75, 76, 77] (by decide +kernel) (by decide +kernel)) (goodIn_sub (fun _ h => List.mem_cons_of_mem _ (List.mem_append_left _ (List.mem_append_left _ (List.mem_append_right _ h)))) (by decide +kernel))) (goodIn_sub (fun _ h => List.mem_cons_of_mem _ (List.mem_append_left _ (List.mem_append_right _ h))) (by decide +kernel))) (goodIn_sub (fun _ h => List.mem_cons_of_mem _ (List.mem_append_right _ h)) (by decide +kernel))
set_option maxRecDepth 20000 in
theorem gL_fair_X6_fair : GoodIn wsL_fair (wsV RL 27 RX6 yX6_fair wsX6_fair) := goodIn_app (goodIn_of _ (by decide +kernel)) ggL_fair_X6_fair
theorem dL_fair_0 : decode cL_fair 0 = .ok (.aload_n 3, 1) := by decide +kernel
theorem dL_fair_1 : decode cL_fair 1 = .ok (.iconst 0, 1) := by decide +kernel
theorem dL_fair_2 : decode cL_fair 2 = .ok (.aload_n 0, 1) := by decide +kernel
theorem dL_fair_3 : decode cL_fair 3 = .ok (.iload_n 1, 1) := by decide +kernel
theorem dL_fair_4 : decode cL_fair 4 = .ok (.iload_n 2, 1) := by decide +kernel
theorem dL_fair_5 : decode cL_fair 5 = .ok (.invokevirtual 27, 3) := by decide +kernel
theorem dL_fair_8 : decode cL_fair 8 = .ok (.i2l, 1) := by decide +kernel
theorem dL_fair_9 : decode cL_fair 9 = .ok (.lastore, 1) := by decide +kernel
theorem dL_fair_10 : decode cL_fair 10 = .ok (.goto 15, 3) := by decide +kernel
theorem dL_fair_13 : decode cL_fair 13 = .ok (.astore 4, 2) := by decide +kernel
theorem dL_fair_15 : decode cL_fair 15 = .ok (.iconst 1, 1) := by decide +kernel
theorem dL_fair_16 : decode cL_fair 16 = .ok (.ireturn, 1) := by decide +kernel
theorem dL_fair_17 : decode cL_fair 17 = .ok (.astore 4, 2) := by decide +kernel
theorem dL_fair_19 : decode cL_fair 19 = .ok (.iconst 2, 1) := by decide +kernel
theorem dL_fair_20 : decode cL_fair 20 = .ok (.ireturn, 1) := by decide +kernel
theorem dL_fair_21 : decode cL_fair 21 = .ok (.astore 4, 2) := by decide +kernel
theorem dL_fair_23 : decode cL_fair 23 = .ok (.iconst 3, 1) := by decide +kernel
theorem dL_fair_24 : decode cL_fair 24 = .ok (.ireturn, 1) := by decide +kernel
theorem dL_fair_25 : decode cL_fair 25 = .ok (.iconst 0, 1) := by decide +kernel
theorem dL_fair_26 : decode cL_fair 26 = .ok (.ireturn, 1) := by decide +kernel
set_option maxRecDepth 20000 in
theorem ggL_area_X6_area : GoodIn wsL_area wsX6_area := goodIn_ca (goodIn_r _ [6, 7, 8, 9, 5, 10, 11, 12, 13, 14, 15, 16, 17, 18, 19, 20, 21, 22, 23, 24, 25, 26, 27, 28, 29, 30] (by decide +kernel) (by decide +kernel)) (goodIn_sub (fun _ h => List.mem_cons_of_mem _ (List.mem_append_right _ h)) (by decide +kernel))
set_option maxRecDepth 20000 in
theorem gL_area_X6_area : GoodIn wsL_area (wsV RL 30 RX6 yX6_area wsX6_area) := goodIn_app (goodIn_of _ (by decide +kernel)) ggL_area_X6_area
theorem dL_area_0 : decode cL_area 0 = .ok (.aload_n 3, 1) := by decide +kernel
theorem dL_area_1 : decode cL_area 1 = .ok (.iconst 0, 1) := by decide +kernel
theorem dL_area_2 : decode cL_area 2 = .ok (.aload_n 0, 1) := by decide +kernel
theorem dL_area_3 : decode cL_area 3 = .ok (.iload_n 1, 1) := by decide +kernel
theorem dL_area_4 : decode cL_area 4 = .ok (.iload_n 2, 1) := by decide +kernel
theorem dL_area_5 : decode cL_area 5 = .ok (.invokevirtual 30, 3) := by decide +kernel
theorem dL_area_8 : decode cL_area 8 = .ok (.i2l, 1) := by decide +kernel
theorem dL_area_9 : decode cL_area 9 = .ok (.lastore, 1) := by decide +kernel
theorem dL_area_10 : decode cL_area 10 = .ok (.goto 7, 3) := by decide +kernel
theorem dL_area_13 : decode cL_area 13 = .ok (.astore 4, 2) := by decide +kernel
theorem dL_area_15 : decode cL_area 15 = .ok (.iconst 1, 1) := by decide +kernel
theorem dL_area_16 : decode cL_area 16 = .ok (.ireturn, 1) := by decide +kernel
theorem dL_area_17 : decode cL_area 17 = .ok (.iconst 0, 1) := by decide +kernel
theorem dL_area_18 : decode cL_area 18 = .ok (.ireturn, 1) := by decide +kernel
set_option maxRecDepth 20000 in
theorem ggL_volume_X6_volume : GoodIn wsL_volume wsX6_volume := goodIn_ca (goodIn_r _ [6, 7, 8, 9, 5, 10, 11, 12, 13, 14, 15, 16, 17, 18, 19, 20, 21, 22, 23, 24, 25, 26, 27, 28, 29, 30, 31] (by decide +kernel) (by decide +kernel)) (goodIn_sub (fun _ h => List.mem_cons_of_mem _ (List.mem_append_right _ h)) (by decide +kernel))
set_option maxRecDepth 20000 in
theorem gL_volume_X6_volume : GoodIn wsL_volume (wsV RL 33 RX6 yX6_volume wsX6_volume) := goodIn_app (goodIn_of _ (by decide +kernel)) ggL_volume_X6_volume
theorem dL_volume_0 : decode cL_volume 0 = .ok (.aload_n 2, 1) := by decide +kernel
theorem dL_volume_1 : decode cL_volume 1 = .ok (.iconst 0, 1) := by decide +kernel
theorem dL_volume_2 : decode cL_volume 2 = .ok (.aload_n 0, 1) := by decide +kernel
theorem dL_volume_3 : decode cL_volume 3 = .ok (.iload_n 1, 1) := by decide +kernel
theorem dL_volume_4 : decode cL_volume 4 = .ok (.invokevirtual 33, 3) := by decide +kernel
theorem dL_volume_7 : decode cL_volume 7 = .ok (.i2l, 1) := by decide +kernel
theorem dL_volume_8 : decode cL_volume 8 = .ok (.lastore, 1) := by decide +kernel
theorem dL_volume_9 : decode cL_volume 9 = .ok (.goto 6, 3) := by decide +kernel
theorem dL_volume_12 : decode cL_volume 12 = .ok (.astore_n 3, 1) := by decide +kernel
theorem dL_volume_13 : decode cL_volume 13 = .ok (.iconst 1, 1) := by decide +kernel
theorem dL_volume_14 : decode cL_volume 14 = .ok (.ireturn, 1) := by decide +kernel
theorem dL_volume_15 : decode cL_volume 15 = .ok (.iconst 0, 1) := by decide +kernel
theorem dL_volume_16 : decode cL_volume 16 = .ok (.ireturn, 1) := by decide +kernel
set_option maxRecDepth 20000 in
theorem ggL_volumeAnew_X6_volumeAnew : GoodIn wsL_volumeAnew wsX6_volumeAnew := goodIn_ca (goodIn_r _ [6, 7, 8, 9, 5, 10, 11, 12, 13, 14, 15, 16, 17, 18, 19, 20, 21, 22, 23, 24, 25, 26, 27, 28, 29, 30, 31] (by decide +kernel) (by decide +kernel)) (goodIn_sub (fun _ h => List.mem_cons_of_mem _ (List.mem_append_right _ h)) (by decide +kernel))
set_option maxRecDepth 20000 in
theorem gL_volumeAnew_X6_volumeAnew : GoodIn wsL_volumeAnew (wsV RL 36 RX6 yX6_volumeAnew wsX6_volumeAnew) := goodIn_app (goodIn_of _ (by decide +kernel)) ggL_volumeAnew_X6_volumeAnew
theorem dL_volumeAnew_0 : decode cL_volumeAnew 0 = .ok (.aload_n 2, 1) := by decide +kernel
theorem dL_volumeAnew_1 : decode cL_volumeAnew 1 = .ok (.iconst 0, 1) := by decide +kernel
theorem dL_volumeAnew_2 : decode cL_volumeAnew 2 = .ok (.aload_n 0, 1) := by decide +kernel
theorem dL_volumeAnew_3 : decode cL_volumeAnew 3 = .ok (.iload_n 1, 1) := by decide +kernel
theorem dL_volumeAnew_4 : decode cL_volumeAnew 4 = .ok (.invokevirtual 36, 3) := by decide +kernel
theorem dL_volumeAnew_7 : decode cL_volumeAnew 7 = .ok (.i2l, 1) := by decide +kernel
theorem dL_volumeAnew_8 : decode cL_volumeAnew 8 = .ok (.lastore, 1) := by decide +kernel
theorem dL_volumeAnew_9 : decode cL_volumeAnew 9 = .ok (.goto 6, 3) := by decide +kernel
theorem dL_volumeAnew_12 : decode cL_volumeAnew 12 = .ok (.astore_n 3, 1) := by decide +kernel
theorem dL_volumeAnew_13 : decode cL_volumeAnew 13 = .ok (.iconst 1, 1) := by decide +kernel
theorem dL_volumeAnew_14 : decode cL_volumeAnew 14 = .ok (.ireturn, 1) := by decide +kernel
theorem dL_volumeAnew_15 : decode cL_volumeAnew 15 = .ok (.iconst 0, 1) := by decide +kernel
theorem dL_volumeAnew_16 : decode cL_volumeAnew 16 = .ok (.ireturn, 1) := by decide +kernel
set_option maxRecDepth 20000 in
theorem ggL_weigh_X6_weigh : GoodIn wsL_weigh wsX6_weigh := goodIn_ca (goodIn_ca (goodIn_ca (goodIn_r _ [8, 9, 10, 11, 12, 13, 7, 14, 15, 16, 17, 18, 19, 20, 21, 22, 23, 24, 25, 26, 27, 28, 29, 30, 31, 32, 33, 34, 35, 36, 37, 38, 39, 40, 41, 42, 43, 44, 45] (by decide +kernel) (by decide +kernel)) (goodIn_sub (fun _ h => List.mem_cons_of_mem _ (List.mem_append_left _ (List.mem_append_left _ (List.mem_append_right _ h)))) (by decide +kernel))) (goodIn_sub (fun _ h => List.mem_cons_of_mem _ (List.mem_append_left _ (List.mem_append_right _ h))) (by decide +kernel))) (goodIn_sub (fun _ h => List.mem_cons_of_mem _ (List.mem_append_right _ h)) (by decide +kernel))
set_option maxRecDepth 20000 in
theorem gL_weigh_X6_weigh : GoodIn wsL_weigh (wsV RL 39 RX6 yX6_weigh wsX6_weigh) := goodIn_app (goodIn_of _ (by decide +kernel)) ggL_weigh_X6_weigh
theorem dL_weigh_0 : decode cL_weigh 0 = .ok (.aload_n 3, 1) := by decide +kernel
theorem dL_weigh_1 : decode cL_weigh 1 = .ok (.iconst 0, 1) := by decide +kernel
theorem dL_weigh_2 : decode cL_weigh 2 = .ok (.aload_n 0, 1) := by decide +kernel
theorem dL_weigh_3 : decode cL_weigh 3 = .ok (.iload_n 1, 1) := by decide +kernel
theorem dL_weigh_4 : decode cL_weigh 4 = .ok (.iload_n 2, 1) := by decide +kernel
theorem dL_weigh_5 : decode cL_weigh 5 = .ok (.invokevirtual 39, 3) := by decide +kernel
theorem dL_weigh_8 : decode cL_weigh 8 = .ok (.i2l, 1) := by decide +kernel
theorem dL_weigh_9 : decode cL_weigh 9 = .ok (.lastore, 1) := by decide +kernel
theorem dL_weigh_10 : decode cL_weigh 10 = .ok (.goto 15, 3) := by decide +kernel
theorem dL_weigh_13 : decode cL_weigh 13 = .ok (.astore 4, 2) := by decide +kernel
theorem dL_weigh_15 : decode cL_weigh 15 = .ok (.iconst 1, 1) := by decide +kernel
theorem dL_weigh_16 : decode cL_weigh 16 = .ok (.ireturn, 1) := by decide +kernel
theorem dL_weigh_17 : decode cL_weigh 17 = .ok (.astore 4, 2) := by decide +kernel
theorem dL_weigh_19 : decode cL_weigh 19 = .ok (.iconst 2, 1) := by decide +kernel
theorem dL_weigh_20 : decode cL_weigh 20 = .ok (.ireturn, 1) := by decide +kernel
theorem dL_weigh_21 : decode cL_weigh 21 = .ok (.astore 4, 2) := by decide +kernel
theorem dL_weigh_23 : decode cL_weigh 23 = .ok (.iconst 3, 1) := by decide +kernel
theorem dL_weigh_24 : decode cL_weigh 24 = .ok (.ireturn, 1) := by decide +kernel
theorem dL_weigh_25 : decode cL_weigh 25 = .ok (.iconst 0, 1) := by decide +kernel
theorem dL_weigh_26 : decode cL_weigh 26 = .ok (.ireturn, 1) := by decide +kernel
set_option maxRecDepth 20000 in
theorem ggL_change_X6_change : GoodIn wsL_change wsX6_change := goodIn_ca (goodIn_ca (goodIn_r _ [7, 8, 9, 10, 11, 6, 12, 13, 14, 15, 16, 17, 18, 19, 20, 21, 22, 23, 24, 25, 26, 27, 28, 29, 30, 31, 32, 33, 34, 35, 36, 37, 38, 39, 40, 41, 42] (by decide +kernel) (by decide +kernel)) (goodIn_sub (fun _ h => List.mem_cons_of_mem _ (List.mem_append_left _ (List.mem_append_right _ h))) (by decide +kernel))) (goodIn_sub (fun _ h => List.mem_cons_of_mem _ (List.mem_append_right _ h)) (by decide +kernel))
set_option maxRecDepth 20000 in
theorem gL_change_X6_change : GoodIn wsL_change (wsV RL 42 RX6 yX6_change wsX6_change) := goodIn_app (goodIn_of _ (by decide +kernel)) ggL_change_X6_change
theorem dL_change_0 : decode cL_change 0 = .ok (.aload 4, 2) := by decide +kernel
theorem dL_change_2 : decode cL_change 2 = .ok (.iconst 0, 1) := by decide +kernel
theorem dL_change_3 : decode cL_change 3 = .ok (.aload_n 0, 1) := by decide +kernel
theorem dL_change_4 : decode cL_change 4 = .ok (.iload_n 1, 1) := by decide +kernel
theorem dL_change_5 : decode cL_change 5 = .ok (.iload_n 2, 1) := by decide +kernel
theorem dL_change_6 : decode cL_change 6 = .ok (.iload_n 3, 1) := by decide +kernel
theorem dL_change_7 : decode cL_change 7 = .ok (.invokevirtual 42, 3) := by decide +kernel
theorem dL_change_10 : decode cL_change 10 = .ok (.i2l, 1) := by decide +kernel
theorem dL_change_11 : decode cL_change 11 = .ok (.lastore, 1) := by decide +kernel
theorem dL_change_12 : decode cL_change 12 = .ok (.goto 11, 3) := by decide +kernel
theorem dL_change_15 : decode cL_change 15 = .ok (.astore 5, 2) := by decide +kernel
theorem dL_change_17 : decode cL_change 17 = .ok (.iconst 1, 1) := by decide +kernel
theorem dL_change_18 : decode cL_change 18 = .ok (.ireturn, 1) := by decide +kernel
theorem dL_change_19 : decode cL_change 19 = .ok (.astore 5, 2) := by decide +kernel
theorem dL_change_21 : decode cL_change 21 = .ok (.iconst 2, 1) := by decide +kernel
theorem dL_change_22 : decode cL_change 22 = .ok (.ireturn, 1) := by decide +kernel
theorem dL_change_23 : decode cL_change 23 = .ok (.iconst 0, 1) := by decide +kernel
theorem dL_change_24 : decode cL_change 24 = .ok (.ireturn, 1) := by decide +kernel
set_option maxRecDepth 20000 in
theorem ggL_ballast_X6_ballast : GoodIn wsL_ballast wsX6_ballast := goodIn_ca (goodIn_r _ [6, 7, 8, 9, 10, 11, 5, 12, 13, 14, 15, 16, 17, 18, 19, 20, 21, 22, 23, 24, 25, 26, 27, 28, 29, 30, 31, 32, 33, 34, 35, 36, 37, 38, 39, 40, 41, 42, 43, 44, 45, 46, 47, 48, 49, 50, 51, 52, 53, 54, 55, 56, 57, 58, 59, 60, 61, 62, 63, 64, 65, 66, 67, 68, 69, 70, 71, 72, 73, 74, 75, 76, 77, 78, 79, 80, 81] (by decide +kernel) (by decide +kernel)) (goodIn_sub (fun _ h => List.mem_cons_of_mem _ (List.mem_append_right _ h)) (by decide +kernel))
set_option maxRecDepth 20000 in
theorem gL_ballast_X6_ballast : GoodIn wsL_ballast (wsV RL 45 RX6 yX6_ballast wsX6_ballast) := goodIn_app (goodIn_of _ (by decide +kernel)) ggL_ballast_X6_ballast
theorem dL_ballast_0 : decode cL_ballast 0 = .ok (.aload_n 2, 1) := by decide +kernel
theorem dL_ballast_1 : decode cL_ballast 1 = .ok (.iconst 0, 1) := by decide +kernel
theorem dL_ballast_2 : decode cL_ballast 2 = .ok (.aload_n 0, 1) := by decide +kernel
theorem dL_ballast_3 : decode cL_ballast 3 = .ok (.iload_n 1, 1) := by decide +kernel
theorem dL_ballast_4 : decode cL_ballast 4 = .ok (.invokevirtual 45, 3) := by decide +kernel
theorem dL_ballast_7 : decode cL_ballast 7 = .ok (.i2l, 1) := by decide +kernel
theorem dL_ballast_8 : decode cL_ballast 8 = .ok (.lastore, 1) := by decide +kernel
theorem dL_ballast_9 : decode cL_ballast 9 = .ok (.goto 6, 3) := by decide +kernel
theorem dL_ballast_12 : decode cL_ballast 12 = .ok (.astore_n 3, 1) := by decide +kernel
theorem dL_ballast_13 : decode cL_ballast 13 = .ok (.iconst 1, 1) := by decide +kernel
theorem dL_ballast_14 : decode cL_ballast 14 = .ok (.ireturn, 1) := by decide +kernel
theorem dL_ballast_15 : decode cL_ballast 15 = .ok (.iconst 0, 1) := by decide +kernel
theorem dL_ballast_16 : decode cL_ballast 16 = .ok (.ireturn, 1) := by decide +kernel
set_option maxRecDepth 20000 in
theorem ggL_strake_X6_strake : GoodIn wsL_strake wsX6_strake := goodIn_ca (goodIn_r _ [6, 7, 8, 9, 5, 10, 11, 12, 13, 14, 15, 16, 17, 18, 19, 20, 21, 22, 23, 24, 25, 26, 27, 28, 29, 30, 31] (by decide +kernel) (by decide +kernel)) (goodIn_sub (fun _ h => List.mem_cons_of_mem _ (List.mem_append_right _ h)) (by decide +kernel))
set_option maxRecDepth 20000 in
theorem gL_strake_X6_strake : GoodIn wsL_strake (wsV RL 48 RX6 yX6_strake wsX6_strake) := goodIn_app (goodIn_of _ (by decide +kernel)) ggL_strake_X6_strake
theorem dL_strake_0 : decode cL_strake 0 = .ok (.aload_n 2, 1) := by decide +kernel
theorem dL_strake_1 : decode cL_strake 1 = .ok (.iconst 0, 1) := by decide +kernel
theorem dL_strake_2 : decode cL_strake 2 = .ok (.aload_n 0, 1) := by decide +kernel
theorem dL_strake_3 : decode cL_strake 3 = .ok (.iload_n 1, 1) := by decide +kernel
theorem dL_strake_4 : decode cL_strake 4 = .ok (.invokevirtual 48, 3) := by decide +kernel
theorem dL_strake_7 : decode cL_strake 7 = .ok (.i2l, 1) := by decide +kernel
theorem dL_strake_8 : decode cL_strake 8 = .ok (.lastore, 1) := by decide +kernel
theorem dL_strake_9 : decode cL_strake 9 = .ok (.goto 6, 3) := by decide +kernel
theorem dL_strake_12 : decode cL_strake 12 = .ok (.astore_n 3, 1) := by decide +kernel
theorem dL_strake_13 : decode cL_strake 13 = .ok (.iconst 1, 1) := by decide +kernel
theorem dL_strake_14 : decode cL_strake 14 = .ok (.ireturn, 1) := by decide +kernel
theorem dL_strake_15 : decode cL_strake 15 = .ok (.iconst 0, 1) := by decide +kernel
theorem dL_strake_16 : decode cL_strake 16 = .ok (.ireturn, 1) := by decide +kernel
set_option maxRecDepth 20000 in
theorem ggL_planks_X6_planks : GoodIn wsL_planks wsX6_planks := goodIn_ca (goodIn_r _ [6, 7, 8, 9, 10, 5, 11, 12, 13, 14, 15, 16, 17, 18, 19, 20, 21, 22, 23, 24, 25, 26, 27, 28, 29, 30, 31, 32, 33, 34, 35, 36, 37, 38, 39, 40, 41, 42, 43, 44, 45, 46, 47, 48, 49, 50, 51, 52, 53, 54, 55, 56, 57, 58] (by decide +kernel) (by decide +kernel)) (goodIn_sub (fun _ h => List.mem_cons_of_mem _ (List.mem_append_right _ h)) (by decide +kernel))
set_option maxRecDepth 20000 in
theorem gL_planks_X6_planks : GoodIn wsL_planks (wsV RL 51 RX6 yX6_planks wsX6_planks) := goodIn_app (goodIn_of _ (by decide +kernel)) ggL_planks_X6_planks
theorem dL_planks_0 : decode cL_planks 0 = .ok (.aload_n 2, 1) := by decide +kernel
theorem dL_planks_1 : decode cL_planks 1 = .ok (.iconst 0, 1) := by decide +kernel
theorem dL_planks_2 : decode cL_planks 2 = .ok (.aload_n 0, 1) := by decide +kernel
theorem dL_planks_3 : decode cL_planks 3 = .ok (.iload_n 1, 1) := by decide +kernel
theorem dL_planks_4 : decode cL_planks 4 = .ok (.invokevirtual 51, 3) := by decide +kernel
theorem dL_planks_7 : decode cL_planks 7 = .ok (.i2l, 1) := by decide +kernel
theorem dL_planks_8 : decode cL_planks 8 = .ok (.lastore, 1) := by decide +kernel
theorem dL_planks_9 : decode cL_planks 9 = .ok (.goto 6, 3) := by decide +kernel
theorem dL_planks_12 : decode cL_planks 12 = .ok (.astore_n 3, 1) := by decide +kernel
theorem dL_planks_13 : decode cL_planks 13 = .ok (.iconst 1, 1) := by decide +kernel
theorem dL_planks_14 : decode cL_planks 14 = .ok (.ireturn, 1) := by decide +kernel
theorem dL_planks_15 : decode cL_planks 15 = .ok (.iconst 0, 1) := by decide +kernel
theorem dL_planks_16 : decode cL_planks 16 = .ok (.ireturn, 1) := by decide +kernel
set_option maxRecDepth 20000 in
theorem ggL_plankOf_X6_plankOf : GoodIn wsL_plankOf wsX6_plankOf := goodIn_ca (goodIn_r _ [6, 7, 8, 9, 10, 5, 11, 12, 13, 14, 15, 16, 17, 18, 19, 20, 21, 22, 23, 24, 25, 26, 27, 28, 29, 30, 31, 32, 33, 34, 35, 36, 37, 38, 39, 40, 41, 42, 43, 44, 45, 46, 47, 48, 49, 50, 51, 52, 53, 54, 55, 56, 57, 58] (by decide +kernel) (by decide +kernel)) (goodIn_sub (fun _ h => List.mem_cons_of_mem _ (List.mem_append_right _ h)) (by decide +kernel))
set_option maxRecDepth 20000 in
theorem gL_plankOf_X6_plankOf : GoodIn wsL_plankOf (wsV RL 54 RX6 yX6_plankOf wsX6_plankOf) := goodIn_app (goodIn_of _ (by decide +kernel)) ggL_plankOf_X6_plankOf
theorem dL_plankOf_0 : decode cL_plankOf 0 = .ok (.aload_n 3, 1) := by decide +kernel
theorem dL_plankOf_1 : decode cL_plankOf 1 = .ok (.iconst 0, 1) := by decide +kernel
theorem dL_plankOf_2 : decode cL_plankOf 2 = .ok (.aload_n 0, 1) := by decide +kernel
theorem dL_plankOf_3 : decode cL_plankOf 3 = .ok (.iload_n 1, 1) := by decide +kernel
theorem dL_plankOf_4 : decode cL_plankOf 4 = .ok (.iload_n 2, 1) := by decide +kernel
theorem dL_plankOf_5 : decode cL_plankOf 5 = .ok (.invokevirtual 54, 3) := by decide +kernel
end
section
theorem dL_plankOf_8 : decode cL_plankOf 8 = .ok (.i2l, 1) := by decide +kernel
theorem dL_plankOf_9 : decode cL_plankOf 9 = .ok (.lastore, 1) := by decide +kernel
theorem dL_plankOf_10 : decode cL_plankOf 10 = .ok (.goto 7, 3) := by decide +kernel
theorem dL_plankOf_13 : decode cL_plankOf 13 = .ok (.astore 4, 2) := by decide +kernel
theorem dL_plankOf_15 : decode cL_plankOf 15 = .ok (.iconst 1, 1) := by decide +kernel
theorem dL_plankOf_16 : decode cL_plankOf 16 = .ok (.ireturn, 1) := by decide +kernel
theorem dL_plankOf_17 : decode cL_plankOf 17 = .ok (.iconst 0, 1) := by decide +kernel
theorem dL_plankOf_18 : decode cL_plankOf 18 = .ok (.ireturn, 1) := by decide +kernel
set_option maxRecDepth 20000 in
theorem ggL_tide_X6_tide : GoodIn wsL_tide wsX6_tide := goodIn_ca (goodIn_ca (goodIn_r _ [7, 8, 9, 10, 11, 12, 6, 13, 14, 15, 16, 17, 18, 19, 20, 21, 22, 23, 24, 25, 26, 27, 28, 29, 30, 31, 32, 33, 34, 35, 36, 37, 38, 39, 40, 41, 42, 43, 44, 45, 46, 47, 48] (by decide +kernel) (by decide +kernel)) (goodIn_sub (fun _ h => List.mem_cons_of_mem _ (List.mem_append_left _ (List.mem_append_right _ h))) (by decide +kernel))) (goodIn_sub (fun _ h => List.mem_cons_of_mem _ (List.mem_append_right _ h)) (by decide +kernel))
set_option maxRecDepth 20000 in
theorem gL_tide_X6_tide : GoodIn wsL_tide (wsV RL 58 RX6 yX6_tide wsX6_tide) := goodIn_app (goodIn_of _ (by decide +kernel)) ggL_tide_X6_tide
theorem dL_tide_0 : decode cL_tide 0 = .ok (.aload_n 3, 1) := by decide +kernel
theorem dL_tide_1 : decode cL_tide 1 = .ok (.iconst 0, 1) := by decide +kernel
theorem dL_tide_2 : decode cL_tide 2 = .ok (.aload_n 0, 1) := by decide +kernel
theorem dL_tide_3 : decode cL_tide 3 = .ok (.iload_n 1, 1) := by decide +kernel
theorem dL_tide_4 : decode cL_tide 4 = .ok (.iload_n 2, 1) := by decide +kernel
theorem dL_tide_5 : decode cL_tide 5 = .ok (.invokevirtual 58, 3) := by decide +kernel
theorem dL_tide_8 : decode cL_tide 8 = .ok (.i2l, 1) := by decide +kernel
theorem dL_tide_9 : decode cL_tide 9 = .ok (.lastore, 1) := by decide +kernel
theorem dL_tide_10 : decode cL_tide 10 = .ok (.goto 11, 3) := by decide +kernel
theorem dL_tide_13 : decode cL_tide 13 = .ok (.astore 4, 2) := by decide +kernel
theorem dL_tide_15 : decode cL_tide 15 = .ok (.iconst 1, 1) := by decide +kernel
theorem dL_tide_16 : decode cL_tide 16 = .ok (.ireturn, 1) := by decide +kernel
theorem dL_tide_17 : decode cL_tide 17 = .ok (.astore 4, 2) := by decide +kernel
theorem dL_tide_19 : decode cL_tide 19 = .ok (.iconst 2, 1) := by decide +kernel
theorem dL_tide_20 : decode cL_tide 20 = .ok (.ireturn, 1) := by decide +kernel
theorem dL_tide_21 : decode cL_tide 21 = .ok (.iconst 0, 1) := by decide +kernel
theorem dL_tide_22 : decode cL_tide 22 = .ok (.ireturn, 1) := by decide +kernel
set_option maxRecDepth 20000 in
theorem ggL_sill_X6_sill : GoodIn wsL_sill wsX6_sill := goodIn_ca (goodIn_r _ [6, 7, 8, 9, 5, 10, 11, 12, 13, 14, 15, 16, 17, 18, 19, 20, 21] (by decide +kernel) (by decide +kernel)) (goodIn_sub (fun _ h => List.mem_cons_of_mem _ (List.mem_append_right _ h)) (by decide +kernel))
set_option maxRecDepth 20000 in
theorem gL_sill_X6_sill : GoodIn wsL_sill (wsV RL 61 RX6 yX6_sill wsX6_sill) := goodIn_app (goodIn_of _ (by decide +kernel)) ggL_sill_X6_sill
theorem dL_sill_0 : decode cL_sill 0 = .ok (.aload_n 2, 1) := by decide +kernel
theorem dL_sill_1 : decode cL_sill 1 = .ok (.iconst 0, 1) := by decide +kernel
theorem dL_sill_2 : decode cL_sill 2 = .ok (.aload_n 0, 1) := by decide +kernel
theorem dL_sill_3 : decode cL_sill 3 = .ok (.iload_n 1, 1) := by decide +kernel
theorem dL_sill_4 : decode cL_sill 4 = .ok (.invokevirtual 61, 3) := by decide +kernel
theorem dL_sill_7 : decode cL_sill 7 = .ok (.i2l, 1) := by decide +kernel
theorem dL_sill_8 : decode cL_sill 8 = .ok (.lastore, 1) := by decide +kernel
theorem dL_sill_9 : decode cL_sill 9 = .ok (.goto 6, 3) := by decide +kernel
theorem dL_sill_12 : decode cL_sill 12 = .ok (.astore_n 3, 1) := by decide +kernel
theorem dL_sill_13 : decode cL_sill 13 = .ok (.iconst 1, 1) := by decide +kernel
theorem dL_sill_14 : decode cL_sill 14 = .ok (.ireturn, 1) := by decide +kernel
theorem dL_sill_15 : decode cL_sill 15 = .ok (.iconst 0, 1) := by decide +kernel
theorem dL_sill_16 : decode cL_sill 16 = .ok (.ireturn, 1) := by decide +kernel
set_option maxRecDepth 20000 in
theorem ggL_launch_X6_launch : GoodIn wsL_launch wsX6_launch := goodIn_ca (goodIn_r _ [6, 7, 8, 9, 10, 11, 12, 13, 14, 5, 15, 16, 17, 18, 19, 20, 21, 22, 23, 24, 25, 26, 27, 28, 29, 30, 31, 32, 33, 34, 35, 36, 37, 38, 39, 40, 41, 42, 43, 44, 45, 46, 47, 48, 49, 50, 51, 52, 53, 54, 55, 56, 57, 58, 59, 60, 61, 62, 63, 64, 65, 66, 67, 68, 69, 70, 71, 72, 73, 74, 75, 76, 77, 78, 79, 80, 81, 82, 83, 84, 85, 86, 87, 88, 89, 90, 91, 92, 93, 94, 95, 96, 97, 98, 99, 100, 101, 102, 103, 104, 105, 106, 107, 108, 109, 110, 111, 112, 113, 114, 115, 116, 117, 118, 119, 120, 121] (by decide +kernel) (by decide +kernel)) (goodIn_sub (fun _ h => List.mem_cons_of_mem _ (List.mem_append_right _ h)) (by decide +kernel))
set_option maxRecDepth 20000 in
theorem gL_launch_X6_launch : GoodIn wsL_launch (wsV RL 64 RX6 yX6_launch wsX6_launch) := goodIn_app (goodIn_of _ (by decide +kernel)) ggL_launch_X6_launch
theorem dL_launch_0 : decode cL_launch 0 = .ok (.aload_n 1, 1) := by decide +kernel
theorem dL_launch_1 : decode cL_launch 1 = .ok (.iconst 0, 1) := by decide +kernel
theorem dL_launch_2 : decode cL_launch 2 = .ok (.aload_n 0, 1) := by decide +kernel
theorem dL_launch_3 : decode cL_launch 3 = .ok (.invokevirtual 64, 3) := by decide +kernel
theorem dL_launch_6 : decode cL_launch 6 = .ok (.i2l, 1) := by decide +kernel
theorem dL_launch_7 : decode cL_launch 7 = .ok (.lastore, 1) := by decide +kernel
theorem dL_launch_8 : decode cL_launch 8 = .ok (.goto 6, 3) := by decide +kernel
theorem dL_launch_11 : decode cL_launch 11 = .ok (.astore_n 2, 1) := by decide +kernel
theorem dL_launch_12 : decode cL_launch 12 = .ok (.iconst 1, 1) := by decide +kernel
theorem dL_launch_13 : decode cL_launch 13 = .ok (.ireturn, 1) := by decide +kernel
theorem dL_launch_14 : decode cL_launch 14 = .ok (.iconst 0, 1) := by decide +kernel
theorem dL_launch_15 : decode cL_launch 15 = .ok (.ireturn, 1) := by decide +kernel
set_option maxRecDepth 20000 in
theorem ggL_pass_X6_pass : GoodIn wsL_pass wsX6_pass := goodIn_ca (goodIn_ca (goodIn_r _ [7, 8, 9, 10, 11, 12, 6, 13, 14, 15, 16, 17, 18, 19, 20, 21, 22, 23, 24] (by decide +kernel) (by decide +kernel)) (goodIn_sub (fun _ h => List.mem_cons_of_mem _ (List.mem_append_left _ (List.mem_append_right _ h))) (by decide +kernel))) (goodIn_sub (fun _ h => List.mem_cons_of_mem _ (List.mem_append_right _ h)) (by decide +kernel))
set_option maxRecDepth 20000 in
theorem gL_pass_X6_pass : GoodIn wsL_pass (wsV RL 68 RX6 yX6_pass wsX6_pass) := goodIn_app (goodIn_of _ (by decide +kernel)) ggL_pass_X6_pass
theorem dL_pass_0 : decode cL_pass 0 = .ok (.aload_n 2, 1) := by decide +kernel
theorem dL_pass_1 : decode cL_pass 1 = .ok (.iconst 0, 1) := by decide +kernel
theorem dL_pass_2 : decode cL_pass 2 = .ok (.aload_n 0, 1) := by decide +kernel
theorem dL_pass_3 : decode cL_pass 3 = .ok (.iload_n 1, 1) := by decide +kernel
theorem dL_pass_4 : decode cL_pass 4 = .ok (.invokevirtual 68, 3) := by decide +kernel
theorem dL_pass_7 : decode cL_pass 7 = .ok (.i2l, 1) := by decide +kernel
theorem dL_pass_8 : decode cL_pass 8 = .ok (.lastore, 1) := by decide +kernel
theorem dL_pass_9 : decode cL_pass 9 = .ok (.goto 9, 3) := by decide +kernel
theorem dL_pass_12 : decode cL_pass 12 = .ok (.astore_n 3, 1) := by decide +kernel
theorem dL_pass_13 : decode cL_pass 13 = .ok (.iconst 1, 1) := by decide +kernel
theorem dL_pass_14 : decode cL_pass 14 = .ok (.ireturn, 1) := by decide +kernel
theorem dL_pass_15 : decode cL_pass 15 = .ok (.astore_n 3, 1) := by decide +kernel
theorem dL_pass_16 : decode cL_pass 16 = .ok (.iconst 2, 1) := by decide +kernel
theorem dL_pass_17 : decode cL_pass 17 = .ok (.ireturn, 1) := by decide +kernel
theorem dL_pass_18 : decode cL_pass 18 = .ok (.iconst 0, 1) := by decide +kernel
theorem dL_pass_19 : decode cL_pass 19 = .ok (.ireturn, 1) := by decide +kernel
set_option maxRecDepth 20000 in
theorem ggL_law_X6_init : GoodIn wsL_law wsX6_init := goodIn_r _ [9, 10, 11, 12, 13, 14, 15, 16, 17, 18, 19, 20, 21, 22, 23, 24, 25, 26, 27, 28, 29, 30, 31, 32, 33, 34, 35, 36, 37, 38, 39, 40, 41, 42, 43, 44, 45, 46, 47, 48, 49, 50, 51, 52, 53, 54, 55, 56, 57, 58, 59, 60, 61, 62, 63, 64, 65, 66, 67, 68, 69, 70, 71, 72, 73, 74, 75, 76, 77, 78, 79, 80, 81, 611, 586, 587, 588, 589, 590, 591, 592, 593, 594, 612, 613, 614, 615, 616, 617, 618, 619, 620, 621, 622, 623, 624, 625, 626, 627, 628, 629, 630, 631] (by decide +kernel) (by decide +kernel)
set_option maxRecDepth 20000 in
theorem gL_law_X6_init : GoodIn wsL_law (wsX6_init) := ggL_law_X6_init
set_option maxRecDepth 20000 in
theorem ggL_law_X7_init : GoodIn wsL_law wsX7_init := goodIn_r _ [84, 85, 11, 12, 44, 86, 87, 88, 89, 90, 91, 92, 93, 94, 95, 595, 596, 597, 598, 599, 600, 601, 602, 603, 604, 605, 606, 607, 608, 609, 610] (by decide +kernel) (by decide +kernel)
set_option maxRecDepth 20000 in
theorem gL_law_X7_init : GoodIn wsL_law (wsX7_init) := ggL_law_X7_init
set_option maxRecDepth 20000 in
theorem ggL_law_L_offset : GoodIn wsL_law wsL_offset := goodIn_ca (goodIn_ca (goodIn_ca (goodIn_r _ [99, 100, 101, 102, 103, 104, 105, 2, 106, 16, 107, 108, 109, 110, 111, 112, 113, 114, 115, 116, 117, 118, 119, 120, 121, 122, 123, 124, 125, 39, 586, 587, 588, 589, 590, 591, 592, 593, 594, 611] (by decide +kernel) (by decide +kernel)) (goodIn_sub (fun _ h => List.mem_append_left _ (List.mem_append_left _ (List.mem_append_right _ h))) (by decide +kernel))) (goodIn_sub (fun _ h => List.mem_append_left _ (List.mem_append_right _ h)) (by decide +kernel))) (goodIn_sub (fun _ h => List.mem_append_right _ h) (by decide +kernel))
set_option maxRecDepth 20000 in
theorem gL_law_L_offset : GoodIn wsL_law (va_wsS RL 75 yL_offset wsL_offset) := goodIn_app (goodIn_of _ (by decide +kernel)) ggL_law_L_offset
set_option maxRecDepth 20000 in
theorem ggL_law_X7_offset : GoodIn wsL_law wsX7_offset := goodIn_r _ [129, 130, 131, 86, 132, 133, 5, 134, 135, 136, 137, 138, 139, 140, 141, 142, 143, 144, 595, 596, 597, 598, 599, 600, 601, 602, 603, 604, 605, 606, 607, 608, 609, 610] (by decide +kernel) (by decide +kernel)
set_option maxRecDepth 20000 in
theorem gL_law_X7_offset : GoodIn wsL_law (wsV RL 80 RX7 yX7_offset wsX7_offset) := goodIn_app (goodIn_of _ (by decide +kernel)) ggL_law_X7_offset
set_option maxRecDepth 20000 in
theorem ggL_law_X7_thrown : GoodIn wsL_law wsX7_thrown := goodIn_r _ [148, 131, 595, 596, 597, 598, 599, 600, 601, 602, 603, 604, 605, 606, 607, 608, 609, 610] (by decide +kernel) (by decide +kernel)
set_option maxRecDepth 20000 in
theorem gL_law_X7_thrown : GoodIn wsL_law (wsV RL 81 RX7 yX7_thrown wsX7_thrown) := goodIn_app (goodIn_of _ (by decide +kernel)) ggL_law_X7_thrown
set_option maxRecDepth 20000 in
theorem ggL_law_L_half : GoodIn wsL_law wsL_half := goodIn_ca (goodIn_r _ [151, 100, 152, 153, 154, 2, 155, 16, 107, 108, 109, 110, 111, 112, 113, 114, 586, 587, 588, 589, 590, 591, 592, 593, 594, 611] (by decide +kernel) (by decide +kernel)) (goodIn_sub (fun _ h => List.mem_append_left _ (List.mem_append_left _ (List.mem_append_right _ h))) (by decide +kernel))
set_option maxRecDepth 20000 in
theorem gL_law_L_half : GoodIn wsL_law (va_wsS RL 84 yL_half wsL_half) := goodIn_app (goodIn_of _ (by decide +kernel)) ggL_law_L_half
set_option maxRecDepth 20000 in
theorem ggL_law_X7_half : GoodIn wsL_law wsX7_half := goodIn_r _ [159, 131, 132, 133, 5, 134, 135, 136, 137, 138, 139, 140, 141, 142, 143, 144, 86, 595, 596, 597, 598, 599, 600, 601, 602, 603, 604, 605, 606, 607, 608, 609, 610] (by decide +kernel) (by decide +kernel)
set_option maxRecDepth 20000 in
theorem gL_law_X7_half : GoodIn wsL_law (wsV RL 87 RX7 yX7_half wsX7_half) := goodIn_app (goodIn_of _ (by decide +kernel)) ggL_law_X7_half
set_option maxRecDepth 20000 in
theorem ggL_law_L_bend : GoodIn wsL_law wsL_bend := goodIn_ca (goodIn_r _ [162, 100, 163, 164, 165, 2, 166, 16, 112, 113, 114, 110, 111, 167, 168, 169, 170, 171, 172, 586, 587, 588, 589, 590, 591, 592, 593, 594, 611] (by decide +kernel) (by decide +kernel)) (goodIn_sub (fun _ h => List.mem_append_left _ (List.mem_append_left _ (List.mem_append_right _ h))) (by decide +kernel))
set_option maxRecDepth 20000 in
theorem gL_law_L_bend : GoodIn wsL_law (va_wsS RL 88 yL_bend wsL_bend) := goodIn_app (goodIn_of _ (by decide +kernel)) ggL_law_L_bend
set_option maxRecDepth 20000 in
theorem ggL_law_X7_bend : GoodIn wsL_law wsX7_bend := goodIn_r _ [176, 131, 138, 139, 5, 140, 135, 136, 137, 177, 178, 179, 180, 141, 142, 143, 144, 86, 181, 182, 183, 595, 596, 597, 598, 599, 600, 601, 602, 603, 604, 605, 606, 607, 608, 609, 610] (by decide +kernel) (by decide +kernel)
set_option maxRecDepth 20000 in
theorem gL_law_X7_bend : GoodIn wsL_law (wsV RL 91 RX7 yX7_bend wsX7_bend) := goodIn_app (goodIn_of _ (by decide +kernel)) ggL_law_X7_bend
set_option maxRecDepth 20000 in
theorem ggL_law_L_fair : GoodIn wsL_law wsL_fair := goodIn_ca (goodIn_ca (goodIn_ca (goodIn_r _ [186, 100, 101, 102, 187, 188, 189, 2, 190, 16, 20, 112, 113, 114, 110, 111, 115, 116, 117, 118, 119, 120, 121, 122, 123, 124, 125, 39, 167, 168, 169, 170, 171, 172, 191, 19, 192, 193, 51, 194, 195, 196, 197, 52, 198, 199, 200, 201, 202, 203, 204, 205, 50, 206, 207, 208, 209, 210, 211, 212, 213, 214, 215, 216, 217, 586, 587, 588, 589, 590, 591, 592, 593, 594, 611, 612, 613, 614] (by decide +kernel) (by decide +kernel)) (goodIn_sub (fun _ h => List.mem_append_left _ (List.mem_append_left _ (List.mem_append_right _ h))) (by decide +kernel))) (goodIn_sub (fun _ h => List.mem_append_left _ (List.mem_append_right _ h)) (by decide +kernel))) (goodIn_sub (fun _ h => List.mem_append_right _ h) (by decide +kernel))
set_option maxRecDepth 20000 in
theorem gL_law_L_fair : GoodIn wsL_law (va_wsS RL 92 yL_fair wsL_fair) := goodIn_app (goodIn_of _ (by decide +kernel)) ggL_law_L_fair
set_option maxRecDepth 20000 in
theorem ggL_law_X7_fair : GoodIn wsL_law wsX7_fair := goodIn_r _ [221, 130, 131, 86, 95, 138, 139, 5, 140, 135, 136, 137, 177, 178, 179, 180, 141, 142, 143, 144, 181, 182, 183, 222, 223, 224, 225, 94, 226, 227, 228, 229, 230, 231, 232, 233, 234, 235, 236, 237, 238, 239, 240, 241, 242, 243, 244, 245, 246, 247, 248, 595, 596, 597, 598, 599, 600, 601, 602, 603, 604, 605, 606, 607, 608, 609, 610] (by decide +kernel) (by decide +kernel)
set_option maxRecDepth 20000 in
theorem gL_law_X7_fair : GoodIn wsL_law (wsV RL 94 RX7 yX7_fair wsX7_fair) := goodIn_app (goodIn_of _ (by decide +kernel)) ggL_law_X7_fair
set_option maxRecDepth 20000 in
theorem ggL_law_L_area : GoodIn wsL_law wsL_area := goodIn_ca (goodIn_r _ [251, 100, 252, 253, 254, 2, 255, 16, 107, 108, 109, 110, 111, 112, 113, 114, 256, 15, 257, 258, 45, 586, 587, 588, 589, 590, 591, 592, 593, 594, 611] (by decide +kernel) (by decide +kernel)) (goodIn_sub (fun _ h => List.mem_append_left _ (List.mem_append_left _ (List.mem_append_right _ h))) (by decide +kernel))
set_option maxRecDepth 20000 in
theorem gL_law_L_area : GoodIn wsL_law (va_wsS RL 95 yL_area wsL_area) := goodIn_app (goodIn_of _ (by decide +kernel)) ggL_law_L_area
set_option maxRecDepth 20000 in
theorem ggL_law_X7_area : GoodIn wsL_law wsX7_area := goodIn_r _ [262, 131, 132, 133, 5, 134, 135, 136, 137, 138, 139, 140, 263, 264, 265, 266, 141, 142, 143, 144, 86, 595, 596, 597, 598, 599, 600, 601, 602, 603, 604, 605, 606, 607, 608, 609, 610] (by decide +kernel) (by decide +kernel)
set_option maxRecDepth 20000 in
theorem gL_law_X7_area : GoodIn wsL_law (wsV RL 97 RX7 yX7_area wsX7_area) := goodIn_app (goodIn_of _ (by decide +kernel)) ggL_law_X7_area
set_option maxRecDepth 20000 in
theorem ggL_law_L_volume : GoodIn wsL_law wsL_volume := goodIn_ca (goodIn_r _ [269, 100, 270, 271, 272, 2, 273, 16, 112, 113, 114, 110, 111, 274, 15, 275, 276, 277, 256, 257, 258, 45, 586, 587, 588, 589, 590, 591, 592, 593, 594, 611] (by decide +kernel) (by decide +kernel)) (goodIn_sub (fun _ h => List.mem_append_left _ (List.mem_append_left _ (List.mem_append_right _ h))) (by decide +kernel))
set_option maxRecDepth 20000 in
theorem gL_law_L_volume : GoodIn wsL_law (va_wsS RL 98 yL_volume wsL_volume) := goodIn_app (goodIn_of _ (by decide +kernel)) ggL_law_L_volume
set_option maxRecDepth 20000 in
theorem ggL_law_X7_volume : GoodIn wsL_law wsX7_volume := goodIn_r _ [281, 131, 138, 139, 5, 140, 135, 136, 137, 282, 283, 284, 285, 263, 264, 265, 266, 141, 142, 143, 144, 86, 595, 596, 597, 598, 599, 600, 601, 602, 603, 604, 605, 606, 607, 608, 609, 610] (by decide +kernel) (by decide +kernel)
set_option maxRecDepth 20000 in
theorem gL_law_X7_volume : GoodIn wsL_law (wsV RL 100 RX7 yX7_volume wsX7_volume) := goodIn_app (goodIn_of _ (by decide +kernel)) ggL_law_X7_volume
set_option maxRecDepth 20000 in
theorem ggL_law_L_volumeAnew : GoodIn wsL_law wsL_volumeAnew := goodIn_ca (goodIn_r _ [288, 100, 289, 290, 291, 2, 292, 16, 112, 113, 114, 110, 111, 293, 15, 294, 295, 296, 297, 298, 299, 45, 586, 587, 588, 589, 590, 591, 592, 593, 594, 611] (by decide +kernel) (by decide +kernel)) (goodIn_sub (fun _ h => List.mem_append_left _ (List.mem_append_left _ (List.mem_append_right _ h))) (by decide +kernel))
set_option maxRecDepth 20000 in
theorem gL_law_L_volumeAnew : GoodIn wsL_law (va_wsS RL 101 yL_volumeAnew wsL_volumeAnew) := goodIn_app (goodIn_of _ (by decide +kernel)) ggL_law_L_volumeAnew
set_option maxRecDepth 20000 in
theorem ggL_law_X7_volumeAnew : GoodIn wsL_law wsX7_volumeAnew := goodIn_r _ [303, 304, 279, 280, 5, 281, 131, 138, 139, 140, 135, 136, 137, 282, 283, 284, 285, 263, 264, 265, 266, 141, 142, 143, 144, 86, 595, 596, 597, 598, 599, 600, 601, 602, 603, 604, 605, 606, 607, 608, 609, 610] (by decide +kernel) (by decide +kernel)
set_option maxRecDepth 20000 in
theorem gL_law_X7_volumeAnew : GoodIn wsL_law (wsV RL 103 RX7 yX7_volumeAnew wsX7_volumeAnew) := goodIn_app (goodIn_of _ (by decide +kernel)) ggL_law_X7_volumeAnew
set_option maxRecDepth 20000 in
theorem ggL_law_L_weigh : GoodIn wsL_law wsL_weigh := goodIn_ca (goodIn_ca (goodIn_ca (goodIn_r _ [307, 100, 101, 102, 308, 309, 310, 2, 311, 124, 125, 24, 107, 108, 109, 110, 111, 115, 116, 117, 118, 119, 312, 23, 313, 314, 58, 315, 316, 317, 56, 57, 586, 587, 588, 589, 590, 591, 592, 593, 594, 615, 616, 617, 618, 619] (by decide +kernel) (by decide +kernel)) (goodIn_sub (fun _ h => List.mem_append_right _ h) (by decide +kernel))) (goodIn_sub (fun _ h => List.mem_append_left _ (List.mem_append_left _ (List.mem_append_right _ h))) (by decide +kernel))) (goodIn_sub (fun _ h => List.mem_append_left _ (List.mem_append_right _ h)) (by decide +kernel))
set_option maxRecDepth 20000 in
theorem gL_law_L_weigh : GoodIn wsL_law (va_wsS RL 104 yL_weigh wsL_weigh) := goodIn_app (goodIn_of _ (by decide +kernel)) ggL_law_L_weigh
set_option maxRecDepth 20000 in
theorem ggL_law_X7_weigh : GoodIn wsL_law wsX7_weigh := goodIn_r _ [321, 322, 131, 87, 88, 132, 133, 5, 134, 135, 136, 137, 595, 596, 597, 598, 599, 600, 601, 602, 603, 604, 605, 606, 607, 608, 609, 610] (by decide +kernel) (by decide +kernel)
set_option maxRecDepth 20000 in
theorem gL_law_X7_weigh : GoodIn wsL_law (wsV RL 106 RX7 yX7_weigh wsX7_weigh) := goodIn_app (goodIn_of _ (by decide +kernel)) ggL_law_X7_weigh
set_option maxRecDepth 20000 in
theorem ggL_law_L_change : GoodIn wsL_law wsL_change := goodIn_ca (goodIn_ca (goodIn_r _ [325, 100, 101, 326, 327, 328, 2, 329, 24, 330, 331, 332, 333, 110, 111, 107, 108, 109, 115, 116, 117, 118, 119, 334, 23, 335, 336, 56, 57, 586, 587, 588, 589, 590, 591, 592, 593, 594, 615, 616, 617, 618, 619] (by decide +kernel) (by decide +kernel)) (goodIn_sub (fun _ h => List.mem_append_left _ (List.mem_append_left _ (List.mem_append_right _ h))) (by decide +kernel))) (goodIn_sub (fun _ h => List.mem_append_left _ (List.mem_append_right _ h)) (by decide +kernel))
set_option maxRecDepth 20000 in
theorem gL_law_L_change : GoodIn wsL_law (va_wsS RL 107 yL_change wsL_change) := goodIn_app (goodIn_of _ (by decide +kernel)) ggL_law_L_change
set_option maxRecDepth 20000 in
theorem ggL_law_X7_change : GoodIn wsL_law wsX7_change := goodIn_r _ [340, 322, 131, 88, 87, 135, 136, 5, 137, 132, 133, 134, 595, 596, 597, 598, 599, 600, 601, 602, 603, 604, 605, 606, 607, 608, 609, 610] (by decide +kernel) (by decide +kernel)
set_option maxRecDepth 20000 in
theorem gL_law_X7_change : GoodIn wsL_law (wsV RL 109 RX7 yX7_change wsX7_change) := goodIn_app (goodIn_of _ (by decide +kernel)) ggL_law_X7_change
set_option maxRecDepth 20000 in
theorem ggL_law_L_ballast : GoodIn wsL_law wsL_ballast := goodIn_ca (goodIn_r _ [343, 101, 344, 345, 346, 2, 347, 28, 16, 24, 115, 116, 117, 118, 119, 348, 27, 349, 350, 64, 65, 274, 15, 275, 276, 277, 256, 257, 258, 45, 351, 352, 353, 354, 355, 356, 357, 358, 196, 359, 360, 23, 361, 362, 58, 56, 363, 364, 365, 57, 366, 367, 368, 369, 370, 371, 372, 373, 374, 375, 376, 377, 378, 379, 380, 586, 587, 588, 589, 590, 591, 592, 593, 594, 615, 616, 617, 618, 619, 620, 621, 611] (by decide +kernel) (by decide +kernel)) (goodIn_sub (fun _ h => List.mem_append_left _ (List.mem_append_right _ h)) (by decide +kernel))
set_option maxRecDepth 20000 in
theorem gL_law_L_ballast : GoodIn wsL_law (va_wsS RL 110 yL_ballast wsL_ballast) := goodIn_app (goodIn_of _ (by decide +kernel)) ggL_law_L_ballast
set_option maxRecDepth 20000 in
theorem ggL_law_X7_ballast : GoodIn wsL_law wsX7_ballast := goodIn_r _ [384, 131, 87, 88, 233, 135, 136, 5, 137, 385, 386, 387, 388, 389, 390, 391, 392, 282, 283, 284, 285, 263, 264, 265, 266, 141, 142, 143, 144, 86, 393, 394, 395, 396, 397, 398, 399, 400, 401, 402, 403, 404, 405, 406, 407, 238, 239, 240, 595, 596, 597, 598, 599, 600, 601, 602, 603, 604, 605, 606, 607, 608, 609, 610] (by decide +kernel) (by decide +kernel)
set_option maxRecDepth 20000 in
theorem gL_law_X7_ballast : GoodIn wsL_law (wsV RL 112 RX7 yX7_ballast wsX7_ballast) := goodIn_app (goodIn_of _ (by decide +kernel)) ggL_law_X7_ballast
set_option maxRecDepth 20000 in
theorem ggL_law_X6_draught : GoodIn wsL_law wsX6_draught := goodIn_r _ [411, 28, 16, 24, 348, 27, 349, 350, 64, 65, 274, 15, 275, 276, 277, 256, 257, 258, 45, 351, 352, 353, 412, 23, 413, 414, 59, 415, 360, 361, 362, 58, 56, 367, 368, 369, 586, 587, 588, 589, 590, 591, 592, 593, 594, 620, 621, 611, 615, 616, 617, 618, 619] (by decide +kernel) (by decide +kernel)
set_option maxRecDepth 20000 in
theorem gL_law_X6_draught : GoodIn wsL_law (wsV RL 113 RX6 yX6_draught wsX6_draught) := goodIn_app (goodIn_of _ (by decide +kernel)) ggL_law_X6_draught
set_option maxRecDepth 20000 in
theorem ggL_law_X7_draught : GoodIn wsL_law wsX7_draught := goodIn_r _ [419, 131, 385, 386, 387, 5, 388, 389, 390, 391, 392, 88, 282, 283, 284, 285, 263, 264, 265, 266, 141, 142, 143, 144, 86, 595, 596, 597, 598, 599, 600, 601, 602, 603, 604, 605, 606, 607, 608, 609, 610] (by decide +kernel) (by decide +kernel)
set_option maxRecDepth 20000 in
theorem gL_law_X7_draught : GoodIn wsL_law (wsV RL 116 RX7 yX7_draught wsX7_draught) := goodIn_app (goodIn_of _ (by decide +kernel)) ggL_law_X7_draught
set_option maxRecDepth 20000 in
theorem ggL_law_X6_trim : GoodIn wsL_law wsX6_trim := goodIn_r _ [423, 28, 16, 24, 348, 27, 349, 350, 64, 65, 274, 15, 275, 276, 277, 256, 257, 258, 45, 351, 352, 353, 412, 23, 413, 414, 59, 415, 360, 361, 362, 58, 56, 424, 425, 426, 60, 427, 363, 364, 365, 57, 371, 372, 373, 366, 367, 368, 369, 374, 375, 376, 377, 378, 379, 380, 586, 587, 588, 589, 590, 591, 592, 593, 594, 620, 621, 611, 615, 616, 617, 618, 619] (by decide +kernel) (by decide +kernel)
set_option maxRecDepth 20000 in
theorem gL_law_X6_trim : GoodIn wsL_law (wsV RL 117 RX6 yX6_trim wsX6_trim) := goodIn_app (goodIn_of _ (by decide +kernel)) ggL_law_X6_trim
set_option maxRecDepth 20000 in
theorem ggL_law_X7_trim : GoodIn wsL_law wsX7_trim := goodIn_r _ [431, 131, 393, 394, 395, 5, 396, 385, 386, 387, 388, 389, 390, 391, 392, 88, 282, 283, 284, 285, 263, 264, 265, 266, 141, 142, 143, 144, 86, 397, 398, 399, 400, 87, 401, 402, 403, 404, 405, 406, 407, 595, 596, 597, 598, 599, 600, 601, 602, 603, 604, 605, 606, 607, 608, 609, 610] (by decide +kernel) (by decide +kernel)
set_option maxRecDepth 20000 in
theorem gL_law_X7_trim : GoodIn wsL_law (wsV RL 120 RX7 yX7_trim wsX7_trim) := goodIn_app (goodIn_of _ (by decide +kernel)) ggL_law_X7_trim
set_option maxRecDepth 20000 in
theorem ggL_law_L_strake : GoodIn wsL_law wsL_strake := goodIn_ca (goodIn_r _ [434, 100, 435, 436, 437, 2, 438, 16, 439, 440, 441, 110, 111, 442, 15, 443, 444, 45, 445, 358, 196, 359, 586, 587, 588, 589, 590, 591, 592, 593, 594, 611] (by decide +kernel) (by decide +kernel)) (goodIn_sub (fun _ h => List.mem_append_left _ (List.mem_append_left _ (List.mem_append_right _ h))) (by decide +kernel))
set_option maxRecDepth 20000 in
theorem gL_law_L_strake : GoodIn wsL_law (va_wsS RL 121 yL_strake wsL_strake) := goodIn_app (goodIn_of _ (by decide +kernel)) ggL_law_L_strake
set_option maxRecDepth 20000 in
theorem ggL_law_X7_strake : GoodIn wsL_law wsX7_strake := goodIn_r _ [449, 131, 135, 136, 5, 137, 450, 451, 452, 453, 141, 142, 143, 144, 86, 238, 239, 240, 595, 596, 597, 598, 599, 600, 601, 602, 603, 604, 605, 606, 607, 608, 609, 610] (by decide +kernel) (by decide +kernel)
set_option maxRecDepth 20000 in
theorem gL_law_X7_strake : GoodIn wsL_law (wsV RL 123 RX7 yX7_strake wsX7_strake) := goodIn_app (goodIn_of _ (by decide +kernel)) ggL_law_X7_strake
set_option maxRecDepth 20000 in
theorem ggL_law_L_planks : GoodIn wsL_law wsL_planks := goodIn_ca (goodIn_r _ [456, 101, 457, 458, 459, 2, 460, 32, 16, 115, 116, 117, 118, 119, 461, 31, 462, 463, 75, 71, 72, 70, 73, 464, 465, 466, 467, 442, 15, 443, 444, 45, 445, 358, 196, 359, 468, 469, 470, 471, 74, 69, 586, 587, 588, 589, 590, 591, 592, 593, 594, 622, 623, 624, 625, 626, 627, 628, 611] (by decide +kernel) (by decide +kernel)) (goodIn_sub (fun _ h => List.mem_append_left _ (List.mem_append_right _ h)) (by decide +kernel))
set_option maxRecDepth 20000 in
theorem gL_law_L_planks : GoodIn wsL_law (va_wsS RL 124 yL_planks wsL_planks) := goodIn_app (goodIn_of _ (by decide +kernel)) ggL_law_L_planks
set_option maxRecDepth 20000 in
theorem ggL_law_X7_planks : GoodIn wsL_law wsX7_planks := goodIn_r _ [475, 131, 89, 135, 136, 5, 137, 476, 477, 478, 479, 90, 91, 480, 481, 482, 483, 450, 451, 452, 453, 141, 142, 143, 144, 86, 238, 239, 240, 595, 596, 597, 598, 599, 600, 601, 602, 603, 604, 605, 606, 607, 608, 609, 610] (by decide +kernel) (by decide +kernel)
set_option maxRecDepth 20000 in
theorem gL_law_X7_planks : GoodIn wsL_law (wsV RL 126 RX7 yX7_planks wsX7_planks) := goodIn_app (goodIn_of _ (by decide +kernel)) ggL_law_X7_planks
set_option maxRecDepth 20000 in
theorem ggL_law_L_plankOf : GoodIn wsL_law wsL_plankOf := goodIn_ca (goodIn_r _ [486, 100, 487, 488, 489, 2, 490, 32, 16, 439, 440, 441, 110, 111, 461, 31, 462, 463, 75, 71, 72, 70, 73, 464, 465, 466, 467, 442, 15, 443, 444, 45, 445, 358, 196, 359, 468, 469, 470, 471, 74, 69, 586, 587, 588, 589, 590, 591, 592, 593, 594, 622, 623, 624, 625, 626, 627, 628, 611] (by decide +kernel) (by decide +kernel)) (goodIn_sub (fun _ h => List.mem_append_left _ (List.mem_append_left _ (List.mem_append_right _ h))) (by decide +kernel))
set_option maxRecDepth 20000 in
theorem gL_law_L_plankOf : GoodIn wsL_law (va_wsS RL 127 yL_plankOf wsL_plankOf) := goodIn_app (goodIn_of _ (by decide +kernel)) ggL_law_L_plankOf
set_option maxRecDepth 20000 in
theorem ggL_law_X7_plankOf : GoodIn wsL_law wsX7_plankOf := goodIn_r _ [494, 131, 91, 135, 136, 5, 137, 476, 477, 478, 479, 89, 90, 480, 481, 482, 483, 450, 451, 452, 453, 141, 142, 143, 144, 86, 238, 239, 240, 595, 596, 597, 598, 599, 600, 601, 602, 603, 604, 605, 606, 607, 608, 609, 610] (by decide +kernel) (by decide +kernel)
set_option maxRecDepth 20000 in
theorem gL_law_X7_plankOf : GoodIn wsL_law (wsV RL 130 RX7 yX7_plankOf wsX7_plankOf) := goodIn_app (goodIn_of _ (by decide +kernel)) ggL_law_X7_plankOf
set_option maxRecDepth 20000 in
theorem ggL_law_L_tide : GoodIn wsL_law wsL_tide := goodIn_ca (goodIn_ca (goodIn_r _ [497, 101, 102, 498, 499, 500, 2, 501, 124, 125, 36, 115, 116, 117, 118, 119, 502, 35, 503, 504, 81, 505, 506, 507, 508, 79, 509, 510, 511, 80, 512, 513, 379, 514, 515, 516, 517, 586, 587, 588, 589, 590, 591, 592, 593, 594, 629, 630, 631] (by decide +kernel) (by decide +kernel)) (goodIn_sub (fun _ h => List.mem_append_right _ h) (by decide +kernel))) (goodIn_sub (fun _ h => List.mem_append_left _ (List.mem_append_right _ h)) (by decide +kernel))
set_option maxRecDepth 20000 in
theorem gL_law_L_tide : GoodIn wsL_law (va_wsS RL 131 yL_tide wsL_tide) := goodIn_app (goodIn_of _ (by decide +kernel)) ggL_law_L_tide
set_option maxRecDepth 20000 in
theorem ggL_law_X7_tide : GoodIn wsL_law wsX7_tide := goodIn_r _ [521, 131, 522, 92, 93, 135, 136, 5, 137, 523, 524, 525, 526, 595, 596, 597, 598, 599, 600, 601, 602, 603, 604, 605, 606, 607, 608, 609, 610] (by decide +kernel) (by decide +kernel)
set_option maxRecDepth 20000 in
theorem gL_law_X7_tide : GoodIn wsL_law (wsV RL 133 RX7 yX7_tide wsX7_tide) := goodIn_app (goodIn_of _ (by decide +kernel)) ggL_law_X7_tide
set_option maxRecDepth 20000 in
theorem ggL_law_L_sill : GoodIn wsL_law wsL_sill := goodIn_ca (goodIn_r _ [529, 101, 530, 531, 532, 2, 533, 37, 115, 116, 117, 118, 119, 586, 587, 588, 589, 590, 591, 592, 593, 594] (by decide +kernel) (by decide +kernel)) (goodIn_sub (fun _ h => List.mem_append_left _ (List.mem_append_right _ h)) (by decide +kernel))
set_option maxRecDepth 20000 in
theorem gL_law_L_sill : GoodIn wsL_law (va_wsS RL 134 yL_sill wsL_sill) := goodIn_app (goodIn_of _ (by decide +kernel)) ggL_law_L_sill
set_option maxRecDepth 20000 in
theorem ggL_law_X7_sill : GoodIn wsL_law wsX7_sill := goodIn_r _ [537, 131, 538, 135, 136, 5, 137, 595, 596, 597, 598, 599, 600, 601, 602, 603, 604, 605, 606, 607, 608, 609, 610] (by decide +kernel) (by decide +kernel)
set_option maxRecDepth 20000 in
theorem gL_law_X7_sill : GoodIn wsL_law (wsV RL 136 RX7 yX7_sill wsX7_sill) := goodIn_app (goodIn_of _ (by decide +kernel)) ggL_law_X7_sill
set_option maxRecDepth 20000 in
theorem ggL_law_X6_needed : GoodIn wsL_law wsX6_needed := goodIn_r _ [542, 37, 543, 358, 196, 359, 544, 409, 410, 2, 411, 28, 16, 24, 348, 27, 349, 350, 64, 65, 274, 15, 275, 276, 277, 256, 257, 258, 45, 351, 352, 353, 412, 23, 413, 414, 59, 415, 360, 361, 362, 58, 56, 367, 368, 369, 545, 421, 422, 423, 424, 425, 426, 60, 427, 363, 364, 365, 57, 371, 372, 373, 366, 374, 375, 376, 377, 378, 379, 380, 586, 587, 588, 589, 590, 591, 592, 593, 594, 620, 621, 611, 615, 616, 617, 618, 619] (by decide +kernel) (by decide +kernel)
set_option maxRecDepth 20000 in
theorem gL_law_X6_needed : GoodIn wsL_law (wsV RL 137 RX6 yX6_needed wsX6_needed) := goodIn_app (goodIn_of _ (by decide +kernel)) ggL_law_X6_needed
set_option maxRecDepth 20000 in
theorem ggL_law_X7_needed : GoodIn wsL_law wsX7_needed := goodIn_r _ [549, 131, 550, 551, 552, 5, 553, 538, 385, 386, 387, 388, 389, 390, 391, 392, 88, 282, 283, 284, 285, 263, 264, 265, 266, 141, 142, 143, 144, 86, 393, 394, 395, 396, 397, 398, 399, 400, 87, 401, 402, 403, 404, 405, 406, 407, 238, 239, 240, 595, 596, 597, 598, 599, 600, 601, 602, 603, 604, 605, 606, 607, 608, 609, 610] (by decide +kernel) (by decide +kernel)
set_option maxRecDepth 20000 in
theorem gL_law_X7_needed : GoodIn wsL_law (wsV RL 140 RX7 yX7_needed wsX7_needed) := goodIn_app (goodIn_of _ (by decide +kernel)) ggL_law_X7_needed
set_option maxRecDepth 20000 in
theorem ggL_law_X6_day : GoodIn wsL_law wsX6_day := goodIn_r _ [557, 39, 36, 38, 558, 540, 541, 2, 542, 37, 543, 358, 196, 359, 544, 409, 410, 411, 28, 16, 24, 348, 27, 349, 350, 64, 65, 274, 15, 275, 276, 277, 256, 257, 258, 45, 351, 352, 353, 412, 23, 413, 414, 59, 415, 360, 361, 362, 58, 56, 367, 368, 369, 545, 421, 422, 423, 424, 425, 426, 60, 427, 363, 364, 365, 57, 371, 372, 373, 366, 374, 375, 376, 377, 378, 379, 380, 509, 35, 510, 511, 80, 505, 506, 507, 508, 81, 79, 512, 513, 514, 586, 587, 588, 589, 590, 591, 592, 593, 594, 620, 621, 611, 615, 616, 617, 618, 619, 629, 630, 631] (by decide +kernel) (by decide +kernel)
set_option maxRecDepth 20000 in
theorem gL_law_X6_day : GoodIn wsL_law (wsV RL 141 RX6 yX6_day wsX6_day) := goodIn_app (goodIn_of _ (by decide +kernel)) ggL_law_X6_day
set_option maxRecDepth 20000 in
theorem ggL_law_X7_day : GoodIn wsL_law wsX7_day := goodIn_r _ [562, 131, 563, 130, 550, 551, 552, 5, 553, 538, 385, 386, 387, 388, 389, 390, 391, 392, 88, 282, 283, 284, 285, 263, 264, 265, 266, 141, 142, 143, 144, 86, 393, 394, 395, 396, 397, 398, 399, 400, 87, 401, 402, 403, 404, 405, 406, 407, 238, 239, 240, 523, 524, 525, 526, 522, 92, 93, 595, 596, 597, 598, 599, 600, 601, 602, 603, 604, 605, 606, 607, 608, 609, 610] (by decide +kernel) (by decide +kernel)
set_option maxRecDepth 20000 in
theorem gL_law_X7_day : GoodIn wsL_law (wsV RL 144 RX7 yX7_day wsX7_day) := goodIn_app (goodIn_of _ (by decide +kernel)) ggL_law_X7_day
set_option maxRecDepth 20000 in
theorem ggL_law_L_launch : GoodIn wsL_law wsL_launch := goodIn_ca (goodIn_r _ [566, 102, 567, 568, 569, 2, 570, 124, 125, 36, 38, 39, 120, 121, 122, 123, 558, 540, 541, 542, 37, 543, 358, 196, 359, 544, 409, 410, 411, 28, 16, 24, 348, 27, 349, 350, 64, 65, 274, 15, 275, 276, 277, 256, 257, 258, 45, 351, 352, 353, 412, 23, 413, 414, 59, 415, 360, 361, 362, 58, 56, 367, 368, 369, 545, 421, 422, 423, 424, 425, 426, 60, 427, 363, 364, 365, 57, 371, 372, 373, 366, 374, 375, 376, 377, 378, 379, 380, 509, 35, 510, 511, 80, 505, 506, 507, 508, 81, 79, 512, 513, 514, 586, 587, 588, 589, 590, 591, 592, 593, 594, 620, 621, 611, 615, 616, 617, 618, 619, 629, 630, 631] (by decide +kernel) (by decide +kernel)) (goodIn_sub (fun _ h => List.mem_append_right _ h) (by decide +kernel))
set_option maxRecDepth 20000 in
theorem gL_law_L_launch : GoodIn wsL_law (va_wsS RL 145 yL_launch wsL_launch) := goodIn_app (goodIn_of _ (by decide +kernel)) ggL_law_L_launch
set_option maxRecDepth 20000 in
theorem ggL_law_X7_launch : GoodIn wsL_law wsX7_launch := goodIn_r _ [574, 130, 563, 131, 550, 551, 552, 5, 553, 538, 385, 386, 387, 388, 389, 390, 391, 392, 88, 282, 283, 284, 285, 263, 264, 265, 266, 141, 142, 143, 144, 86, 393, 394, 395, 396, 397, 398, 399, 400, 87, 401, 402, 403, 404, 405, 406, 407, 238, 239, 240, 523, 524, 525, 526, 522, 92, 93, 595, 596, 597, 598, 599, 600, 601, 602, 603, 604, 605, 606, 607, 608, 609, 610] (by decide +kernel) (by decide +kernel)
set_option maxRecDepth 20000 in
theorem gL_law_X7_launch : GoodIn wsL_law (wsV RL 148 RX7 yX7_launch wsX7_launch) := goodIn_app (goodIn_of _ (by decide +kernel)) ggL_law_X7_launch
set_option maxRecDepth 20000 in
theorem ggL_law_L_pass : GoodIn wsL_law wsL_pass := goodIn_ca (goodIn_ca (goodIn_r _ [577, 101, 102, 578, 579, 580, 2, 581, 124, 125, 38, 115, 116, 117, 118, 119, 586, 587, 588, 589, 590, 591, 592, 593, 594] (by decide +kernel) (by decide +kernel)) (goodIn_sub (fun _ h => List.mem_append_right _ h) (by decide +kernel))) (goodIn_sub (fun _ h => List.mem_append_left _ (List.mem_append_right _ h)) (by decide +kernel))
set_option maxRecDepth 20000 in
theorem gL_law_L_pass : GoodIn wsL_law (va_wsS RL 149 yL_pass wsL_pass) := goodIn_app (goodIn_of _ (by decide +kernel)) ggL_law_L_pass
set_option maxRecDepth 20000 in
theorem ggL_law_X7_pass : GoodIn wsL_law wsX7_pass := goodIn_r _ [585, 563, 131, 135, 136, 5, 137, 595, 596, 597, 598, 599, 600, 601, 602, 603, 604, 605, 606, 607, 608, 609, 610] (by decide +kernel) (by decide +kernel)
set_option maxRecDepth 20000 in
theorem gL_law_X7_pass : GoodIn wsL_law (wsV RL 151 RX7 yX7_pass wsX7_pass) := goodIn_app (goodIn_of _ (by decide +kernel)) ggL_law_X7_pass
theorem dL_law_0 : decode cL_law 0 = .ok (.new 8, 3) := by decide +kernel
theorem dL_law_3 : decode cL_law 3 = .ok (.dup, 1) := by decide +kernel
theorem dL_law_4 : decode cL_law 4 = .ok (.invokespecial 71, 3) := by decide +kernel
theorem dL_law_7 : decode cL_law 7 = .ok (.astore_n 1, 1) := by decide +kernel
theorem dL_law_8 : decode cL_law 8 = .ok (.new 72, 3) := by decide +kernel
theorem dL_law_11 : decode cL_law 11 = .ok (.dup, 1) := by decide +kernel
theorem dL_law_12 : decode cL_law 12 = .ok (.invokespecial 74, 3) := by decide +kernel
theorem dL_law_15 : decode cL_law 15 = .ok (.astore_n 2, 1) := by decide +kernel
theorem dL_law_16 : decode cL_law 16 = .ok (.iconst 1, 1) := by decide +kernel
theorem dL_law_17 : decode cL_law 17 = .ok (.newarray .long, 2) := by decide +kernel
theorem dL_law_19 : decode cL_law 19 = .ok (.astore_n 3, 1) := by decide +kernel
theorem dL_law_20 : decode cL_law 20 = .ok (.iconst 0, 1) := by decide +kernel
theorem dL_law_21 : decode cL_law 21 = .ok (.istore 4, 2) := by decide +kernel
theorem dL_law_23 : decode cL_law 23 = .ok (.iload 4, 2) := by decide +kernel
theorem dL_law_25 : decode cL_law 25 = .ok (.aload_n 0, 1) := by decide +kernel
theorem dL_law_26 : decode cL_law 26 = .ok (.arraylength, 1) := by decide +kernel
theorem dL_law_27 : decode cL_law 27 = .ok (.iconst 4, 1) := by decide +kernel
theorem dL_law_28 : decode cL_law 28 = .ok (.isub, 1) := by decide +kernel
theorem dL_law_29 : decode cL_law 29 = .ok (.if_icmp .gt 1241, 3) := by decide +kernel
theorem dL_law_32 : decode cL_law 32 = .ok (.aload_n 0, 1) := by decide +kernel
theorem dL_law_33 : decode cL_law 33 = .ok (.iload 4, 2) := by decide +kernel
theorem dL_law_35 : decode cL_law 35 = .ok (.iaload, 1) := by decide +kernel
theorem dL_law_36 : decode cL_law 36 = .ok (.bipush 31, 2) := by decide +kernel
theorem dL_law_38 : decode cL_law 38 = .ok (.iand, 1) := by decide +kernel
theorem dL_law_39 : decode cL_law 39 = .ok (.tableswitch 1225 0 20 #[97, 177, 245, 301, 369, 437, 493, 549, 617, 697, 753, 766, 779, 835, 891, 975, 1043, 1099, 1112, 1125, 1169], 97) := by decide +kernel
theorem dL_law_136 : decode cL_law 136 = .ok (.aload_n 1, 1) := by decide +kernel
theorem dL_law_137 : decode cL_law 137 = .ok (.aload_n 0, 1) := by decide +kernel
theorem dL_law_138 : decode cL_law 138 = .ok (.iload 4, 2) := by decide +kernel
theorem dL_law_140 : decode cL_law 140 = .ok (.iconst 1, 1) := by decide +kernel
theorem dL_law_141 : decode cL_law 141 = .ok (.iadd, 1) := by decide +kernel
theorem dL_law_142 : decode cL_law 142 = .ok (.iaload, 1) := by decide +kernel
theorem dL_law_143 : decode cL_law 143 = .ok (.aload_n 0, 1) := by decide +kernel
theorem dL_law_144 : decode cL_law 144 = .ok (.iload 4, 2) := by decide +kernel
theorem dL_law_146 : decode cL_law 146 = .ok (.iconst 2, 1) := by decide +kernel
theorem dL_law_147 : decode cL_law 147 = .ok (.iadd, 1) := by decide +kernel
theorem dL_law_148 : decode cL_law 148 = .ok (.iaload, 1) := by decide +kernel
theorem dL_law_149 : decode cL_law 149 = .ok (.aload_n 0, 1) := by decide +kernel
theorem dL_law_150 : decode cL_law 150 = .ok (.iload 4, 2) := by decide +kernel
theorem dL_law_152 : decode cL_law 152 = .ok (.iconst 3, 1) := by decide +kernel
theorem dL_law_153 : decode cL_law 153 = .ok (.iadd, 1) := by decide +kernel
theorem dL_law_154 : decode cL_law 154 = .ok (.iaload, 1) := by decide +kernel
theorem dL_law_155 : decode cL_law 155 = .ok (.aload_n 3, 1) := by decide +kernel
theorem dL_law_156 : decode cL_law 156 = .ok (.invokestatic 75, 3) := by decide +kernel
theorem dL_law_159 : decode cL_law 159 = .ok (.istore 5, 2) := by decide +kernel
theorem dL_law_161 : decode cL_law 161 = .ok (.aload_n 2, 1) := by decide +kernel
theorem dL_law_162 : decode cL_law 162 = .ok (.aload_n 0, 1) := by decide +kernel
theorem dL_law_163 : decode cL_law 163 = .ok (.iload 4, 2) := by decide +kernel
theorem dL_law_165 : decode cL_law 165 = .ok (.iconst 1, 1) := by decide +kernel
theorem dL_law_166 : decode cL_law 166 = .ok (.iadd, 1) := by decide +kernel
theorem dL_law_167 : decode cL_law 167 = .ok (.iaload, 1) := by decide +kernel
theorem dL_law_168 : decode cL_law 168 = .ok (.aload_n 0, 1) := by decide +kernel
theorem dL_law_169 : decode cL_law 169 = .ok (.iload 4, 2) := by decide +kernel
theorem dL_law_171 : decode cL_law 171 = .ok (.iconst 2, 1) := by decide +kernel
theorem dL_law_172 : decode cL_law 172 = .ok (.iadd, 1) := by decide +kernel
theorem dL_law_173 : decode cL_law 173 = .ok (.iaload, 1) := by decide +kernel
theorem dL_law_174 : decode cL_law 174 = .ok (.aload_n 0, 1) := by decide +kernel
theorem dL_law_175 : decode cL_law 175 = .ok (.iload 4, 2) := by decide +kernel
theorem dL_law_177 : decode cL_law 177 = .ok (.iconst 3, 1) := by decide +kernel
theorem dL_law_178 : decode cL_law 178 = .ok (.iadd, 1) := by decide +kernel
theorem dL_law_179 : decode cL_law 179 = .ok (.iaload, 1) := by decide +kernel
theorem dL_law_180 : decode cL_law 180 = .ok (.invokevirtual 80, 3) := by decide +kernel
theorem dL_law_183 : decode cL_law 183 = .ok (.istore 6, 2) := by decide +kernel
theorem dL_law_185 : decode cL_law 185 = .ok (.aload_n 2, 1) := by decide +kernel
theorem dL_law_186 : decode cL_law 186 = .ok (.invokevirtual 81, 3) := by decide +kernel
theorem dL_law_189 : decode cL_law 189 = .ok (.iload 5, 2) := by decide +kernel
theorem dL_law_191 : decode cL_law 191 = .ok (.if_icmp .eq 5, 3) := by decide +kernel
theorem dL_law_194 : decode cL_law 194 = .ok (.iconst 0, 1) := by decide +kernel
theorem dL_law_195 : decode cL_law 195 = .ok (.ireturn, 1) := by decide +kernel
theorem dL_law_196 : decode cL_law 196 = .ok (.iload 5, 2) := by decide +kernel
theorem dL_law_198 : decode cL_law 198 = .ok (.ifCond .ne 15, 3) := by decide +kernel
theorem dL_law_201 : decode cL_law 201 = .ok (.aload_n 3, 1) := by decide +kernel
theorem dL_law_202 : decode cL_law 202 = .ok (.iconst 0, 1) := by decide +kernel
theorem dL_law_203 : decode cL_law 203 = .ok (.laload, 1) := by decide +kernel
theorem dL_law_204 : decode cL_law 204 = .ok (.iload 6, 2) := by decide +kernel
theorem dL_law_206 : decode cL_law 206 = .ok (.i2l, 1) := by decide +kernel
theorem dL_law_207 : decode cL_law 207 = .ok (.lcmp, 1) := by decide +kernel
theorem dL_law_208 : decode cL_law 208 = .ok (.ifCond .eq 5, 3) := by decide +kernel
theorem dL_law_211 : decode cL_law 211 = .ok (.iconst 0, 1) := by decide +kernel
theorem dL_law_212 : decode cL_law 212 = .ok (.ireturn, 1) := by decide +kernel
theorem dL_law_213 : decode cL_law 213 = .ok (.goto 1051, 3) := by decide +kernel
theorem dL_law_216 : decode cL_law 216 = .ok (.aload_n 1, 1) := by decide +kernel
theorem dL_law_217 : decode cL_law 217 = .ok (.aload_n 0, 1) := by decide +kernel
theorem dL_law_218 : decode cL_law 218 = .ok (.iload 4, 2) := by decide +kernel
theorem dL_law_220 : decode cL_law 220 = .ok (.iconst 1, 1) := by decide +kernel
theorem dL_law_221 : decode cL_law 221 = .ok (.iadd, 1) := by decide +kernel
theorem dL_law_222 : decode cL_law 222 = .ok (.iaload, 1) := by decide +kernel
theorem dL_law_223 : decode cL_law 223 = .ok (.aload_n 0, 1) := by decide +kernel
theorem dL_law_224 : decode cL_law 224 = .ok (.iload 4, 2) := by decide +kernel
theorem dL_law_226 : decode cL_law 226 = .ok (.iconst 2, 1) := by decide +kernel
theorem dL_law_227 : decode cL_law 227 = .ok (.iadd, 1) := by decide +kernel
theorem dL_law_228 : decode cL_law 228 = .ok (.iaload, 1) := by decide +kernel
theorem dL_law_229 : decode cL_law 229 = .ok (.aload_n 3, 1) := by decide +kernel
theorem dL_law_230 : decode cL_law 230 = .ok (.invokestatic 84, 3) := by decide +kernel
theorem dL_law_233 : decode cL_law 233 = .ok (.istore 5, 2) := by decide +kernel
theorem dL_law_235 : decode cL_law 235 = .ok (.aload_n 2, 1) := by decide +kernel
theorem dL_law_236 : decode cL_law 236 = .ok (.aload_n 0, 1) := by decide +kernel
theorem dL_law_237 : decode cL_law 237 = .ok (.iload 4, 2) := by decide +kernel
theorem dL_law_239 : decode cL_law 239 = .ok (.iconst 1, 1) := by decide +kernel
theorem dL_law_240 : decode cL_law 240 = .ok (.iadd, 1) := by decide +kernel
theorem dL_law_241 : decode cL_law 241 = .ok (.iaload, 1) := by decide +kernel
theorem dL_law_242 : decode cL_law 242 = .ok (.aload_n 0, 1) := by decide +kernel
theorem dL_law_243 : decode cL_law 243 = .ok (.iload 4, 2) := by decide +kernel
theorem dL_law_245 : decode cL_law 245 = .ok (.iconst 2, 1) := by decide +kernel
theorem dL_law_246 : decode cL_law 246 = .ok (.iadd, 1) := by decide +kernel
theorem dL_law_247 : decode cL_law 247 = .ok (.iaload, 1) := by decide +kernel
theorem dL_law_248 : decode cL_law 248 = .ok (.invokevirtual 87, 3) := by decide +kernel
theorem dL_law_251 : decode cL_law 251 = .ok (.istore 6, 2) := by decide +kernel
theorem dL_law_253 : decode cL_law 253 = .ok (.aload_n 2, 1) := by decide +kernel
theorem dL_law_254 : decode cL_law 254 = .ok (.invokevirtual 81, 3) := by decide +kernel
theorem dL_law_257 : decode cL_law 257 = .ok (.iload 5, 2) := by decide +kernel
theorem dL_law_259 : decode cL_law 259 = .ok (.if_icmp .eq 5, 3) := by decide +kernel
theorem dL_law_262 : decode cL_law 262 = .ok (.iconst 0, 1) := by decide +kernel
theorem dL_law_263 : decode cL_law 263 = .ok (.ireturn, 1) := by decide +kernel
theorem dL_law_264 : decode cL_law 264 = .ok (.iload 5, 2) := by decide +kernel
theorem dL_law_266 : decode cL_law 266 = .ok (.ifCond .ne 15, 3) := by decide +kernel
theorem dL_law_269 : decode cL_law 269 = .ok (.aload_n 3, 1) := by decide +kernel
theorem dL_law_270 : decode cL_law 270 = .ok (.iconst 0, 1) := by decide +kernel
theorem dL_law_271 : decode cL_law 271 = .ok (.laload, 1) := by decide +kernel
theorem dL_law_272 : decode cL_law 272 = .ok (.iload 6, 2) := by decide +kernel
theorem dL_law_274 : decode cL_law 274 = .ok (.i2l, 1) := by decide +kernel
theorem dL_law_275 : decode cL_law 275 = .ok (.lcmp, 1) := by decide +kernel
theorem dL_law_276 : decode cL_law 276 = .ok (.ifCond .eq 5, 3) := by decide +kernel
theorem dL_law_279 : decode cL_law 279 = .ok (.iconst 0, 1) := by decide +kernel
theorem dL_law_280 : decode cL_law 280 = .ok (.ireturn, 1) := by decide +kernel
theorem dL_law_281 : decode cL_law 281 = .ok (.goto 983, 3) := by decide +kernel
theorem dL_law_284 : decode cL_law 284 = .ok (.aload_n 1, 1) := by decide +kernel
theorem dL_law_285 : decode cL_law 285 = .ok (.aload_n 0, 1) := by decide +kernel
theorem dL_law_286 : decode cL_law 286 = .ok (.iload 4, 2) := by decide +kernel
theorem dL_law_288 : decode cL_law 288 = .ok (.iconst 1, 1) := by decide +kernel
theorem dL_law_289 : decode cL_law 289 = .ok (.iadd, 1) := by decide +kernel
theorem dL_law_290 : decode cL_law 290 = .ok (.iaload, 1) := by decide +kernel
theorem dL_law_291 : decode cL_law 291 = .ok (.aload_n 3, 1) := by decide +kernel
theorem dL_law_292 : decode cL_law 292 = .ok (.invokestatic 88, 3) := by decide +kernel
theorem dL_law_295 : decode cL_law 295 = .ok (.istore 5, 2) := by decide +kernel
theorem dL_law_297 : decode cL_law 297 = .ok (.aload_n 2, 1) := by decide +kernel
theorem dL_law_298 : decode cL_law 298 = .ok (.aload_n 0, 1) := by decide +kernel
theorem dL_law_299 : decode cL_law 299 = .ok (.iload 4, 2) := by decide +kernel
theorem dL_law_301 : decode cL_law 301 = .ok (.iconst 1, 1) := by decide +kernel
theorem dL_law_302 : decode cL_law 302 = .ok (.iadd, 1) := by decide +kernel
theorem dL_law_303 : decode cL_law 303 = .ok (.iaload, 1) := by decide +kernel
theorem dL_law_304 : decode cL_law 304 = .ok (.invokevirtual 91, 3) := by decide +kernel
theorem dL_law_307 : decode cL_law 307 = .ok (.istore 6, 2) := by decide +kernel
theorem dL_law_309 : decode cL_law 309 = .ok (.aload_n 2, 1) := by decide +kernel
theorem dL_law_310 : decode cL_law 310 = .ok (.invokevirtual 81, 3) := by decide +kernel
theorem dL_law_313 : decode cL_law 313 = .ok (.iload 5, 2) := by decide +kernel
theorem dL_law_315 : decode cL_law 315 = .ok (.if_icmp .eq 5, 3) := by decide +kernel
theorem dL_law_318 : decode cL_law 318 = .ok (.iconst 0, 1) := by decide +kernel
theorem dL_law_319 : decode cL_law 319 = .ok (.ireturn, 1) := by decide +kernel
theorem dL_law_320 : decode cL_law 320 = .ok (.iload 5, 2) := by decide +kernel
theorem dL_law_322 : decode cL_law 322 = .ok (.ifCond .ne 15, 3) := by decide +kernel
theorem dL_law_325 : decode cL_law 325 = .ok (.aload_n 3, 1) := by decide +kernel
theorem dL_law_326 : decode cL_law 326 = .ok (.iconst 0, 1) := by decide +kernel
theorem dL_law_327 : decode cL_law 327 = .ok (.laload, 1) := by decide +kernel
theorem dL_law_328 : decode cL_law 328 = .ok (.iload 6, 2) := by decide +kernel
theorem dL_law_330 : decode cL_law 330 = .ok (.i2l, 1) := by decide +kernel
theorem dL_law_331 : decode cL_law 331 = .ok (.lcmp, 1) := by decide +kernel
theorem dL_law_332 : decode cL_law 332 = .ok (.ifCond .eq 5, 3) := by decide +kernel
theorem dL_law_335 : decode cL_law 335 = .ok (.iconst 0, 1) := by decide +kernel
theorem dL_law_336 : decode cL_law 336 = .ok (.ireturn, 1) := by decide +kernel
theorem dL_law_337 : decode cL_law 337 = .ok (.goto 927, 3) := by decide +kernel
theorem dL_law_340 : decode cL_law 340 = .ok (.aload_n 1, 1) := by decide +kernel
theorem dL_law_341 : decode cL_law 341 = .ok (.aload_n 0, 1) := by decide +kernel
theorem dL_law_342 : decode cL_law 342 = .ok (.iload 4, 2) := by decide +kernel
theorem dL_law_344 : decode cL_law 344 = .ok (.iconst 1, 1) := by decide +kernel
theorem dL_law_345 : decode cL_law 345 = .ok (.iadd, 1) := by decide +kernel
theorem dL_law_346 : decode cL_law 346 = .ok (.iaload, 1) := by decide +kernel
theorem dL_law_347 : decode cL_law 347 = .ok (.aload_n 0, 1) := by decide +kernel
theorem dL_law_348 : decode cL_law 348 = .ok (.iload 4, 2) := by decide +kernel
theorem dL_law_350 : decode cL_law 350 = .ok (.iconst 2, 1) := by decide +kernel
theorem dL_law_351 : decode cL_law 351 = .ok (.iadd, 1) := by decide +kernel
theorem dL_law_352 : decode cL_law 352 = .ok (.iaload, 1) := by decide +kernel
theorem dL_law_353 : decode cL_law 353 = .ok (.aload_n 3, 1) := by decide +kernel
theorem dL_law_354 : decode cL_law 354 = .ok (.invokestatic 92, 3) := by decide +kernel
theorem dL_law_357 : decode cL_law 357 = .ok (.istore 5, 2) := by decide +kernel
theorem dL_law_359 : decode cL_law 359 = .ok (.aload_n 2, 1) := by decide +kernel
theorem dL_law_360 : decode cL_law 360 = .ok (.aload_n 0, 1) := by decide +kernel
theorem dL_law_361 : decode cL_law 361 = .ok (.iload 4, 2) := by decide +kernel
theorem dL_law_363 : decode cL_law 363 = .ok (.iconst 1, 1) := by decide +kernel
theorem dL_law_364 : decode cL_law 364 = .ok (.iadd, 1) := by decide +kernel
theorem dL_law_365 : decode cL_law 365 = .ok (.iaload, 1) := by decide +kernel
theorem dL_law_366 : decode cL_law 366 = .ok (.aload_n 0, 1) := by decide +kernel
theorem dL_law_367 : decode cL_law 367 = .ok (.iload 4, 2) := by decide +kernel
theorem dL_law_369 : decode cL_law 369 = .ok (.iconst 2, 1) := by decide +kernel
theorem dL_law_370 : decode cL_law 370 = .ok (.iadd, 1) := by decide +kernel
theorem dL_law_371 : decode cL_law 371 = .ok (.iaload, 1) := by decide +kernel
theorem dL_law_372 : decode cL_law 372 = .ok (.invokevirtual 94, 3) := by decide +kernel
theorem dL_law_375 : decode cL_law 375 = .ok (.istore 6, 2) := by decide +kernel
theorem dL_law_377 : decode cL_law 377 = .ok (.aload_n 2, 1) := by decide +kernel
theorem dL_law_378 : decode cL_law 378 = .ok (.invokevirtual 81, 3) := by decide +kernel
theorem dL_law_381 : decode cL_law 381 = .ok (.iload 5, 2) := by decide +kernel
theorem dL_law_383 : decode cL_law 383 = .ok (.if_icmp .eq 5, 3) := by decide +kernel
theorem dL_law_386 : decode cL_law 386 = .ok (.iconst 0, 1) := by decide +kernel
theorem dL_law_387 : decode cL_law 387 = .ok (.ireturn, 1) := by decide +kernel
theorem dL_law_388 : decode cL_law 388 = .ok (.iload 5, 2) := by decide +kernel
theorem dL_law_390 : decode cL_law 390 = .ok (.ifCond .ne 15, 3) := by decide +kernel
theorem dL_law_393 : decode cL_law 393 = .ok (.aload_n 3, 1) := by decide +kernel
theorem dL_law_394 : decode cL_law 394 = .ok (.iconst 0, 1) := by decide +kernel
theorem dL_law_395 : decode cL_law 395 = .ok (.laload, 1) := by decide +kernel
theorem dL_law_396 : decode cL_law 396 = .ok (.iload 6, 2) := by decide +kernel
theorem dL_law_398 : decode cL_law 398 = .ok (.i2l, 1) := by decide +kernel
theorem dL_law_399 : decode cL_law 399 = .ok (.lcmp, 1) := by decide +kernel
theorem dL_law_400 : decode cL_law 400 = .ok (.ifCond .eq 5, 3) := by decide +kernel
theorem dL_law_403 : decode cL_law 403 = .ok (.iconst 0, 1) := by decide +kernel
theorem dL_law_404 : decode cL_law 404 = .ok (.ireturn, 1) := by decide +kernel
theorem dL_law_405 : decode cL_law 405 = .ok (.goto 859, 3) := by decide +kernel
theorem dL_law_408 : decode cL_law 408 = .ok (.aload_n 1, 1) := by decide +kernel
theorem dL_law_409 : decode cL_law 409 = .ok (.aload_n 0, 1) := by decide +kernel
theorem dL_law_410 : decode cL_law 410 = .ok (.iload 4, 2) := by decide +kernel
theorem dL_law_412 : decode cL_law 412 = .ok (.iconst 1, 1) := by decide +kernel
theorem dL_law_413 : decode cL_law 413 = .ok (.iadd, 1) := by decide +kernel
theorem dL_law_414 : decode cL_law 414 = .ok (.iaload, 1) := by decide +kernel
theorem dL_law_415 : decode cL_law 415 = .ok (.aload_n 0, 1) := by decide +kernel
theorem dL_law_416 : decode cL_law 416 = .ok (.iload 4, 2) := by decide +kernel
theorem dL_law_418 : decode cL_law 418 = .ok (.iconst 2, 1) := by decide +kernel
theorem dL_law_419 : decode cL_law 419 = .ok (.iadd, 1) := by decide +kernel
theorem dL_law_420 : decode cL_law 420 = .ok (.iaload, 1) := by decide +kernel
theorem dL_law_421 : decode cL_law 421 = .ok (.aload_n 3, 1) := by decide +kernel
theorem dL_law_422 : decode cL_law 422 = .ok (.invokestatic 95, 3) := by decide +kernel
theorem dL_law_425 : decode cL_law 425 = .ok (.istore 5, 2) := by decide +kernel
theorem dL_law_427 : decode cL_law 427 = .ok (.aload_n 2, 1) := by decide +kernel
theorem dL_law_428 : decode cL_law 428 = .ok (.aload_n 0, 1) := by decide +kernel
theorem dL_law_429 : decode cL_law 429 = .ok (.iload 4, 2) := by decide +kernel
theorem dL_law_431 : decode cL_law 431 = .ok (.iconst 1, 1) := by decide +kernel
theorem dL_law_432 : decode cL_law 432 = .ok (.iadd, 1) := by decide +kernel
theorem dL_law_433 : decode cL_law 433 = .ok (.iaload, 1) := by decide +kernel
theorem dL_law_434 : decode cL_law 434 = .ok (.aload_n 0, 1) := by decide +kernel
theorem dL_law_435 : decode cL_law 435 = .ok (.iload 4, 2) := by decide +kernel
theorem dL_law_437 : decode cL_law 437 = .ok (.iconst 2, 1) := by decide +kernel
theorem dL_law_438 : decode cL_law 438 = .ok (.iadd, 1) := by decide +kernel
theorem dL_law_439 : decode cL_law 439 = .ok (.iaload, 1) := by decide +kernel
theorem dL_law_440 : decode cL_law 440 = .ok (.invokevirtual 97, 3) := by decide +kernel
theorem dL_law_443 : decode cL_law 443 = .ok (.istore 6, 2) := by decide +kernel
theorem dL_law_445 : decode cL_law 445 = .ok (.aload_n 2, 1) := by decide +kernel
theorem dL_law_446 : decode cL_law 446 = .ok (.invokevirtual 81, 3) := by decide +kernel
theorem dL_law_449 : decode cL_law 449 = .ok (.iload 5, 2) := by decide +kernel
theorem dL_law_451 : decode cL_law 451 = .ok (.if_icmp .eq 5, 3) := by decide +kernel
theorem dL_law_454 : decode cL_law 454 = .ok (.iconst 0, 1) := by decide +kernel
theorem dL_law_455 : decode cL_law 455 = .ok (.ireturn, 1) := by decide +kernel
theorem dL_law_456 : decode cL_law 456 = .ok (.iload 5, 2) := by decide +kernel
theorem dL_law_458 : decode cL_law 458 = .ok (.ifCond .ne 15, 3) := by decide +kernel
theorem dL_law_461 : decode cL_law 461 = .ok (.aload_n 3, 1) := by decide +kernel
theorem dL_law_462 : decode cL_law 462 = .ok (.iconst 0, 1) := by decide +kernel
theorem dL_law_463 : decode cL_law 463 = .ok (.laload, 1) := by decide +kernel
theorem dL_law_464 : decode cL_law 464 = .ok (.iload 6, 2) := by decide +kernel
theorem dL_law_466 : decode cL_law 466 = .ok (.i2l, 1) := by decide +kernel
theorem dL_law_467 : decode cL_law 467 = .ok (.lcmp, 1) := by decide +kernel
theorem dL_law_468 : decode cL_law 468 = .ok (.ifCond .eq 5, 3) := by decide +kernel
theorem dL_law_471 : decode cL_law 471 = .ok (.iconst 0, 1) := by decide +kernel
theorem dL_law_472 : decode cL_law 472 = .ok (.ireturn, 1) := by decide +kernel
theorem dL_law_473 : decode cL_law 473 = .ok (.goto 791, 3) := by decide +kernel
theorem dL_law_476 : decode cL_law 476 = .ok (.aload_n 1, 1) := by decide +kernel
theorem dL_law_477 : decode cL_law 477 = .ok (.aload_n 0, 1) := by decide +kernel
theorem dL_law_478 : decode cL_law 478 = .ok (.iload 4, 2) := by decide +kernel
theorem dL_law_480 : decode cL_law 480 = .ok (.iconst 1, 1) := by decide +kernel
theorem dL_law_481 : decode cL_law 481 = .ok (.iadd, 1) := by decide +kernel
theorem dL_law_482 : decode cL_law 482 = .ok (.iaload, 1) := by decide +kernel
theorem dL_law_483 : decode cL_law 483 = .ok (.aload_n 3, 1) := by decide +kernel
theorem dL_law_484 : decode cL_law 484 = .ok (.invokestatic 98, 3) := by decide +kernel
theorem dL_law_487 : decode cL_law 487 = .ok (.istore 5, 2) := by decide +kernel
theorem dL_law_489 : decode cL_law 489 = .ok (.aload_n 2, 1) := by decide +kernel
theorem dL_law_490 : decode cL_law 490 = .ok (.aload_n 0, 1) := by decide +kernel
theorem dL_law_491 : decode cL_law 491 = .ok (.iload 4, 2) := by decide +kernel
theorem dL_law_493 : decode cL_law 493 = .ok (.iconst 1, 1) := by decide +kernel
theorem dL_law_494 : decode cL_law 494 = .ok (.iadd, 1) := by decide +kernel
theorem dL_law_495 : decode cL_law 495 = .ok (.iaload, 1) := by decide +kernel
theorem dL_law_496 : decode cL_law 496 = .ok (.invokevirtual 100, 3) := by decide +kernel
theorem dL_law_499 : decode cL_law 499 = .ok (.istore 6, 2) := by decide +kernel
theorem dL_law_501 : decode cL_law 501 = .ok (.aload_n 2, 1) := by decide +kernel
theorem dL_law_502 : decode cL_law 502 = .ok (.invokevirtual 81, 3) := by decide +kernel
theorem dL_law_505 : decode cL_law 505 = .ok (.iload 5, 2) := by decide +kernel
theorem dL_law_507 : decode cL_law 507 = .ok (.if_icmp .eq 5, 3) := by decide +kernel
theorem dL_law_510 : decode cL_law 510 = .ok (.iconst 0, 1) := by decide +kernel
theorem dL_law_511 : decode cL_law 511 = .ok (.ireturn, 1) := by decide +kernel
theorem dL_law_512 : decode cL_law 512 = .ok (.iload 5, 2) := by decide +kernel
theorem dL_law_514 : decode cL_law 514 = .ok (.ifCond .ne 15, 3) := by decide +kernel
theorem dL_law_517 : decode cL_law 517 = .ok (.aload_n 3, 1) := by decide +kernel
theorem dL_law_518 : decode cL_law 518 = .ok (.iconst 0, 1) := by decide +kernel
theorem dL_law_519 : decode cL_law 519 = .ok (.laload, 1) := by decide +kernel
theorem dL_law_520 : decode cL_law 520 = .ok (.iload 6, 2) := by decide +kernel
theorem dL_law_522 : decode cL_law 522 = .ok (.i2l, 1) := by decide +kernel
theorem dL_law_523 : decode cL_law 523 = .ok (.lcmp, 1) := by decide +kernel
theorem dL_law_524 : decode cL_law 524 = .ok (.ifCond .eq 5, 3) := by decide +kernel
theorem dL_law_527 : decode cL_law 527 = .ok (.iconst 0, 1) := by decide +kernel
theorem dL_law_528 : decode cL_law 528 = .ok (.ireturn, 1) := by decide +kernel
theorem dL_law_529 : decode cL_law 529 = .ok (.goto 735, 3) := by decide +kernel
theorem dL_law_532 : decode cL_law 532 = .ok (.aload_n 1, 1) := by decide +kernel
theorem dL_law_533 : decode cL_law 533 = .ok (.aload_n 0, 1) := by decide +kernel
theorem dL_law_534 : decode cL_law 534 = .ok (.iload 4, 2) := by decide +kernel
theorem dL_law_536 : decode cL_law 536 = .ok (.iconst 1, 1) := by decide +kernel
theorem dL_law_537 : decode cL_law 537 = .ok (.iadd, 1) := by decide +kernel
theorem dL_law_538 : decode cL_law 538 = .ok (.iaload, 1) := by decide +kernel
theorem dL_law_539 : decode cL_law 539 = .ok (.aload_n 3, 1) := by decide +kernel
theorem dL_law_540 : decode cL_law 540 = .ok (.invokestatic 101, 3) := by decide +kernel
theorem dL_law_543 : decode cL_law 543 = .ok (.istore 5, 2) := by decide +kernel
theorem dL_law_545 : decode cL_law 545 = .ok (.aload_n 2, 1) := by decide +kernel
theorem dL_law_546 : decode cL_law 546 = .ok (.aload_n 0, 1) := by decide +kernel
theorem dL_law_547 : decode cL_law 547 = .ok (.iload 4, 2) := by decide +kernel
theorem dL_law_549 : decode cL_law 549 = .ok (.iconst 1, 1) := by decide +kernel
theorem dL_law_550 : decode cL_law 550 = .ok (.iadd, 1) := by decide +kernel
theorem dL_law_551 : decode cL_law 551 = .ok (.iaload, 1) := by decide +kernel
theorem dL_law_552 : decode cL_law 552 = .ok (.invokevirtual 103, 3) := by decide +kernel
theorem dL_law_555 : decode cL_law 555 = .ok (.istore 6, 2) := by decide +kernel
theorem dL_law_557 : decode cL_law 557 = .ok (.aload_n 2, 1) := by decide +kernel
theorem dL_law_558 : decode cL_law 558 = .ok (.invokevirtual 81, 3) := by decide +kernel
theorem dL_law_561 : decode cL_law 561 = .ok (.iload 5, 2) := by decide +kernel
theorem dL_law_563 : decode cL_law 563 = .ok (.if_icmp .eq 5, 3) := by decide +kernel
theorem dL_law_566 : decode cL_law 566 = .ok (.iconst 0, 1) := by decide +kernel
theorem dL_law_567 : decode cL_law 567 = .ok (.ireturn, 1) := by decide +kernel
theorem dL_law_568 : decode cL_law 568 = .ok (.iload 5, 2) := by decide +kernel
theorem dL_law_570 : decode cL_law 570 = .ok (.ifCond .ne 15, 3) := by decide +kernel
theorem dL_law_573 : decode cL_law 573 = .ok (.aload_n 3, 1) := by decide +kernel
theorem dL_law_574 : decode cL_law 574 = .ok (.iconst 0, 1) := by decide +kernel
theorem dL_law_575 : decode cL_law 575 = .ok (.laload, 1) := by decide +kernel
theorem dL_law_576 : decode cL_law 576 = .ok (.iload 6, 2) := by decide +kernel
theorem dL_law_578 : decode cL_law 578 = .ok (.i2l, 1) := by decide +kernel
theorem dL_law_579 : decode cL_law 579 = .ok (.lcmp, 1) := by decide +kernel
theorem dL_law_580 : decode cL_law 580 = .ok (.ifCond .eq 5, 3) := by decide +kernel
theorem dL_law_583 : decode cL_law 583 = .ok (.iconst 0, 1) := by decide +kernel
theorem dL_law_584 : decode cL_law 584 = .ok (.ireturn, 1) := by decide +kernel
theorem dL_law_585 : decode cL_law 585 = .ok (.goto 679, 3) := by decide +kernel
theorem dL_law_588 : decode cL_law 588 = .ok (.aload_n 1, 1) := by decide +kernel
theorem dL_law_589 : decode cL_law 589 = .ok (.aload_n 0, 1) := by decide +kernel
theorem dL_law_590 : decode cL_law 590 = .ok (.iload 4, 2) := by decide +kernel
theorem dL_law_592 : decode cL_law 592 = .ok (.iconst 1, 1) := by decide +kernel
theorem dL_law_593 : decode cL_law 593 = .ok (.iadd, 1) := by decide +kernel
theorem dL_law_594 : decode cL_law 594 = .ok (.iaload, 1) := by decide +kernel
theorem dL_law_595 : decode cL_law 595 = .ok (.aload_n 0, 1) := by decide +kernel
theorem dL_law_596 : decode cL_law 596 = .ok (.iload 4, 2) := by decide +kernel
theorem dL_law_598 : decode cL_law 598 = .ok (.iconst 2, 1) := by decide +kernel
theorem dL_law_599 : decode cL_law 599 = .ok (.iadd, 1) := by decide +kernel
theorem dL_law_600 : decode cL_law 600 = .ok (.iaload, 1) := by decide +kernel
theorem dL_law_601 : decode cL_law 601 = .ok (.aload_n 3, 1) := by decide +kernel
theorem dL_law_602 : decode cL_law 602 = .ok (.invokestatic 104, 3) := by decide +kernel
theorem dL_law_605 : decode cL_law 605 = .ok (.istore 5, 2) := by decide +kernel
theorem dL_law_607 : decode cL_law 607 = .ok (.aload_n 2, 1) := by decide +kernel
theorem dL_law_608 : decode cL_law 608 = .ok (.aload_n 0, 1) := by decide +kernel
theorem dL_law_609 : decode cL_law 609 = .ok (.iload 4, 2) := by decide +kernel
theorem dL_law_611 : decode cL_law 611 = .ok (.iconst 1, 1) := by decide +kernel
theorem dL_law_612 : decode cL_law 612 = .ok (.iadd, 1) := by decide +kernel
theorem dL_law_613 : decode cL_law 613 = .ok (.iaload, 1) := by decide +kernel
theorem dL_law_614 : decode cL_law 614 = .ok (.aload_n 0, 1) := by decide +kernel
theorem dL_law_615 : decode cL_law 615 = .ok (.iload 4, 2) := by decide +kernel
theorem dL_law_617 : decode cL_law 617 = .ok (.iconst 2, 1) := by decide +kernel
theorem dL_law_618 : decode cL_law 618 = .ok (.iadd, 1) := by decide +kernel
theorem dL_law_619 : decode cL_law 619 = .ok (.iaload, 1) := by decide +kernel
theorem dL_law_620 : decode cL_law 620 = .ok (.invokevirtual 106, 3) := by decide +kernel
theorem dL_law_623 : decode cL_law 623 = .ok (.istore 6, 2) := by decide +kernel
theorem dL_law_625 : decode cL_law 625 = .ok (.aload_n 2, 1) := by decide +kernel
theorem dL_law_626 : decode cL_law 626 = .ok (.invokevirtual 81, 3) := by decide +kernel
theorem dL_law_629 : decode cL_law 629 = .ok (.iload 5, 2) := by decide +kernel
theorem dL_law_631 : decode cL_law 631 = .ok (.if_icmp .eq 5, 3) := by decide +kernel
theorem dL_law_634 : decode cL_law 634 = .ok (.iconst 0, 1) := by decide +kernel
theorem dL_law_635 : decode cL_law 635 = .ok (.ireturn, 1) := by decide +kernel
theorem dL_law_636 : decode cL_law 636 = .ok (.iload 5, 2) := by decide +kernel
theorem dL_law_638 : decode cL_law 638 = .ok (.ifCond .ne 15, 3) := by decide +kernel
theorem dL_law_641 : decode cL_law 641 = .ok (.aload_n 3, 1) := by decide +kernel
theorem dL_law_642 : decode cL_law 642 = .ok (.iconst 0, 1) := by decide +kernel
theorem dL_law_643 : decode cL_law 643 = .ok (.laload, 1) := by decide +kernel
theorem dL_law_644 : decode cL_law 644 = .ok (.iload 6, 2) := by decide +kernel
theorem dL_law_646 : decode cL_law 646 = .ok (.i2l, 1) := by decide +kernel
theorem dL_law_647 : decode cL_law 647 = .ok (.lcmp, 1) := by decide +kernel
theorem dL_law_648 : decode cL_law 648 = .ok (.ifCond .eq 5, 3) := by decide +kernel
theorem dL_law_651 : decode cL_law 651 = .ok (.iconst 0, 1) := by decide +kernel
theorem dL_law_652 : decode cL_law 652 = .ok (.ireturn, 1) := by decide +kernel
theorem dL_law_653 : decode cL_law 653 = .ok (.goto 611, 3) := by decide +kernel
theorem dL_law_656 : decode cL_law 656 = .ok (.aload_n 1, 1) := by decide +kernel
theorem dL_law_657 : decode cL_law 657 = .ok (.aload_n 0, 1) := by decide +kernel
theorem dL_law_658 : decode cL_law 658 = .ok (.iload 4, 2) := by decide +kernel
theorem dL_law_660 : decode cL_law 660 = .ok (.iconst 1, 1) := by decide +kernel
theorem dL_law_661 : decode cL_law 661 = .ok (.iadd, 1) := by decide +kernel
theorem dL_law_662 : decode cL_law 662 = .ok (.iaload, 1) := by decide +kernel
theorem dL_law_663 : decode cL_law 663 = .ok (.aload_n 0, 1) := by decide +kernel
theorem dL_law_664 : decode cL_law 664 = .ok (.iload 4, 2) := by decide +kernel
theorem dL_law_666 : decode cL_law 666 = .ok (.iconst 2, 1) := by decide +kernel
theorem dL_law_667 : decode cL_law 667 = .ok (.iadd, 1) := by decide +kernel
theorem dL_law_668 : decode cL_law 668 = .ok (.iaload, 1) := by decide +kernel
theorem dL_law_669 : decode cL_law 669 = .ok (.aload_n 0, 1) := by decide +kernel
theorem dL_law_670 : decode cL_law 670 = .ok (.iload 4, 2) := by decide +kernel
theorem dL_law_672 : decode cL_law 672 = .ok (.iconst 3, 1) := by decide +kernel
theorem dL_law_673 : decode cL_law 673 = .ok (.iadd, 1) := by decide +kernel
theorem dL_law_674 : decode cL_law 674 = .ok (.iaload, 1) := by decide +kernel
theorem dL_law_675 : decode cL_law 675 = .ok (.aload_n 3, 1) := by decide +kernel
theorem dL_law_676 : decode cL_law 676 = .ok (.invokestatic 107, 3) := by decide +kernel
theorem dL_law_679 : decode cL_law 679 = .ok (.istore 5, 2) := by decide +kernel
theorem dL_law_681 : decode cL_law 681 = .ok (.aload_n 2, 1) := by decide +kernel
theorem dL_law_682 : decode cL_law 682 = .ok (.aload_n 0, 1) := by decide +kernel
theorem dL_law_683 : decode cL_law 683 = .ok (.iload 4, 2) := by decide +kernel
theorem dL_law_685 : decode cL_law 685 = .ok (.iconst 1, 1) := by decide +kernel
theorem dL_law_686 : decode cL_law 686 = .ok (.iadd, 1) := by decide +kernel
theorem dL_law_687 : decode cL_law 687 = .ok (.iaload, 1) := by decide +kernel
theorem dL_law_688 : decode cL_law 688 = .ok (.aload_n 0, 1) := by decide +kernel
theorem dL_law_689 : decode cL_law 689 = .ok (.iload 4, 2) := by decide +kernel
theorem dL_law_691 : decode cL_law 691 = .ok (.iconst 2, 1) := by decide +kernel
theorem dL_law_692 : decode cL_law 692 = .ok (.iadd, 1) := by decide +kernel
theorem dL_law_693 : decode cL_law 693 = .ok (.iaload, 1) := by decide +kernel
theorem dL_law_694 : decode cL_law 694 = .ok (.aload_n 0, 1) := by decide +kernel
theorem dL_law_695 : decode cL_law 695 = .ok (.iload 4, 2) := by decide +kernel
theorem dL_law_697 : decode cL_law 697 = .ok (.iconst 3, 1) := by decide +kernel
theorem dL_law_698 : decode cL_law 698 = .ok (.iadd, 1) := by decide +kernel
theorem dL_law_699 : decode cL_law 699 = .ok (.iaload, 1) := by decide +kernel
theorem dL_law_700 : decode cL_law 700 = .ok (.invokevirtual 109, 3) := by decide +kernel
theorem dL_law_703 : decode cL_law 703 = .ok (.istore 6, 2) := by decide +kernel
theorem dL_law_705 : decode cL_law 705 = .ok (.aload_n 2, 1) := by decide +kernel
theorem dL_law_706 : decode cL_law 706 = .ok (.invokevirtual 81, 3) := by decide +kernel
theorem dL_law_709 : decode cL_law 709 = .ok (.iload 5, 2) := by decide +kernel
theorem dL_law_711 : decode cL_law 711 = .ok (.if_icmp .eq 5, 3) := by decide +kernel
theorem dL_law_714 : decode cL_law 714 = .ok (.iconst 0, 1) := by decide +kernel
theorem dL_law_715 : decode cL_law 715 = .ok (.ireturn, 1) := by decide +kernel
theorem dL_law_716 : decode cL_law 716 = .ok (.iload 5, 2) := by decide +kernel
theorem dL_law_718 : decode cL_law 718 = .ok (.ifCond .ne 15, 3) := by decide +kernel
theorem dL_law_721 : decode cL_law 721 = .ok (.aload_n 3, 1) := by decide +kernel
theorem dL_law_722 : decode cL_law 722 = .ok (.iconst 0, 1) := by decide +kernel
theorem dL_law_723 : decode cL_law 723 = .ok (.laload, 1) := by decide +kernel
theorem dL_law_724 : decode cL_law 724 = .ok (.iload 6, 2) := by decide +kernel
theorem dL_law_726 : decode cL_law 726 = .ok (.i2l, 1) := by decide +kernel
theorem dL_law_727 : decode cL_law 727 = .ok (.lcmp, 1) := by decide +kernel
theorem dL_law_728 : decode cL_law 728 = .ok (.ifCond .eq 5, 3) := by decide +kernel
theorem dL_law_731 : decode cL_law 731 = .ok (.iconst 0, 1) := by decide +kernel
theorem dL_law_732 : decode cL_law 732 = .ok (.ireturn, 1) := by decide +kernel
theorem dL_law_733 : decode cL_law 733 = .ok (.goto 531, 3) := by decide +kernel
theorem dL_law_736 : decode cL_law 736 = .ok (.aload_n 1, 1) := by decide +kernel
theorem dL_law_737 : decode cL_law 737 = .ok (.aload_n 0, 1) := by decide +kernel
theorem dL_law_738 : decode cL_law 738 = .ok (.iload 4, 2) := by decide +kernel
theorem dL_law_740 : decode cL_law 740 = .ok (.iconst 1, 1) := by decide +kernel
theorem dL_law_741 : decode cL_law 741 = .ok (.iadd, 1) := by decide +kernel
theorem dL_law_742 : decode cL_law 742 = .ok (.iaload, 1) := by decide +kernel
theorem dL_law_743 : decode cL_law 743 = .ok (.aload_n 3, 1) := by decide +kernel
theorem dL_law_744 : decode cL_law 744 = .ok (.invokestatic 110, 3) := by decide +kernel
theorem dL_law_747 : decode cL_law 747 = .ok (.istore 5, 2) := by decide +kernel
theorem dL_law_749 : decode cL_law 749 = .ok (.aload_n 2, 1) := by decide +kernel
theorem dL_law_750 : decode cL_law 750 = .ok (.aload_n 0, 1) := by decide +kernel
theorem dL_law_751 : decode cL_law 751 = .ok (.iload 4, 2) := by decide +kernel
theorem dL_law_753 : decode cL_law 753 = .ok (.iconst 1, 1) := by decide +kernel
theorem dL_law_754 : decode cL_law 754 = .ok (.iadd, 1) := by decide +kernel
theorem dL_law_755 : decode cL_law 755 = .ok (.iaload, 1) := by decide +kernel
theorem dL_law_756 : decode cL_law 756 = .ok (.invokevirtual 112, 3) := by decide +kernel
theorem dL_law_759 : decode cL_law 759 = .ok (.istore 6, 2) := by decide +kernel
theorem dL_law_761 : decode cL_law 761 = .ok (.aload_n 2, 1) := by decide +kernel
theorem dL_law_762 : decode cL_law 762 = .ok (.invokevirtual 81, 3) := by decide +kernel
theorem dL_law_765 : decode cL_law 765 = .ok (.iload 5, 2) := by decide +kernel
theorem dL_law_767 : decode cL_law 767 = .ok (.if_icmp .eq 5, 3) := by decide +kernel
theorem dL_law_770 : decode cL_law 770 = .ok (.iconst 0, 1) := by decide +kernel
theorem dL_law_771 : decode cL_law 771 = .ok (.ireturn, 1) := by decide +kernel
theorem dL_law_772 : decode cL_law 772 = .ok (.iload 5, 2) := by decide +kernel
theorem dL_law_774 : decode cL_law 774 = .ok (.ifCond .ne 15, 3) := by decide +kernel
theorem dL_law_777 : decode cL_law 777 = .ok (.aload_n 3, 1) := by decide +kernel
theorem dL_law_778 : decode cL_law 778 = .ok (.iconst 0, 1) := by decide +kernel
theorem dL_law_779 : decode cL_law 779 = .ok (.laload, 1) := by decide +kernel
theorem dL_law_780 : decode cL_law 780 = .ok (.iload 6, 2) := by decide +kernel
theorem dL_law_782 : decode cL_law 782 = .ok (.i2l, 1) := by decide +kernel
theorem dL_law_783 : decode cL_law 783 = .ok (.lcmp, 1) := by decide +kernel
theorem dL_law_784 : decode cL_law 784 = .ok (.ifCond .eq 5, 3) := by decide +kernel
theorem dL_law_787 : decode cL_law 787 = .ok (.iconst 0, 1) := by decide +kernel
theorem dL_law_788 : decode cL_law 788 = .ok (.ireturn, 1) := by decide +kernel
theorem dL_law_789 : decode cL_law 789 = .ok (.goto 475, 3) := by decide +kernel
theorem dL_law_792 : decode cL_law 792 = .ok (.aload_n 1, 1) := by decide +kernel
theorem dL_law_793 : decode cL_law 793 = .ok (.invokevirtual 113, 3) := by decide +kernel
theorem dL_law_796 : decode cL_law 796 = .ok (.aload_n 2, 1) := by decide +kernel
theorem dL_law_797 : decode cL_law 797 = .ok (.invokevirtual 116, 3) := by decide +kernel
theorem dL_law_800 : decode cL_law 800 = .ok (.if_icmp .eq 464, 3) := by decide +kernel
theorem dL_law_803 : decode cL_law 803 = .ok (.iconst 0, 1) := by decide +kernel
theorem dL_law_804 : decode cL_law 804 = .ok (.ireturn, 1) := by decide +kernel
theorem dL_law_805 : decode cL_law 805 = .ok (.aload_n 1, 1) := by decide +kernel
theorem dL_law_806 : decode cL_law 806 = .ok (.invokevirtual 117, 3) := by decide +kernel
theorem dL_law_809 : decode cL_law 809 = .ok (.aload_n 2, 1) := by decide +kernel
theorem dL_law_810 : decode cL_law 810 = .ok (.invokevirtual 120, 3) := by decide +kernel
theorem dL_law_813 : decode cL_law 813 = .ok (.if_icmp .eq 451, 3) := by decide +kernel
theorem dL_law_816 : decode cL_law 816 = .ok (.iconst 0, 1) := by decide +kernel
theorem dL_law_817 : decode cL_law 817 = .ok (.ireturn, 1) := by decide +kernel
theorem dL_law_818 : decode cL_law 818 = .ok (.aload_n 1, 1) := by decide +kernel
theorem dL_law_819 : decode cL_law 819 = .ok (.aload_n 0, 1) := by decide +kernel
theorem dL_law_820 : decode cL_law 820 = .ok (.iload 4, 2) := by decide +kernel
theorem dL_law_822 : decode cL_law 822 = .ok (.iconst 1, 1) := by decide +kernel
theorem dL_law_823 : decode cL_law 823 = .ok (.iadd, 1) := by decide +kernel
theorem dL_law_824 : decode cL_law 824 = .ok (.iaload, 1) := by decide +kernel
theorem dL_law_825 : decode cL_law 825 = .ok (.aload_n 3, 1) := by decide +kernel
theorem dL_law_826 : decode cL_law 826 = .ok (.invokestatic 121, 3) := by decide +kernel
theorem dL_law_829 : decode cL_law 829 = .ok (.istore 5, 2) := by decide +kernel
theorem dL_law_831 : decode cL_law 831 = .ok (.aload_n 2, 1) := by decide +kernel
theorem dL_law_832 : decode cL_law 832 = .ok (.aload_n 0, 1) := by decide +kernel
theorem dL_law_833 : decode cL_law 833 = .ok (.iload 4, 2) := by decide +kernel
theorem dL_law_835 : decode cL_law 835 = .ok (.iconst 1, 1) := by decide +kernel
theorem dL_law_836 : decode cL_law 836 = .ok (.iadd, 1) := by decide +kernel
theorem dL_law_837 : decode cL_law 837 = .ok (.iaload, 1) := by decide +kernel
theorem dL_law_838 : decode cL_law 838 = .ok (.invokevirtual 123, 3) := by decide +kernel
theorem dL_law_841 : decode cL_law 841 = .ok (.istore 6, 2) := by decide +kernel
theorem dL_law_843 : decode cL_law 843 = .ok (.aload_n 2, 1) := by decide +kernel
theorem dL_law_844 : decode cL_law 844 = .ok (.invokevirtual 81, 3) := by decide +kernel
theorem dL_law_847 : decode cL_law 847 = .ok (.iload 5, 2) := by decide +kernel
theorem dL_law_849 : decode cL_law 849 = .ok (.if_icmp .eq 5, 3) := by decide +kernel
theorem dL_law_852 : decode cL_law 852 = .ok (.iconst 0, 1) := by decide +kernel
theorem dL_law_853 : decode cL_law 853 = .ok (.ireturn, 1) := by decide +kernel
theorem dL_law_854 : decode cL_law 854 = .ok (.iload 5, 2) := by decide +kernel
theorem dL_law_856 : decode cL_law 856 = .ok (.ifCond .ne 15, 3) := by decide +kernel
theorem dL_law_859 : decode cL_law 859 = .ok (.aload_n 3, 1) := by decide +kernel
theorem dL_law_860 : decode cL_law 860 = .ok (.iconst 0, 1) := by decide +kernel
theorem dL_law_861 : decode cL_law 861 = .ok (.laload, 1) := by decide +kernel
theorem dL_law_862 : decode cL_law 862 = .ok (.iload 6, 2) := by decide +kernel
theorem dL_law_864 : decode cL_law 864 = .ok (.i2l, 1) := by decide +kernel
theorem dL_law_865 : decode cL_law 865 = .ok (.lcmp, 1) := by decide +kernel
theorem dL_law_866 : decode cL_law 866 = .ok (.ifCond .eq 5, 3) := by decide +kernel
theorem dL_law_869 : decode cL_law 869 = .ok (.iconst 0, 1) := by decide +kernel
theorem dL_law_870 : decode cL_law 870 = .ok (.ireturn, 1) := by decide +kernel
theorem dL_law_871 : decode cL_law 871 = .ok (.goto 393, 3) := by decide +kernel
theorem dL_law_874 : decode cL_law 874 = .ok (.aload_n 1, 1) := by decide +kernel
theorem dL_law_875 : decode cL_law 875 = .ok (.aload_n 0, 1) := by decide +kernel
theorem dL_law_876 : decode cL_law 876 = .ok (.iload 4, 2) := by decide +kernel
theorem dL_law_878 : decode cL_law 878 = .ok (.iconst 1, 1) := by decide +kernel
theorem dL_law_879 : decode cL_law 879 = .ok (.iadd, 1) := by decide +kernel
theorem dL_law_880 : decode cL_law 880 = .ok (.iaload, 1) := by decide +kernel
theorem dL_law_881 : decode cL_law 881 = .ok (.aload_n 3, 1) := by decide +kernel
theorem dL_law_882 : decode cL_law 882 = .ok (.invokestatic 124, 3) := by decide +kernel
theorem dL_law_885 : decode cL_law 885 = .ok (.istore 5, 2) := by decide +kernel
theorem dL_law_887 : decode cL_law 887 = .ok (.aload_n 2, 1) := by decide +kernel
theorem dL_law_888 : decode cL_law 888 = .ok (.aload_n 0, 1) := by decide +kernel
theorem dL_law_889 : decode cL_law 889 = .ok (.iload 4, 2) := by decide +kernel
theorem dL_law_891 : decode cL_law 891 = .ok (.iconst 1, 1) := by decide +kernel
theorem dL_law_892 : decode cL_law 892 = .ok (.iadd, 1) := by decide +kernel
theorem dL_law_893 : decode cL_law 893 = .ok (.iaload, 1) := by decide +kernel
theorem dL_law_894 : decode cL_law 894 = .ok (.invokevirtual 126, 3) := by decide +kernel
theorem dL_law_897 : decode cL_law 897 = .ok (.istore 6, 2) := by decide +kernel
theorem dL_law_899 : decode cL_law 899 = .ok (.aload_n 2, 1) := by decide +kernel
theorem dL_law_900 : decode cL_law 900 = .ok (.invokevirtual 81, 3) := by decide +kernel
theorem dL_law_903 : decode cL_law 903 = .ok (.iload 5, 2) := by decide +kernel
theorem dL_law_905 : decode cL_law 905 = .ok (.if_icmp .eq 5, 3) := by decide +kernel
theorem dL_law_908 : decode cL_law 908 = .ok (.iconst 0, 1) := by decide +kernel
theorem dL_law_909 : decode cL_law 909 = .ok (.ireturn, 1) := by decide +kernel
theorem dL_law_910 : decode cL_law 910 = .ok (.iload 5, 2) := by decide +kernel
theorem dL_law_912 : decode cL_law 912 = .ok (.ifCond .ne 15, 3) := by decide +kernel
theorem dL_law_915 : decode cL_law 915 = .ok (.aload_n 3, 1) := by decide +kernel
theorem dL_law_916 : decode cL_law 916 = .ok (.iconst 0, 1) := by decide +kernel
theorem dL_law_917 : decode cL_law 917 = .ok (.laload, 1) := by decide +kernel
theorem dL_law_918 : decode cL_law 918 = .ok (.iload 6, 2) := by decide +kernel
theorem dL_law_920 : decode cL_law 920 = .ok (.i2l, 1) := by decide +kernel
theorem dL_law_921 : decode cL_law 921 = .ok (.lcmp, 1) := by decide +kernel
theorem dL_law_922 : decode cL_law 922 = .ok (.ifCond .eq 5, 3) := by decide +kernel
theorem dL_law_925 : decode cL_law 925 = .ok (.iconst 0, 1) := by decide +kernel
theorem dL_law_926 : decode cL_law 926 = .ok (.ireturn, 1) := by decide +kernel
theorem dL_law_927 : decode cL_law 927 = .ok (.goto 337, 3) := by decide +kernel
theorem dL_law_930 : decode cL_law 930 = .ok (.aload_n 1, 1) := by decide +kernel
theorem dL_law_931 : decode cL_law 931 = .ok (.aload_n 0, 1) := by decide +kernel
theorem dL_law_932 : decode cL_law 932 = .ok (.iload 4, 2) := by decide +kernel
theorem dL_law_934 : decode cL_law 934 = .ok (.iconst 1, 1) := by decide +kernel
theorem dL_law_935 : decode cL_law 935 = .ok (.iadd, 1) := by decide +kernel
theorem dL_law_936 : decode cL_law 936 = .ok (.iaload, 1) := by decide +kernel
theorem dL_law_937 : decode cL_law 937 = .ok (.aload_n 0, 1) := by decide +kernel
theorem dL_law_938 : decode cL_law 938 = .ok (.iload 4, 2) := by decide +kernel
theorem dL_law_940 : decode cL_law 940 = .ok (.iconst 2, 1) := by decide +kernel
theorem dL_law_941 : decode cL_law 941 = .ok (.iadd, 1) := by decide +kernel
theorem dL_law_942 : decode cL_law 942 = .ok (.iaload, 1) := by decide +kernel
theorem dL_law_943 : decode cL_law 943 = .ok (.ifCond .eq 7, 3) := by decide +kernel
theorem dL_law_946 : decode cL_law 946 = .ok (.iconst 1, 1) := by decide +kernel
theorem dL_law_947 : decode cL_law 947 = .ok (.goto 4, 3) := by decide +kernel
theorem dL_law_950 : decode cL_law 950 = .ok (.iconst 0, 1) := by decide +kernel
theorem dL_law_951 : decode cL_law 951 = .ok (.aload_n 3, 1) := by decide +kernel
theorem dL_law_952 : decode cL_law 952 = .ok (.invokestatic 127, 3) := by decide +kernel
theorem dL_law_955 : decode cL_law 955 = .ok (.istore 5, 2) := by decide +kernel
theorem dL_law_957 : decode cL_law 957 = .ok (.aload_n 2, 1) := by decide +kernel
theorem dL_law_958 : decode cL_law 958 = .ok (.aload_n 0, 1) := by decide +kernel
theorem dL_law_959 : decode cL_law 959 = .ok (.iload 4, 2) := by decide +kernel
theorem dL_law_961 : decode cL_law 961 = .ok (.iconst 1, 1) := by decide +kernel
theorem dL_law_962 : decode cL_law 962 = .ok (.iadd, 1) := by decide +kernel
theorem dL_law_963 : decode cL_law 963 = .ok (.iaload, 1) := by decide +kernel
theorem dL_law_964 : decode cL_law 964 = .ok (.aload_n 0, 1) := by decide +kernel
theorem dL_law_965 : decode cL_law 965 = .ok (.iload 4, 2) := by decide +kernel
theorem dL_law_967 : decode cL_law 967 = .ok (.iconst 2, 1) := by decide +kernel
theorem dL_law_968 : decode cL_law 968 = .ok (.iadd, 1) := by decide +kernel
theorem dL_law_969 : decode cL_law 969 = .ok (.iaload, 1) := by decide +kernel
theorem dL_law_970 : decode cL_law 970 = .ok (.ifCond .eq 7, 3) := by decide +kernel
theorem dL_law_973 : decode cL_law 973 = .ok (.iconst 1, 1) := by decide +kernel
theorem dL_law_974 : decode cL_law 974 = .ok (.goto 4, 3) := by decide +kernel
theorem dL_law_977 : decode cL_law 977 = .ok (.iconst 0, 1) := by decide +kernel
theorem dL_law_978 : decode cL_law 978 = .ok (.invokevirtual 130, 3) := by decide +kernel
theorem dL_law_981 : decode cL_law 981 = .ok (.istore 6, 2) := by decide +kernel
theorem dL_law_983 : decode cL_law 983 = .ok (.aload_n 2, 1) := by decide +kernel
theorem dL_law_984 : decode cL_law 984 = .ok (.invokevirtual 81, 3) := by decide +kernel
theorem dL_law_987 : decode cL_law 987 = .ok (.iload 5, 2) := by decide +kernel
theorem dL_law_989 : decode cL_law 989 = .ok (.if_icmp .eq 5, 3) := by decide +kernel
theorem dL_law_992 : decode cL_law 992 = .ok (.iconst 0, 1) := by decide +kernel
theorem dL_law_993 : decode cL_law 993 = .ok (.ireturn, 1) := by decide +kernel
theorem dL_law_994 : decode cL_law 994 = .ok (.iload 5, 2) := by decide +kernel
theorem dL_law_996 : decode cL_law 996 = .ok (.ifCond .ne 15, 3) := by decide +kernel
theorem dL_law_999 : decode cL_law 999 = .ok (.aload_n 3, 1) := by decide +kernel
theorem dL_law_1000 : decode cL_law 1000 = .ok (.iconst 0, 1) := by decide +kernel
theorem dL_law_1001 : decode cL_law 1001 = .ok (.laload, 1) := by decide +kernel
theorem dL_law_1002 : decode cL_law 1002 = .ok (.iload 6, 2) := by decide +kernel
theorem dL_law_1004 : decode cL_law 1004 = .ok (.i2l, 1) := by decide +kernel
theorem dL_law_1005 : decode cL_law 1005 = .ok (.lcmp, 1) := by decide +kernel
theorem dL_law_1006 : decode cL_law 1006 = .ok (.ifCond .eq 5, 3) := by decide +kernel
theorem dL_law_1009 : decode cL_law 1009 = .ok (.iconst 0, 1) := by decide +kernel
theorem dL_law_1010 : decode cL_law 1010 = .ok (.ireturn, 1) := by decide +kernel
theorem dL_law_1011 : decode cL_law 1011 = .ok (.goto 253, 3) := by decide +kernel
theorem dL_law_1014 : decode cL_law 1014 = .ok (.aload_n 1, 1) := by decide +kernel
theorem dL_law_1015 : decode cL_law 1015 = .ok (.aload_n 0, 1) := by decide +kernel
theorem dL_law_1016 : decode cL_law 1016 = .ok (.iload 4, 2) := by decide +kernel
theorem dL_law_1018 : decode cL_law 1018 = .ok (.iconst 1, 1) := by decide +kernel
theorem dL_law_1019 : decode cL_law 1019 = .ok (.iadd, 1) := by decide +kernel
theorem dL_law_1020 : decode cL_law 1020 = .ok (.iaload, 1) := by decide +kernel
theorem dL_law_1021 : decode cL_law 1021 = .ok (.aload_n 0, 1) := by decide +kernel
theorem dL_law_1022 : decode cL_law 1022 = .ok (.iload 4, 2) := by decide +kernel
theorem dL_law_1024 : decode cL_law 1024 = .ok (.iconst 2, 1) := by decide +kernel
theorem dL_law_1025 : decode cL_law 1025 = .ok (.iadd, 1) := by decide +kernel
theorem dL_law_1026 : decode cL_law 1026 = .ok (.iaload, 1) := by decide +kernel
theorem dL_law_1027 : decode cL_law 1027 = .ok (.aload_n 3, 1) := by decide +kernel
theorem dL_law_1028 : decode cL_law 1028 = .ok (.invokestatic 131, 3) := by decide +kernel
theorem dL_law_1031 : decode cL_law 1031 = .ok (.istore 5, 2) := by decide +kernel
theorem dL_law_1033 : decode cL_law 1033 = .ok (.aload_n 2, 1) := by decide +kernel
theorem dL_law_1034 : decode cL_law 1034 = .ok (.aload_n 0, 1) := by decide +kernel
theorem dL_law_1035 : decode cL_law 1035 = .ok (.iload 4, 2) := by decide +kernel
theorem dL_law_1037 : decode cL_law 1037 = .ok (.iconst 1, 1) := by decide +kernel
theorem dL_law_1038 : decode cL_law 1038 = .ok (.iadd, 1) := by decide +kernel
theorem dL_law_1039 : decode cL_law 1039 = .ok (.iaload, 1) := by decide +kernel
theorem dL_law_1040 : decode cL_law 1040 = .ok (.aload_n 0, 1) := by decide +kernel
theorem dL_law_1041 : decode cL_law 1041 = .ok (.iload 4, 2) := by decide +kernel
theorem dL_law_1043 : decode cL_law 1043 = .ok (.iconst 2, 1) := by decide +kernel
theorem dL_law_1044 : decode cL_law 1044 = .ok (.iadd, 1) := by decide +kernel
theorem dL_law_1045 : decode cL_law 1045 = .ok (.iaload, 1) := by decide +kernel
theorem dL_law_1046 : decode cL_law 1046 = .ok (.invokevirtual 133, 3) := by decide +kernel
theorem dL_law_1049 : decode cL_law 1049 = .ok (.istore 6, 2) := by decide +kernel
theorem dL_law_1051 : decode cL_law 1051 = .ok (.aload_n 2, 1) := by decide +kernel
theorem dL_law_1052 : decode cL_law 1052 = .ok (.invokevirtual 81, 3) := by decide +kernel
theorem dL_law_1055 : decode cL_law 1055 = .ok (.iload 5, 2) := by decide +kernel
theorem dL_law_1057 : decode cL_law 1057 = .ok (.if_icmp .eq 5, 3) := by decide +kernel
theorem dL_law_1060 : decode cL_law 1060 = .ok (.iconst 0, 1) := by decide +kernel
theorem dL_law_1061 : decode cL_law 1061 = .ok (.ireturn, 1) := by decide +kernel
theorem dL_law_1062 : decode cL_law 1062 = .ok (.iload 5, 2) := by decide +kernel
theorem dL_law_1064 : decode cL_law 1064 = .ok (.ifCond .ne 15, 3) := by decide +kernel
theorem dL_law_1067 : decode cL_law 1067 = .ok (.aload_n 3, 1) := by decide +kernel
theorem dL_law_1068 : decode cL_law 1068 = .ok (.iconst 0, 1) := by decide +kernel
theorem dL_law_1069 : decode cL_law 1069 = .ok (.laload, 1) := by decide +kernel
theorem dL_law_1070 : decode cL_law 1070 = .ok (.iload 6, 2) := by decide +kernel
theorem dL_law_1072 : decode cL_law 1072 = .ok (.i2l, 1) := by decide +kernel
theorem dL_law_1073 : decode cL_law 1073 = .ok (.lcmp, 1) := by decide +kernel
theorem dL_law_1074 : decode cL_law 1074 = .ok (.ifCond .eq 5, 3) := by decide +kernel
theorem dL_law_1077 : decode cL_law 1077 = .ok (.iconst 0, 1) := by decide +kernel
theorem dL_law_1078 : decode cL_law 1078 = .ok (.ireturn, 1) := by decide +kernel
theorem dL_law_1079 : decode cL_law 1079 = .ok (.goto 185, 3) := by decide +kernel
theorem dL_law_1082 : decode cL_law 1082 = .ok (.aload_n 1, 1) := by decide +kernel
theorem dL_law_1083 : decode cL_law 1083 = .ok (.aload_n 0, 1) := by decide +kernel
theorem dL_law_1084 : decode cL_law 1084 = .ok (.iload 4, 2) := by decide +kernel
theorem dL_law_1086 : decode cL_law 1086 = .ok (.iconst 1, 1) := by decide +kernel
theorem dL_law_1087 : decode cL_law 1087 = .ok (.iadd, 1) := by decide +kernel
theorem dL_law_1088 : decode cL_law 1088 = .ok (.iaload, 1) := by decide +kernel
theorem dL_law_1089 : decode cL_law 1089 = .ok (.aload_n 3, 1) := by decide +kernel
theorem dL_law_1090 : decode cL_law 1090 = .ok (.invokestatic 134, 3) := by decide +kernel
theorem dL_law_1093 : decode cL_law 1093 = .ok (.istore 5, 2) := by decide +kernel
theorem dL_law_1095 : decode cL_law 1095 = .ok (.aload_n 2, 1) := by decide +kernel
theorem dL_law_1096 : decode cL_law 1096 = .ok (.aload_n 0, 1) := by decide +kernel
theorem dL_law_1097 : decode cL_law 1097 = .ok (.iload 4, 2) := by decide +kernel
theorem dL_law_1099 : decode cL_law 1099 = .ok (.iconst 1, 1) := by decide +kernel
theorem dL_law_1100 : decode cL_law 1100 = .ok (.iadd, 1) := by decide +kernel
theorem dL_law_1101 : decode cL_law 1101 = .ok (.iaload, 1) := by decide +kernel
theorem dL_law_1102 : decode cL_law 1102 = .ok (.invokevirtual 136, 3) := by decide +kernel
theorem dL_law_1105 : decode cL_law 1105 = .ok (.istore 6, 2) := by decide +kernel
theorem dL_law_1107 : decode cL_law 1107 = .ok (.aload_n 2, 1) := by decide +kernel
theorem dL_law_1108 : decode cL_law 1108 = .ok (.invokevirtual 81, 3) := by decide +kernel
theorem dL_law_1111 : decode cL_law 1111 = .ok (.iload 5, 2) := by decide +kernel
theorem dL_law_1113 : decode cL_law 1113 = .ok (.if_icmp .eq 5, 3) := by decide +kernel
theorem dL_law_1116 : decode cL_law 1116 = .ok (.iconst 0, 1) := by decide +kernel
theorem dL_law_1117 : decode cL_law 1117 = .ok (.ireturn, 1) := by decide +kernel
theorem dL_law_1118 : decode cL_law 1118 = .ok (.iload 5, 2) := by decide +kernel
theorem dL_law_1120 : decode cL_law 1120 = .ok (.ifCond .ne 15, 3) := by decide +kernel
theorem dL_law_1123 : decode cL_law 1123 = .ok (.aload_n 3, 1) := by decide +kernel
theorem dL_law_1124 : decode cL_law 1124 = .ok (.iconst 0, 1) := by decide +kernel
theorem dL_law_1125 : decode cL_law 1125 = .ok (.laload, 1) := by decide +kernel
theorem dL_law_1126 : decode cL_law 1126 = .ok (.iload 6, 2) := by decide +kernel
theorem dL_law_1128 : decode cL_law 1128 = .ok (.i2l, 1) := by decide +kernel
theorem dL_law_1129 : decode cL_law 1129 = .ok (.lcmp, 1) := by decide +kernel
theorem dL_law_1130 : decode cL_law 1130 = .ok (.ifCond .eq 5, 3) := by decide +kernel
theorem dL_law_1133 : decode cL_law 1133 = .ok (.iconst 0, 1) := by decide +kernel
theorem dL_law_1134 : decode cL_law 1134 = .ok (.ireturn, 1) := by decide +kernel
theorem dL_law_1135 : decode cL_law 1135 = .ok (.goto 129, 3) := by decide +kernel
theorem dL_law_1138 : decode cL_law 1138 = .ok (.aload_n 1, 1) := by decide +kernel
theorem dL_law_1139 : decode cL_law 1139 = .ok (.invokevirtual 137, 3) := by decide +kernel
theorem dL_law_1142 : decode cL_law 1142 = .ok (.aload_n 2, 1) := by decide +kernel
theorem dL_law_1143 : decode cL_law 1143 = .ok (.invokevirtual 140, 3) := by decide +kernel
theorem dL_law_1146 : decode cL_law 1146 = .ok (.if_icmp .eq 118, 3) := by decide +kernel
theorem dL_law_1149 : decode cL_law 1149 = .ok (.iconst 0, 1) := by decide +kernel
theorem dL_law_1150 : decode cL_law 1150 = .ok (.ireturn, 1) := by decide +kernel
theorem dL_law_1151 : decode cL_law 1151 = .ok (.aload_n 1, 1) := by decide +kernel
theorem dL_law_1152 : decode cL_law 1152 = .ok (.invokevirtual 141, 3) := by decide +kernel
theorem dL_law_1155 : decode cL_law 1155 = .ok (.aload_n 2, 1) := by decide +kernel
theorem dL_law_1156 : decode cL_law 1156 = .ok (.invokevirtual 144, 3) := by decide +kernel
theorem dL_law_1159 : decode cL_law 1159 = .ok (.if_icmp .eq 105, 3) := by decide +kernel
theorem dL_law_1162 : decode cL_law 1162 = .ok (.iconst 0, 1) := by decide +kernel
theorem dL_law_1163 : decode cL_law 1163 = .ok (.ireturn, 1) := by decide +kernel
theorem dL_law_1164 : decode cL_law 1164 = .ok (.aload_n 1, 1) := by decide +kernel
theorem dL_law_1165 : decode cL_law 1165 = .ok (.aload_n 3, 1) := by decide +kernel
theorem dL_law_1166 : decode cL_law 1166 = .ok (.invokestatic 145, 3) := by decide +kernel
theorem dL_law_1169 : decode cL_law 1169 = .ok (.istore 5, 2) := by decide +kernel
theorem dL_law_1171 : decode cL_law 1171 = .ok (.aload_n 2, 1) := by decide +kernel
theorem dL_law_1172 : decode cL_law 1172 = .ok (.invokevirtual 148, 3) := by decide +kernel
theorem dL_law_1175 : decode cL_law 1175 = .ok (.istore 6, 2) := by decide +kernel
theorem dL_law_1177 : decode cL_law 1177 = .ok (.aload_n 2, 1) := by decide +kernel
theorem dL_law_1178 : decode cL_law 1178 = .ok (.invokevirtual 81, 3) := by decide +kernel
theorem dL_law_1181 : decode cL_law 1181 = .ok (.iload 5, 2) := by decide +kernel
theorem dL_law_1183 : decode cL_law 1183 = .ok (.if_icmp .eq 5, 3) := by decide +kernel
theorem dL_law_1186 : decode cL_law 1186 = .ok (.iconst 0, 1) := by decide +kernel
theorem dL_law_1187 : decode cL_law 1187 = .ok (.ireturn, 1) := by decide +kernel
theorem dL_law_1188 : decode cL_law 1188 = .ok (.iload 5, 2) := by decide +kernel
theorem dL_law_1190 : decode cL_law 1190 = .ok (.ifCond .ne 15, 3) := by decide +kernel
theorem dL_law_1193 : decode cL_law 1193 = .ok (.aload_n 3, 1) := by decide +kernel
theorem dL_law_1194 : decode cL_law 1194 = .ok (.iconst 0, 1) := by decide +kernel
theorem dL_law_1195 : decode cL_law 1195 = .ok (.laload, 1) := by decide +kernel
theorem dL_law_1196 : decode cL_law 1196 = .ok (.iload 6, 2) := by decide +kernel
theorem dL_law_1198 : decode cL_law 1198 = .ok (.i2l, 1) := by decide +kernel
theorem dL_law_1199 : decode cL_law 1199 = .ok (.lcmp, 1) := by decide +kernel
theorem dL_law_1200 : decode cL_law 1200 = .ok (.ifCond .eq 5, 3) := by decide +kernel
theorem dL_law_1203 : decode cL_law 1203 = .ok (.iconst 0, 1) := by decide +kernel
theorem dL_law_1204 : decode cL_law 1204 = .ok (.ireturn, 1) := by decide +kernel
theorem dL_law_1205 : decode cL_law 1205 = .ok (.goto 59, 3) := by decide +kernel
theorem dL_law_1208 : decode cL_law 1208 = .ok (.aload_n 1, 1) := by decide +kernel
theorem dL_law_1209 : decode cL_law 1209 = .ok (.aload_n 0, 1) := by decide +kernel
theorem dL_law_1210 : decode cL_law 1210 = .ok (.iload 4, 2) := by decide +kernel
theorem dL_law_1212 : decode cL_law 1212 = .ok (.iconst 1, 1) := by decide +kernel
theorem dL_law_1213 : decode cL_law 1213 = .ok (.iadd, 1) := by decide +kernel
theorem dL_law_1214 : decode cL_law 1214 = .ok (.iaload, 1) := by decide +kernel
theorem dL_law_1215 : decode cL_law 1215 = .ok (.aload_n 3, 1) := by decide +kernel
theorem dL_law_1216 : decode cL_law 1216 = .ok (.invokestatic 149, 3) := by decide +kernel
theorem dL_law_1219 : decode cL_law 1219 = .ok (.istore 5, 2) := by decide +kernel
theorem dL_law_1221 : decode cL_law 1221 = .ok (.aload_n 2, 1) := by decide +kernel
theorem dL_law_1222 : decode cL_law 1222 = .ok (.aload_n 0, 1) := by decide +kernel
theorem dL_law_1223 : decode cL_law 1223 = .ok (.iload 4, 2) := by decide +kernel
theorem dL_law_1225 : decode cL_law 1225 = .ok (.iconst 1, 1) := by decide +kernel
theorem dL_law_1226 : decode cL_law 1226 = .ok (.iadd, 1) := by decide +kernel
theorem dL_law_1227 : decode cL_law 1227 = .ok (.iaload, 1) := by decide +kernel
theorem dL_law_1228 : decode cL_law 1228 = .ok (.invokevirtual 151, 3) := by decide +kernel
theorem dL_law_1231 : decode cL_law 1231 = .ok (.istore 6, 2) := by decide +kernel
theorem dL_law_1233 : decode cL_law 1233 = .ok (.aload_n 2, 1) := by decide +kernel
theorem dL_law_1234 : decode cL_law 1234 = .ok (.invokevirtual 81, 3) := by decide +kernel
theorem dL_law_1237 : decode cL_law 1237 = .ok (.iload 5, 2) := by decide +kernel
theorem dL_law_1239 : decode cL_law 1239 = .ok (.if_icmp .eq 5, 3) := by decide +kernel
theorem dL_law_1242 : decode cL_law 1242 = .ok (.iconst 0, 1) := by decide +kernel
theorem dL_law_1243 : decode cL_law 1243 = .ok (.ireturn, 1) := by decide +kernel
theorem dL_law_1244 : decode cL_law 1244 = .ok (.iload 5, 2) := by decide +kernel
theorem dL_law_1246 : decode cL_law 1246 = .ok (.ifCond .ne 15, 3) := by decide +kernel
theorem dL_law_1249 : decode cL_law 1249 = .ok (.aload_n 3, 1) := by decide +kernel
theorem dL_law_1250 : decode cL_law 1250 = .ok (.iconst 0, 1) := by decide +kernel
theorem dL_law_1251 : decode cL_law 1251 = .ok (.laload, 1) := by decide +kernel
theorem dL_law_1252 : decode cL_law 1252 = .ok (.iload 6, 2) := by decide +kernel
theorem dL_law_1254 : decode cL_law 1254 = .ok (.i2l, 1) := by decide +kernel
theorem dL_law_1255 : decode cL_law 1255 = .ok (.lcmp, 1) := by decide +kernel
theorem dL_law_1256 : decode cL_law 1256 = .ok (.ifCond .eq 5, 3) := by decide +kernel
theorem dL_law_1259 : decode cL_law 1259 = .ok (.iconst 0, 1) := by decide +kernel
theorem dL_law_1260 : decode cL_law 1260 = .ok (.ireturn, 1) := by decide +kernel
theorem dL_law_1261 : decode cL_law 1261 = .ok (.goto 3, 3) := by decide +kernel
theorem dL_law_1264 : decode cL_law 1264 = .ok (.iinc 4 4, 3) := by decide +kernel
theorem dL_law_1267 : decode cL_law 1267 = .ok (.goto (-1244), 3) := by decide +kernel
theorem dL_law_1270 : decode cL_law 1270 = .ok (.iconst 1, 1) := by decide +kernel
theorem dL_law_1271 : decode cL_law 1271 = .ok (.ireturn, 1) := by decide +kernel
end
section
/-! ===== whole numbers as ints ===== -/
def iI (x : Int) : Int32 := Int32.ofInt x
def inr (a : Int) : Prop := -2147483648 ≤ a ∧ a ≤ 2147483647
theorem iI_toInt {a : Int} (h : inr a) : (iI a).toInt = a := by
  have h1 := h.1
  have h2 := h.2
  exact Int32.toInt_ofInt_of_le (by omega) (by omega)
theorem iI_of (x : Int32) : x = iI x.toInt := (Int32.ofInt_toInt x).symm
theorem inr_of (x : Int32) : inr x.toInt := by
  have h1 := Int32.le_toInt x
  have h2 := Int32.toInt_lt x
  exact ⟨by omega, by omega⟩
theorem iI_add (a b : Int) : iI a + iI b = iI (a + b) := (Int32.ofInt_add a b).symm
theorem iI_sub (a b : Int) : iI a - iI b = iI (a - b) := (Int32.ofInt_sub a b).symm
theorem iI_mul (a b : Int) : iI a * iI b = iI (a * b) := (Int32.ofInt_mul a b).symm
theorem iI_neg (a : Int) : -iI a = iI (-a) := (Int32.ofInt_neg a).symm
theorem iI_le {a b : Int} (ha : inr a) (hb : inr b) : iI a ≤ iI b ↔ a ≤ b := by
  rw [Int32.le_iff_toInt_le, iI_toInt ha, iI_toInt hb]
theorem iI_lt {a b : Int} (ha : inr a) (hb : inr b) : iI a < iI b ↔ a < b := by
  rw [Int32.lt_iff_toInt_lt, iI_toInt ha, iI_toInt hb]
theorem iI_eq {a b : Int} (ha : inr a) (hb : inr b) : iI a = iI b ↔ a = b :=
  ⟨fun h => by rw [← iI_toInt ha, ← iI_toInt hb, h], fun h => by rw [h]⟩
theorem iI_clamp {a : Int} (h0 : 0 ≤ a) (h1 : a ≤ 2147483647) : ((iI a).toNatClampNeg : Int) = a := by
  have h : (iI a).toNatClampNeg = a.toNat := Int32.toNatClampNeg_ofInt_of_le (by omega) (by omega)
  rw [h]
  omega
theorem iI_clampN {a : Int} (h0 : 0 ≤ a) (h1 : a ≤ 2147483647) : (iI a).toNatClampNeg = a.toNat := Int32.toNatClampNeg_ofInt_of_le (by omega) (by omega)
theorem iI_in {a : Int} {n : Nat} (h0 : 0 ≤ a) (h1 : a < n) (hn : n ≤ 2147483647) : vp_in (iI a) n := by
  intro h
  rcases h with h | h
  · rw [show (0 : Int32) = iI 0 from rfl, iI_lt ⟨by omega, by omega⟩ ⟨by omega, by omega⟩] at h
    omega
  · have e := iI_clamp h0 (by omega)
    omega
theorem iI_0 : iI 0 = 0 := rfl
/-! ===== arrays of ints ===== -/
def aI (c : ClassId) (n : Nat) (f : Int → Int) : va_E := .inl (c, n, .inl (fun j => iI (f (j : Int))))
def aR (c : ClassId) (n : Nat) (g : Nat → Nat) : va_E := .inl (c, n, .inr (.inr (.inr (.inr (fun j => some (g j))))))
def zset (f : Int → Int) (k v : Int) : Int → Int := fun j => if j = k then v else f j
theorem zset_eq (f : Int → Int) (k v : Int) : zset f k v k = v := if_pos rfl
theorem zset_ne (f : Int → Int) {k v j : Int} (h : j ≠ k) : zset f k v j = f j := if_neg h
theorem aI_upd (c : ClassId) (n : Nat) (f : Int → Int) {k v : Int} (h0 : 0 ≤ k) (h1 : k ≤ 2147483647) : (.inl (c, n, .inl (upd (fun j => iI (f (j : Int))) (iI k).toNatClampNeg (iI v))) : va_E) = aI c n (zset f k v) := by
  unfold aI
  have e : upd (fun j : Nat => iI (f (j : Int))) (iI k).toNatClampNeg (iI v) = fun j : Nat => iI (zset f k v (j : Int)) := by
    funext j
    have hk := iI_clamp h0 h1
    by_cases hj : j = (iI k).toNatClampNeg
    · subst hj
      rw [pk_us, hk, zset_eq]
    · rw [pk_un hj, zset_ne]
      intro q
      exact hj (by omega)
  rw [e]
/-! ===== the locals, by their places; .null where nothing is said ===== -/
def lvl (ls : Array Slot) (nL : Nat) (lv : List Value) : Prop := ls.size = nL ∧ lv_wf ls ∧ ∀ (i : Nat) (v : Value), lv[i]? = some v → v ≠ .null → v.category = 1 ∧ ls[i]? = some (.val v)
def lvE (lv : List Value) : List (Nat × Value) := (List.range lv.length).filterMap (fun i => match lv[i]? with
  | some Value.null => none
  | some v => some (i, v)
  | none => none)
theorem lvE_mem {lv : List Value} {i : Nat} {v : Value} : (i, v) ∈ lvE lv ↔ lv[i]? = some v ∧ v ≠ .null := by
  unfold lvE
  rw [List.mem_filterMap]
  constructor
  · rintro ⟨j, hj, h⟩
    split at h
    · cases h
    · rename_i w hne he
      cases h
      refine ⟨he, ?_⟩
      rintro rfl
      exact hne rfl
    · cases h
  · rintro ⟨h, hn⟩
    refine ⟨i, List.mem_range.mpr (List.getElem?_eq_some_iff.mp h).1, ?_⟩
    rw [h]
    cases v with
    | null => exact absurd rfl hn
    | _ => rfl
theorem lvl_has {ls : Array Slot} {nL : Nat} {lv : List Value} (h : lvl ls nL lv) : lv_has ls nL (lvE lv) :=
  ⟨h.1, h.2.1, fun q hq => (h.2.2 q.1 q.2 (lvE_mem.mp hq).1 (lvE_mem.mp hq).2).2⟩
theorem lvl_set {ls ls' : Array Slot} {nL : Nat} {lv : List Value} {i : Nat} {x : Value} (h : lvl ls nL lv) (hx : x.category = 1)
    (h' : lv_has ls' nL ((i, x) :: (lvE lv).filter (fun q => !(q.1 == i) && !(q.1 + 1 == i && q.2.category == 2)))) : lvl ls' nL (lv.set i x) := by
  refine ⟨h'.1, h'.2.1, fun j v hj hn => ?_⟩
  by_cases e : j = i
  · subst e
    have hl : j < (lv.set j x).length := (List.getElem?_eq_some_iff.mp hj).1
    rw [List.length_set] at hl
    rw [List.getElem?_set_self hl] at hj
    cases hj
    exact ⟨hx, h'.2.2 (j, x) List.mem_cons_self⟩
  · rw [List.getElem?_set_ne (Ne.symm e)] at hj
    obtain ⟨h1, h2⟩ := h.2.2 j v hj hn
    refine ⟨h1, h'.2.2 (j, v) (List.mem_cons_of_mem _ (List.mem_filter.mpr ⟨lvE_mem.mpr ⟨hj, hn⟩, ?_⟩))⟩
    simp [e, h1]
theorem lvl_at {ls : Array Slot} {nL : Nat} {lv : List Value} (h : lvl ls nL lv) {i : Nat} {v : Value} (hv : lv[i]? = some v) (hn : v ≠ .null) : ls[i]? = some (.val v) := (h.2.2 i v hv hn).2
theorem lvl_entry {vs lv : List Value} {n : Nat} (h : (lg_sl vs).length ≤ n) (hlv : ∀ (i : Nat) (v : Value), lv[i]? = some v → v ≠ .null → v.category = 1 ∧ (i, v) ∈ lv_args 0 vs) : lvl ((lg_sl vs ++ List.replicate (n - (lg_sl vs).length) Slot.unset).toArray) n lv :=
  have e := lv_entry vs h
  ⟨e.1, e.2.1, fun i v hi hn => ⟨(hlv i v hi hn).1, e.2.2 (i, v) (hlv i v hi hn).2⟩⟩
end
section
theorem iI_div {a b : Int} (ha : 0 ≤ a) (ha2 : a ≤ 2147483647) (hb : 0 < b) (hb2 : b ≤ 2147483647) : iI a / iI b = iI (a / b) := by
  apply Int32.toInt_inj.mp
  have h1 : (iI a).toInt = a := iI_toInt ⟨by omega, by omega⟩
  have h2 : (iI b).toInt = b := iI_toInt ⟨by omega, by omega⟩
  have hq0 : 0 ≤ a / b := Int.ediv_nonneg ha (by omega)
  have hq1 : a / b ≤ a := Int.ediv_le_self b ha
  rw [Int32.toInt_div_of_ne_right, h1, h2, iI_toInt ⟨by omega, by omega⟩, Int.tdiv_eq_ediv_of_nonneg ha]
  intro h
  have h3 : (iI b).toInt = (-1 : Int32).toInt := by rw [h]
  rw [h2] at h3
  have h4 : (-1 : Int32).toInt = -1 := by decide
  omega
/-! ===== what the tables say beside the words: nest mates, texts, casts ===== -/
def zNM : List (String × Nat × MethodName × String) := [("FairBatten", 9, ⟨"FairBatten$Hull", "<init>", "()V"⟩, "FairBatten"), ("FairBatten", 18, ⟨"FairBatten$Batten", "<init>", "()V"⟩, "FairBatten"), ("FairBatten", 25, ⟨"FairBatten$Cargo", "<init>", "()V"⟩, "FairBatten"), ("FairBatten", 32, ⟨"FairBatten$Buoyancy", "<init>", "()V"⟩, "FairBatten"), ("FairBatten", 39, ⟨"FairBatten$Nest", "<init>", "()V"⟩, "FairBatten"), ("FairBatten", 46, ⟨"FairBatten$Almanac", "<init>", "()V"⟩, "FairBatten"), ("FairBatten", 120, ⟨"FairBatten$Buoyancy", "measure", "(LFairBatten$Hull;)V"⟩, "FairBatten"), ("FairBatten$Buoyancy", 18, ⟨"FairBatten$Hull", "volumeUpTo", "(I)I"⟩, "FairBatten"), ("FairBatten$Buoyancy", 24, ⟨"FairBatten$Hull", "momentUpTo", "(I)I"⟩, "FairBatten"), ("FairBatten", 134, ⟨"FairBatten$Cargo", "wholeLoad", "()I"⟩, "FairBatten"), ("FairBatten", 138, ⟨"FairBatten$Buoyancy", "draughtUnder", "(I)I"⟩, "FairBatten"), ("FairBatten", 141, ⟨"FairBatten$Cargo", "wholeMoment", "()I"⟩, "FairBatten"), ("FairBatten", 144, ⟨"FairBatten$Buoyancy", "trimUnder", "(II)I"⟩, "FairBatten"), ("FairBatten", 175, ⟨"FairBatten$Almanac", "heightOn", "(I)I"⟩, "FairBatten"), ("FairBatten", 84, ⟨"FairBatten$Batten", "straighten", "([II)V"⟩, "FairBatten"), ("FairBatten$Batten", 45, ⟨"FairBatten", "squareOfBend", "(III)I"⟩, "FairBatten"), ("FairBatten", 88, ⟨"FairBatten$Hull", "areaUpTo", "(II)I"⟩, "FairBatten"), ("FairBatten", 92, ⟨"FairBatten$Hull", "volumeUpTo", "(I)I"⟩, "FairBatten"), ("FairBatten", 96, ⟨"FairBatten$Hull", "volumeBySlices", "(I)I"⟩, "FairBatten"), ("FairBatten", 99, ⟨"FairBatten$Cargo", "isFull", "()Z"⟩, "FairBatten"), ("FairBatten", 110, ⟨"FairBatten$Cargo", "add", "(II)I"⟩, "FairBatten"), ("FairBatten", 116, ⟨"FairBatten$Cargo", "replace", "(III)I"⟩, "FairBatten"), ("FairBatten", 124, ⟨"FairBatten$Buoyancy", "setBallast", "(LFairBatten$Cargo;I)V"⟩, "FairBatten"), ("FairBatten$Buoyancy", 39, ⟨"FairBatten$Cargo", "loadWithoutBallast", "()I"⟩, "FairBatten"), ("FairBatten$Buoyancy", 45, ⟨"FairBatten$Cargo", "momentWithoutBallast", "()I"⟩, "FairBatten"), ("FairBatten", 150, ⟨"FairBatten$Hull", "strakeLength", "(I)I"⟩, "FairBatten"), ("FairBatten", 156, ⟨"FairBatten$Nest", "cutAll", "(LFairBatten$Hull;)V"⟩, "FairBatten"), ("FairBatten$Nest", 42, ⟨"FairBatten$Hull", "strakeLength", "(I)I"⟩, "FairBatten"), ("FairBatten", 169, ⟨"FairBatten$Almanac", "hasRoomFor", "(I)Z"⟩, "FairBatten"), ("FairBatten", 178, ⟨"FairBatten$Almanac", "tell", "(II)V"⟩, "FairBatten")]
def zNF : List (String × Nat × String × String × String × String) := [("FairBatten", 76, "FairBatten$Hull", "lines", "[[I", "FairBatten"), ("FairBatten", 211, "FairBatten$Cargo", "count", "I", "FairBatten"), ("FairBatten$Buoyancy", 54, "FairBatten$Cargo", "ballastWeight", "I", "FairBatten"), ("FairBatten", 128, "FairBatten$Cargo", "ballastWeight", "I", "FairBatten"), ("FairBatten$Buoyancy", 58, "FairBatten$Cargo", "ballastStation", "I", "FairBatten"), ("FairBatten", 131, "FairBatten$Cargo", "ballastStation", "I", "FairBatten"), ("FairBatten", 166, "FairBatten$Nest", "firstEnds", "[I", "FairBatten"), ("FairBatten", 162, "FairBatten$Nest", "secondEnds", "[I", "FairBatten"), ("FairBatten", 153, "FairBatten$Nest", "plankLength", "I", "FairBatten"), ("FairBatten", 159, "FairBatten$Nest", "taken", "I", "FairBatten")]
def zNS : List (String × Nat × String) := [("FairBatten", 204, "there is no such station"), ("FairBatten", 207, "there is no such waterline"), ("FairBatten", 218, "out of range"), ("FairBatten", 221, "the hull is launched"), ("FairBatten", 105, "there are 16 weights"), ("FairBatten", 214, "there is no such weight"), ("FairBatten", 209, "there is no such strake"), ("FairBatten", 173, "tides of 40 other days are told"), ("FairBatten", 196, "there is no draught"), ("FairBatten", 198, "the tide is less than needed"), ("FairBatten", 200, "today would be above 9000")]
def zEx : List String := ["java/lang/IndexOutOfBoundsException", "java/lang/IllegalArgumentException", "java/lang/IllegalStateException"]
def zN (U : State) : Prop := (∀ q ∈ zNM, va_Nw (.methodLinkNest q.1 q.2.1 q.2.2.1 q.2.2.2) U) ∧ (∀ q ∈ zNF, va_Nw (.fieldLinkNest q.1 q.2.1 q.2.2.1 q.2.2.2.1 q.2.2.2.2.1 q.2.2.2.2.2) U) ∧ (∀ q ∈ zNS, ∃ a, vk_R q.1 q.2.1 q.2.2 a U) ∧ (∀ E ∈ zEx, va_Nw (.castable E E) U) ∧ (∀ E ∈ zEx, ∀ T ∈ zEx, E ≠ T → va_Nc E T U)
theorem zN.warm {s U : State} (hW : s.WarmedH U.vm) (h : zN s) : zN U :=
  ⟨fun q hq => va_Nw.warmM hW (h.1 q hq), fun q hq => va_Nw.warmF hW (h.2.1 q hq), fun q hq => let ⟨a, ha⟩ := h.2.2.1 q hq; ⟨a, vk_R.warm hW ha⟩, fun E hE => va_Nw.warmC hW (h.2.2.2.1 E hE), fun E hE T hT hne => va_Nc.moved hW.alike (h.2.2.2.2 E hE T hT hne)⟩
theorem va_Nc.calls {C T : String} {U : State} {g : JFrame} {mk : MethodId} {a : Array Value} (h : va_Nc C T U) : va_Nc C T (U.calling g mk a) := va_Nc.moved (u := U) (U := U.calling g mk a) (Vm.Alike.refl U.vm) h
theorem zN.calls {U : State} {g : JFrame} {mk : MethodId} {a : Array Value} (h : zN U) : zN (U.calling g mk a) :=
  ⟨fun q hq => va_Nw.same rfl rfl (h.1 q hq), fun q hq => va_Nw.same rfl rfl (h.2.1 q hq), fun q hq => let ⟨x, hx⟩ := h.2.2.1 q hq; ⟨x, vk_R.same rfl hx⟩, fun E hE => va_Nw.same rfl rfl (h.2.2.2.1 E hE), fun E hE T hT hne => va_Nc.calls (h.2.2.2.2 E hE T hT hne)⟩
def zQ (A : Nat → Prop) (U : State) (H : Heap) : Prop := vx_Zq Bundle.tN "UNASSIGNED_STACK" Bundle.steD A U H ∧ vx_Zq Bundle.tN "SUPPRESSED_SENTINEL" Bundle.listD A U H
theorem zQ.moved {A : Nat → Prop} {u U : State} {H : Heap} (hvm : u.vm.Alike U.vm) (h : zQ A u H) : zQ A U H := ⟨h.1.moved hvm, h.2.moved hvm⟩
theorem zQ.kept {A : Nat → Prop} {U : State} {H H1 : Heap} (h : zQ A U H) (hq : ∀ a : Nat, a < H.size → ¬ A a → H1[a]? = H[a]?) : zQ A U H1 := ⟨h.1.kept hq, h.2.kept hq⟩
theorem zQ.narrow {A B : Nat → Prop} {U : State} {H : Heap} (h : zQ A U H) (hAB : ∀ q, B q → A q) : zQ B U H := ⟨h.1.narrow hAB, h.2.narrow hAB⟩
def zty (cI cJ cL : ClassId) : List (ClassId × FieldType) := [(cI, .int), (cJ, .array .int), (cL, .long)]
/-- what a method asks of its world and of the tables -/
def PU (D : va_G) (cI cJ cL : ClassId) (ws : va_W) (sz : Nat) (U : State) : Prop := U.heap.size = sz ∧ va_P D vwCl ws U.heap ∧ va_K D vwCl (zty cI cJ cL) U ∧ zN U ∧ va_D (fun _ => True) ws ∧ zQ (va_A ws sz) U U.heap
theorem PU.blind {D : va_G} {cI cJ cL : ClassId} {ws : va_W} {sz : Nat} {av : List Value} : FrameBlind (va_Pc av (PU D cI cJ cL ws sz)) := by
  intro a U g mk h
  obtain ⟨q0, q1, q2, q3, q4, q5, q6⟩ := h
  exact ⟨q0, q1, q2, va_K.moved (u := U) (U := U.calling g mk a) (Vm.Alike.refl U.vm) q3, q4.calls, q5, zQ.moved (u := U) (U := U.calling g mk a) (Vm.Alike.refl U.vm) q6⟩
/-- the walk's goal, over any heap that holds the world -/
def Z (p : Program) (l : Launch) (e : Env) (R : Room) (s : State) (m : MethodId) (args : Array Value) (below : List Frame) (meth : Method) (c : Code) (nL : Nat) (A : Nat → Prop) (D : va_G) (Q : State → Prop) (cells slots : Nat) (ws : va_W) (lv : List Value) (pc : Nat) (st : List Value) : Prop :=
  ∀ (H : Heap) (locs : List Loc) (ls : Array Slot), va_P D vwCl ws H → va_D A ws → va_S A s.heap H locs → lvl ls nL lv → W p l e R s m args below meth c H locs cells slots Q (F0 m pc ls st)
/-- what holds all through a method's walk -/
def Cx (p : Program) (s : State) (m : MethodId) (args : Array Value) (meth : Method) (c : Code) (nL : Nat) (A : Nat → Prop) (D : va_G) (cI cJ cL : ClassId) (cc : ByteArray) (Ts : List Cond) (own : String) : Prop :=
  CallFix p m c cc nL s args Ts own ∧ va_K D vwCl (zty cI cJ cL) s ∧ (∀ q, s.heap.size ≤ q → A q) ∧ meth.locks = false ∧ zN s ∧ zQ A s s.heap
theorem zsplit {D : va_G} {wr wc : va_W} {H : Heap} (h : va_P D vwCl (wr ++ wc) H) : va_P D vwCl wr H ∧ va_P D vwCl wc H := by
  refine ⟨fun k q hk => h k q ?_, fun k q hk => h (wr.length + k) q ?_⟩
  · rw [List.getElem?_append_left (List.getElem?_eq_some_iff.mp hk).1]
    exact hk
  · rw [List.getElem?_append_right (by omega), Nat.add_sub_cancel_left]
    exact hk
theorem zsplitD {A : Nat → Prop} {wr wc : va_W} (h : va_D A (wr ++ wc)) : va_D A wr ∧ va_D A wc := by
  have hl : ∀ (k : Nat) (q : Nat × va_E), wr[k]? = some q → (wr ++ wc)[k]? = some q := fun k q hk => by
    rw [List.getElem?_append_left (List.getElem?_eq_some_iff.mp hk).1]; exact hk
  have hr : ∀ (k : Nat) (q : Nat × va_E), wc[k]? = some q → (wr ++ wc)[wr.length + k]? = some q := fun k q hk => by
    rw [List.getElem?_append_right (by omega), Nat.add_sub_cancel_left]; exact hk
  refine ⟨⟨fun i j p q hi hj e => h.1 i j p q (hl i p hi) (hl j q hj) e, fun k q hk => h.2 k q (hl k q hk)⟩, ⟨fun i j p q hi hj e => ?_, fun k q hk => h.2 _ q (hr k q hk)⟩⟩
  have := h.1 _ _ p q (hr i p hi) (hr j q hj) e
  omega
theorem zapart {A : Nat → Prop} {wr wc : va_W} (h : va_D A (wr ++ wc)) {i j : Nat} {p q : Nat × va_E} (hi : wr[i]? = some p) (hj : wc[j]? = some q) : p.1 ≠ q.1 := by
  intro e
  have hl : i < wr.length := (List.getElem?_eq_some_iff.mp hi).1
  have h1 : (wr ++ wc)[i]? = some p := by rw [List.getElem?_append_left hl]; exact hi
  have h2 : (wr ++ wc)[wr.length + j]? = some q := by rw [List.getElem?_append_right (by omega), Nat.add_sub_cancel_left]; exact hj
  have := h.1 _ _ p q h1 h2 e
  omega
theorem zjoin {D : va_G} {A0 : Nat → Prop} {wr wc w1 : va_W} {H H1 : Heap} (hP : va_P D vwCl (wr ++ wc) H) (hD : va_D A0 (wr ++ wc)) (hk : ∀ q : Nat, q < H.size → ¬ va_A wc H.size q → H1[q]? = H[q]?) (hF : ∀ q, va_A wc H.size q → A0 q) (hP1 : va_P D vwCl w1 H1) (hD1 : va_D (va_A wc H.size) w1) : va_P D vwCl (wr ++ w1) H1 ∧ va_D A0 (wr ++ w1) := by
  have off : ∀ (k : Nat) (q : Nat × va_E), wr[k]? = some q → q.1 < H.size ∧ ¬ va_A wc H.size q.1 := by
    intro k q hq
    have hl := ((zsplit hP).1 k q hq).lt
    refine ⟨hl, fun h => ?_⟩
    rcases h with ⟨k2, e, h⟩ | h
    · exact zapart hD hq h rfl
    · omega
  refine ⟨va_P.app (fun k q hq => ?_) hP1, va_D.app (zsplitD hD).1 (hD1.weaken (fun k q _ h => hF q.1 h)) (fun i j x y hx hy hxy => ?_)⟩
  · obtain ⟨g1, g2⟩ := off k q hq
    exact ((zsplit hP).1 k q hq).kept (hk q.1 g1 g2)
  · exact (off i x hx).2 (by rw [hxy]; exact hD1.2 j y hy)
theorem zfree {A0 : Nat → Prop} {wr wc : va_W} {H0 H : Heap} {locs : List Loc} (hD : va_D A0 (wr ++ wc)) (hS : va_S A0 H0 H locs) (hA : ∀ q, H0.size ≤ q → A0 q) : ∀ q, va_A wc H.size q → A0 q := by
  intro q h
  rcases h with ⟨k, e, h⟩ | h
  · exact (zsplitD hD).2.2 k (q, e) h
  · exact hA q (Nat.le_trans hS.1 h)
/-! the contracts: an int is answered, or nothing -/
def CI (l : Launch) (y : MethodName) (w : List Cond) (rm : Room) (av : List Value) (D : va_G) (cI cJ cL : ClassId) (ws : va_W) (post : Int → va_W → Prop) : Prop :=
  ∀ sz : Nat, Met l y w rm (va_Pc av (PU D cI cJ cL ws sz)) (va_Qi (fun (r' : Int32) (w' : va_W) => ∃ r : Int, r' = iI r ∧ post r w') (fun w' t => va_P D vwCl w' t.heap ∧ va_D (va_A ws sz) w') (va_A ws sz)) 0 0 (va_A ws sz)
def CV (l : Launch) (y : MethodName) (w : List Cond) (rm : Room) (av : List Value) (D : va_G) (cI cJ cL : ClassId) (ws : va_W) (post : va_W → Prop) : Prop :=
  ∀ sz : Nat, Met l y w rm (va_Pc av (PU D cI cJ cL ws sz)) (va_Qv (fun (w' : va_W) => post w') (fun w' t => va_P D vwCl w' t.heap ∧ va_D (va_A ws sz) w') (va_A ws sz)) 0 0 (va_A ws sz)
def QI (below : List Frame) (args : Array Value) (s : State) (D : va_G) (ws : va_W) (sz : Nat) (post : Int → va_W → Prop) : State → Prop := MQ below (va_Qi (fun (r' : Int32) (w' : va_W) => ∃ r : Int, r' = iI r ∧ post r w') (fun w' t => va_P D vwCl w' t.heap ∧ va_D (va_A ws sz) w') (va_A ws sz)) args s 0 0 (va_A ws sz)
def QV (below : List Frame) (args : Array Value) (s : State) (D : va_G) (ws : va_W) (sz : Nat) (post : va_W → Prop) : State → Prop := MQ below (va_Qv (fun (w' : va_W) => post w') (fun w' t => va_P D vwCl w' t.heap ∧ va_D (va_A ws sz) w') (va_A ws sz)) args s 0 0 (va_A ws sz)
theorem lv_args1 : ∀ (vs : List Value) (n : Nat), (∀ v ∈ vs, v.category = 1) → ∀ (i : Nat) (v : Value), vs[i]? = some v → (n + i, v) ∈ lv_args n vs
  | [], n, _, i, v, h => by simp at h
  | a :: vs, n, hc, i, v, h => by
    have ha : ¬ a.category = 2 := by rw [hc a List.mem_cons_self]; decide
    unfold lv_args
    rw [if_neg ha]
    cases i with
    | zero =>
      rw [List.getElem?_cons_zero] at h
      cases h
      exact List.mem_cons_self
    | succ i =>
      rw [List.getElem?_cons_succ] at h
      have := lv_args1 vs (n + 1) (fun v hv => hc v (List.mem_cons_of_mem _ hv)) i v h
      rw [show n + 1 + i = n + (i + 1) by omega] at this
      exact List.mem_cons_of_mem _ this
theorem lg_sl1 : ∀ (vs : List Value), (∀ v ∈ vs, v.category = 1) → (lg_sl vs).length = vs.length
  | [], _ => rfl
  | a :: vs, hc => by
    have ih := lg_sl1 vs (fun v hv => hc v (List.mem_cons_of_mem _ hv))
    have ha := hc a List.mem_cons_self
    simp [lg_sl] at ih ⊢
    simp [ih, ha]
    omega
def zc1 (vs : List Value) : Bool := vs.all (fun v => v.category == 1)
theorem zc1_mem {vs : List Value} (h : zc1 vs = true) : ∀ v ∈ vs, v.category = 1 := fun v hv => by
  have := List.all_eq_true.mp h v hv
  simpa using this
theorem lvl_start {av : List Value} {n k : Nat} (h : zc1 av = true) (hn : av.length ≤ n) : lvl ((lg_sl av ++ List.replicate (n - (lg_sl av).length) Slot.unset).toArray) n (av ++ List.replicate k Value.null) := by
  refine lvl_entry (by rw [lg_sl1 av (zc1_mem h)]; exact hn) (fun i v hi hnull => ?_)
  by_cases hl : i < av.length
  · rw [List.getElem?_append_left hl] at hi
    exact ⟨zc1_mem h v (List.mem_of_getElem? hi), by simpa using lv_args1 av 0 (zc1_mem h) i v hi⟩
  · rw [List.getElem?_append_right (by omega)] at hi
    have := List.mem_of_getElem? hi
    exact absurd (List.mem_replicate.mp this).2 hnull
section ZM
variable {l : Launch} {y : MethodName} {w w' : List Cond} {rm : Room} {av : List Value} {D : va_G} {cI cJ cL : ClassId} {ws : va_W} {cc : ByteArray} {maxL : Nat} {own : String}
theorem CI.of {post : Int → va_W → Prop} {ret : Option FieldType} (lv0 : List Value) (k : Nat) (hy : plainName y.cls = true) (hw : w = Cond.code y cc maxL ret :: w') (hown : y.cls = own) (hc1 : zc1 av = true) (hn : av.length ≤ maxL) (hlv : av ++ List.replicate k Value.null = lv0)
    (body : ∀ (sz : Nat) (p : Program) (e : Env) (s : State) (m : MethodId) (args : Array Value) (below : List Frame) (meth : Method) (c : Code), Cx p s m args meth c maxL (va_A ws sz) D cI cJ cL cc w own → meth.sig.returnType = ret →
      Z p l e rm s m args below meth c maxL (va_A ws sz) D (QI below args s D ws sz post) 0 0 ws lv0 0 []) : CI l y w rm av D cI cJ cL ws post := by
  intro sz
  subst hlv
  refine Met.ofW (cc := cc) (maxL := maxL) (ret := ret) hy hw ?_
  intro p e s m args below meth c s₁ B hml hv
  obtain ⟨rfl, hsz, hP, hK, hN, hD0, hQ⟩ := hv
  have hts := atoms_spec (ws := w) B.pre
  have hf : s.vm.findClass own = some m.cls := hown ▸ findClass_of_methodNamed B.named
  have hA : ∀ q, s.heap.size ≤ q → va_A ws sz q := fun q h => Or.inr (hsz ▸ h)
  rw [lg_entry_eq]
  exact body sz p e s m av.toArray below meth c ⟨⟨B.exec, B.bytes, hml, hf, hts⟩, hK, hA, B.notSynchronized, hN, hQ⟩ B.returns s.heap [] _ hP hD0.self va_S.rf (lvl_start hc1 hn)
theorem CV.of {post : va_W → Prop} {ret : Option FieldType} (lv0 : List Value) (k : Nat) (hy : plainName y.cls = true) (hw : w = Cond.code y cc maxL ret :: w') (hown : y.cls = own) (hc1 : zc1 av = true) (hn : av.length ≤ maxL) (hlv : av ++ List.replicate k Value.null = lv0)
    (body : ∀ (sz : Nat) (p : Program) (e : Env) (s : State) (m : MethodId) (args : Array Value) (below : List Frame) (meth : Method) (c : Code), Cx p s m args meth c maxL (va_A ws sz) D cI cJ cL cc w own → meth.sig.returnType = ret →
      Z p l e rm s m args below meth c maxL (va_A ws sz) D (QV below args s D ws sz post) 0 0 ws lv0 0 []) : CV l y w rm av D cI cJ cL ws post := by
  intro sz
  subst hlv
  refine Met.ofW (cc := cc) (maxL := maxL) (ret := ret) hy hw ?_
  intro p e s m args below meth c s₁ B hml hv
  obtain ⟨rfl, hsz, hP, hK, hN, hD0, hQ⟩ := hv
  have hts := atoms_spec (ws := w) B.pre
  have hf : s.vm.findClass own = some m.cls := hown ▸ findClass_of_methodNamed B.named
  have hA : ∀ q, s.heap.size ≤ q → va_A ws sz q := fun q h => Or.inr (hsz ▸ h)
  rw [lg_entry_eq]
  exact body sz p e s m av.toArray below meth c ⟨⟨B.exec, B.bytes, hml, hf, hts⟩, hK, hA, B.notSynchronized, hN, hQ⟩ B.returns s.heap [] _ hP hD0.self va_S.rf (lvl_start hc1 hn)
end ZM

section ZR
variable {p : Program} {l : Launch} {e : Env} {R : Room} {s : State} {m : MethodId} {args : Array Value} {below : List Frame} {meth : Method} {c : Code} {nL : Nat} {A : Nat → Prop} {D : va_G} {Q : State → Prop} {cells slots : Nat} {ws : va_W} {lv : List Value} {pc : Nat} {st : List Value} {cI cJ cL : ClassId} {cc : ByteArray} {Ts : List Cond} {own : String}
theorem Z.iconst (C : Cx p s m args meth c nL A D cI cJ cL cc Ts own) {n : Int} (hd : decode cc pc = .ok (.iconst n, 1)) (k : Z p l e R s m args below meth c nL A D Q cells slots ws lv (pc + 1) (.int (iI n) :: st)) : Z p l e R s m args below meth c nL A D Q cells slots ws lv pc st := by
  intro H locs ls hP hD hS hl
  exact lv_iconst (v := iI n) C.1.1 C.1.2.1 hd rfl (k H locs ls hP hD hS hl)
theorem Z.bipush (C : Cx p s m args meth c nL A D cI cJ cL cc Ts own) {n : Int} (hd : decode cc pc = .ok (.bipush n, 2)) (hv : (Int8.ofInt n).toInt32 = iI n) (k : Z p l e R s m args below meth c nL A D Q cells slots ws lv (pc + 2) (.int (iI n) :: st)) : Z p l e R s m args below meth c nL A D Q cells slots ws lv pc st := by
  intro H locs ls hP hD hS hl
  exact lv_bipush (v := iI n) C.1.1 C.1.2.1 hd hv (k H locs ls hP hD hS hl)
theorem Z.sipush (C : Cx p s m args meth c nL A D cI cJ cL cc Ts own) {n : Int} (hd : decode cc pc = .ok (.sipush n, 3)) (hv : (Int16.ofInt n).toInt32 = iI n) (k : Z p l e R s m args below meth c nL A D Q cells slots ws lv (pc + 3) (.int (iI n) :: st)) : Z p l e R s m args below meth c nL A D Q cells slots ws lv pc st := by
  intro H locs ls hP hD hS hl
  exact lv_sipush (v := iI n) C.1.1 C.1.2.1 hd hv (k H locs ls hP hD hS hl)
theorem Z.ldc (C : Cx p s m args meth c nL A D cI cJ cL cc Ts own) {i : Nat} {v : Int32} (n : Int) (hc : Cond.constant own i v ∈ Ts) (hv : v = iI n) (hd : decode cc pc = .ok (.ldc i, 2)) (k : Z p l e R s m args below meth c nL A D Q cells slots ws lv (pc + 2) (.int (iI n) :: st)) : Z p l e R s m args below meth c nL A D Q cells slots ws lv pc st := by
  intro H locs ls hP hD hS hl
  subst hv
  exact lv_ldc C.1.1 C.1.2.1 C.1.2.2.2.1 (C.1.2.2.2.2 _ hc) hd (k H locs ls hP hD hS hl)
theorem Z.iload_n (C : Cx p s m args meth c nL A D cI cJ cL cc Ts own) {k0 : Fin 4} {x : Int32} (hd : decode cc pc = .ok (.iload_n k0, 1)) (hx : lv[(k0 : Nat)]? = some (.int x)) (k : Z p l e R s m args below meth c nL A D Q cells slots ws lv (pc + 1) (.int x :: st)) : Z p l e R s m args below meth c nL A D Q cells slots ws lv pc st := by
  intro H locs ls hP hD hS hl
  exact lv_iload_n C.1.1 C.1.2.1 hd rfl (lvl_at hl hx (by intro h; cases h)) (k H locs ls hP hD hS hl)
theorem Z.iload (C : Cx p s m args meth c nL A D cI cJ cL cc Ts own) {i : Nat} {x : Int32} (hd : decode cc pc = .ok (.iload i, 2)) (hx : lv[i]? = some (.int x)) (k : Z p l e R s m args below meth c nL A D Q cells slots ws lv (pc + 2) (.int x :: st)) : Z p l e R s m args below meth c nL A D Q cells slots ws lv pc st := by
  intro H locs ls hP hD hS hl
  exact lv_iload C.1.1 C.1.2.1 hd (lvl_at hl hx (by intro h; cases h)) (k H locs ls hP hD hS hl)
theorem Z.aload_n (C : Cx p s m args meth c nL A D cI cJ cL cc Ts own) {k0 : Fin 4} {x : Nat} (hd : decode cc pc = .ok (.aload_n k0, 1)) (hx : lv[(k0 : Nat)]? = some (.ref x)) (k : Z p l e R s m args below meth c nL A D Q cells slots ws lv (pc + 1) (.ref x :: st)) : Z p l e R s m args below meth c nL A D Q cells slots ws lv pc st := by
  intro H locs ls hP hD hS hl
  exact lv_aload_n C.1.1 C.1.2.1 hd rfl (lvl_at hl hx (by intro h; cases h)) (k H locs ls hP hD hS hl)
theorem Z.aload (C : Cx p s m args meth c nL A D cI cJ cL cc Ts own) {i : Nat} {x : Nat} (hd : decode cc pc = .ok (.aload i, 2)) (hx : lv[i]? = some (.ref x)) (k : Z p l e R s m args below meth c nL A D Q cells slots ws lv (pc + 2) (.ref x :: st)) : Z p l e R s m args below meth c nL A D Q cells slots ws lv pc st := by
  intro H locs ls hP hD hS hl
  exact lv_aload C.1.1 C.1.2.1 hd (lvl_at hl hx (by intro h; cases h)) (k H locs ls hP hD hS hl)
theorem Z.istore_n (C : Cx p s m args meth c nL A D cI cJ cL cc Ts own) {k0 : Fin 4} {x : Int32} (hd : decode cc pc = .ok (.istore_n k0, 1)) (hn : (k0 : Nat) < nL) (k : Z p l e R s m args below meth c nL A D Q cells slots ws (lv.set (k0 : Nat) (.int x)) (pc + 1) st) : Z p l e R s m args below meth c nL A D Q cells slots ws lv pc (.int x :: st) := by
  intro H locs ls hP hD hS hl
  exact lv_istore_n C.1.1 C.1.2.1 hd rfl (lvl_has hl) hn rfl (fun ls' h' => k H locs ls' hP hD hS (lvl_set hl rfl h'))
theorem Z.istore (C : Cx p s m args meth c nL A D cI cJ cL cc Ts own) {i : Nat} {x : Int32} (hd : decode cc pc = .ok (.istore i, 2)) (hn : i < nL) (k : Z p l e R s m args below meth c nL A D Q cells slots ws (lv.set i (.int x)) (pc + 2) st) : Z p l e R s m args below meth c nL A D Q cells slots ws lv pc (.int x :: st) := by
  intro H locs ls hP hD hS hl
  exact lv_istore C.1.1 C.1.2.1 hd (lvl_has hl) hn rfl (fun ls' h' => k H locs ls' hP hD hS (lvl_set hl rfl h'))
theorem Z.astore_n (C : Cx p s m args meth c nL A D cI cJ cL cc Ts own) {k0 : Fin 4} {x : Nat} (hd : decode cc pc = .ok (.astore_n k0, 1)) (hn : (k0 : Nat) < nL) (k : Z p l e R s m args below meth c nL A D Q cells slots ws (lv.set (k0 : Nat) (.ref x)) (pc + 1) st) : Z p l e R s m args below meth c nL A D Q cells slots ws lv pc (.ref x :: st) := by
  intro H locs ls hP hD hS hl
  exact lv_astore_n C.1.1 C.1.2.1 hd rfl (lvl_has hl) hn rfl (fun ls' h' => k H locs ls' hP hD hS (lvl_set hl rfl h'))
theorem Z.astore (C : Cx p s m args meth c nL A D cI cJ cL cc Ts own) {i : Nat} {x : Nat} (hd : decode cc pc = .ok (.astore i, 2)) (hn : i < nL) (k : Z p l e R s m args below meth c nL A D Q cells slots ws (lv.set i (.ref x)) (pc + 2) st) : Z p l e R s m args below meth c nL A D Q cells slots ws lv pc (.ref x :: st) := by
  intro H locs ls hP hD hS hl
  exact lv_astore C.1.1 C.1.2.1 hd (lvl_has hl) hn rfl (fun ls' h' => k H locs ls' hP hD hS (lvl_set hl rfl h'))
theorem Z.iinc (C : Cx p s m args meth c nL A D cI cJ cL cc Ts own) {i : Nat} {n a : Int} (hd : decode cc pc = .ok (.iinc i n, 3)) (hx : lv[i]? = some (.int (iI a))) (hn : i < nL) (k : Z p l e R s m args below meth c nL A D Q cells slots ws (lv.set i (.int (iI (a + n)))) (pc + 3) st) : Z p l e R s m args below meth c nL A D Q cells slots ws lv pc st := by
  intro H locs ls hP hD hS hl
  obtain ⟨j, hj⟩ := List.getElem?_of_mem (lvE_mem.mpr ⟨hx, by intro h; cases h⟩)
  exact lv_iinc (v := iI (a + n)) C.1.1 C.1.2.1 hd (lvl_has hl) hj (iI_add a n) hn rfl (fun ls' h' => k H locs ls' hP hD hS (lvl_set hl rfl h'))
theorem Z.iadd (C : Cx p s m args meth c nL A D cI cJ cL cc Ts own) {a b : Int} (hd : decode cc pc = .ok (.iadd, 1)) (k : Z p l e R s m args below meth c nL A D Q cells slots ws lv (pc + 1) (.int (iI (a + b)) :: st)) : Z p l e R s m args below meth c nL A D Q cells slots ws lv pc (.int (iI b) :: .int (iI a) :: st) := by
  intro H locs ls hP hD hS hl
  refine lv_iadd C.1.1 C.1.2.1 hd ?_
  rw [iI_add]
  exact k H locs ls hP hD hS hl
theorem Z.isub (C : Cx p s m args meth c nL A D cI cJ cL cc Ts own) {a b : Int} (hd : decode cc pc = .ok (.isub, 1)) (k : Z p l e R s m args below meth c nL A D Q cells slots ws lv (pc + 1) (.int (iI (a - b)) :: st)) : Z p l e R s m args below meth c nL A D Q cells slots ws lv pc (.int (iI b) :: .int (iI a) :: st) := by
  intro H locs ls hP hD hS hl
  refine lv_isub C.1.1 C.1.2.1 hd ?_
  rw [iI_sub]
  exact k H locs ls hP hD hS hl
theorem Z.imul (C : Cx p s m args meth c nL A D cI cJ cL cc Ts own) {a b : Int} (hd : decode cc pc = .ok (.imul, 1)) (k : Z p l e R s m args below meth c nL A D Q cells slots ws lv (pc + 1) (.int (iI (a * b)) :: st)) : Z p l e R s m args below meth c nL A D Q cells slots ws lv pc (.int (iI b) :: .int (iI a) :: st) := by
  intro H locs ls hP hD hS hl
  refine lv_imul C.1.1 C.1.2.1 hd ?_
  rw [iI_mul]
  exact k H locs ls hP hD hS hl
theorem Z.ineg (C : Cx p s m args meth c nL A D cI cJ cL cc Ts own) {a : Int} (hd : decode cc pc = .ok (.ineg, 1)) (k : Z p l e R s m args below meth c nL A D Q cells slots ws lv (pc + 1) (.int (iI (-a)) :: st)) : Z p l e R s m args below meth c nL A D Q cells slots ws lv pc (.int (iI a) :: st) := by
  intro H locs ls hP hD hS hl
  refine lv_ineg C.1.1 C.1.2.1 hd ?_
  first | rw [iI_neg] | rw [show (0 : Int32) - iI a = iI (-a) from by rw [← iI_0, iI_sub, Int.zero_sub]]
  exact k H locs ls hP hD hS hl
theorem Z.idiv (C : Cx p s m args meth c nL A D cI cJ cL cc Ts own) {a b : Int} (hd : decode cc pc = .ok (.idiv, 1)) (ha : 0 ≤ a) (ha2 : a ≤ 2147483647) (hb : 0 < b) (hb2 : b ≤ 2147483647) (k : Z p l e R s m args below meth c nL A D Q cells slots ws lv (pc + 1) (.int (iI (a / b)) :: st)) : Z p l e R s m args below meth c nL A D Q cells slots ws lv pc (.int (iI b) :: .int (iI a) :: st) := by
  intro H locs ls hP hD hS hl
  refine lv_idiv C.1.1 C.1.2.1 hd (fun h => ?_) ?_
  · rw [← iI_0, iI_eq ⟨by omega, by omega⟩ ⟨by omega, by omega⟩] at h
    omega
  · rw [iI_div ha ha2 hb hb2]
    exact k H locs ls hP hD hS hl
theorem Z.irem (C : Cx p s m args meth c nL A D cI cJ cL cc Ts own) {a b : Int} (hd : decode cc pc = .ok (.irem, 1)) (ha : 0 ≤ a) (ha2 : a ≤ 2147483647) (hb : 0 < b) (hb2 : b ≤ 2147483647) (k : Z p l e R s m args below meth c nL A D Q cells slots ws lv (pc + 1) (.int (iI (a % b)) :: st)) : Z p l e R s m args below meth c nL A D Q cells slots ws lv pc (.int (iI b) :: .int (iI a) :: st) := by
  intro H locs ls hP hD hS hl
  refine lv_irem C.1.1 C.1.2.1 hd (fun h => ?_) ?_
  · rw [← iI_0, iI_eq ⟨by omega, by omega⟩ ⟨by omega, by omega⟩] at h
    omega
  · rw [iI_div ha ha2 hb hb2, iI_mul, iI_sub, show a - a / b * b = a % b from by rw [Int.emod_def, Int.mul_comm]]
    exact k H locs ls hP hD hS hl
theorem Z.dup (C : Cx p s m args meth c nL A D cI cJ cL cc Ts own) {v : Value} (hd : decode cc pc = .ok (.dup, 1)) (hv : v.category = 1) (k : Z p l e R s m args below meth c nL A D Q cells slots ws lv (pc + 1) (v :: v :: st)) : Z p l e R s m args below meth c nL A D Q cells slots ws lv pc (v :: st) := by
  intro H locs ls hP hD hS hl
  exact lv_dup C.1.1 C.1.2.1 hd hv (k H locs ls hP hD hS hl)
theorem Z.pop (C : Cx p s m args meth c nL A D cI cJ cL cc Ts own) {v : Value} (hd : decode cc pc = .ok (.pop, 1)) (hv : v.category = 1) (k : Z p l e R s m args below meth c nL A D Q cells slots ws lv (pc + 1) st) : Z p l e R s m args below meth c nL A D Q cells slots ws lv pc (v :: st) := by
  intro H locs ls hP hD hS hl
  exact lv_pop C.1.1 C.1.2.1 hd hv (k H locs ls hP hD hS hl)
theorem Z.dup2 (C : Cx p s m args meth c nL A D cI cJ cL cc Ts own) {v u : Value} (hd : decode cc pc = .ok (.dup2, 1)) (hv : v.category = 1) (hu : u.category = 1) (k : Z p l e R s m args below meth c nL A D Q cells slots ws lv (pc + 1) (v :: u :: v :: u :: st)) : Z p l e R s m args below meth c nL A D Q cells slots ws lv pc (v :: u :: st) := by
  intro H locs ls hP hD hS hl
  exact lv_dup2_11 C.1.1 C.1.2.1 hd hv hu (k H locs ls hP hD hS hl)
theorem Z.goto (C : Cx p s m args meth c nL A D cI cJ cL cc Ts own) {off : Int} (tgt : Nat) (hd : decode cc pc = .ok (.goto off, 3)) (ht : (pc : Int) + off = (tgt : Int)) (k : Z p l e R s m args below meth c nL A D Q cells slots ws lv tgt st) : Z p l e R s m args below meth c nL A D Q cells slots ws lv pc st := by
  intro H locs ls hP hD hS hl
  exact lv_goto C.1.1 C.1.2.1 hd ht (k H locs ls hP hD hS hl)
theorem Z.icmpeq (C : Cx p s m args meth c nL A D cI cJ cL cc Ts own) {off : Int} {a b : Int} (tgt : Nat) (hd : decode cc pc = .ok (.if_icmp .eq off, 3)) (ht : (pc : Int) + off = (tgt : Int)) (ha : inr a) (hb : inr b) (kt : a = b → Z p l e R s m args below meth c nL A D Q cells slots ws lv tgt st) (kf : a ≠ b → Z p l e R s m args below meth c nL A D Q cells slots ws lv (pc + 3) st) : Z p l e R s m args below meth c nL A D Q cells slots ws lv pc (.int (iI b) :: .int (iI a) :: st) := by
  intro H locs ls hP hD hS hl
  exact lv_icmp_eq C.1.1 C.1.2.1 hd ht (fun h => kt ((iI_eq ha hb).mp h) H locs ls hP hD hS hl) (fun h => kf (fun q => h ((iI_eq ha hb).mpr q)) H locs ls hP hD hS hl)
theorem Z.ifeq (C : Cx p s m args meth c nL A D cI cJ cL cc Ts own) {off : Int} {a : Int} (tgt : Nat) (hd : decode cc pc = .ok (.ifCond .eq off, 3)) (ht : (pc : Int) + off = (tgt : Int)) (ha : inr a) (kt : a = 0 → Z p l e R s m args below meth c nL A D Q cells slots ws lv tgt st) (kf : a ≠ 0 → Z p l e R s m args below meth c nL A D Q cells slots ws lv (pc + 3) st) : Z p l e R s m args below meth c nL A D Q cells slots ws lv pc (.int (iI a) :: st) := by
  intro H locs ls hP hD hS hl
  have z0 : inr 0 := ⟨by decide, by decide⟩
  refine lv_if_eq C.1.1 C.1.2.1 hd ht ?_ ?_
  · rw [← iI_0]
    exact (fun h => kt ((iI_eq ha z0).mp h) H locs ls hP hD hS hl)
  · rw [← iI_0]
    exact (fun h => kf (fun q => h ((iI_eq ha z0).mpr q)) H locs ls hP hD hS hl)
theorem Z.icmpne (C : Cx p s m args meth c nL A D cI cJ cL cc Ts own) {off : Int} {a b : Int} (tgt : Nat) (hd : decode cc pc = .ok (.if_icmp .ne off, 3)) (ht : (pc : Int) + off = (tgt : Int)) (ha : inr a) (hb : inr b) (kt : a ≠ b → Z p l e R s m args below meth c nL A D Q cells slots ws lv tgt st) (kf : a = b → Z p l e R s m args below meth c nL A D Q cells slots ws lv (pc + 3) st) : Z p l e R s m args below meth c nL A D Q cells slots ws lv pc (.int (iI b) :: .int (iI a) :: st) := by
  intro H locs ls hP hD hS hl
  exact lv_icmp_ne C.1.1 C.1.2.1 hd ht (fun h => kt (fun q => h ((iI_eq ha hb).mpr q)) H locs ls hP hD hS hl) (fun h => kf ((iI_eq ha hb).mp h) H locs ls hP hD hS hl)
theorem Z.ifne (C : Cx p s m args meth c nL A D cI cJ cL cc Ts own) {off : Int} {a : Int} (tgt : Nat) (hd : decode cc pc = .ok (.ifCond .ne off, 3)) (ht : (pc : Int) + off = (tgt : Int)) (ha : inr a) (kt : a ≠ 0 → Z p l e R s m args below meth c nL A D Q cells slots ws lv tgt st) (kf : a = 0 → Z p l e R s m args below meth c nL A D Q cells slots ws lv (pc + 3) st) : Z p l e R s m args below meth c nL A D Q cells slots ws lv pc (.int (iI a) :: st) := by
  intro H locs ls hP hD hS hl
  have z0 : inr 0 := ⟨by decide, by decide⟩
  refine lv_if_ne C.1.1 C.1.2.1 hd ht ?_ ?_
  · rw [← iI_0]
    exact (fun h => kt (fun q => h ((iI_eq ha z0).mpr q)) H locs ls hP hD hS hl)
  · rw [← iI_0]
    exact (fun h => kf ((iI_eq ha z0).mp h) H locs ls hP hD hS hl)
theorem Z.icmplt (C : Cx p s m args meth c nL A D cI cJ cL cc Ts own) {off : Int} {a b : Int} (tgt : Nat) (hd : decode cc pc = .ok (.if_icmp .lt off, 3)) (ht : (pc : Int) + off = (tgt : Int)) (ha : inr a) (hb : inr b) (kt : a < b → Z p l e R s m args below meth c nL A D Q cells slots ws lv tgt st) (kf : b ≤ a → Z p l e R s m args below meth c nL A D Q cells slots ws lv (pc + 3) st) : Z p l e R s m args below meth c nL A D Q cells slots ws lv pc (.int (iI b) :: .int (iI a) :: st) := by
  intro H locs ls hP hD hS hl
  exact lv_icmp_lt C.1.1 C.1.2.1 hd ht (fun h => kt ((iI_lt ha hb).mp h) H locs ls hP hD hS hl) (fun h => kf (Int.not_lt.mp (fun z => h ((iI_lt ha hb).mpr (by omega)))) H locs ls hP hD hS hl)
theorem Z.iflt (C : Cx p s m args meth c nL A D cI cJ cL cc Ts own) {off : Int} {a : Int} (tgt : Nat) (hd : decode cc pc = .ok (.ifCond .lt off, 3)) (ht : (pc : Int) + off = (tgt : Int)) (ha : inr a) (kt : a < 0 → Z p l e R s m args below meth c nL A D Q cells slots ws lv tgt st) (kf : 0 ≤ a → Z p l e R s m args below meth c nL A D Q cells slots ws lv (pc + 3) st) : Z p l e R s m args below meth c nL A D Q cells slots ws lv pc (.int (iI a) :: st) := by
  intro H locs ls hP hD hS hl
  have z0 : inr 0 := ⟨by decide, by decide⟩
  refine lv_if_lt C.1.1 C.1.2.1 hd ht ?_ ?_
  · rw [← iI_0]
    exact (fun h => kt ((iI_lt ha z0).mp h) H locs ls hP hD hS hl)
  · rw [← iI_0]
    exact (fun h => kf (Int.not_lt.mp (fun z => h ((iI_lt ha z0).mpr (by omega)))) H locs ls hP hD hS hl)
theorem Z.icmpge (C : Cx p s m args meth c nL A D cI cJ cL cc Ts own) {off : Int} {a b : Int} (tgt : Nat) (hd : decode cc pc = .ok (.if_icmp .ge off, 3)) (ht : (pc : Int) + off = (tgt : Int)) (ha : inr a) (hb : inr b) (kt : b ≤ a → Z p l e R s m args below meth c nL A D Q cells slots ws lv tgt st) (kf : a < b → Z p l e R s m args below meth c nL A D Q cells slots ws lv (pc + 3) st) : Z p l e R s m args below meth c nL A D Q cells slots ws lv pc (.int (iI b) :: .int (iI a) :: st) := by
  intro H locs ls hP hD hS hl
  exact lv_icmp_ge C.1.1 C.1.2.1 hd ht (fun h => kt ((iI_le hb ha).mp h) H locs ls hP hD hS hl) (fun h => kf (Int.not_lt.mp (fun z => h ((iI_le hb ha).mpr (by omega)))) H locs ls hP hD hS hl)
theorem Z.ifge (C : Cx p s m args meth c nL A D cI cJ cL cc Ts own) {off : Int} {a : Int} (tgt : Nat) (hd : decode cc pc = .ok (.ifCond .ge off, 3)) (ht : (pc : Int) + off = (tgt : Int)) (ha : inr a) (kt : 0 ≤ a → Z p l e R s m args below meth c nL A D Q cells slots ws lv tgt st) (kf : a < 0 → Z p l e R s m args below meth c nL A D Q cells slots ws lv (pc + 3) st) : Z p l e R s m args below meth c nL A D Q cells slots ws lv pc (.int (iI a) :: st) := by
  intro H locs ls hP hD hS hl
  have z0 : inr 0 := ⟨by decide, by decide⟩
  refine lv_if_ge C.1.1 C.1.2.1 hd ht ?_ ?_
  · rw [← iI_0]
    exact (fun h => kt ((iI_le z0 ha).mp h) H locs ls hP hD hS hl)
  · rw [← iI_0]
    exact (fun h => kf (Int.not_lt.mp (fun z => h ((iI_le z0 ha).mpr (by omega)))) H locs ls hP hD hS hl)
theorem Z.icmpgt (C : Cx p s m args meth c nL A D cI cJ cL cc Ts own) {off : Int} {a b : Int} (tgt : Nat) (hd : decode cc pc = .ok (.if_icmp .gt off, 3)) (ht : (pc : Int) + off = (tgt : Int)) (ha : inr a) (hb : inr b) (kt : b < a → Z p l e R s m args below meth c nL A D Q cells slots ws lv tgt st) (kf : a ≤ b → Z p l e R s m args below meth c nL A D Q cells slots ws lv (pc + 3) st) : Z p l e R s m args below meth c nL A D Q cells slots ws lv pc (.int (iI b) :: .int (iI a) :: st) := by
  intro H locs ls hP hD hS hl
  exact lv_icmp_gt C.1.1 C.1.2.1 hd ht (fun h => kt ((iI_lt hb ha).mp h) H locs ls hP hD hS hl) (fun h => kf (Int.not_lt.mp (fun z => h ((iI_lt hb ha).mpr (by omega)))) H locs ls hP hD hS hl)
theorem Z.ifgt (C : Cx p s m args meth c nL A D cI cJ cL cc Ts own) {off : Int} {a : Int} (tgt : Nat) (hd : decode cc pc = .ok (.ifCond .gt off, 3)) (ht : (pc : Int) + off = (tgt : Int)) (ha : inr a) (kt : 0 < a → Z p l e R s m args below meth c nL A D Q cells slots ws lv tgt st) (kf : a ≤ 0 → Z p l e R s m args below meth c nL A D Q cells slots ws lv (pc + 3) st) : Z p l e R s m args below meth c nL A D Q cells slots ws lv pc (.int (iI a) :: st) := by
  intro H locs ls hP hD hS hl
  have z0 : inr 0 := ⟨by decide, by decide⟩
  refine lv_if_gt C.1.1 C.1.2.1 hd ht ?_ ?_
  · rw [← iI_0]
    exact (fun h => kt ((iI_lt z0 ha).mp h) H locs ls hP hD hS hl)
  · rw [← iI_0]
    exact (fun h => kf (Int.not_lt.mp (fun z => h ((iI_lt z0 ha).mpr (by omega)))) H locs ls hP hD hS hl)
theorem Z.icmple (C : Cx p s m args meth c nL A D cI cJ cL cc Ts own) {off : Int} {a b : Int} (tgt : Nat) (hd : decode cc pc = .ok (.if_icmp .le off, 3)) (ht : (pc : Int) + off = (tgt : Int)) (ha : inr a) (hb : inr b) (kt : a ≤ b → Z p l e R s m args below meth c nL A D Q cells slots ws lv tgt st) (kf : b < a → Z p l e R s m args below meth c nL A D Q cells slots ws lv (pc + 3) st) : Z p l e R s m args below meth c nL A D Q cells slots ws lv pc (.int (iI b) :: .int (iI a) :: st) := by
  intro H locs ls hP hD hS hl
  exact lv_icmp_le C.1.1 C.1.2.1 hd ht (fun h => kt ((iI_le ha hb).mp h) H locs ls hP hD hS hl) (fun h => kf (Int.not_lt.mp (fun z => h ((iI_le ha hb).mpr (by omega)))) H locs ls hP hD hS hl)
theorem Z.ifle (C : Cx p s m args meth c nL A D cI cJ cL cc Ts own) {off : Int} {a : Int} (tgt : Nat) (hd : decode cc pc = .ok (.ifCond .le off, 3)) (ht : (pc : Int) + off = (tgt : Int)) (ha : inr a) (kt : a ≤ 0 → Z p l e R s m args below meth c nL A D Q cells slots ws lv tgt st) (kf : 0 < a → Z p l e R s m args below meth c nL A D Q cells slots ws lv (pc + 3) st) : Z p l e R s m args below meth c nL A D Q cells slots ws lv pc (.int (iI a) :: st) := by
  intro H locs ls hP hD hS hl
  have z0 : inr 0 := ⟨by decide, by decide⟩
  refine lv_if_le C.1.1 C.1.2.1 hd ht ?_ ?_
  · rw [← iI_0]
    exact (fun h => kt ((iI_le ha z0).mp h) H locs ls hP hD hS hl)
  · rw [← iI_0]
    exact (fun h => kf (Int.not_lt.mp (fun z => h ((iI_le ha z0).mpr (by omega)))) H locs ls hP hD hS hl)
theorem Z.getf (C : Cx p s m args meth c nL A D cI cJ cL cc Ts own) (q0 k0 : Nat) {Cn : String} {T : u_T} {N ci i : Nat} {a : Nat} {fs : List Value} (hin : ∀ w ∈ u_ws Cn T N, w ∈ Ts) (he : ws[q0]? = some (a, .inr (ci, fs))) (hc : vwCl[ci]? = some (Cn, T, N)) (hk : k0 < N) (hlink : Cond.fieldLink own i (T k0).1 (T k0).2.1 (T k0).2.2.1 ∈ Ts) {v : Value} (hv : fs[k0]? = some v) (hd : decode cc pc = .ok (.getfield i, 3)) (k : Z p l e R s m args below meth c nL A D Q cells slots ws lv (pc + 3) (v :: st)) : Z p l e R s m args below meth c nL A D Q cells slots ws lv pc (.ref a :: st) := by
  intro H locs ls hP hD hS hl
  exact va_get (D := D) C.1.1 C.1.2.1 C.1.2.2.2.2 hin C.1.2.2.2.1 C.2.1 hP q0 he hc k0 hk (C.1.2.2.2.2 _ hlink) (fun _ h9 => h9) hv hd (k H locs ls hP hD hS hl)
theorem Z.getfN (C : Cx p s m args meth c nL A D cI cJ cL cc Ts own) (q0 k0 : Nat) {Cn : String} {T : u_T} {N ci i : Nat} {a : Nat} {fs : List Value} (hin : ∀ w ∈ u_ws Cn T N, w ∈ Ts) (he : ws[q0]? = some (a, .inr (ci, fs))) (hc : vwCl[ci]? = some (Cn, T, N)) (hk : k0 < N) {host : String} (hlink : (own, i, (T k0).1, (T k0).2.1, (T k0).2.2.1, host) ∈ zNF) {v : Value} (hv : fs[k0]? = some v) (hd : decode cc pc = .ok (.getfield i, 3)) (k : Z p l e R s m args below meth c nL A D Q cells slots ws lv (pc + 3) (v :: st)) : Z p l e R s m args below meth c nL A D Q cells slots ws lv pc (.ref a :: st) := by
  intro H locs ls hP hD hS hl
  exact va_getN (D := D) C.1.1 C.1.2.1 C.1.2.2.2.2 hin C.1.2.2.2.1 C.2.1 hP q0 he hc k0 hk (va_Nw.use rfl (C.2.2.2.2.1.2.1 _ hlink)) (fun _ h9 => h9) hv hd (k H locs ls hP hD hS hl)
theorem Z.putf (C : Cx p s m args meth c nL A D cI cJ cL cc Ts own) (q0 k0 : Nat) {Cn : String} {T : u_T} {N ci i : Nat} {a : Nat} {fs : List Value} {ws' : va_W} (hin : ∀ w ∈ u_ws Cn T N, w ∈ Ts) (he : ws[q0]? = some (a, .inr (ci, fs))) (hc : vwCl[ci]? = some (Cn, T, N)) (hk : k0 < N) (ty0 : Nat → FieldType) (hty : ∀ k, k < N → parseFieldDescriptor (T k).2.2.1 = some (ty0 k)) (hnm : ∀ a, a < N → ∀ b, b < N → a ≠ b → (T a).2.1 ≠ (T b).2.1) (hlink : Cond.fieldLink own i (T k0).1 (T k0).2.1 (T k0).2.2.1 ∈ Ts) (hfin : (T k0).2.2.2 = false) {ty : FieldType} {v : Value} (hdd : parseFieldDescriptor (T k0).2.2.1 = some ty) (hn : narrow ty v = v) (hfit : fits ty v = true) (hl0 : k0 < fs.length) (hd : decode cc pc = .ok (.putfield i, 3)) (hws : ws.set q0 (a, .inr (ci, fs.set k0 v)) = ws') (k : Z p l e R s m args below meth c nL A D Q cells slots (ws') lv (pc + 3) st) : Z p l e R s m args below meth c nL A D Q cells slots ws lv pc (v :: .ref a :: st) := by
  intro H locs ls hP hD hS hl
  subst hws
  exact va_put (D := D) C.1.1 C.1.2.1 C.1.2.2.2.2 hin ty0 hty hnm C.1.2.2.2.1 C.2.1 hP hD hS q0 he hc k0 hk (C.1.2.2.2.2 _ hlink) (fun _ h9 => h9) hfin hdd hn hfit hl0 hd (fun H1 locs1 hP1 hD1 hS1 => k H1 locs1 ls hP1 hD1 hS1 hl)
theorem Z.putfN (C : Cx p s m args meth c nL A D cI cJ cL cc Ts own) (q0 k0 : Nat) {Cn : String} {T : u_T} {N ci i : Nat} {a : Nat} {fs : List Value} {ws' : va_W} (hin : ∀ w ∈ u_ws Cn T N, w ∈ Ts) (he : ws[q0]? = some (a, .inr (ci, fs))) (hc : vwCl[ci]? = some (Cn, T, N)) (hk : k0 < N) (ty0 : Nat → FieldType) (hty : ∀ k, k < N → parseFieldDescriptor (T k).2.2.1 = some (ty0 k)) (hnm : ∀ a, a < N → ∀ b, b < N → a ≠ b → (T a).2.1 ≠ (T b).2.1) {host : String} (hlink : (own, i, (T k0).1, (T k0).2.1, (T k0).2.2.1, host) ∈ zNF) (hfin : (T k0).2.2.2 = false) {ty : FieldType} {v : Value} (hdd : parseFieldDescriptor (T k0).2.2.1 = some ty) (hn : narrow ty v = v) (hfit : fits ty v = true) (hl0 : k0 < fs.length) (hd : decode cc pc = .ok (.putfield i, 3)) (hws : ws.set q0 (a, .inr (ci, fs.set k0 v)) = ws') (k : Z p l e R s m args below meth c nL A D Q cells slots (ws') lv (pc + 3) st) : Z p l e R s m args below meth c nL A D Q cells slots ws lv pc (v :: .ref a :: st) := by
  intro H locs ls hP hD hS hl
  subst hws
  exact va_putN (D := D) C.1.1 C.1.2.1 C.1.2.2.2.2 hin ty0 hty hnm C.1.2.2.2.1 C.2.1 hP hD hS q0 he hc k0 hk (va_Nw.use rfl (C.2.2.2.2.1.2.1 _ hlink)) (fun _ h9 => h9) hfin hdd hn hfit hl0 hd (fun H1 locs1 hP1 hD1 hS1 => k H1 locs1 ls hP1 hD1 hS1 hl)
theorem Z.putfF (C : Cx p s m args meth c nL A D cI cJ cL cc Ts own) (q0 k0 : Nat) {Cn : String} {T : u_T} {N ci i : Nat} {a : Nat} {fs : List Value} {ws' : va_W} (hin : ∀ w ∈ u_ws Cn T N, w ∈ Ts) (he : ws[q0]? = some (a, .inr (ci, fs))) (hc : vwCl[ci]? = some (Cn, T, N)) (hk : k0 < N) (ty0 : Nat → FieldType) (hty : ∀ k, k < N → parseFieldDescriptor (T k).2.2.1 = some (ty0 k)) (hnm : ∀ a, a < N → ∀ b, b < N → a ≠ b → (T a).2.1 ≠ (T b).2.1) (hlink : Cond.fieldLink own i (T k0).1 (T k0).2.1 (T k0).2.2.1 ∈ Ts) (hfin : (T k0).2.2.2 = true) (hin2 : meth.name = "<init>") (hdecl : (T k0).1 = own) {ty : FieldType} {v : Value} (hdd : parseFieldDescriptor (T k0).2.2.1 = some ty) (hn : narrow ty v = v) (hfit : fits ty v = true) (hl0 : k0 < fs.length) (hd : decode cc pc = .ok (.putfield i, 3)) (hws : ws.set q0 (a, .inr (ci, fs.set k0 v)) = ws') (k : Z p l e R s m args below meth c nL A D Q cells slots (ws') lv (pc + 3) st) : Z p l e R s m args below meth c nL A D Q cells slots ws lv pc (v :: .ref a :: st) := by
  intro H locs ls hP hD hS hl
  subst hws
  exact va_putF (D := D) C.1.1 C.1.2.1 C.1.2.2.2.2 hin ty0 hty hnm C.1.2.2.2.1 C.2.1 hP hD hS q0 he hc k0 hk (C.1.2.2.2.2 _ hlink) (fun _ h9 => h9) hfin hin2 hdecl hdd hn hfit hl0 hd (fun H1 locs1 hP1 hD1 hS1 => k H1 locs1 ls hP1 hD1 hS1 hl)
theorem Z.iald (C : Cx p s m args meth c nL A D cI cJ cL cc Ts own) (q0 : Nat) {a n : Nat} {f : Int → Int} {i : Int} (he : ws[q0]? = some (a, aI cI n f)) (h0 : 0 ≤ i) (h1 : i < n) (hn : n ≤ 2147483647) (hd : decode cc pc = .ok (.iaload, 1)) (k : Z p l e R s m args below meth c nL A D Q cells slots ws lv (pc + 1) (.int (iI (f i)) :: st)) : Z p l e R s m args below meth c nL A D Q cells slots ws lv pc (.int (iI i) :: .ref a :: st) := by
  intro H locs ls hP hD hS hl
  refine va_iald (D := D) C.1.1 C.1.2.1 C.2.1 hP q0 0 he rfl (iI_in h0 h1 hn) hd ?_
  rw [iI_clamp h0 (by omega)]
  exact k H locs ls hP hD hS hl
theorem Z.iast (C : Cx p s m args meth c nL A D cI cJ cL cc Ts own) (q0 : Nat) {a n : Nat} {f : Int → Int} {i x : Int} {ws' : va_W} (he : ws[q0]? = some (a, aI cI n f)) (h0 : 0 ≤ i) (h1 : i < n) (hn : n ≤ 2147483647) (hd : decode cc pc = .ok (.iastore, 1)) (hws : ws.set q0 (a, aI cI n (zset f i x)) = ws') (k : Z p l e R s m args below meth c nL A D Q cells slots (ws') lv (pc + 1) st) : Z p l e R s m args below meth c nL A D Q cells slots ws lv pc (.int (iI x) :: .int (iI i) :: .ref a :: st) := by
  intro H locs ls hP hD hS hl
  subst hws
  refine va_iast (D := D) C.1.1 C.1.2.1 C.2.1 hP hD hS q0 0 he rfl (iI_in h0 h1 hn) hd (fun H1 locs1 hP1 hD1 hS1 => ?_)
  rw [aI_upd cI n f h0 (by omega)] at hP1 hD1
  exact k H1 locs1 ls hP1 hD1 hS1 hl
theorem Z.aald (C : Cx p s m args meth c nL A D cI cJ cL cc Ts own) (q0 : Nat) {a n : Nat} {g : Nat → Nat} {i : Int} (he : ws[q0]? = some (a, aR cJ n g)) (h0 : 0 ≤ i) (h1 : i < n) (hn : n ≤ 2147483647) (hd : decode cc pc = .ok (.aaload, 1)) (k : Z p l e R s m args below meth c nL A D Q cells slots ws lv (pc + 1) (.ref (g i.toNat) :: st)) : Z p l e R s m args below meth c nL A D Q cells slots ws lv pc (.int (iI i) :: .ref a :: st) := by
  intro H locs ls hP hD hS hl
  have hin := iI_in h0 h1 hn
  have hlt : (iI i).toNatClampNeg < n := Nat.not_le.mp fun q => hin (Or.inr q)
  have hq := hP q0 _ he
  have hi := iI_clampN h0 (show i ≤ 2147483647 by omega)
  refine W.aald (v := .ref (g (iI i).toNatClampNeg)) (ty := .array .int) C.1.1 C.1.2.1 hq ((C.2.1.2 1 _ rfl).1 n (fun j => va_rf (some (g j)))) rfl (fun q => by cases q) (by show ¬ (iI i < 0 ∨ (arrV _ _ _).slots.size ≤ _); rw [arrV_size]; exact hin) (by show (arrV _ _ _).slots[_]? = _; rw [arrV_read _ _ hlt]; rfl) rfl rfl hd ?_
  rw [hi]
  exact k H locs ls hP hD hS hl
end ZR
end
section
section ZE
variable {p : Program} {l : Launch} {e : Env} {R : Room} {s : State} {m : MethodId} {args : Array Value} {below : List Frame} {meth : Method} {c : Code} {nL : Nat} {A : Nat → Prop} {D : va_G} {Q : State → Prop} {cells slots : Nat} {ws : va_W} {lv : List Value} {pc : Nat} {st : List Value} {cI cJ cL : ClassId} {cc : ByteArray} {Ts : List Cond} {own : String}
theorem Z.widen {k n : Nat} (h1 : cells ≤ k) (h2 : slots ≤ n) (kk : Z p l e R s m args below meth c nL A D Q k n ws lv pc st) : Z p l e R s m args below meth c nL A D Q cells slots ws lv pc st :=
  fun H locs ls hP hD hS hl => W.widen h1 h2 (kk H locs ls hP hD hS hl)
theorem Z.as {v : Value} {v' : Value} (h : v = v') (k : Z p l e R s m args below meth c nL A D Q cells slots ws lv pc (v' :: st)) : Z p l e R s m args below meth c nL A D Q cells slots ws lv pc (v :: st) := by
  rw [h]; exact k
/-- the answer is an int -/
theorem Z.iret {sz : Nat} {ws0 : va_W} {post : Int → va_W → Prop} (C : Cx p s m args meth c nL (va_A ws0 sz) D cI cJ cL cc Ts own) (hr : meth.sig.returnType = some .int) {r : Int} (hd : decode cc pc = .ok (.ireturn, 1)) (hp : post r ws) : Z p l e R s m args below meth c nL (va_A ws0 sz) D (QI below args s D ws0 sz post) 0 0 ws lv pc [.int (iI r)] := by
  intro H locs ls hP hD hS hl
  exact W.iret (v := iI r) C.1.1 C.1.2.1 hr (fun t ht hW => ⟨⟨iI r, ws, rfl, ⟨r, rfl, hp⟩, by rw [ht]; exact hP, hD⟩, hS.F ht⟩) hS.2.2 hd C.2.2.2.1
theorem Z.zret {sz : Nat} {ws0 : va_W} {post : Int → va_W → Prop} (C : Cx p s m args meth c nL (va_A ws0 sz) D cI cJ cL cc Ts own) (hr : meth.sig.returnType = some .boolean) {r : Int} (h01 : r = 0 ∨ r = 1) (hd : decode cc pc = .ok (.ireturn, 1)) (hp : post r ws) : Z p l e R s m args below meth c nL (va_A ws0 sz) D (QI below args s D ws0 sz post) 0 0 ws lv pc [.int (iI r)] := by
  intro H locs ls hP hD hS hl
  have hn : narrow .boolean (.int (iI r)) = .int (iI r) := by rcases h01 with rfl | rfl <;> rfl
  exact W.zret (v := iI r) C.1.1 C.1.2.1 hr hn (fun t ht hW => ⟨⟨iI r, ws, rfl, ⟨r, rfl, hp⟩, by rw [ht]; exact hP, hD⟩, hS.F ht⟩) hS.2.2 hd C.2.2.2.1
theorem Z.vret {sz : Nat} {ws0 : va_W} {post : va_W → Prop} (C : Cx p s m args meth c nL (va_A ws0 sz) D cI cJ cL cc Ts own) (hr : meth.sig.returnType = none) (hd : decode cc pc = .ok (.return_, 1)) (hp : post ws) : Z p l e R s m args below meth c nL (va_A ws0 sz) D (QV below args s D ws0 sz post) 0 0 ws lv pc [] := by
  intro H locs ls hP hD hS hl
  exact W.vret C.1.1 C.1.2.1 hr (fun t ht hW => ⟨⟨ws, rfl, hp, by rw [ht]; exact hP, hD⟩, hS.F ht⟩) hS.2.2 hd C.2.2.2.1
/-- what a callee may ask -/
theorem Z.pu (C : Cx p s m args meth c nL A D cI cJ cL cc Ts own) {wr wc : va_W} {H : Heap} {locs : List Loc} (hP : va_P D vwCl (wr ++ wc) H) (hD : va_D A (wr ++ wc)) (hS : va_S A s.heap H locs) : ∀ U : State, U.heap = H → s.WarmedH U.vm → PU D cI cJ cL wc H.size U := by
  intro U hU hW
  refine ⟨by rw [hU], by rw [hU]; exact (zsplit hP).2, va_K.moved hW.alike C.2.1, C.2.2.2.2.1.warm hW, (zsplitD hD).2.weaken (fun _ _ _ _ => trivial), ?_⟩
  rw [hU]
  exact ((C.2.2.2.2.2.kept hS.2.1).moved hW.alike).narrow (zfree hD hS C.2.2.1)
theorem Z.coreI (C : Cx p s m args meth c nL A D cI cJ cL cc Ts own) {wr wc : va_W} {post : Int → va_W → Prop} {a : Array Value} {rest : List Value}
    (hr : ∀ (H : Heap) (locs : List Loc) (ls : Array Slot), va_P D vwCl (wr ++ wc) H → ls.size = nL → (∀ U : State, U.heap = H → s.WarmedH U.vm → PU D cI cJ cL wc H.size U) → va_Run p l e R s m args below meth c H locs cells slots 0 0 (F0 m pc ls st) rest (va_Qi (fun (r' : Int32) (w' : va_W) => ∃ r : Int, r' = iI r ∧ post r w') (fun w' t => va_P D vwCl w' t.heap ∧ va_D (va_A wc H.size) w') (va_A wc H.size) a) (va_A wc H.size))
    (k : ∀ (r : Int) (w' : va_W), post r w' → Z p l e R s m args below meth c nL A D Q cells slots (wr ++ w') lv (pc + 3) (.int (iI r) :: rest)) : Z p l e R s m args below meth c nL A D Q cells slots (wr ++ wc) lv pc st := by
  intro H locs ls hP hD hS hl
  have hF := zfree hD hS C.2.2.1
  refine va_calli (hr H locs ls hP hl.1 (Z.pu C hP hD hS)) hS (fun q _ h => hF q h) hF (fun r u t H1 locs1 ht hvm hw hB hz1 hk1 hS1 => ?_)
  obtain ⟨r0, rfl, hp⟩ := hw
  obtain ⟨hP1, hD1⟩ := hB
  rw [ht] at hP1
  obtain ⟨hP2, hD2⟩ := zjoin hP hD hk1 hF hP1 hD1
  exact k r0 u hp H1 locs1 ls hP2 hD2 hS1 hl
theorem Z.coreV (C : Cx p s m args meth c nL A D cI cJ cL cc Ts own) {wr wc : va_W} {post : va_W → Prop} {a : Array Value} {rest : List Value}
    (hr : ∀ (H : Heap) (locs : List Loc) (ls : Array Slot), va_P D vwCl (wr ++ wc) H → ls.size = nL → (∀ U : State, U.heap = H → s.WarmedH U.vm → PU D cI cJ cL wc H.size U) → va_Run p l e R s m args below meth c H locs cells slots 0 0 (F0 m pc ls st) rest (va_Qv (fun (w' : va_W) => post w') (fun w' t => va_P D vwCl w' t.heap ∧ va_D (va_A wc H.size) w') (va_A wc H.size) a) (va_A wc H.size))
    (k : ∀ (w' : va_W), post w' → Z p l e R s m args below meth c nL A D Q cells slots (wr ++ w') lv (pc + 3) rest) : Z p l e R s m args below meth c nL A D Q cells slots (wr ++ wc) lv pc st := by
  intro H locs ls hP hD hS hl
  have hF := zfree hD hS C.2.2.1
  refine va_callv (hr H locs ls hP hl.1 (Z.pu C hP hD hS)) hS (fun q _ h => hF q h) hF (fun u t H1 locs1 ht hvm hw hB hz1 hk1 hS1 => ?_)
  obtain ⟨hP1, hD1⟩ := hB
  rw [ht] at hP1
  obtain ⟨hP2, hD2⟩ := zjoin hP hD hk1 hF hP1 hD1
  exact k u hw H1 locs1 ls hP2 hD2 hS1 hl

theorem Z.cVIf (C : Cx p s m args meth c nL A D cI cJ cL cc Ts own) {rm : Room} {y : MethodName} {w w9 : List Cond} {bytes : ByteArray} {maxL i : Nat} {ret : Option FieldType} {As rest : List Value} {wr wc : va_W} {post : Int → va_W → Prop} (q0 : Nat) {b ci N : Nat} {fs : List Value} {Cn : String} {T : u_T} (n : Nat) (hM : CI l y w rm (.ref b :: As) D cI cJ cL wc post) (he : wc[q0]? = some (b, .inr (ci, fs))) (hc : vwCl[ci]? = some (Cn, T, N)) (hT : GoodIn Ts (wsV own i Cn y w)) (hw : w = Cond.code y bytes maxL ret :: w9) (hrc : rm.cells = 0) (hrs : rm.slots = 0) (hdy : y.cls = Cn ∧ y.cls ≠ "java/lang/invoke/MethodHandle" ∧ y.cls ≠ "java/lang/invoke/VarHandle" ∧ (parseMethodDescriptor y.desc).map (fun d => d.parameters.length) = some n) (hR : rm.frames + 1 ≤ R.frames ∧ 8 + (maxL + 11) + rm.locals ≤ R.locals) (hn : As.length = n) (hst : st = As.reverse ++ .ref b :: rest) (hcat : (rest.map fun v => v.category).sum ≤ 8) (hcr : cells ≤ R.cells ∧ slots ≤ R.slots) (hd : decode cc pc = .ok (.invokevirtual i, 3)) (k : ∀ (r : Int) (w' : va_W), post r w' → Z p l e R s m args below meth c nL A D Q cells slots (wr ++ w') lv (pc + 3) (.int (iI r) :: rest)) : Z p l e R s m args below meth c nL A D Q cells slots (wr ++ wc) lv pc st := by
  subst hst
  refine Z.coreI C (a := (Value.ref b :: As).toArray) (fun H locs ls hP hsz hpu => ?_) k
  exact va_runV C.1 (hM H.size) (cwV n C.1.2.2.2.2 hT hw hrc hrs hdy hR) ⟨PU.blind, va_recv C.2.1 (zsplit hP).2 hc he, fun U hU hW => ⟨rfl, hpu U hU hW⟩⟩ rfl hn hsz rfl (lv_room hcat) hd hcr
theorem Z.cVI (C : Cx p s m args meth c nL A D cI cJ cL cc Ts own) {rm : Room} {y : MethodName} {w w9 : List Cond} {bytes : ByteArray} {maxL i : Nat} {ret : Option FieldType} {As rest : List Value} {wc : va_W} {post : Int → va_W → Prop} (q0 : Nat) {b ci N : Nat} {fs : List Value} {Cn : String} {T : u_T} (n : Nat) (hM : CI l y w rm (.ref b :: As) D cI cJ cL wc post) (he : wc[q0]? = some (b, .inr (ci, fs))) (hc : vwCl[ci]? = some (Cn, T, N)) (hT : GoodIn Ts (wsV own i Cn y w)) (hw : w = Cond.code y bytes maxL ret :: w9) (hrc : rm.cells = 0) (hrs : rm.slots = 0) (hdy : y.cls = Cn ∧ y.cls ≠ "java/lang/invoke/MethodHandle" ∧ y.cls ≠ "java/lang/invoke/VarHandle" ∧ (parseMethodDescriptor y.desc).map (fun d => d.parameters.length) = some n) (hR : rm.frames + 1 ≤ R.frames ∧ 8 + (maxL + 11) + rm.locals ≤ R.locals) (hn : As.length = n) (hst : st = As.reverse ++ .ref b :: rest) (hcat : (rest.map fun v => v.category).sum ≤ 8) (hcr : cells ≤ R.cells ∧ slots ≤ R.slots) (hd : decode cc pc = .ok (.invokevirtual i, 3)) (k : ∀ (r : Int) (w' : va_W), post r w' → Z p l e R s m args below meth c nL A D Q cells slots w' lv (pc + 3) (.int (iI r) :: rest)) : Z p l e R s m args below meth c nL A D Q cells slots wc lv pc st := Z.cVIf (wr := []) C q0 n hM he hc hT hw hrc hrs hdy hR hn hst hcat hcr hd k
theorem Z.cVId (C : Cx p s m args meth c nL A D cI cJ cL cc Ts own) {rm : Room} {y : MethodName} {w w9 : List Cond} {bytes : ByteArray} {maxL i : Nat} {ret : Option FieldType} {As rest : List Value} {wc ws0 : va_W} {r0 : Int} (q0 : Nat) {b ci N : Nat} {fs : List Value} {Cn : String} {T : u_T} (n : Nat) (hM : CI l y w rm (.ref b :: As) D cI cJ cL wc (fun r w' => r = r0 ∧ w' = ws0)) (he : wc[q0]? = some (b, .inr (ci, fs))) (hc : vwCl[ci]? = some (Cn, T, N)) (hT : GoodIn Ts (wsV own i Cn y w)) (hw : w = Cond.code y bytes maxL ret :: w9) (hrc : rm.cells = 0) (hrs : rm.slots = 0) (hdy : y.cls = Cn ∧ y.cls ≠ "java/lang/invoke/MethodHandle" ∧ y.cls ≠ "java/lang/invoke/VarHandle" ∧ (parseMethodDescriptor y.desc).map (fun d => d.parameters.length) = some n) (hR : rm.frames + 1 ≤ R.frames ∧ 8 + (maxL + 11) + rm.locals ≤ R.locals) (hn : As.length = n) (hst : st = As.reverse ++ .ref b :: rest) (hcat : (rest.map fun v => v.category).sum ≤ 8) (hcr : cells ≤ R.cells ∧ slots ≤ R.slots) (hd : decode cc pc = .ok (.invokevirtual i, 3)) (k : Z p l e R s m args below meth c nL A D Q cells slots ws0 lv (pc + 3) (.int (iI r0) :: rest)) : Z p l e R s m args below meth c nL A D Q cells slots wc lv pc st := Z.cVI C q0 n hM he hc hT hw hrc hrs hdy hR hn hst hcat hcr hd (fun r w' h => by rw [h.1, h.2]; exact k)
theorem Z.cVVf (C : Cx p s m args meth c nL A D cI cJ cL cc Ts own) {rm : Room} {y : MethodName} {w w9 : List Cond} {bytes : ByteArray} {maxL i : Nat} {ret : Option FieldType} {As rest : List Value} {wr wc : va_W} {post : va_W → Prop} (q0 : Nat) {b ci N : Nat} {fs : List Value} {Cn : String} {T : u_T} (n : Nat) (hM : CV l y w rm (.ref b :: As) D cI cJ cL wc post) (he : wc[q0]? = some (b, .inr (ci, fs))) (hc : vwCl[ci]? = some (Cn, T, N)) (hT : GoodIn Ts (wsV own i Cn y w)) (hw : w = Cond.code y bytes maxL ret :: w9) (hrc : rm.cells = 0) (hrs : rm.slots = 0) (hdy : y.cls = Cn ∧ y.cls ≠ "java/lang/invoke/MethodHandle" ∧ y.cls ≠ "java/lang/invoke/VarHandle" ∧ (parseMethodDescriptor y.desc).map (fun d => d.parameters.length) = some n) (hR : rm.frames + 1 ≤ R.frames ∧ 8 + (maxL + 11) + rm.locals ≤ R.locals) (hn : As.length = n) (hst : st = As.reverse ++ .ref b :: rest) (hcat : (rest.map fun v => v.category).sum ≤ 8) (hcr : cells ≤ R.cells ∧ slots ≤ R.slots) (hd : decode cc pc = .ok (.invokevirtual i, 3)) (k : ∀ (w' : va_W), post w' → Z p l e R s m args below meth c nL A D Q cells slots (wr ++ w') lv (pc + 3) rest) : Z p l e R s m args below meth c nL A D Q cells slots (wr ++ wc) lv pc st := by
  subst hst
  refine Z.coreV C (a := (Value.ref b :: As).toArray) (fun H locs ls hP hsz hpu => ?_) k
  exact va_runV C.1 (hM H.size) (cwV n C.1.2.2.2.2 hT hw hrc hrs hdy hR) ⟨PU.blind, va_recv C.2.1 (zsplit hP).2 hc he, fun U hU hW => ⟨rfl, hpu U hU hW⟩⟩ rfl hn hsz rfl (lv_room hcat) hd hcr
theorem Z.cVV (C : Cx p s m args meth c nL A D cI cJ cL cc Ts own) {rm : Room} {y : MethodName} {w w9 : List Cond} {bytes : ByteArray} {maxL i : Nat} {ret : Option FieldType} {As rest : List Value} {wc : va_W} {post : va_W → Prop} (q0 : Nat) {b ci N : Nat} {fs : List Value} {Cn : String} {T : u_T} (n : Nat) (hM : CV l y w rm (.ref b :: As) D cI cJ cL wc post) (he : wc[q0]? = some (b, .inr (ci, fs))) (hc : vwCl[ci]? = some (Cn, T, N)) (hT : GoodIn Ts (wsV own i Cn y w)) (hw : w = Cond.code y bytes maxL ret :: w9) (hrc : rm.cells = 0) (hrs : rm.slots = 0) (hdy : y.cls = Cn ∧ y.cls ≠ "java/lang/invoke/MethodHandle" ∧ y.cls ≠ "java/lang/invoke/VarHandle" ∧ (parseMethodDescriptor y.desc).map (fun d => d.parameters.length) = some n) (hR : rm.frames + 1 ≤ R.frames ∧ 8 + (maxL + 11) + rm.locals ≤ R.locals) (hn : As.length = n) (hst : st = As.reverse ++ .ref b :: rest) (hcat : (rest.map fun v => v.category).sum ≤ 8) (hcr : cells ≤ R.cells ∧ slots ≤ R.slots) (hd : decode cc pc = .ok (.invokevirtual i, 3)) (k : ∀ (w' : va_W), post w' → Z p l e R s m args below meth c nL A D Q cells slots w' lv (pc + 3) rest) : Z p l e R s m args below meth c nL A D Q cells slots wc lv pc st := Z.cVVf (wr := []) C q0 n hM he hc hT hw hrc hrs hdy hR hn hst hcat hcr hd k
theorem Z.cVVd (C : Cx p s m args meth c nL A D cI cJ cL cc Ts own) {rm : Room} {y : MethodName} {w w9 : List Cond} {bytes : ByteArray} {maxL i : Nat} {ret : Option FieldType} {As rest : List Value} {wc ws0 : va_W} (q0 : Nat) {b ci N : Nat} {fs : List Value} {Cn : String} {T : u_T} (n : Nat) (hM : CV l y w rm (.ref b :: As) D cI cJ cL wc (fun w' => w' = ws0)) (he : wc[q0]? = some (b, .inr (ci, fs))) (hc : vwCl[ci]? = some (Cn, T, N)) (hT : GoodIn Ts (wsV own i Cn y w)) (hw : w = Cond.code y bytes maxL ret :: w9) (hrc : rm.cells = 0) (hrs : rm.slots = 0) (hdy : y.cls = Cn ∧ y.cls ≠ "java/lang/invoke/MethodHandle" ∧ y.cls ≠ "java/lang/invoke/VarHandle" ∧ (parseMethodDescriptor y.desc).map (fun d => d.parameters.length) = some n) (hR : rm.frames + 1 ≤ R.frames ∧ 8 + (maxL + 11) + rm.locals ≤ R.locals) (hn : As.length = n) (hst : st = As.reverse ++ .ref b :: rest) (hcat : (rest.map fun v => v.category).sum ≤ 8) (hcr : cells ≤ R.cells ∧ slots ≤ R.slots) (hd : decode cc pc = .ok (.invokevirtual i, 3)) (k : Z p l e R s m args below meth c nL A D Q cells slots ws0 lv (pc + 3) rest) : Z p l e R s m args below meth c nL A D Q cells slots wc lv pc st := Z.cVV C q0 n hM he hc hT hw hrc hrs hdy hR hn hst hcat hcr hd (fun w' h => by rw [h]; exact k)
theorem Z.cVNIf (C : Cx p s m args meth c nL A D cI cJ cL cc Ts own) {rm : Room} {y : MethodName} {w w9 : List Cond} {bytes : ByteArray} {maxL i : Nat} {ret : Option FieldType} {As rest : List Value} {wr wc : va_W} {post : Int → va_W → Prop} (q0 : Nat) {b ci N : Nat} {fs : List Value} {Cn host : String} {T : u_T} (n : Nat) (hM : CI l y w rm (.ref b :: As) D cI cJ cL wc post) (he : wc[q0]? = some (b, .inr (ci, fs))) (hc : vwCl[ci]? = some (Cn, T, N)) (hT : GoodIn Ts w) (hnest : (own, i, y, host) ∈ zNM) (hini : Cond.initialized y.cls ∈ Ts) (hinst : Cond.instanceMethod y ∈ Ts) (hsel : Cond.selects Cn y y ∈ Ts) (hw : w = Cond.code y bytes maxL ret :: w9) (hrc : rm.cells = 0) (hrs : rm.slots = 0) (hdy : y.cls ≠ "java/lang/invoke/MethodHandle" ∧ y.cls ≠ "java/lang/invoke/VarHandle" ∧ (parseMethodDescriptor y.desc).map (fun d => d.parameters.length) = some n) (hR : rm.frames + 1 ≤ R.frames ∧ 8 + (maxL + 11) + rm.locals ≤ R.locals) (hn : As.length = n) (hst : st = As.reverse ++ .ref b :: rest) (hcat : (rest.map fun v => v.category).sum ≤ 8) (hcr : cells ≤ R.cells ∧ slots ≤ R.slots) (hd : decode cc pc = .ok (.invokevirtual i, 3)) (k : ∀ (r : Int) (w' : va_W), post r w' → Z p l e R s m args below meth c nL A D Q cells slots (wr ++ w') lv (pc + 3) (.int (iI r) :: rest)) : Z p l e R s m args below meth c nL A D Q cells slots (wr ++ wc) lv pc st := by
  subst hst
  refine Z.coreI C (a := (Value.ref b :: As).toArray) (fun H locs ls hP hsz hpu => ?_) k
  exact va_runVN C.1 (hM H.size) ⟨va_cnB n C.1.2.2.2.2 hT hw hrc hrs (C.2.2.2.2.1.1 _ hnest) (C.1.2.2.2.2 _ hini) hdy hR, C.1.2.2.2.2 _ hinst, C.1.2.2.2.2 _ hsel⟩ ⟨PU.blind, va_recv C.2.1 (zsplit hP).2 hc he, fun U hU hW => ⟨rfl, hpu U hU hW⟩⟩ rfl hn hsz rfl (lv_room hcat) hd hcr
theorem Z.cVNI (C : Cx p s m args meth c nL A D cI cJ cL cc Ts own) {rm : Room} {y : MethodName} {w w9 : List Cond} {bytes : ByteArray} {maxL i : Nat} {ret : Option FieldType} {As rest : List Value} {wc : va_W} {post : Int → va_W → Prop} (q0 : Nat) {b ci N : Nat} {fs : List Value} {Cn host : String} {T : u_T} (n : Nat) (hM : CI l y w rm (.ref b :: As) D cI cJ cL wc post) (he : wc[q0]? = some (b, .inr (ci, fs))) (hc : vwCl[ci]? = some (Cn, T, N)) (hT : GoodIn Ts w) (hnest : (own, i, y, host) ∈ zNM) (hini : Cond.initialized y.cls ∈ Ts) (hinst : Cond.instanceMethod y ∈ Ts) (hsel : Cond.selects Cn y y ∈ Ts) (hw : w = Cond.code y bytes maxL ret :: w9) (hrc : rm.cells = 0) (hrs : rm.slots = 0) (hdy : y.cls ≠ "java/lang/invoke/MethodHandle" ∧ y.cls ≠ "java/lang/invoke/VarHandle" ∧ (parseMethodDescriptor y.desc).map (fun d => d.parameters.length) = some n) (hR : rm.frames + 1 ≤ R.frames ∧ 8 + (maxL + 11) + rm.locals ≤ R.locals) (hn : As.length = n) (hst : st = As.reverse ++ .ref b :: rest) (hcat : (rest.map fun v => v.category).sum ≤ 8) (hcr : cells ≤ R.cells ∧ slots ≤ R.slots) (hd : decode cc pc = .ok (.invokevirtual i, 3)) (k : ∀ (r : Int) (w' : va_W), post r w' → Z p l e R s m args below meth c nL A D Q cells slots w' lv (pc + 3) (.int (iI r) :: rest)) : Z p l e R s m args below meth c nL A D Q cells slots wc lv pc st := Z.cVNIf (wr := []) C q0 n hM he hc hT hnest hini hinst hsel hw hrc hrs hdy hR hn hst hcat hcr hd k
theorem Z.cVNId (C : Cx p s m args meth c nL A D cI cJ cL cc Ts own) {rm : Room} {y : MethodName} {w w9 : List Cond} {bytes : ByteArray} {maxL i : Nat} {ret : Option FieldType} {As rest : List Value} {wc ws0 : va_W} {r0 : Int} (q0 : Nat) {b ci N : Nat} {fs : List Value} {Cn host : String} {T : u_T} (n : Nat) (hM : CI l y w rm (.ref b :: As) D cI cJ cL wc (fun r w' => r = r0 ∧ w' = ws0)) (he : wc[q0]? = some (b, .inr (ci, fs))) (hc : vwCl[ci]? = some (Cn, T, N)) (hT : GoodIn Ts w) (hnest : (own, i, y, host) ∈ zNM) (hini : Cond.initialized y.cls ∈ Ts) (hinst : Cond.instanceMethod y ∈ Ts) (hsel : Cond.selects Cn y y ∈ Ts) (hw : w = Cond.code y bytes maxL ret :: w9) (hrc : rm.cells = 0) (hrs : rm.slots = 0) (hdy : y.cls ≠ "java/lang/invoke/MethodHandle" ∧ y.cls ≠ "java/lang/invoke/VarHandle" ∧ (parseMethodDescriptor y.desc).map (fun d => d.parameters.length) = some n) (hR : rm.frames + 1 ≤ R.frames ∧ 8 + (maxL + 11) + rm.locals ≤ R.locals) (hn : As.length = n) (hst : st = As.reverse ++ .ref b :: rest) (hcat : (rest.map fun v => v.category).sum ≤ 8) (hcr : cells ≤ R.cells ∧ slots ≤ R.slots) (hd : decode cc pc = .ok (.invokevirtual i, 3)) (k : Z p l e R s m args below meth c nL A D Q cells slots ws0 lv (pc + 3) (.int (iI r0) :: rest)) : Z p l e R s m args below meth c nL A D Q cells slots wc lv pc st := Z.cVNI C q0 n hM he hc hT hnest hini hinst hsel hw hrc hrs hdy hR hn hst hcat hcr hd (fun r w' h => by rw [h.1, h.2]; exact k)
theorem Z.cVNVf (C : Cx p s m args meth c nL A D cI cJ cL cc Ts own) {rm : Room} {y : MethodName} {w w9 : List Cond} {bytes : ByteArray} {maxL i : Nat} {ret : Option FieldType} {As rest : List Value} {wr wc : va_W} {post : va_W → Prop} (q0 : Nat) {b ci N : Nat} {fs : List Value} {Cn host : String} {T : u_T} (n : Nat) (hM : CV l y w rm (.ref b :: As) D cI cJ cL wc post) (he : wc[q0]? = some (b, .inr (ci, fs))) (hc : vwCl[ci]? = some (Cn, T, N)) (hT : GoodIn Ts w) (hnest : (own, i, y, host) ∈ zNM) (hini : Cond.initialized y.cls ∈ Ts) (hinst : Cond.instanceMethod y ∈ Ts) (hsel : Cond.selects Cn y y ∈ Ts) (hw : w = Cond.code y bytes maxL ret :: w9) (hrc : rm.cells = 0) (hrs : rm.slots = 0) (hdy : y.cls ≠ "java/lang/invoke/MethodHandle" ∧ y.cls ≠ "java/lang/invoke/VarHandle" ∧ (parseMethodDescriptor y.desc).map (fun d => d.parameters.length) = some n) (hR : rm.frames + 1 ≤ R.frames ∧ 8 + (maxL + 11) + rm.locals ≤ R.locals) (hn : As.length = n) (hst : st = As.reverse ++ .ref b :: rest) (hcat : (rest.map fun v => v.category).sum ≤ 8) (hcr : cells ≤ R.cells ∧ slots ≤ R.slots) (hd : decode cc pc = .ok (.invokevirtual i, 3)) (k : ∀ (w' : va_W), post w' → Z p l e R s m args below meth c nL A D Q cells slots (wr ++ w') lv (pc + 3) rest) : Z p l e R s m args below meth c nL A D Q cells slots (wr ++ wc) lv pc st := by
  subst hst
  refine Z.coreV C (a := (Value.ref b :: As).toArray) (fun H locs ls hP hsz hpu => ?_) k
  exact va_runVN C.1 (hM H.size) ⟨va_cnB n C.1.2.2.2.2 hT hw hrc hrs (C.2.2.2.2.1.1 _ hnest) (C.1.2.2.2.2 _ hini) hdy hR, C.1.2.2.2.2 _ hinst, C.1.2.2.2.2 _ hsel⟩ ⟨PU.blind, va_recv C.2.1 (zsplit hP).2 hc he, fun U hU hW => ⟨rfl, hpu U hU hW⟩⟩ rfl hn hsz rfl (lv_room hcat) hd hcr
theorem Z.cVNV (C : Cx p s m args meth c nL A D cI cJ cL cc Ts own) {rm : Room} {y : MethodName} {w w9 : List Cond} {bytes : ByteArray} {maxL i : Nat} {ret : Option FieldType} {As rest : List Value} {wc : va_W} {post : va_W → Prop} (q0 : Nat) {b ci N : Nat} {fs : List Value} {Cn host : String} {T : u_T} (n : Nat) (hM : CV l y w rm (.ref b :: As) D cI cJ cL wc post) (he : wc[q0]? = some (b, .inr (ci, fs))) (hc : vwCl[ci]? = some (Cn, T, N)) (hT : GoodIn Ts w) (hnest : (own, i, y, host) ∈ zNM) (hini : Cond.initialized y.cls ∈ Ts) (hinst : Cond.instanceMethod y ∈ Ts) (hsel : Cond.selects Cn y y ∈ Ts) (hw : w = Cond.code y bytes maxL ret :: w9) (hrc : rm.cells = 0) (hrs : rm.slots = 0) (hdy : y.cls ≠ "java/lang/invoke/MethodHandle" ∧ y.cls ≠ "java/lang/invoke/VarHandle" ∧ (parseMethodDescriptor y.desc).map (fun d => d.parameters.length) = some n) (hR : rm.frames + 1 ≤ R.frames ∧ 8 + (maxL + 11) + rm.locals ≤ R.locals) (hn : As.length = n) (hst : st = As.reverse ++ .ref b :: rest) (hcat : (rest.map fun v => v.category).sum ≤ 8) (hcr : cells ≤ R.cells ∧ slots ≤ R.slots) (hd : decode cc pc = .ok (.invokevirtual i, 3)) (k : ∀ (w' : va_W), post w' → Z p l e R s m args below meth c nL A D Q cells slots w' lv (pc + 3) rest) : Z p l e R s m args below meth c nL A D Q cells slots wc lv pc st := Z.cVNVf (wr := []) C q0 n hM he hc hT hnest hini hinst hsel hw hrc hrs hdy hR hn hst hcat hcr hd k
theorem Z.cVNVd (C : Cx p s m args meth c nL A D cI cJ cL cc Ts own) {rm : Room} {y : MethodName} {w w9 : List Cond} {bytes : ByteArray} {maxL i : Nat} {ret : Option FieldType} {As rest : List Value} {wc ws0 : va_W} (q0 : Nat) {b ci N : Nat} {fs : List Value} {Cn host : String} {T : u_T} (n : Nat) (hM : CV l y w rm (.ref b :: As) D cI cJ cL wc (fun w' => w' = ws0)) (he : wc[q0]? = some (b, .inr (ci, fs))) (hc : vwCl[ci]? = some (Cn, T, N)) (hT : GoodIn Ts w) (hnest : (own, i, y, host) ∈ zNM) (hini : Cond.initialized y.cls ∈ Ts) (hinst : Cond.instanceMethod y ∈ Ts) (hsel : Cond.selects Cn y y ∈ Ts) (hw : w = Cond.code y bytes maxL ret :: w9) (hrc : rm.cells = 0) (hrs : rm.slots = 0) (hdy : y.cls ≠ "java/lang/invoke/MethodHandle" ∧ y.cls ≠ "java/lang/invoke/VarHandle" ∧ (parseMethodDescriptor y.desc).map (fun d => d.parameters.length) = some n) (hR : rm.frames + 1 ≤ R.frames ∧ 8 + (maxL + 11) + rm.locals ≤ R.locals) (hn : As.length = n) (hst : st = As.reverse ++ .ref b :: rest) (hcat : (rest.map fun v => v.category).sum ≤ 8) (hcr : cells ≤ R.cells ∧ slots ≤ R.slots) (hd : decode cc pc = .ok (.invokevirtual i, 3)) (k : Z p l e R s m args below meth c nL A D Q cells slots ws0 lv (pc + 3) rest) : Z p l e R s m args below meth c nL A D Q cells slots wc lv pc st := Z.cVNV C q0 n hM he hc hT hnest hini hinst hsel hw hrc hrs hdy hR hn hst hcat hcr hd (fun w' h => by rw [h]; exact k)
theorem Z.cSIf (C : Cx p s m args meth c nL A D cI cJ cL cc Ts own) {rm : Room} {y : MethodName} {w w9 : List Cond} {bytes : ByteArray} {maxL i : Nat} {ret : Option FieldType} {As rest : List Value} {wr wc : va_W} {post : Int → va_W → Prop} (n : Nat) (hM : CI l y w rm As D cI cJ cL wc post) (hT : GoodIn Ts (va_wsS own i y w)) (hw : w = Cond.code y bytes maxL ret :: w9) (hrc : rm.cells = 0) (hrs : rm.slots = 0) (hdy : y.cls ≠ "java/lang/invoke/MethodHandle" ∧ y.cls ≠ "java/lang/invoke/VarHandle" ∧ (parseMethodDescriptor y.desc).map (fun d => d.parameters.length) = some n) (hR : rm.frames + 1 ≤ R.frames ∧ 8 + (maxL + 11) + rm.locals ≤ R.locals) (hn : As.length = n) (hst : st = As.reverse ++ rest) (hcat : (rest.map fun v => v.category).sum ≤ 8) (hcr : cells ≤ R.cells ∧ slots ≤ R.slots) (hd : decode cc pc = .ok (.invokestatic i, 3)) (k : ∀ (r : Int) (w' : va_W), post r w' → Z p l e R s m args below meth c nL A D Q cells slots (wr ++ w') lv (pc + 3) (.int (iI r) :: rest)) : Z p l e R s m args below meth c nL A D Q cells slots (wr ++ wc) lv pc st := by
  subst hst
  refine Z.coreI C (a := As.toArray) (fun H locs ls hP hsz hpu => ?_) k
  exact va_runS C.1 (hM H.size) (va_cwS n C.1.2.2.2.2 hT hw hrc hrs hdy hR) ⟨PU.blind, fun U hU hW => ⟨rfl, hpu U hU hW⟩⟩ rfl hn hsz rfl (lv_room hcat) hd hcr
theorem Z.cSI (C : Cx p s m args meth c nL A D cI cJ cL cc Ts own) {rm : Room} {y : MethodName} {w w9 : List Cond} {bytes : ByteArray} {maxL i : Nat} {ret : Option FieldType} {As rest : List Value} {wc : va_W} {post : Int → va_W → Prop} (n : Nat) (hM : CI l y w rm As D cI cJ cL wc post) (hT : GoodIn Ts (va_wsS own i y w)) (hw : w = Cond.code y bytes maxL ret :: w9) (hrc : rm.cells = 0) (hrs : rm.slots = 0) (hdy : y.cls ≠ "java/lang/invoke/MethodHandle" ∧ y.cls ≠ "java/lang/invoke/VarHandle" ∧ (parseMethodDescriptor y.desc).map (fun d => d.parameters.length) = some n) (hR : rm.frames + 1 ≤ R.frames ∧ 8 + (maxL + 11) + rm.locals ≤ R.locals) (hn : As.length = n) (hst : st = As.reverse ++ rest) (hcat : (rest.map fun v => v.category).sum ≤ 8) (hcr : cells ≤ R.cells ∧ slots ≤ R.slots) (hd : decode cc pc = .ok (.invokestatic i, 3)) (k : ∀ (r : Int) (w' : va_W), post r w' → Z p l e R s m args below meth c nL A D Q cells slots w' lv (pc + 3) (.int (iI r) :: rest)) : Z p l e R s m args below meth c nL A D Q cells slots wc lv pc st := Z.cSIf (wr := []) C n hM hT hw hrc hrs hdy hR hn hst hcat hcr hd k
theorem Z.cSId (C : Cx p s m args meth c nL A D cI cJ cL cc Ts own) {rm : Room} {y : MethodName} {w w9 : List Cond} {bytes : ByteArray} {maxL i : Nat} {ret : Option FieldType} {As rest : List Value} {wc ws0 : va_W} {r0 : Int} (n : Nat) (hM : CI l y w rm As D cI cJ cL wc (fun r w' => r = r0 ∧ w' = ws0)) (hT : GoodIn Ts (va_wsS own i y w)) (hw : w = Cond.code y bytes maxL ret :: w9) (hrc : rm.cells = 0) (hrs : rm.slots = 0) (hdy : y.cls ≠ "java/lang/invoke/MethodHandle" ∧ y.cls ≠ "java/lang/invoke/VarHandle" ∧ (parseMethodDescriptor y.desc).map (fun d => d.parameters.length) = some n) (hR : rm.frames + 1 ≤ R.frames ∧ 8 + (maxL + 11) + rm.locals ≤ R.locals) (hn : As.length = n) (hst : st = As.reverse ++ rest) (hcat : (rest.map fun v => v.category).sum ≤ 8) (hcr : cells ≤ R.cells ∧ slots ≤ R.slots) (hd : decode cc pc = .ok (.invokestatic i, 3)) (k : Z p l e R s m args below meth c nL A D Q cells slots ws0 lv (pc + 3) (.int (iI r0) :: rest)) : Z p l e R s m args below meth c nL A D Q cells slots wc lv pc st := Z.cSI C n hM hT hw hrc hrs hdy hR hn hst hcat hcr hd (fun r w' h => by rw [h.1, h.2]; exact k)
theorem Z.cSIp (C : Cx p s m args meth c nL A D cI cJ cL cc Ts own) {rm : Room} {y : MethodName} {w w9 : List Cond} {bytes : ByteArray} {maxL i : Nat} {ret : Option FieldType} {As rest : List Value} {r0 : Int} (n : Nat) (hM : CI l y w rm As D cI cJ cL [] (fun r w' => r = r0 ∧ w' = [])) (hT : GoodIn Ts (va_wsS own i y w)) (hw : w = Cond.code y bytes maxL ret :: w9) (hrc : rm.cells = 0) (hrs : rm.slots = 0) (hdy : y.cls ≠ "java/lang/invoke/MethodHandle" ∧ y.cls ≠ "java/lang/invoke/VarHandle" ∧ (parseMethodDescriptor y.desc).map (fun d => d.parameters.length) = some n) (hR : rm.frames + 1 ≤ R.frames ∧ 8 + (maxL + 11) + rm.locals ≤ R.locals) (hn : As.length = n) (hst : st = As.reverse ++ rest) (hcat : (rest.map fun v => v.category).sum ≤ 8) (hcr : cells ≤ R.cells ∧ slots ≤ R.slots) (hd : decode cc pc = .ok (.invokestatic i, 3)) (k : Z p l e R s m args below meth c nL A D Q cells slots ws lv (pc + 3) (.int (iI r0) :: rest)) : Z p l e R s m args below meth c nL A D Q cells slots ws lv pc st := by
  have q := Z.cSIf (Q := Q) (cells := cells) (slots := slots) (lv := lv) (wr := ws) (wc := []) C n hM hT hw hrc hrs hdy hR hn hst hcat hcr hd (fun r w' h => by rw [h.1, h.2, List.append_nil]; exact k)
  rw [List.append_nil] at q
  exact q
theorem Z.cSVf (C : Cx p s m args meth c nL A D cI cJ cL cc Ts own) {rm : Room} {y : MethodName} {w w9 : List Cond} {bytes : ByteArray} {maxL i : Nat} {ret : Option FieldType} {As rest : List Value} {wr wc : va_W} {post : va_W → Prop} (n : Nat) (hM : CV l y w rm As D cI cJ cL wc post) (hT : GoodIn Ts (va_wsS own i y w)) (hw : w = Cond.code y bytes maxL ret :: w9) (hrc : rm.cells = 0) (hrs : rm.slots = 0) (hdy : y.cls ≠ "java/lang/invoke/MethodHandle" ∧ y.cls ≠ "java/lang/invoke/VarHandle" ∧ (parseMethodDescriptor y.desc).map (fun d => d.parameters.length) = some n) (hR : rm.frames + 1 ≤ R.frames ∧ 8 + (maxL + 11) + rm.locals ≤ R.locals) (hn : As.length = n) (hst : st = As.reverse ++ rest) (hcat : (rest.map fun v => v.category).sum ≤ 8) (hcr : cells ≤ R.cells ∧ slots ≤ R.slots) (hd : decode cc pc = .ok (.invokestatic i, 3)) (k : ∀ (w' : va_W), post w' → Z p l e R s m args below meth c nL A D Q cells slots (wr ++ w') lv (pc + 3) rest) : Z p l e R s m args below meth c nL A D Q cells slots (wr ++ wc) lv pc st := by
  subst hst
  refine Z.coreV C (a := As.toArray) (fun H locs ls hP hsz hpu => ?_) k
  exact va_runS C.1 (hM H.size) (va_cwS n C.1.2.2.2.2 hT hw hrc hrs hdy hR) ⟨PU.blind, fun U hU hW => ⟨rfl, hpu U hU hW⟩⟩ rfl hn hsz rfl (lv_room hcat) hd hcr
theorem Z.cSV (C : Cx p s m args meth c nL A D cI cJ cL cc Ts own) {rm : Room} {y : MethodName} {w w9 : List Cond} {bytes : ByteArray} {maxL i : Nat} {ret : Option FieldType} {As rest : List Value} {wc : va_W} {post : va_W → Prop} (n : Nat) (hM : CV l y w rm As D cI cJ cL wc post) (hT : GoodIn Ts (va_wsS own i y w)) (hw : w = Cond.code y bytes maxL ret :: w9) (hrc : rm.cells = 0) (hrs : rm.slots = 0) (hdy : y.cls ≠ "java/lang/invoke/MethodHandle" ∧ y.cls ≠ "java/lang/invoke/VarHandle" ∧ (parseMethodDescriptor y.desc).map (fun d => d.parameters.length) = some n) (hR : rm.frames + 1 ≤ R.frames ∧ 8 + (maxL + 11) + rm.locals ≤ R.locals) (hn : As.length = n) (hst : st = As.reverse ++ rest) (hcat : (rest.map fun v => v.category).sum ≤ 8) (hcr : cells ≤ R.cells ∧ slots ≤ R.slots) (hd : decode cc pc = .ok (.invokestatic i, 3)) (k : ∀ (w' : va_W), post w' → Z p l e R s m args below meth c nL A D Q cells slots w' lv (pc + 3) rest) : Z p l e R s m args below meth c nL A D Q cells slots wc lv pc st := Z.cSVf (wr := []) C n hM hT hw hrc hrs hdy hR hn hst hcat hcr hd k
theorem Z.cSVd (C : Cx p s m args meth c nL A D cI cJ cL cc Ts own) {rm : Room} {y : MethodName} {w w9 : List Cond} {bytes : ByteArray} {maxL i : Nat} {ret : Option FieldType} {As rest : List Value} {wc ws0 : va_W} (n : Nat) (hM : CV l y w rm As D cI cJ cL wc (fun w' => w' = ws0)) (hT : GoodIn Ts (va_wsS own i y w)) (hw : w = Cond.code y bytes maxL ret :: w9) (hrc : rm.cells = 0) (hrs : rm.slots = 0) (hdy : y.cls ≠ "java/lang/invoke/MethodHandle" ∧ y.cls ≠ "java/lang/invoke/VarHandle" ∧ (parseMethodDescriptor y.desc).map (fun d => d.parameters.length) = some n) (hR : rm.frames + 1 ≤ R.frames ∧ 8 + (maxL + 11) + rm.locals ≤ R.locals) (hn : As.length = n) (hst : st = As.reverse ++ rest) (hcat : (rest.map fun v => v.category).sum ≤ 8) (hcr : cells ≤ R.cells ∧ slots ≤ R.slots) (hd : decode cc pc = .ok (.invokestatic i, 3)) (k : Z p l e R s m args below meth c nL A D Q cells slots ws0 lv (pc + 3) rest) : Z p l e R s m args below meth c nL A D Q cells slots wc lv pc st := Z.cSV C n hM hT hw hrc hrs hdy hR hn hst hcat hcr hd (fun w' h => by rw [h]; exact k)
theorem Z.cSNIf (C : Cx p s m args meth c nL A D cI cJ cL cc Ts own) {rm : Room} {y : MethodName} {w w9 : List Cond} {bytes : ByteArray} {maxL i : Nat} {ret : Option FieldType} {As rest : List Value} {wr wc : va_W} {post : Int → va_W → Prop} {host : String} (n : Nat) (hM : CI l y w rm As D cI cJ cL wc post) (hT : GoodIn Ts w) (hnest : (own, i, y, host) ∈ zNM) (hini : Cond.initialized y.cls ∈ Ts) (hstat : Cond.static y ∈ Ts) (hw : w = Cond.code y bytes maxL ret :: w9) (hrc : rm.cells = 0) (hrs : rm.slots = 0) (hdy : y.cls ≠ "java/lang/invoke/MethodHandle" ∧ y.cls ≠ "java/lang/invoke/VarHandle" ∧ (parseMethodDescriptor y.desc).map (fun d => d.parameters.length) = some n) (hR : rm.frames + 1 ≤ R.frames ∧ 8 + (maxL + 11) + rm.locals ≤ R.locals) (hn : As.length = n) (hst : st = As.reverse ++ rest) (hcat : (rest.map fun v => v.category).sum ≤ 8) (hcr : cells ≤ R.cells ∧ slots ≤ R.slots) (hd : decode cc pc = .ok (.invokestatic i, 3)) (k : ∀ (r : Int) (w' : va_W), post r w' → Z p l e R s m args below meth c nL A D Q cells slots (wr ++ w') lv (pc + 3) (.int (iI r) :: rest)) : Z p l e R s m args below meth c nL A D Q cells slots (wr ++ wc) lv pc st := by
  subst hst
  refine Z.coreI C (a := As.toArray) (fun H locs ls hP hsz hpu => ?_) k
  exact va_runSN C.1 (hM H.size) ⟨va_cnB n C.1.2.2.2.2 hT hw hrc hrs (C.2.2.2.2.1.1 _ hnest) (C.1.2.2.2.2 _ hini) hdy hR, C.1.2.2.2.2 _ hstat, trivial⟩ ⟨PU.blind, fun U hU hW => ⟨rfl, hpu U hU hW⟩⟩ rfl hn hsz rfl (lv_room hcat) hd hcr
theorem Z.cSNI (C : Cx p s m args meth c nL A D cI cJ cL cc Ts own) {rm : Room} {y : MethodName} {w w9 : List Cond} {bytes : ByteArray} {maxL i : Nat} {ret : Option FieldType} {As rest : List Value} {wc : va_W} {post : Int → va_W → Prop} {host : String} (n : Nat) (hM : CI l y w rm As D cI cJ cL wc post) (hT : GoodIn Ts w) (hnest : (own, i, y, host) ∈ zNM) (hini : Cond.initialized y.cls ∈ Ts) (hstat : Cond.static y ∈ Ts) (hw : w = Cond.code y bytes maxL ret :: w9) (hrc : rm.cells = 0) (hrs : rm.slots = 0) (hdy : y.cls ≠ "java/lang/invoke/MethodHandle" ∧ y.cls ≠ "java/lang/invoke/VarHandle" ∧ (parseMethodDescriptor y.desc).map (fun d => d.parameters.length) = some n) (hR : rm.frames + 1 ≤ R.frames ∧ 8 + (maxL + 11) + rm.locals ≤ R.locals) (hn : As.length = n) (hst : st = As.reverse ++ rest) (hcat : (rest.map fun v => v.category).sum ≤ 8) (hcr : cells ≤ R.cells ∧ slots ≤ R.slots) (hd : decode cc pc = .ok (.invokestatic i, 3)) (k : ∀ (r : Int) (w' : va_W), post r w' → Z p l e R s m args below meth c nL A D Q cells slots w' lv (pc + 3) (.int (iI r) :: rest)) : Z p l e R s m args below meth c nL A D Q cells slots wc lv pc st := Z.cSNIf (wr := []) C n hM hT hnest hini hstat hw hrc hrs hdy hR hn hst hcat hcr hd k
theorem Z.cSNId (C : Cx p s m args meth c nL A D cI cJ cL cc Ts own) {rm : Room} {y : MethodName} {w w9 : List Cond} {bytes : ByteArray} {maxL i : Nat} {ret : Option FieldType} {As rest : List Value} {wc ws0 : va_W} {r0 : Int} {host : String} (n : Nat) (hM : CI l y w rm As D cI cJ cL wc (fun r w' => r = r0 ∧ w' = ws0)) (hT : GoodIn Ts w) (hnest : (own, i, y, host) ∈ zNM) (hini : Cond.initialized y.cls ∈ Ts) (hstat : Cond.static y ∈ Ts) (hw : w = Cond.code y bytes maxL ret :: w9) (hrc : rm.cells = 0) (hrs : rm.slots = 0) (hdy : y.cls ≠ "java/lang/invoke/MethodHandle" ∧ y.cls ≠ "java/lang/invoke/VarHandle" ∧ (parseMethodDescriptor y.desc).map (fun d => d.parameters.length) = some n) (hR : rm.frames + 1 ≤ R.frames ∧ 8 + (maxL + 11) + rm.locals ≤ R.locals) (hn : As.length = n) (hst : st = As.reverse ++ rest) (hcat : (rest.map fun v => v.category).sum ≤ 8) (hcr : cells ≤ R.cells ∧ slots ≤ R.slots) (hd : decode cc pc = .ok (.invokestatic i, 3)) (k : Z p l e R s m args below meth c nL A D Q cells slots ws0 lv (pc + 3) (.int (iI r0) :: rest)) : Z p l e R s m args below meth c nL A D Q cells slots wc lv pc st := Z.cSNI C n hM hT hnest hini hstat hw hrc hrs hdy hR hn hst hcat hcr hd (fun r w' h => by rw [h.1, h.2]; exact k)
theorem Z.cSNIp (C : Cx p s m args meth c nL A D cI cJ cL cc Ts own) {rm : Room} {y : MethodName} {w w9 : List Cond} {bytes : ByteArray} {maxL i : Nat} {ret : Option FieldType} {As rest : List Value} {r0 : Int} {host : String} (n : Nat) (hM : CI l y w rm As D cI cJ cL [] (fun r w' => r = r0 ∧ w' = [])) (hT : GoodIn Ts w) (hnest : (own, i, y, host) ∈ zNM) (hini : Cond.initialized y.cls ∈ Ts) (hstat : Cond.static y ∈ Ts) (hw : w = Cond.code y bytes maxL ret :: w9) (hrc : rm.cells = 0) (hrs : rm.slots = 0) (hdy : y.cls ≠ "java/lang/invoke/MethodHandle" ∧ y.cls ≠ "java/lang/invoke/VarHandle" ∧ (parseMethodDescriptor y.desc).map (fun d => d.parameters.length) = some n) (hR : rm.frames + 1 ≤ R.frames ∧ 8 + (maxL + 11) + rm.locals ≤ R.locals) (hn : As.length = n) (hst : st = As.reverse ++ rest) (hcat : (rest.map fun v => v.category).sum ≤ 8) (hcr : cells ≤ R.cells ∧ slots ≤ R.slots) (hd : decode cc pc = .ok (.invokestatic i, 3)) (k : Z p l e R s m args below meth c nL A D Q cells slots ws lv (pc + 3) (.int (iI r0) :: rest)) : Z p l e R s m args below meth c nL A D Q cells slots ws lv pc st := by
  have q := Z.cSNIf (Q := Q) (cells := cells) (slots := slots) (lv := lv) (wr := ws) (wc := []) C n hM hT hnest hini hstat hw hrc hrs hdy hR hn hst hcat hcr hd (fun r w' h => by rw [h.1, h.2, List.append_nil]; exact k)
  rw [List.append_nil] at q
  exact q
theorem Z.cSNVf (C : Cx p s m args meth c nL A D cI cJ cL cc Ts own) {rm : Room} {y : MethodName} {w w9 : List Cond} {bytes : ByteArray} {maxL i : Nat} {ret : Option FieldType} {As rest : List Value} {wr wc : va_W} {post : va_W → Prop} {host : String} (n : Nat) (hM : CV l y w rm As D cI cJ cL wc post) (hT : GoodIn Ts w) (hnest : (own, i, y, host) ∈ zNM) (hini : Cond.initialized y.cls ∈ Ts) (hstat : Cond.static y ∈ Ts) (hw : w = Cond.code y bytes maxL ret :: w9) (hrc : rm.cells = 0) (hrs : rm.slots = 0) (hdy : y.cls ≠ "java/lang/invoke/MethodHandle" ∧ y.cls ≠ "java/lang/invoke/VarHandle" ∧ (parseMethodDescriptor y.desc).map (fun d => d.parameters.length) = some n) (hR : rm.frames + 1 ≤ R.frames ∧ 8 + (maxL + 11) + rm.locals ≤ R.locals) (hn : As.length = n) (hst : st = As.reverse ++ rest) (hcat : (rest.map fun v => v.category).sum ≤ 8) (hcr : cells ≤ R.cells ∧ slots ≤ R.slots) (hd : decode cc pc = .ok (.invokestatic i, 3)) (k : ∀ (w' : va_W), post w' → Z p l e R s m args below meth c nL A D Q cells slots (wr ++ w') lv (pc + 3) rest) : Z p l e R s m args below meth c nL A D Q cells slots (wr ++ wc) lv pc st := by
  subst hst
  refine Z.coreV C (a := As.toArray) (fun H locs ls hP hsz hpu => ?_) k
  exact va_runSN C.1 (hM H.size) ⟨va_cnB n C.1.2.2.2.2 hT hw hrc hrs (C.2.2.2.2.1.1 _ hnest) (C.1.2.2.2.2 _ hini) hdy hR, C.1.2.2.2.2 _ hstat, trivial⟩ ⟨PU.blind, fun U hU hW => ⟨rfl, hpu U hU hW⟩⟩ rfl hn hsz rfl (lv_room hcat) hd hcr
theorem Z.cSNV (C : Cx p s m args meth c nL A D cI cJ cL cc Ts own) {rm : Room} {y : MethodName} {w w9 : List Cond} {bytes : ByteArray} {maxL i : Nat} {ret : Option FieldType} {As rest : List Value} {wc : va_W} {post : va_W → Prop} {host : String} (n : Nat) (hM : CV l y w rm As D cI cJ cL wc post) (hT : GoodIn Ts w) (hnest : (own, i, y, host) ∈ zNM) (hini : Cond.initialized y.cls ∈ Ts) (hstat : Cond.static y ∈ Ts) (hw : w = Cond.code y bytes maxL ret :: w9) (hrc : rm.cells = 0) (hrs : rm.slots = 0) (hdy : y.cls ≠ "java/lang/invoke/MethodHandle" ∧ y.cls ≠ "java/lang/invoke/VarHandle" ∧ (parseMethodDescriptor y.desc).map (fun d => d.parameters.length) = some n) (hR : rm.frames + 1 ≤ R.frames ∧ 8 + (maxL + 11) + rm.locals ≤ R.locals) (hn : As.length = n) (hst : st = As.reverse ++ rest) (hcat : (rest.map fun v => v.category).sum ≤ 8) (hcr : cells ≤ R.cells ∧ slots ≤ R.slots) (hd : decode cc pc = .ok (.invokestatic i, 3)) (k : ∀ (w' : va_W), post w' → Z p l e R s m args below meth c nL A D Q cells slots w' lv (pc + 3) rest) : Z p l e R s m args below meth c nL A D Q cells slots wc lv pc st := Z.cSNVf (wr := []) C n hM hT hnest hini hstat hw hrc hrs hdy hR hn hst hcat hcr hd k
theorem Z.cSNVd (C : Cx p s m args meth c nL A D cI cJ cL cc Ts own) {rm : Room} {y : MethodName} {w w9 : List Cond} {bytes : ByteArray} {maxL i : Nat} {ret : Option FieldType} {As rest : List Value} {wc ws0 : va_W} {host : String} (n : Nat) (hM : CV l y w rm As D cI cJ cL wc (fun w' => w' = ws0)) (hT : GoodIn Ts w) (hnest : (own, i, y, host) ∈ zNM) (hini : Cond.initialized y.cls ∈ Ts) (hstat : Cond.static y ∈ Ts) (hw : w = Cond.code y bytes maxL ret :: w9) (hrc : rm.cells = 0) (hrs : rm.slots = 0) (hdy : y.cls ≠ "java/lang/invoke/MethodHandle" ∧ y.cls ≠ "java/lang/invoke/VarHandle" ∧ (parseMethodDescriptor y.desc).map (fun d => d.parameters.length) = some n) (hR : rm.frames + 1 ≤ R.frames ∧ 8 + (maxL + 11) + rm.locals ≤ R.locals) (hn : As.length = n) (hst : st = As.reverse ++ rest) (hcat : (rest.map fun v => v.category).sum ≤ 8) (hcr : cells ≤ R.cells ∧ slots ≤ R.slots) (hd : decode cc pc = .ok (.invokestatic i, 3)) (k : Z p l e R s m args below meth c nL A D Q cells slots ws0 lv (pc + 3) rest) : Z p l e R s m args below meth c nL A D Q cells slots wc lv pc st := Z.cSNV C n hM hT hnest hini hstat hw hrc hrs hdy hR hn hst hcat hcr hd (fun w' h => by rw [h]; exact k)
theorem Z.mmax (C : Cx p s m args meth c nL A D cI cJ cL cc Ts own) {a b : Int} {i : Nat} (hlink : Cond.methodLink own i Lib.Math.max.name ∈ Ts) (hstat : Cond.static Lib.Math.max.name ∈ Ts) (hini : Cond.initialized "java/lang/Math" ∈ Ts) (hcode : Cond.code Lib.Math.max.name Lib.Math.max.code 2 (some .int) ∈ Ts) (hf : 1 ≤ R.frames) (hloc : (st.map fun v => v.category).sum + 13 ≤ R.locals) (hcr : cells ≤ R.cells ∧ slots ≤ R.slots) (ha : inr a) (hb : inr b) (hd : decode cc pc = .ok (.invokestatic i, 3)) (k : Z p l e R s m args below meth c nL A D Q cells slots ws lv (pc + 3) (.int (iI (if a < b then b else a)) :: st)) : Z p l e R s m args below meth c nL A D Q cells slots ws lv pc (.int (iI b) :: .int (iI a) :: st) := by
  intro H locs ls hP hD hS hl
  refine va_mmax C.1.1 C.1.2.1 (C.1.2.2.1.trans hl.1.symm) C.1.2.2.2.1 (C.1.2.2.2.2 _ hlink) (C.1.2.2.2.2 _ hstat) (C.1.2.2.2.2 _ hini) (C.1.2.2.2.2 _ hcode) hf hloc hcr.1 hcr.2 hd ?_
  have e : (if iI a < iI b then iI b else iI a) = iI (if a < b then b else a) := by
    by_cases h : a < b
    · rw [if_pos h, if_pos ((iI_lt ha hb).mpr h)]
    · rw [if_neg h, if_neg (fun q => h ((iI_lt ha hb).mp q))]
  rw [e]
  exact k H locs ls hP hD hS hl
theorem Z.mmin (C : Cx p s m args meth c nL A D cI cJ cL cc Ts own) {a b : Int} {i : Nat} (hlink : Cond.methodLink own i Lib.Math.min.name ∈ Ts) (hstat : Cond.static Lib.Math.min.name ∈ Ts) (hini : Cond.initialized "java/lang/Math" ∈ Ts) (hcode : Cond.code Lib.Math.min.name Lib.Math.min.code 2 (some .int) ∈ Ts) (hf : 1 ≤ R.frames) (hloc : (st.map fun v => v.category).sum + 13 ≤ R.locals) (hcr : cells ≤ R.cells ∧ slots ≤ R.slots) (ha : inr a) (hb : inr b) (hd : decode cc pc = .ok (.invokestatic i, 3)) (k : Z p l e R s m args below meth c nL A D Q cells slots ws lv (pc + 3) (.int (iI (if b < a then b else a)) :: st)) : Z p l e R s m args below meth c nL A D Q cells slots ws lv pc (.int (iI b) :: .int (iI a) :: st) := by
  intro H locs ls hP hD hS hl
  refine va_mmin C.1.1 C.1.2.1 (C.1.2.2.1.trans hl.1.symm) C.1.2.2.2.1 (C.1.2.2.2.2 _ hlink) (C.1.2.2.2.2 _ hstat) (C.1.2.2.2.2 _ hini) (C.1.2.2.2.2 _ hcode) hf hloc hcr.1 hcr.2 hd ?_
  have e : (if iI b < iI a then iI b else iI a) = iI (if b < a then b else a) := by
    by_cases h : b < a
    · rw [if_pos h, if_pos ((iI_lt hb ha).mpr h)]
    · rw [if_neg h, if_neg (fun q => h ((iI_lt hb ha).mp q))]
  rw [e]
  exact k H locs ls hP hD hS hl
theorem Z.mabs (C : Cx p s m args meth c nL A D cI cJ cL cc Ts own) {a : Int} {i : Nat} (hlink : Cond.methodLink own i Lib.Math.abs.name ∈ Ts) (hstat : Cond.static Lib.Math.abs.name ∈ Ts) (hini : Cond.initialized "java/lang/Math" ∈ Ts) (hcode : Cond.code Lib.Math.abs.name Lib.Math.abs.code 1 (some .int) ∈ Ts) (hf : 1 ≤ R.frames) (hloc : (st.map fun v => v.category).sum + 13 ≤ R.locals) (hcr : cells ≤ R.cells ∧ slots ≤ R.slots) (ha : inr a) (hd : decode cc pc = .ok (.invokestatic i, 3)) (k : Z p l e R s m args below meth c nL A D Q cells slots ws lv (pc + 3) (.int (iI (if 0 ≤ a then a else -a)) :: st)) : Z p l e R s m args below meth c nL A D Q cells slots ws lv pc (.int (iI a) :: st) := by
  intro H locs ls hP hD hS hl
  refine va_mabs C.1.1 C.1.2.1 (C.1.2.2.1.trans hl.1.symm) C.1.2.2.2.1 (C.1.2.2.2.2 _ hlink) (C.1.2.2.2.2 _ hstat) (C.1.2.2.2.2 _ hini) (C.1.2.2.2.2 _ hcode) hf hloc hcr.1 hcr.2 hd ?_
  rw [← iI_0, iI_sub, Int.zero_sub]
  have e : (if iI 0 ≤ iI a then iI a else iI (-a)) = iI (if 0 ≤ a then a else -a) := by
    by_cases h : 0 ≤ a
    · rw [if_pos h, if_pos ((iI_le ⟨by decide, by decide⟩ ha).mpr h)]
    · rw [if_neg h, if_neg (fun q => h ((iI_le ⟨by decide, by decide⟩ ha).mp q))]
  rw [e]
  exact k H locs ls hP hD hS hl
end ZE
end
section
/-! ===== the class's world: one object of each kind; place = number of the address ===== -/
def wX (ad : Nat → Nat) (cI cJ : ClassId) (M B : Int → Int → Int) (lo ch wt sn vo mo le ln od fe se td th : Int → Int) (cnt bw bs pl tk tc sill day lau : Int) : va_W := [
  (ad 0, .inr (6, [.ref (ad 1), .ref (ad 3), .ref (ad 5), .ref (ad 6), .ref (ad 7), .ref (ad 8), .int (iI sill), .int (iI day), .int (iI lau)])),
  (ad 1, .inr (4, [.ref (ad 2)])),
  (ad 2, aR cJ 6 (fun j => ad (9 + j))),
  (ad 3, .inr (1, [.ref (ad 4), .ref (ad 23), .ref (ad 24)])),
  (ad 4, aR cJ 8 (fun j => ad (15 + j))),
  (ad 5, .inr (3, [.ref (ad 25), .ref (ad 26), .int (iI cnt), .int (iI bw), .int (iI bs)])),
  (ad 6, .inr (2, [.ref (ad 27), .ref (ad 28)])),
  (ad 7, .inr (5, [.ref (ad 29), .ref (ad 30), .ref (ad 31), .ref (ad 32), .ref (ad 33), .int (iI pl), .int (iI tk)])),
  (ad 8, .inr (0, [.ref (ad 34), .ref (ad 35), .int (iI tc)])),
  (ad 9, aI cI 9 (M 0)),
  (ad 10, aI cI 9 (M 1)),
  (ad 11, aI cI 9 (M 2)),
  (ad 12, aI cI 9 (M 3)),
  (ad 13, aI cI 9 (M 4)),
  (ad 14, aI cI 9 (M 5)),
  (ad 15, aI cI 25 (B 0)),
  (ad 16, aI cI 25 (B 1)),
  (ad 17, aI cI 25 (B 2)),
  (ad 18, aI cI 25 (B 3)),
  (ad 19, aI cI 25 (B 4)),
  (ad 20, aI cI 25 (B 5)),
  (ad 21, aI cI 25 (B 6)),
  (ad 22, aI cI 25 (B 7)),
  (ad 23, aI cI 9 lo),
  (ad 24, aI cI 9 ch),
  (ad 25, aI cI 16 wt),
  (ad 26, aI cI 16 sn),
  (ad 27, aI cI 6 vo),
  (ad 28, aI cI 6 mo),
  (ad 29, aI cI 170 le),
  (ad 30, aI cI 5 ln),
  (ad 31, aI cI 5 od),
  (ad 32, aI cI 5 fe),
  (ad 33, aI cI 5 se),
  (ad 34, aI cI 40 td),
  (ad 35, aI cI 40 th)]
section WX
variable {ad : Nat → Nat} {cI cJ : ClassId} {M B : Int → Int → Int} {lo ch wt sn vo mo le ln od fe se td th f : Int → Int} {cnt bw bs pl tk tc sill day lau v : Int}
theorem wX_a23 : (wX ad cI cJ M B lo ch wt sn vo mo le ln od fe se td th cnt bw bs pl tk tc sill day lau).set 23 (ad 23, aI cI 9 f) = wX ad cI cJ M B f ch wt sn vo mo le ln od fe se td th cnt bw bs pl tk tc sill day lau := rfl
theorem wX_a24 : (wX ad cI cJ M B lo ch wt sn vo mo le ln od fe se td th cnt bw bs pl tk tc sill day lau).set 24 (ad 24, aI cI 9 f) = wX ad cI cJ M B lo f wt sn vo mo le ln od fe se td th cnt bw bs pl tk tc sill day lau := rfl
theorem wX_a25 : (wX ad cI cJ M B lo ch wt sn vo mo le ln od fe se td th cnt bw bs pl tk tc sill day lau).set 25 (ad 25, aI cI 16 f) = wX ad cI cJ M B lo ch f sn vo mo le ln od fe se td th cnt bw bs pl tk tc sill day lau := rfl
theorem wX_a26 : (wX ad cI cJ M B lo ch wt sn vo mo le ln od fe se td th cnt bw bs pl tk tc sill day lau).set 26 (ad 26, aI cI 16 f) = wX ad cI cJ M B lo ch wt f vo mo le ln od fe se td th cnt bw bs pl tk tc sill day lau := rfl
theorem wX_a27 : (wX ad cI cJ M B lo ch wt sn vo mo le ln od fe se td th cnt bw bs pl tk tc sill day lau).set 27 (ad 27, aI cI 6 f) = wX ad cI cJ M B lo ch wt sn f mo le ln od fe se td th cnt bw bs pl tk tc sill day lau := rfl
theorem wX_a28 : (wX ad cI cJ M B lo ch wt sn vo mo le ln od fe se td th cnt bw bs pl tk tc sill day lau).set 28 (ad 28, aI cI 6 f) = wX ad cI cJ M B lo ch wt sn vo f le ln od fe se td th cnt bw bs pl tk tc sill day lau := rfl
theorem wX_a29 : (wX ad cI cJ M B lo ch wt sn vo mo le ln od fe se td th cnt bw bs pl tk tc sill day lau).set 29 (ad 29, aI cI 170 f) = wX ad cI cJ M B lo ch wt sn vo mo f ln od fe se td th cnt bw bs pl tk tc sill day lau := rfl
theorem wX_a30 : (wX ad cI cJ M B lo ch wt sn vo mo le ln od fe se td th cnt bw bs pl tk tc sill day lau).set 30 (ad 30, aI cI 5 f) = wX ad cI cJ M B lo ch wt sn vo mo le f od fe se td th cnt bw bs pl tk tc sill day lau := rfl
theorem wX_a31 : (wX ad cI cJ M B lo ch wt sn vo mo le ln od fe se td th cnt bw bs pl tk tc sill day lau).set 31 (ad 31, aI cI 5 f) = wX ad cI cJ M B lo ch wt sn vo mo le ln f fe se td th cnt bw bs pl tk tc sill day lau := rfl
theorem wX_a32 : (wX ad cI cJ M B lo ch wt sn vo mo le ln od fe se td th cnt bw bs pl tk tc sill day lau).set 32 (ad 32, aI cI 5 f) = wX ad cI cJ M B lo ch wt sn vo mo le ln od f se td th cnt bw bs pl tk tc sill day lau := rfl
theorem wX_a33 : (wX ad cI cJ M B lo ch wt sn vo mo le ln od fe se td th cnt bw bs pl tk tc sill day lau).set 33 (ad 33, aI cI 5 f) = wX ad cI cJ M B lo ch wt sn vo mo le ln od fe f td th cnt bw bs pl tk tc sill day lau := rfl
theorem wX_a34 : (wX ad cI cJ M B lo ch wt sn vo mo le ln od fe se td th cnt bw bs pl tk tc sill day lau).set 34 (ad 34, aI cI 40 f) = wX ad cI cJ M B lo ch wt sn vo mo le ln od fe se f th cnt bw bs pl tk tc sill day lau := rfl
theorem wX_a35 : (wX ad cI cJ M B lo ch wt sn vo mo le ln od fe se td th cnt bw bs pl tk tc sill day lau).set 35 (ad 35, aI cI 40 f) = wX ad cI cJ M B lo ch wt sn vo mo le ln od fe se td f cnt bw bs pl tk tc sill day lau := rfl
theorem wX_s_cnt : (wX ad cI cJ M B lo ch wt sn vo mo le ln od fe se td th cnt bw bs pl tk tc sill day lau).set 5 (ad 5, .inr (3, [.ref (ad 25), .ref (ad 26), .int (iI cnt), .int (iI bw), .int (iI bs)].set 2 (.int (iI v)))) = wX ad cI cJ M B lo ch wt sn vo mo le ln od fe se td th v bw bs pl tk tc sill day lau := rfl
theorem wX_s_bw : (wX ad cI cJ M B lo ch wt sn vo mo le ln od fe se td th cnt bw bs pl tk tc sill day lau).set 5 (ad 5, .inr (3, [.ref (ad 25), .ref (ad 26), .int (iI cnt), .int (iI bw), .int (iI bs)].set 3 (.int (iI v)))) = wX ad cI cJ M B lo ch wt sn vo mo le ln od fe se td th cnt v bs pl tk tc sill day lau := rfl
theorem wX_s_bs : (wX ad cI cJ M B lo ch wt sn vo mo le ln od fe se td th cnt bw bs pl tk tc sill day lau).set 5 (ad 5, .inr (3, [.ref (ad 25), .ref (ad 26), .int (iI cnt), .int (iI bw), .int (iI bs)].set 4 (.int (iI v)))) = wX ad cI cJ M B lo ch wt sn vo mo le ln od fe se td th cnt bw v pl tk tc sill day lau := rfl
theorem wX_s_pl : (wX ad cI cJ M B lo ch wt sn vo mo le ln od fe se td th cnt bw bs pl tk tc sill day lau).set 7 (ad 7, .inr (5, [.ref (ad 29), .ref (ad 30), .ref (ad 31), .ref (ad 32), .ref (ad 33), .int (iI pl), .int (iI tk)].set 5 (.int (iI v)))) = wX ad cI cJ M B lo ch wt sn vo mo le ln od fe se td th cnt bw bs v tk tc sill day lau := rfl
theorem wX_s_tk : (wX ad cI cJ M B lo ch wt sn vo mo le ln od fe se td th cnt bw bs pl tk tc sill day lau).set 7 (ad 7, .inr (5, [.ref (ad 29), .ref (ad 30), .ref (ad 31), .ref (ad 32), .ref (ad 33), .int (iI pl), .int (iI tk)].set 6 (.int (iI v)))) = wX ad cI cJ M B lo ch wt sn vo mo le ln od fe se td th cnt bw bs pl v tc sill day lau := rfl
theorem wX_s_tc : (wX ad cI cJ M B lo ch wt sn vo mo le ln od fe se td th cnt bw bs pl tk tc sill day lau).set 8 (ad 8, .inr (0, [.ref (ad 34), .ref (ad 35), .int (iI tc)].set 2 (.int (iI v)))) = wX ad cI cJ M B lo ch wt sn vo mo le ln od fe se td th cnt bw bs pl tk v sill day lau := rfl
theorem wX_s_sill : (wX ad cI cJ M B lo ch wt sn vo mo le ln od fe se td th cnt bw bs pl tk tc sill day lau).set 0 (ad 0, .inr (6, [.ref (ad 1), .ref (ad 3), .ref (ad 5), .ref (ad 6), .ref (ad 7), .ref (ad 8), .int (iI sill), .int (iI day), .int (iI lau)].set 6 (.int (iI v)))) = wX ad cI cJ M B lo ch wt sn vo mo le ln od fe se td th cnt bw bs pl tk tc v day lau := rfl
theorem wX_s_day : (wX ad cI cJ M B lo ch wt sn vo mo le ln od fe se td th cnt bw bs pl tk tc sill day lau).set 0 (ad 0, .inr (6, [.ref (ad 1), .ref (ad 3), .ref (ad 5), .ref (ad 6), .ref (ad 7), .ref (ad 8), .int (iI sill), .int (iI day), .int (iI lau)].set 7 (.int (iI v)))) = wX ad cI cJ M B lo ch wt sn vo mo le ln od fe se td th cnt bw bs pl tk tc sill v lau := rfl
theorem wX_s_lau : (wX ad cI cJ M B lo ch wt sn vo mo le ln od fe se td th cnt bw bs pl tk tc sill day lau).set 0 (ad 0, .inr (6, [.ref (ad 1), .ref (ad 3), .ref (ad 5), .ref (ad 6), .ref (ad 7), .ref (ad 8), .int (iI sill), .int (iI day), .int (iI lau)].set 8 (.int (iI v)))) = wX ad cI cJ M B lo ch wt sn vo mo le ln od fe se td th cnt bw bs pl tk tc sill day v := rfl
theorem wX_row {i : Int} (h0 : 0 ≤ i) (h1 : i < 6) : (wX ad cI cJ M B lo ch wt sn vo mo le ln od fe se td th cnt bw bs pl tk tc sill day lau)[9 + i.toNat]? = some (ad (9 + i.toNat), aI cI 9 (M i)) := by
  rcases (show i = 0 ∨ i = 1 ∨ i = 2 ∨ i = 3 ∨ i = 4 ∨ i = 5 by omega) with rfl | rfl | rfl | rfl | rfl | rfl <;> rfl
theorem wX_brow {i : Int} (h0 : 0 ≤ i) (h1 : i < 8) : (wX ad cI cJ M B lo ch wt sn vo mo le ln od fe se td th cnt bw bs pl tk tc sill day lau)[15 + i.toNat]? = some (ad (15 + i.toNat), aI cI 25 (B i)) := by
  rcases (show i = 0 ∨ i = 1 ∨ i = 2 ∨ i = 3 ∨ i = 4 ∨ i = 5 ∨ i = 6 ∨ i = 7 by omega) with rfl | rfl | rfl | rfl | rfl | rfl | rfl | rfl <;> rfl
end WX
def zrow (M : Int → Int → Int) (i : Int) (f : Int → Int) : Int → Int → Int := fun j => if j = i then f else M j
theorem zrow_eq (M : Int → Int → Int) (i : Int) (f : Int → Int) : zrow M i f i = f := if_pos rfl
theorem zrow_ne (M : Int → Int → Int) (f : Int → Int) {i j : Int} (h : j ≠ i) : zrow M i f j = M j := if_neg h
section WX2
variable {ad : Nat → Nat} {cI cJ : ClassId} {M B : Int → Int → Int} {lo ch wt sn vo mo le ln od fe se td th f : Int → Int} {cnt bw bs pl tk tc sill day lau v : Int}
theorem wX_setrow {i : Int} (h0 : 0 ≤ i) (h1 : i < 6) : (wX ad cI cJ M B lo ch wt sn vo mo le ln od fe se td th cnt bw bs pl tk tc sill day lau).set (9 + i.toNat) (ad (9 + i.toNat), aI cI 9 f) = wX ad cI cJ (zrow M i f) B lo ch wt sn vo mo le ln od fe se td th cnt bw bs pl tk tc sill day lau := by
  rcases (show i = 0 ∨ i = 1 ∨ i = 2 ∨ i = 3 ∨ i = 4 ∨ i = 5 by omega) with rfl | rfl | rfl | rfl | rfl | rfl <;> rfl
theorem wX_setbrow {i : Int} (h0 : 0 ≤ i) (h1 : i < 8) : (wX ad cI cJ M B lo ch wt sn vo mo le ln od fe se td th cnt bw bs pl tk tc sill day lau).set (15 + i.toNat) (ad (15 + i.toNat), aI cI 25 f) = wX ad cI cJ M (zrow B i f) lo ch wt sn vo mo le ln od fe se td th cnt bw bs pl tk tc sill day lau := by
  rcases (show i = 0 ∨ i = 1 ∨ i = 2 ∨ i = 3 ∨ i = 4 ∨ i = 5 ∨ i = 6 ∨ i = 7 by omega) with rfl | rfl | rfl | rfl | rfl | rfl | rfl | rfl <;> rfl
end WX2
/-! ===== the reference's world ===== -/
def wM (ad : Nat → Nat) (cI : ClassId) (hf at_ wg lf cf dy ti bh ln : Int → Int) (thr nw lg nt sl dd il : Int) : va_W := [
  (ad 0, .inr (7, [.int (iI thr), .ref (ad 1), .int (iI nw), .ref (ad 2), .ref (ad 3), .int (iI lg), .ref (ad 4), .ref (ad 5), .int (iI nt), .ref (ad 6), .ref (ad 7), .int (iI sl), .int (iI dd), .int (iI il), .ref (ad 8), .ref (ad 9)])),
  (ad 1, aI cI 54 hf),
  (ad 2, aI cI 17 at_),
  (ad 3, aI cI 17 wg),
  (ad 4, aI cI 180 lf),
  (ad 5, aI cI 10 cf),
  (ad 6, aI cI 40 dy),
  (ad 7, aI cI 40 ti),
  (ad 8, aI cI 250 bh),
  (ad 9, aI cI 9 ln)]
section WM
variable {ad : Nat → Nat} {cI : ClassId} {hf at_ wg lf cf dy ti bh ln f : Int → Int} {thr nw lg nt sl dd il v : Int}
theorem wM_a1 : (wM ad cI hf at_ wg lf cf dy ti bh ln thr nw lg nt sl dd il).set 1 (ad 1, aI cI 54 f) = wM ad cI f at_ wg lf cf dy ti bh ln thr nw lg nt sl dd il := rfl
theorem wM_a2 : (wM ad cI hf at_ wg lf cf dy ti bh ln thr nw lg nt sl dd il).set 2 (ad 2, aI cI 17 f) = wM ad cI hf f wg lf cf dy ti bh ln thr nw lg nt sl dd il := rfl
theorem wM_a3 : (wM ad cI hf at_ wg lf cf dy ti bh ln thr nw lg nt sl dd il).set 3 (ad 3, aI cI 17 f) = wM ad cI hf at_ f lf cf dy ti bh ln thr nw lg nt sl dd il := rfl
theorem wM_a4 : (wM ad cI hf at_ wg lf cf dy ti bh ln thr nw lg nt sl dd il).set 4 (ad 4, aI cI 180 f) = wM ad cI hf at_ wg f cf dy ti bh ln thr nw lg nt sl dd il := rfl
theorem wM_a5 : (wM ad cI hf at_ wg lf cf dy ti bh ln thr nw lg nt sl dd il).set 5 (ad 5, aI cI 10 f) = wM ad cI hf at_ wg lf f dy ti bh ln thr nw lg nt sl dd il := rfl
theorem wM_a6 : (wM ad cI hf at_ wg lf cf dy ti bh ln thr nw lg nt sl dd il).set 6 (ad 6, aI cI 40 f) = wM ad cI hf at_ wg lf cf f ti bh ln thr nw lg nt sl dd il := rfl
theorem wM_a7 : (wM ad cI hf at_ wg lf cf dy ti bh ln thr nw lg nt sl dd il).set 7 (ad 7, aI cI 40 f) = wM ad cI hf at_ wg lf cf dy f bh ln thr nw lg nt sl dd il := rfl
theorem wM_a8 : (wM ad cI hf at_ wg lf cf dy ti bh ln thr nw lg nt sl dd il).set 8 (ad 8, aI cI 250 f) = wM ad cI hf at_ wg lf cf dy ti f ln thr nw lg nt sl dd il := rfl
theorem wM_a9 : (wM ad cI hf at_ wg lf cf dy ti bh ln thr nw lg nt sl dd il).set 9 (ad 9, aI cI 9 f) = wM ad cI hf at_ wg lf cf dy ti bh f thr nw lg nt sl dd il := rfl
theorem wM_s_thr : (wM ad cI hf at_ wg lf cf dy ti bh ln thr nw lg nt sl dd il).set 0 (ad 0, .inr (7, [.int (iI thr), .ref (ad 1), .int (iI nw), .ref (ad 2), .ref (ad 3), .int (iI lg), .ref (ad 4), .ref (ad 5), .int (iI nt), .ref (ad 6), .ref (ad 7), .int (iI sl), .int (iI dd), .int (iI il), .ref (ad 8), .ref (ad 9)].set 0 (.int (iI v)))) = wM ad cI hf at_ wg lf cf dy ti bh ln v nw lg nt sl dd il := rfl
theorem wM_s_nw : (wM ad cI hf at_ wg lf cf dy ti bh ln thr nw lg nt sl dd il).set 0 (ad 0, .inr (7, [.int (iI thr), .ref (ad 1), .int (iI nw), .ref (ad 2), .ref (ad 3), .int (iI lg), .ref (ad 4), .ref (ad 5), .int (iI nt), .ref (ad 6), .ref (ad 7), .int (iI sl), .int (iI dd), .int (iI il), .ref (ad 8), .ref (ad 9)].set 2 (.int (iI v)))) = wM ad cI hf at_ wg lf cf dy ti bh ln thr v lg nt sl dd il := rfl
theorem wM_s_lg : (wM ad cI hf at_ wg lf cf dy ti bh ln thr nw lg nt sl dd il).set 0 (ad 0, .inr (7, [.int (iI thr), .ref (ad 1), .int (iI nw), .ref (ad 2), .ref (ad 3), .int (iI lg), .ref (ad 4), .ref (ad 5), .int (iI nt), .ref (ad 6), .ref (ad 7), .int (iI sl), .int (iI dd), .int (iI il), .ref (ad 8), .ref (ad 9)].set 5 (.int (iI v)))) = wM ad cI hf at_ wg lf cf dy ti bh ln thr nw v nt sl dd il := rfl
theorem wM_s_nt : (wM ad cI hf at_ wg lf cf dy ti bh ln thr nw lg nt sl dd il).set 0 (ad 0, .inr (7, [.int (iI thr), .ref (ad 1), .int (iI nw), .ref (ad 2), .ref (ad 3), .int (iI lg), .ref (ad 4), .ref (ad 5), .int (iI nt), .ref (ad 6), .ref (ad 7), .int (iI sl), .int (iI dd), .int (iI il), .ref (ad 8), .ref (ad 9)].set 8 (.int (iI v)))) = wM ad cI hf at_ wg lf cf dy ti bh ln thr nw lg v sl dd il := rfl
theorem wM_s_sl : (wM ad cI hf at_ wg lf cf dy ti bh ln thr nw lg nt sl dd il).set 0 (ad 0, .inr (7, [.int (iI thr), .ref (ad 1), .int (iI nw), .ref (ad 2), .ref (ad 3), .int (iI lg), .ref (ad 4), .ref (ad 5), .int (iI nt), .ref (ad 6), .ref (ad 7), .int (iI sl), .int (iI dd), .int (iI il), .ref (ad 8), .ref (ad 9)].set 11 (.int (iI v)))) = wM ad cI hf at_ wg lf cf dy ti bh ln thr nw lg nt v dd il := rfl
theorem wM_s_dd : (wM ad cI hf at_ wg lf cf dy ti bh ln thr nw lg nt sl dd il).set 0 (ad 0, .inr (7, [.int (iI thr), .ref (ad 1), .int (iI nw), .ref (ad 2), .ref (ad 3), .int (iI lg), .ref (ad 4), .ref (ad 5), .int (iI nt), .ref (ad 6), .ref (ad 7), .int (iI sl), .int (iI dd), .int (iI il), .ref (ad 8), .ref (ad 9)].set 12 (.int (iI v)))) = wM ad cI hf at_ wg lf cf dy ti bh ln thr nw lg nt sl v il := rfl
theorem wM_s_il : (wM ad cI hf at_ wg lf cf dy ti bh ln thr nw lg nt sl dd il).set 0 (ad 0, .inr (7, [.int (iI thr), .ref (ad 1), .int (iI nw), .ref (ad 2), .ref (ad 3), .int (iI lg), .ref (ad 4), .ref (ad 5), .int (iI nt), .ref (ad 6), .ref (ad 7), .int (iI sl), .int (iI dd), .int (iI il), .ref (ad 8), .ref (ad 9)].set 13 (.int (iI v)))) = wM ad cI hf at_ wg lf cf dy ti bh ln thr nw lg nt sl dd v := rfl
end WM
section ZL
variable {p : Program} {l : Launch} {e : Env} {R : Room} {s : State} {m : MethodId} {args : Array Value} {below : List Frame} {meth : Method} {c : Code} {nL : Nat} {A : Nat → Prop} {D : va_G} {Q : State → Prop} {cells slots : Nat} {ws : va_W} {lv : List Value} {pc : Nat} {st : List Value}
theorem Z.loop {α : Type} (F : α → va_W) (L : α → List Value) (inv : α → Prop) (μ : α → Nat) (x0 : α) (h0 : inv x0) (hw : ws = F x0) (hl : lv = L x0)
    (body : ∀ x, inv x → (∀ y, inv y → μ y < μ x → Z p l e R s m args below meth c nL A D Q cells slots (F y) (L y) pc st) → Z p l e R s m args below meth c nL A D Q cells slots (F x) (L x) pc st) : Z p l e R s m args below meth c nL A D Q cells slots ws lv pc st := by
  have key : ∀ (n : Nat) (x : α), μ x < n → inv x → Z p l e R s m args below meth c nL A D Q cells slots (F x) (L x) pc st := by
    intro n
    induction n with
    | zero => intro x h; exact absurd h (Nat.not_lt_zero _)
    | succ n ih => intro x h hx; exact body x hx (fun y hy hlt => ih y (by omega) hy)
  rw [hw, hl]
  exact key (μ x0 + 1) x0 (Nat.lt_succ_self _) h0
theorem Z.cut {α : Type} (pj : Nat) (F : α → va_W) (L : α → List Value) (S : α → List Value) (inv : α → Prop)
    (join : ∀ x, inv x → Z p l e R s m args below meth c nL A D Q cells slots (F x) (L x) pj (S x))
    (main : (∀ x, inv x → Z p l e R s m args below meth c nL A D Q cells slots (F x) (L x) pj (S x)) → Z p l e R s m args below meth c nL A D Q cells slots ws lv pc st) : Z p l e R s m args below meth c nL A D Q cells slots ws lv pc st := main join
end ZL
end
section
/-! ===== what is reckoned ===== -/
def hOK (M : Int → Int → Int) : Prop := ∀ i j : Int, 0 ≤ M i j ∧ M i j ≤ 200
def areaZ (M : Int → Int → Int) (s : Int) : Nat → Int
  | 0 => 0
  | k + 1 => areaZ M s k + (M k s + M (k + 1) s)
def volZ (M : Int → Int → Int) (w : Nat) : Nat → Int
  | 0 => 0
  | k + 1 => volZ M w k + (areaZ M k w + areaZ M (k + 1) w)
def momZ (M : Int → Int → Int) (w : Nat) : Nat → Int
  | 0 => 0
  | k + 1 => momZ M w k + (2 * k + 1) * (areaZ M k w + areaZ M (k + 1) w)
def wlaZ (f : Int → Int) : Nat → Int
  | 0 => 0
  | k + 1 => wlaZ f k + (f k + f (k + 1))
def slcZ (M : Int → Int → Int) : Nat → Int
  | 0 => 0
  | k + 1 => slcZ M k + (wlaZ (M k) 8 + wlaZ (M (k + 1)) 8)
def absZ (a : Int) : Int := if 0 ≤ a then a else -a
def strZ (f : Int → Int) : Nat → Int
  | 0 => 0
  | k + 1 => strZ f k + (10 + absZ (f k - f (k + 1)))
def sqZ (b a c : Int) : Int := (b + c - 2 * a) * (b + c - 2 * a)
def bendZ (f : Int → Int) : Nat → Int
  | 0 => 0
  | k + 1 => bendZ f k + sqZ (f k) (f (k + 1)) (f (k + 1 + 1))
theorem areaZ_bd {M : Int → Int → Int} (hM : hOK M) (s : Int) : ∀ k : Nat, 0 ≤ areaZ M s k ∧ areaZ M s k ≤ 400 * k
  | 0 => by simp [areaZ]
  | k + 1 => by
    have ih := areaZ_bd hM s k
    have h1 := hM k s
    have h2 := hM (k + 1) s
    simp only [areaZ]
    push_cast
    omega
theorem volZ_bd {M : Int → Int → Int} (hM : hOK M) {w : Nat} (hw : w ≤ 5) : ∀ k : Nat, 0 ≤ volZ M w k ∧ volZ M w k ≤ 4000 * k
  | 0 => by simp [volZ]
  | k + 1 => by
    have ih := volZ_bd hM hw k
    have h1 := areaZ_bd hM k w
    have h2 := areaZ_bd hM (k + 1) w
    simp only [volZ]
    push_cast
    omega
end
section
/-! ===== Hull ===== -/
set_option maxRecDepth 20000 in
theorem iw_X4_areaUpTo_4 : ∀ w ∈ u_ws RX4 TX4 1, w ∈ wsX4_areaUpTo := by decide +kernel
abbrev rmX4_areaUpTo : Room := { frames := 0, cells := 0, slots := 0, locals := 0 }
set_option maxHeartbeats 4000000 in
set_option maxRecDepth 100000 in
theorem c_areaUpTo (l : Launch) (D : va_G) (cI cJ cL : ClassId) (ad : Nat → Nat) (M B : Int → Int → Int) (lo ch wt sn vo mo le ln od fe se td th : Int → Int) (cnt bw bs pl tk tc sill day lau : Int) (s : Int) (w : Nat) (hs0 : 0 ≤ s) (hs1 : s ≤ 8) (hw : w ≤ 5) : CI l yX4_areaUpTo wsX4_areaUpTo rmX4_areaUpTo [.ref (ad 1), .int (iI s), .int (iI w)] D cI cJ cL (wX ad cI cJ M B lo ch wt sn vo mo le ln od fe se td th cnt bw bs pl tk tc sill day lau) (fun r w' => r = areaZ M s w ∧ w' = (wX ad cI cJ M B lo ch wt sn vo mo le ln od fe se td th cnt bw bs pl tk tc sill day lau)) := by
  refine CI.of (cc := cX4_areaUpTo) (maxL := 5) (ret := (some .int)) (own := RX4) _ 2 (by decide +kernel) rfl rfl rfl (Nat.le_of_ble_eq_true rfl) rfl (fun sz9 p9 e9 s9 m9 a9 b9 h9 c9 C hr => ?_)
  refine Z.iconst C dX4_areaUpTo_0 ?_
  refine Z.istore_n C dX4_areaUpTo_1 (by decide) ?_
  refine Z.iconst C dX4_areaUpTo_2 ?_
  refine Z.istore C dX4_areaUpTo_3 (by decide) ?_
  refine Z.loop (α := Nat) (fun _ => (wX ad cI cJ M B lo ch wt sn vo mo le ln od fe se td th cnt bw bs pl tk tc sill day lau)) (fun k => [.ref (ad 1), .int (iI s), .int (iI w), .int (iI (areaZ M s k)), .int (iI k)]) (fun k => k ≤ w) (fun k => w - k) 0 (by omega) rfl rfl (fun k hk ih => ?_)
  try dsimp only at hk ih ⊢
  refine Z.iload C dX4_areaUpTo_5 rfl ?_
  refine Z.iload_n C dX4_areaUpTo_7 rfl ?_
  refine Z.icmpge C 41 dX4_areaUpTo_8 (by decide) (⟨by omega, by omega⟩) (⟨by omega, by omega⟩) (fun h => ?_) (fun h => ?_)
  · refine Z.iload_n C dX4_areaUpTo_41 rfl ?_
    exact Z.iret C hr dX4_areaUpTo_42 (⟨by rw [show k = w by omega], rfl⟩)
  · refine Z.iload_n C dX4_areaUpTo_11 rfl ?_
    refine Z.aload_n C dX4_areaUpTo_12 rfl ?_
    refine Z.getf C 1 0 iw_X4_areaUpTo_4 rfl rfl (by decide) (by decide +kernel) rfl dX4_areaUpTo_13 ?_
    refine Z.iload C dX4_areaUpTo_16 rfl ?_
    refine Z.aald C 2 rfl (by omega) (by omega) (by decide) dX4_areaUpTo_18 ?_
    refine Z.iload_n C dX4_areaUpTo_19 rfl ?_
    refine Z.iald C _ (wX_row (by omega) (by omega)) (by omega) (by omega) (by decide) dX4_areaUpTo_20 ?_
    refine Z.aload_n C dX4_areaUpTo_21 rfl ?_
    refine Z.getf C 1 0 iw_X4_areaUpTo_4 rfl rfl (by decide) (by decide +kernel) rfl dX4_areaUpTo_22 ?_
    refine Z.iload C dX4_areaUpTo_25 rfl ?_
    refine Z.iconst C dX4_areaUpTo_27 ?_
    refine Z.iadd C dX4_areaUpTo_28 ?_
    refine Z.aald C 2 rfl (by omega) (by omega) (by decide) dX4_areaUpTo_29 ?_
    refine Z.iload_n C dX4_areaUpTo_30 rfl ?_
    refine Z.iald C _ (wX_row (by omega) (by omega)) (by omega) (by omega) (by decide) dX4_areaUpTo_31 ?_
    refine Z.iadd C dX4_areaUpTo_32 ?_
    refine Z.iadd C dX4_areaUpTo_33 ?_
    refine Z.istore_n C dX4_areaUpTo_34 (by decide) ?_
    refine Z.iinc C dX4_areaUpTo_35 rfl (by decide) ?_
    refine Z.goto C 5 dX4_areaUpTo_38 (by decide) ?_
    exact ih (k + 1) (by omega) (by omega)
abbrev rmX4_volumeUpTo : Room := { frames := 1, cells := 0, slots := 0, locals := 24 }
set_option maxHeartbeats 4000000 in
set_option maxRecDepth 100000 in
theorem c_volumeUpTo (l : Launch) (D : va_G) (cI cJ cL : ClassId) (ad : Nat → Nat) (M B : Int → Int → Int) (lo ch wt sn vo mo le ln od fe se td th : Int → Int) (cnt bw bs pl tk tc sill day lau : Int) (w : Nat) (hw : w ≤ 5) : CI l yX4_volumeUpTo wsX4_volumeUpTo rmX4_volumeUpTo [.ref (ad 1), .int (iI w)] D cI cJ cL (wX ad cI cJ M B lo ch wt sn vo mo le ln od fe se td th cnt bw bs pl tk tc sill day lau) (fun r w' => r = volZ M w 8 ∧ w' = (wX ad cI cJ M B lo ch wt sn vo mo le ln od fe se td th cnt bw bs pl tk tc sill day lau)) := by
  refine CI.of (cc := cX4_volumeUpTo) (maxL := 4) (ret := (some .int)) (own := RX4) _ 2 (by decide +kernel) rfl rfl rfl (Nat.le_of_ble_eq_true rfl) rfl (fun sz9 p9 e9 s9 m9 a9 b9 h9 c9 C hr => ?_)
  refine Z.iconst C dX4_volumeUpTo_0 ?_
  refine Z.istore_n C dX4_volumeUpTo_1 (by decide) ?_
  refine Z.iconst C dX4_volumeUpTo_2 ?_
  refine Z.istore_n C dX4_volumeUpTo_3 (by decide) ?_
  refine Z.loop (α := Nat) (fun _ => (wX ad cI cJ M B lo ch wt sn vo mo le ln od fe se td th cnt bw bs pl tk tc sill day lau)) (fun k => [.ref (ad 1), .int (iI w), .int (iI (volZ M w k)), .int (iI k)]) (fun k => k ≤ 8) (fun k => 8 - k) 0 (by omega) rfl rfl (fun k hk ih => ?_)
  try dsimp only at hk ih ⊢
  refine Z.iload_n C dX4_volumeUpTo_4 rfl ?_
  refine Z.bipush C dX4_volumeUpTo_5 (by decide) ?_
  refine Z.icmpge C 34 dX4_volumeUpTo_7 (by decide) (⟨by omega, by omega⟩) (⟨by omega, by omega⟩) (fun h => ?_) (fun h => ?_)
  · refine Z.iload_n C dX4_volumeUpTo_34 rfl ?_
    exact Z.iret C hr dX4_volumeUpTo_35 (⟨by rw [show k = 8 by omega], rfl⟩)
  · refine Z.iload_n C dX4_volumeUpTo_10 rfl ?_
    refine Z.aload_n C dX4_volumeUpTo_11 rfl ?_
    refine Z.iload_n C dX4_volumeUpTo_12 rfl ?_
    refine Z.iload_n C dX4_volumeUpTo_13 rfl ?_
    refine Z.cVId C 1 2 (c_areaUpTo l D cI cJ cL ad M B lo ch wt sn vo mo le ln od fe se td th cnt bw bs pl tk tc sill day lau k w (by omega) (by omega) hw) rfl rfl gX4_volumeUpTo_X4_areaUpTo rfl rfl rfl (by decide +kernel) ⟨Nat.le_of_ble_eq_true rfl, Nat.le_of_ble_eq_true rfl⟩ rfl rfl (Nat.le_of_ble_eq_true rfl) ⟨Nat.le_of_ble_eq_true rfl, Nat.le_of_ble_eq_true rfl⟩ dX4_volumeUpTo_14 ?_
    refine Z.aload_n C dX4_volumeUpTo_17 rfl ?_
    refine Z.iload_n C dX4_volumeUpTo_18 rfl ?_
    refine Z.iconst C dX4_volumeUpTo_19 ?_
    refine Z.iadd C dX4_volumeUpTo_20 ?_
    refine Z.iload_n C dX4_volumeUpTo_21 rfl ?_
    refine Z.cVId C 1 2 (c_areaUpTo l D cI cJ cL ad M B lo ch wt sn vo mo le ln od fe se td th cnt bw bs pl tk tc sill day lau (k + 1) w (by omega) (by omega) hw) rfl rfl gX4_volumeUpTo_X4_areaUpTo rfl rfl rfl (by decide +kernel) ⟨Nat.le_of_ble_eq_true rfl, Nat.le_of_ble_eq_true rfl⟩ rfl rfl (Nat.le_of_ble_eq_true rfl) ⟨Nat.le_of_ble_eq_true rfl, Nat.le_of_ble_eq_true rfl⟩ dX4_volumeUpTo_22 ?_
    refine Z.iadd C dX4_volumeUpTo_25 ?_
    refine Z.iadd C dX4_volumeUpTo_26 ?_
    refine Z.istore_n C dX4_volumeUpTo_27 (by decide) ?_
    refine Z.iinc C dX4_volumeUpTo_28 rfl (by decide) ?_
    refine Z.goto C 4 dX4_volumeUpTo_31 (by decide) ?_
    exact ih (k + 1) (by omega) (by omega)
abbrev rmX4_momentUpTo : Room := { frames := 1, cells := 0, slots := 0, locals := 24 }
set_option maxHeartbeats 4000000 in
set_option maxRecDepth 100000 in
theorem c_momentUpTo (l : Launch) (D : va_G) (cI cJ cL : ClassId) (ad : Nat → Nat) (M B : Int → Int → Int) (lo ch wt sn vo mo le ln od fe se td th : Int → Int) (cnt bw bs pl tk tc sill day lau : Int) (w : Nat) (hw : w ≤ 5) : CI l yX4_momentUpTo wsX4_momentUpTo rmX4_momentUpTo [.ref (ad 1), .int (iI w)] D cI cJ cL (wX ad cI cJ M B lo ch wt sn vo mo le ln od fe se td th cnt bw bs pl tk tc sill day lau) (fun r w' => r = momZ M w 8 ∧ w' = (wX ad cI cJ M B lo ch wt sn vo mo le ln od fe se td th cnt bw bs pl tk tc sill day lau)) := by
  refine CI.of (cc := cX4_momentUpTo) (maxL := 5) (ret := (some .int)) (own := RX4) _ 3 (by decide +kernel) rfl rfl rfl (Nat.le_of_ble_eq_true rfl) rfl (fun sz9 p9 e9 s9 m9 a9 b9 h9 c9 C hr => ?_)
  refine Z.iconst C dX4_momentUpTo_0 ?_
  refine Z.istore_n C dX4_momentUpTo_1 (by decide) ?_
  refine Z.iconst C dX4_momentUpTo_2 ?_
  refine Z.istore_n C dX4_momentUpTo_3 (by decide) ?_
  refine Z.loop (α := Nat × Value) (fun _ => (wX ad cI cJ M B lo ch wt sn vo mo le ln od fe se td th cnt bw bs pl tk tc sill day lau)) (fun k => [.ref (ad 1), .int (iI w), .int (iI (momZ M w k.1)), .int (iI k.1), k.2]) (fun k => k.1 ≤ 8) (fun k => 8 - k.1) (0, .null) (by dsimp only; omega) rfl rfl (fun k hk ih => ?_)
  obtain ⟨k, v⟩ := k
  try dsimp only at hk ih ⊢
  refine Z.iload_n C dX4_momentUpTo_4 rfl ?_
  refine Z.bipush C dX4_momentUpTo_5 (by decide) ?_
  refine Z.icmpge C 44 dX4_momentUpTo_7 (by decide) (⟨by omega, by omega⟩) (⟨by omega, by omega⟩) (fun h => ?_) (fun h => ?_)
  · refine Z.iload_n C dX4_momentUpTo_44 rfl ?_
    exact Z.iret C hr dX4_momentUpTo_45 (⟨by rw [show k = 8 by omega], rfl⟩)
  · refine Z.aload_n C dX4_momentUpTo_10 rfl ?_
    refine Z.iload_n C dX4_momentUpTo_11 rfl ?_
    refine Z.iload_n C dX4_momentUpTo_12 rfl ?_
    refine Z.cVId C 1 2 (c_areaUpTo l D cI cJ cL ad M B lo ch wt sn vo mo le ln od fe se td th cnt bw bs pl tk tc sill day lau k w (by omega) (by omega) hw) rfl rfl gX4_momentUpTo_X4_areaUpTo rfl rfl rfl (by decide +kernel) ⟨Nat.le_of_ble_eq_true rfl, Nat.le_of_ble_eq_true rfl⟩ rfl rfl (Nat.le_of_ble_eq_true rfl) ⟨Nat.le_of_ble_eq_true rfl, Nat.le_of_ble_eq_true rfl⟩ dX4_momentUpTo_13 ?_
    refine Z.aload_n C dX4_momentUpTo_16 rfl ?_
    refine Z.iload_n C dX4_momentUpTo_17 rfl ?_
    refine Z.iconst C dX4_momentUpTo_18 ?_
    refine Z.iadd C dX4_momentUpTo_19 ?_
    refine Z.iload_n C dX4_momentUpTo_20 rfl ?_
    refine Z.cVId C 1 2 (c_areaUpTo l D cI cJ cL ad M B lo ch wt sn vo mo le ln od fe se td th cnt bw bs pl tk tc sill day lau (k + 1) w (by omega) (by omega) hw) rfl rfl gX4_momentUpTo_X4_areaUpTo rfl rfl rfl (by decide +kernel) ⟨Nat.le_of_ble_eq_true rfl, Nat.le_of_ble_eq_true rfl⟩ rfl rfl (Nat.le_of_ble_eq_true rfl) ⟨Nat.le_of_ble_eq_true rfl, Nat.le_of_ble_eq_true rfl⟩ dX4_momentUpTo_21 ?_
    refine Z.iadd C dX4_momentUpTo_24 ?_
    refine Z.istore C dX4_momentUpTo_25 (by decide) ?_
    refine Z.iload_n C dX4_momentUpTo_27 rfl ?_
    refine Z.iconst C dX4_momentUpTo_28 ?_
    refine Z.iload_n C dX4_momentUpTo_29 rfl ?_
    refine Z.imul C dX4_momentUpTo_30 ?_
    refine Z.iconst C dX4_momentUpTo_31 ?_
    refine Z.iadd C dX4_momentUpTo_32 ?_
    refine Z.iload C dX4_momentUpTo_33 rfl ?_
    refine Z.imul C dX4_momentUpTo_35 ?_
    refine Z.iadd C dX4_momentUpTo_36 ?_
    refine Z.istore_n C dX4_momentUpTo_37 (by decide) ?_
    refine Z.iinc C dX4_momentUpTo_38 rfl (by decide) ?_
    refine Z.goto C 4 dX4_momentUpTo_41 (by decide) ?_
    exact ih (k + 1, _) (by dsimp only; omega) (by dsimp only; omega)
set_option maxRecDepth 20000 in
theorem iw_X4_waterlineArea_4 : ∀ w ∈ u_ws RX4 TX4 1, w ∈ wsX4_waterlineArea := by decide +kernel
abbrev rmX4_waterlineArea : Room := { frames := 0, cells := 0, slots := 0, locals := 0 }
set_option maxHeartbeats 4000000 in
set_option maxRecDepth 100000 in
theorem c_waterlineArea (l : Launch) (D : va_G) (cI cJ cL : ClassId) (ad : Nat → Nat) (M B : Int → Int → Int) (lo ch wt sn vo mo le ln od fe se td th : Int → Int) (cnt bw bs pl tk tc sill day lau : Int) (i : Int) (hi0 : 0 ≤ i) (hi1 : i ≤ 5) : CI l yX4_waterlineArea wsX4_waterlineArea rmX4_waterlineArea [.ref (ad 1), .int (iI i)] D cI cJ cL (wX ad cI cJ M B lo ch wt sn vo mo le ln od fe se td th cnt bw bs pl tk tc sill day lau) (fun r w' => r = wlaZ (M i) 8 ∧ w' = (wX ad cI cJ M B lo ch wt sn vo mo le ln od fe se td th cnt bw bs pl tk tc sill day lau)) := by
  refine CI.of (cc := cX4_waterlineArea) (maxL := 5) (ret := (some .int)) (own := RX4) _ 3 (by decide +kernel) rfl rfl rfl (Nat.le_of_ble_eq_true rfl) rfl (fun sz9 p9 e9 s9 m9 a9 b9 h9 c9 C hr => ?_)
  refine Z.aload_n C dX4_waterlineArea_0 rfl ?_
  refine Z.getf C 1 0 iw_X4_waterlineArea_4 rfl rfl (by decide) (by decide +kernel) rfl dX4_waterlineArea_1 ?_
  refine Z.iload_n C dX4_waterlineArea_4 rfl ?_
  refine Z.aald C 2 rfl (by omega) (by omega) (by decide) dX4_waterlineArea_5 ?_
  refine Z.astore_n C dX4_waterlineArea_6 (by decide) ?_
  refine Z.iconst C dX4_waterlineArea_7 ?_
  refine Z.istore_n C dX4_waterlineArea_8 (by decide) ?_
  refine Z.iconst C dX4_waterlineArea_9 ?_
  refine Z.istore C dX4_waterlineArea_10 (by decide) ?_
  refine Z.loop (α := Nat) (fun _ => (wX ad cI cJ M B lo ch wt sn vo mo le ln od fe se td th cnt bw bs pl tk tc sill day lau)) (fun k => [.ref (ad 1), .int (iI i), .ref (ad (9 + i.toNat)), .int (iI (wlaZ (M i) k)), .int (iI k)]) (fun k => k ≤ 8) (fun k => 8 - k) 0 (by omega) rfl rfl (fun k hk ih => ?_)
  try dsimp only at hk ih ⊢
  refine Z.iload C dX4_waterlineArea_12 rfl ?_
  refine Z.bipush C dX4_waterlineArea_14 (by decide) ?_
  refine Z.icmpge C 39 dX4_waterlineArea_16 (by decide) (⟨by omega, by omega⟩) (⟨by omega, by omega⟩) (fun h => ?_) (fun h => ?_)
  · refine Z.iload_n C dX4_waterlineArea_39 rfl ?_
    exact Z.iret C hr dX4_waterlineArea_40 (⟨by rw [show k = 8 by omega], rfl⟩)
  · refine Z.iload_n C dX4_waterlineArea_19 rfl ?_
    refine Z.aload_n C dX4_waterlineArea_20 rfl ?_
    refine Z.iload C dX4_waterlineArea_21 rfl ?_
    refine Z.iald C _ (wX_row (by omega) (by omega)) (by omega) (by omega) (by decide) dX4_waterlineArea_23 ?_
    refine Z.aload_n C dX4_waterlineArea_24 rfl ?_
    refine Z.iload C dX4_waterlineArea_25 rfl ?_
    refine Z.iconst C dX4_waterlineArea_27 ?_
    refine Z.iadd C dX4_waterlineArea_28 ?_
    refine Z.iald C _ (wX_row (by omega) (by omega)) (by omega) (by omega) (by decide) dX4_waterlineArea_29 ?_
    refine Z.iadd C dX4_waterlineArea_30 ?_
    refine Z.iadd C dX4_waterlineArea_31 ?_
    refine Z.istore_n C dX4_waterlineArea_32 (by decide) ?_
    refine Z.iinc C dX4_waterlineArea_33 rfl (by decide) ?_
    refine Z.goto C 12 dX4_waterlineArea_36 (by decide) ?_
    exact ih (k + 1) (by omega) (by omega)
abbrev rmX4_volumeBySlices : Room := { frames := 1, cells := 0, slots := 0, locals := 24 }
set_option maxHeartbeats 4000000 in
set_option maxRecDepth 100000 in
theorem c_volumeBySlices (l : Launch) (D : va_G) (cI cJ cL : ClassId) (ad : Nat → Nat) (M B : Int → Int → Int) (lo ch wt sn vo mo le ln od fe se td th : Int → Int) (cnt bw bs pl tk tc sill day lau : Int) (w : Nat) (hw : w ≤ 5) : CI l yX4_volumeBySlices wsX4_volumeBySlices rmX4_volumeBySlices [.ref (ad 1), .int (iI w)] D cI cJ cL (wX ad cI cJ M B lo ch wt sn vo mo le ln od fe se td th cnt bw bs pl tk tc sill day lau) (fun r w' => r = slcZ M w ∧ w' = (wX ad cI cJ M B lo ch wt sn vo mo le ln od fe se td th cnt bw bs pl tk tc sill day lau)) := by
  refine CI.of (cc := cX4_volumeBySlices) (maxL := 4) (ret := (some .int)) (own := RX4) _ 2 (by decide +kernel) rfl rfl rfl (Nat.le_of_ble_eq_true rfl) rfl (fun sz9 p9 e9 s9 m9 a9 b9 h9 c9 C hr => ?_)
  refine Z.iconst C dX4_volumeBySlices_0 ?_
  refine Z.istore_n C dX4_volumeBySlices_1 (by decide) ?_
  refine Z.iconst C dX4_volumeBySlices_2 ?_
  refine Z.istore_n C dX4_volumeBySlices_3 (by decide) ?_
  refine Z.loop (α := Nat) (fun _ => (wX ad cI cJ M B lo ch wt sn vo mo le ln od fe se td th cnt bw bs pl tk tc sill day lau)) (fun k => [.ref (ad 1), .int (iI w), .int (iI (slcZ M k)), .int (iI k)]) (fun k => k ≤ w) (fun k => w - k) 0 (by omega) rfl rfl (fun k hk ih => ?_)
  try dsimp only at hk ih ⊢
  refine Z.iload_n C dX4_volumeBySlices_4 rfl ?_
  refine Z.iload_n C dX4_volumeBySlices_5 rfl ?_
  refine Z.icmpge C 31 dX4_volumeBySlices_6 (by decide) (⟨by omega, by omega⟩) (⟨by omega, by omega⟩) (fun h => ?_) (fun h => ?_)
  · refine Z.iload_n C dX4_volumeBySlices_31 rfl ?_
    exact Z.iret C hr dX4_volumeBySlices_32 (⟨by rw [show k = w by omega], rfl⟩)
  · refine Z.iload_n C dX4_volumeBySlices_9 rfl ?_
    refine Z.aload_n C dX4_volumeBySlices_10 rfl ?_
    refine Z.iload_n C dX4_volumeBySlices_11 rfl ?_
    refine Z.cVId C 1 1 (c_waterlineArea l D cI cJ cL ad M B lo ch wt sn vo mo le ln od fe se td th cnt bw bs pl tk tc sill day lau k (by omega) (by omega)) rfl rfl gX4_volumeBySlices_X4_waterlineArea rfl rfl rfl (by decide +kernel) ⟨Nat.le_of_ble_eq_true rfl, Nat.le_of_ble_eq_true rfl⟩ rfl rfl (Nat.le_of_ble_eq_true rfl) ⟨Nat.le_of_ble_eq_true rfl, Nat.le_of_ble_eq_true rfl⟩ dX4_volumeBySlices_12 ?_
    refine Z.aload_n C dX4_volumeBySlices_15 rfl ?_
    refine Z.iload_n C dX4_volumeBySlices_16 rfl ?_
    refine Z.iconst C dX4_volumeBySlices_17 ?_
    refine Z.iadd C dX4_volumeBySlices_18 ?_
    refine Z.cVId C 1 1 (c_waterlineArea l D cI cJ cL ad M B lo ch wt sn vo mo le ln od fe se td th cnt bw bs pl tk tc sill day lau (k + 1) (by omega) (by omega)) rfl rfl gX4_volumeBySlices_X4_waterlineArea rfl rfl rfl (by decide +kernel) ⟨Nat.le_of_ble_eq_true rfl, Nat.le_of_ble_eq_true rfl⟩ rfl rfl (Nat.le_of_ble_eq_true rfl) ⟨Nat.le_of_ble_eq_true rfl, Nat.le_of_ble_eq_true rfl⟩ dX4_volumeBySlices_19 ?_
    refine Z.iadd C dX4_volumeBySlices_22 ?_
    refine Z.iadd C dX4_volumeBySlices_23 ?_
    refine Z.istore_n C dX4_volumeBySlices_24 (by decide) ?_
    refine Z.iinc C dX4_volumeBySlices_25 rfl (by decide) ?_
    refine Z.goto C 4 dX4_volumeBySlices_28 (by decide) ?_
    exact ih (k + 1) (by omega) (by omega)
set_option maxRecDepth 20000 in
theorem iw_X4_strakeLength_4 : ∀ w ∈ u_ws RX4 TX4 1, w ∈ wsX4_strakeLength := by decide +kernel
abbrev rmX4_strakeLength : Room := { frames := 1, cells := 0, slots := 0, locals := 21 }
set_option maxHeartbeats 4000000 in
set_option maxRecDepth 100000 in
theorem c_strakeLength (l : Launch) (D : va_G) (cI cJ cL : ClassId) (ad : Nat → Nat) (M B : Int → Int → Int) (lo ch wt sn vo mo le ln od fe se td th : Int → Int) (cnt bw bs pl tk tc sill day lau : Int) (hM : hOK M) (i : Int) (hi0 : 0 ≤ i) (hi1 : i ≤ 5) : CI l yX4_strakeLength wsX4_strakeLength rmX4_strakeLength [.ref (ad 1), .int (iI i)] D cI cJ cL (wX ad cI cJ M B lo ch wt sn vo mo le ln od fe se td th cnt bw bs pl tk tc sill day lau) (fun r w' => r = strZ (M i) 8 ∧ w' = (wX ad cI cJ M B lo ch wt sn vo mo le ln od fe se td th cnt bw bs pl tk tc sill day lau)) := by
  refine CI.of (cc := cX4_strakeLength) (maxL := 5) (ret := (some .int)) (own := RX4) _ 3 (by decide +kernel) rfl rfl rfl (Nat.le_of_ble_eq_true rfl) rfl (fun sz9 p9 e9 s9 m9 a9 b9 h9 c9 C hr => ?_)
  refine Z.aload_n C dX4_strakeLength_0 rfl ?_
  refine Z.getf C 1 0 iw_X4_strakeLength_4 rfl rfl (by decide) (by decide +kernel) rfl dX4_strakeLength_1 ?_
  refine Z.iload_n C dX4_strakeLength_4 rfl ?_
  refine Z.aald C 2 rfl (by omega) (by omega) (by decide) dX4_strakeLength_5 ?_
  refine Z.astore_n C dX4_strakeLength_6 (by decide) ?_
  refine Z.iconst C dX4_strakeLength_7 ?_
  refine Z.istore_n C dX4_strakeLength_8 (by decide) ?_
  refine Z.iconst C dX4_strakeLength_9 ?_
  refine Z.istore C dX4_strakeLength_10 (by decide) ?_
  refine Z.loop (α := Nat) (fun _ => (wX ad cI cJ M B lo ch wt sn vo mo le ln od fe se td th cnt bw bs pl tk tc sill day lau)) (fun k => [.ref (ad 1), .int (iI i), .ref (ad (9 + i.toNat)), .int (iI (strZ (M i) k)), .int (iI k)]) (fun k => k ≤ 8) (fun k => 8 - k) 0 (by omega) rfl rfl (fun k hk ih => ?_)
  try dsimp only at hk ih ⊢
  refine Z.iload C dX4_strakeLength_12 rfl ?_
  refine Z.bipush C dX4_strakeLength_14 (by decide) ?_
  refine Z.icmpge C 45 dX4_strakeLength_16 (by decide) (⟨by omega, by omega⟩) (⟨by omega, by omega⟩) (fun h => ?_) (fun h => ?_)
  · refine Z.iload_n C dX4_strakeLength_45 rfl ?_
    exact Z.iret C hr dX4_strakeLength_46 (⟨by rw [show k = 8 by omega], rfl⟩)
  · have b1 := hM i k
    have b2 := hM i (k + 1)
    refine Z.iload_n C dX4_strakeLength_19 rfl ?_
    refine Z.bipush C dX4_strakeLength_20 (by decide) ?_
    refine Z.aload_n C dX4_strakeLength_22 rfl ?_
    refine Z.iload C dX4_strakeLength_23 rfl ?_
    refine Z.iald C _ (wX_row (by omega) (by omega)) (by omega) (by omega) (by decide) dX4_strakeLength_25 ?_
    refine Z.aload_n C dX4_strakeLength_26 rfl ?_
    refine Z.iload C dX4_strakeLength_27 rfl ?_
    refine Z.iconst C dX4_strakeLength_29 ?_
    refine Z.iadd C dX4_strakeLength_30 ?_
    refine Z.iald C _ (wX_row (by omega) (by omega)) (by omega) (by omega) (by decide) dX4_strakeLength_31 ?_
    refine Z.isub C dX4_strakeLength_32 ?_
    refine Z.mabs C (by decide +kernel) (by decide +kernel) (by decide +kernel) (by decide +kernel) (Nat.le_of_ble_eq_true rfl) (Nat.le_of_ble_eq_true rfl) ⟨Nat.le_of_ble_eq_true rfl, Nat.le_of_ble_eq_true rfl⟩ (⟨by omega, by omega⟩) dX4_strakeLength_33 ?_
    refine Z.iadd C dX4_strakeLength_36 ?_
    refine Z.iadd C dX4_strakeLength_37 ?_
    refine Z.istore_n C dX4_strakeLength_38 (by decide) ?_
    refine Z.iinc C dX4_strakeLength_39 rfl (by decide) ?_
    refine Z.goto C 12 dX4_strakeLength_42 (by decide) ?_
    exact ih (k + 1) (by omega) (by omega)
abbrev rmX6_squareOfBend : Room := { frames := 0, cells := 0, slots := 0, locals := 0 }
set_option maxHeartbeats 4000000 in
set_option maxRecDepth 100000 in
theorem c_squareOfBend (l : Launch) (D : va_G) (cI cJ cL : ClassId) (b a c : Int) : CI l yX6_squareOfBend wsX6_squareOfBend rmX6_squareOfBend [.int (iI b), .int (iI a), .int (iI c)] D cI cJ cL [] (fun r w' => r = sqZ b a c ∧ w' = []) := by
  refine CI.of (cc := cX6_squareOfBend) (maxL := 4) (ret := (some .int)) (own := RX6) _ 1 (by decide +kernel) rfl rfl rfl (Nat.le_of_ble_eq_true rfl) rfl (fun sz9 p9 e9 s9 m9 a9 b9 h9 c9 C hr => ?_)
  refine Z.iload_n C dX6_squareOfBend_0 rfl ?_
  refine Z.iload_n C dX6_squareOfBend_1 rfl ?_
  refine Z.iadd C dX6_squareOfBend_2 ?_
  refine Z.iconst C dX6_squareOfBend_3 ?_
  refine Z.iload_n C dX6_squareOfBend_4 rfl ?_
  refine Z.imul C dX6_squareOfBend_5 ?_
  refine Z.isub C dX6_squareOfBend_6 ?_
  refine Z.istore_n C dX6_squareOfBend_7 (by decide) ?_
  refine Z.iload_n C dX6_squareOfBend_8 rfl ?_
  refine Z.iload_n C dX6_squareOfBend_9 rfl ?_
  refine Z.imul C dX6_squareOfBend_10 ?_
  exact Z.iret C hr dX6_squareOfBend_11 (⟨rfl, rfl⟩)
abbrev rmX6_bendOfLine : Room := { frames := 1, cells := 0, slots := 0, locals := 23 }
set_option maxHeartbeats 4000000 in
set_option maxRecDepth 100000 in
theorem c_bendOfLine (l : Launch) (D : va_G) (cI cJ cL : ClassId) (ad : Nat → Nat) (M B : Int → Int → Int) (lo ch wt sn vo mo le ln od fe se td th : Int → Int) (cnt bw bs pl tk tc sill day lau : Int) (i : Int) (hi0 : 0 ≤ i) (hi1 : i ≤ 5) : CI l yX6_bendOfLine wsX6_bendOfLine rmX6_bendOfLine [.ref (ad (9 + i.toNat))] D cI cJ cL (wX ad cI cJ M B lo ch wt sn vo mo le ln od fe se td th cnt bw bs pl tk tc sill day lau) (fun r w' => r = bendZ (M i) 7 ∧ w' = (wX ad cI cJ M B lo ch wt sn vo mo le ln od fe se td th cnt bw bs pl tk tc sill day lau)) := by
  refine CI.of (cc := cX6_bendOfLine) (maxL := 3) (ret := (some .int)) (own := RX6) _ 2 (by decide +kernel) rfl rfl rfl (Nat.le_of_ble_eq_true rfl) rfl (fun sz9 p9 e9 s9 m9 a9 b9 h9 c9 C hr => ?_)
  refine Z.iconst C dX6_bendOfLine_0 ?_
  refine Z.istore_n C dX6_bendOfLine_1 (by decide) ?_
  refine Z.iconst C dX6_bendOfLine_2 ?_
  refine Z.istore_n C dX6_bendOfLine_3 (by decide) ?_
  refine Z.loop (α := Nat) (fun _ => (wX ad cI cJ M B lo ch wt sn vo mo le ln od fe se td th cnt bw bs pl tk tc sill day lau)) (fun k => [.ref (ad (9 + i.toNat)), .int (iI (bendZ (M i) k)), .int (iI (k + 1))]) (fun k => k ≤ 7) (fun k => 7 - k) 0 (by omega) rfl rfl (fun k hk ih => ?_)
  try dsimp only at hk ih ⊢
  refine Z.iload_n C dX6_bendOfLine_4 rfl ?_
  refine Z.bipush C dX6_bendOfLine_5 (by decide) ?_
  refine Z.icmpge C 35 dX6_bendOfLine_7 (by decide) (⟨by omega, by omega⟩) (⟨by omega, by omega⟩) (fun h => ?_) (fun h => ?_)
  · refine Z.iload_n C dX6_bendOfLine_35 rfl ?_
    exact Z.iret C hr dX6_bendOfLine_36 (⟨by rw [show k = 7 by omega], rfl⟩)
  · refine Z.iload_n C dX6_bendOfLine_10 rfl ?_
    refine Z.aload_n C dX6_bendOfLine_11 rfl ?_
    refine Z.iload_n C dX6_bendOfLine_12 rfl ?_
    refine Z.iconst C dX6_bendOfLine_13 ?_
    refine Z.isub C dX6_bendOfLine_14 ?_
    rw [show (k : Int) + 1 - 1 = k by omega]
    refine Z.iald C _ (wX_row (by omega) (by omega)) (by omega) (by omega) (by decide) dX6_bendOfLine_15 ?_
    refine Z.aload_n C dX6_bendOfLine_16 rfl ?_
    refine Z.iload_n C dX6_bendOfLine_17 rfl ?_
    refine Z.iald C _ (wX_row (by omega) (by omega)) (by omega) (by omega) (by decide) dX6_bendOfLine_18 ?_
    refine Z.aload_n C dX6_bendOfLine_19 rfl ?_
    refine Z.iload_n C dX6_bendOfLine_20 rfl ?_
    refine Z.iconst C dX6_bendOfLine_21 ?_
    refine Z.iadd C dX6_bendOfLine_22 ?_
    refine Z.iald C _ (wX_row (by omega) (by omega)) (by omega) (by omega) (by decide) dX6_bendOfLine_23 ?_
    refine Z.cSIp C 3 (c_squareOfBend l D cI cJ cL (M i k) (M i (k + 1)) (M i (k + 1 + 1))) gX6_bendOfLine_X6_squareOfBend rfl rfl rfl (by decide +kernel) ⟨Nat.le_of_ble_eq_true rfl, Nat.le_of_ble_eq_true rfl⟩ rfl rfl (Nat.le_of_ble_eq_true rfl) ⟨Nat.le_of_ble_eq_true rfl, Nat.le_of_ble_eq_true rfl⟩ dX6_bendOfLine_24 ?_
    refine Z.iadd C dX6_bendOfLine_27 ?_
    refine Z.istore_n C dX6_bendOfLine_28 (by decide) ?_
    refine Z.iinc C dX6_bendOfLine_29 rfl (by decide) ?_
    refine Z.goto C 4 dX6_bendOfLine_32 (by decide) ?_
    exact ih (k + 1) (by omega) (by omega)
end
section
/-! ===== Cargo ===== -/
def sumZ (f : Int → Int) : Nat → Int
  | 0 => 0
  | k + 1 => sumZ f k + f k
def msZ (f g : Int → Int) : Nat → Int
  | 0 => 0
  | k + 1 => msZ f g k + f k * 20 * g k
def wOK (wt sn : Int → Int) : Prop := ∀ j : Int, 0 ≤ wt j ∧ wt j ≤ 999 ∧ 0 ≤ sn j ∧ sn j ≤ 8
theorem sumZ_bd {wt sn : Int → Int} (h : wOK wt sn) : ∀ k : Nat, 0 ≤ sumZ wt k ∧ sumZ wt k ≤ 999 * k
  | 0 => by simp [sumZ]
  | k + 1 => by
    have ih := sumZ_bd h k
    have h1 := h k
    simp only [sumZ]
    push_cast
    omega
theorem mul_bd {a b : Int} (ha : 0 ≤ a) (hb : 0 ≤ b) (hb8 : b ≤ 8) : 0 ≤ a * 20 * b ∧ a * 20 * b ≤ a * 160 := by
  rcases (show b = 0 ∨ b = 1 ∨ b = 2 ∨ b = 3 ∨ b = 4 ∨ b = 5 ∨ b = 6 ∨ b = 7 ∨ b = 8 by omega) with rfl | rfl | rfl | rfl | rfl | rfl | rfl | rfl | rfl <;> omega
theorem msZ_bd {wt sn : Int → Int} (h : wOK wt sn) : ∀ k : Nat, 0 ≤ msZ wt sn k ∧ msZ wt sn k ≤ 160 * sumZ wt k
  | 0 => by simp [msZ, sumZ]
  | k + 1 => by
    have ih := msZ_bd h k
    have h1 := h k
    have h2 := mul_bd h1.1 h1.2.2.1 h1.2.2.2
    simp only [msZ, sumZ]
    omega
set_option maxRecDepth 20000 in
theorem iw_X3_isFull_3 : ∀ w ∈ u_ws RX3 TX3 5, w ∈ wsX3_isFull := by decide +kernel
abbrev rmX3_isFull : Room := { frames := 0, cells := 0, slots := 0, locals := 0 }
set_option maxHeartbeats 4000000 in
set_option maxRecDepth 100000 in
theorem c_isFull (l : Launch) (D : va_G) (cI cJ cL : ClassId) (ad : Nat → Nat) (M B : Int → Int → Int) (lo ch wt sn vo mo le ln od fe se td th : Int → Int) (cnt bw bs pl tk tc sill day lau : Int) (hc0 : 0 ≤ cnt) (hc1 : cnt ≤ 16) : CI l yX3_isFull wsX3_isFull rmX3_isFull [.ref (ad 5)] D cI cJ cL (wX ad cI cJ M B lo ch wt sn vo mo le ln od fe se td th cnt bw bs pl tk tc sill day lau) (fun r w' => r = (if cnt < 16 then 0 else 1) ∧ w' = (wX ad cI cJ M B lo ch wt sn vo mo le ln od fe se td th cnt bw bs pl tk tc sill day lau)) := by
  refine CI.of (cc := cX3_isFull) (maxL := 1) (ret := (some .boolean)) (own := RX3) _ 0 (by decide +kernel) rfl rfl rfl (Nat.le_of_ble_eq_true rfl) rfl (fun sz9 p9 e9 s9 m9 a9 b9 h9 c9 C hr => ?_)
  refine Z.aload_n C dX3_isFull_0 rfl ?_
  refine Z.getf C 5 2 iw_X3_isFull_3 rfl rfl (by decide) (by decide +kernel) rfl dX3_isFull_1 ?_
  refine Z.bipush C dX3_isFull_4 (by decide) ?_
  refine Z.icmplt C 13 dX3_isFull_6 (by decide) (⟨by omega, by omega⟩) (⟨by omega, by omega⟩) (fun h => ?_) (fun h => ?_)
  · refine Z.iconst C dX3_isFull_13 ?_
    exact Z.zret C hr (by omega) dX3_isFull_14 (⟨(if_pos h).symm, rfl⟩)
  · refine Z.iconst C dX3_isFull_9 ?_
    refine Z.goto C 14 dX3_isFull_10 (by decide) ?_
    exact Z.zret C hr (by omega) dX3_isFull_14 (⟨(if_neg (by omega)).symm, rfl⟩)
set_option maxRecDepth 20000 in
theorem iw_X3_add_3 : ∀ w ∈ u_ws RX3 TX3 5, w ∈ wsX3_add := by decide +kernel
abbrev rmX3_add : Room := { frames := 0, cells := 0, slots := 0, locals := 0 }
set_option maxHeartbeats 4000000 in
set_option maxRecDepth 100000 in
theorem c_add (l : Launch) (D : va_G) (cI cJ cL : ClassId) (ad : Nat → Nat) (M B : Int → Int → Int) (lo ch wt sn vo mo le ln od fe se td th : Int → Int) (cnt bw bs pl tk tc sill day lau : Int) (x w : Int) (hc0 : 0 ≤ cnt) (hc1 : cnt < 16) : CI l yX3_add wsX3_add rmX3_add [.ref (ad 5), .int (iI x), .int (iI w)] D cI cJ cL (wX ad cI cJ M B lo ch wt sn vo mo le ln od fe se td th cnt bw bs pl tk tc sill day lau) (fun r w' => r = cnt ∧ w' = (wX ad cI cJ M B lo ch (zset wt cnt w) (zset sn cnt x) vo mo le ln od fe se td th (cnt + 1) bw bs pl tk tc sill day lau)) := by
  refine CI.of (cc := cX3_add) (maxL := 3) (ret := (some .int)) (own := RX3) _ 0 (by decide +kernel) rfl rfl rfl (Nat.le_of_ble_eq_true rfl) rfl (fun sz9 p9 e9 s9 m9 a9 b9 h9 c9 C hr => ?_)
  refine Z.aload_n C dX3_add_0 rfl ?_
  refine Z.getf C 5 0 iw_X3_add_3 rfl rfl (by decide) (by decide +kernel) rfl dX3_add_1 ?_
  refine Z.aload_n C dX3_add_4 rfl ?_
  refine Z.getf C 5 2 iw_X3_add_3 rfl rfl (by decide) (by decide +kernel) rfl dX3_add_5 ?_
  refine Z.iload_n C dX3_add_8 rfl ?_
  refine Z.iast C 25 rfl (by omega) (by omega) (by decide) dX3_add_9 wX_a25 ?_
  refine Z.aload_n C dX3_add_10 rfl ?_
  refine Z.getf C 5 1 iw_X3_add_3 rfl rfl (by decide) (by decide +kernel) rfl dX3_add_11 ?_
  refine Z.aload_n C dX3_add_14 rfl ?_
  refine Z.getf C 5 2 iw_X3_add_3 rfl rfl (by decide) (by decide +kernel) rfl dX3_add_15 ?_
  refine Z.iload_n C dX3_add_18 rfl ?_
  refine Z.iast C 26 rfl (by omega) (by omega) (by decide) dX3_add_19 wX_a26 ?_
  refine Z.aload_n C dX3_add_20 rfl ?_
  refine Z.dup C dX3_add_21 rfl ?_
  refine Z.getf C 5 2 iw_X3_add_3 rfl rfl (by decide) (by decide +kernel) rfl dX3_add_22 ?_
  refine Z.iconst C dX3_add_25 ?_
  refine Z.iadd C dX3_add_26 ?_
  refine Z.putf C 5 2 iw_X3_add_3 rfl rfl (by decide) tyX3 tyX3_ok nmX3 (by decide +kernel) rfl (ty := .int) (by decide +kernel) rfl rfl (Nat.le_of_ble_eq_true rfl) dX3_add_27 wX_s_cnt ?_
  refine Z.aload_n C dX3_add_30 rfl ?_
  refine Z.getf C 5 2 iw_X3_add_3 rfl rfl (by decide) (by decide +kernel) rfl dX3_add_31 ?_
  refine Z.iconst C dX3_add_34 ?_
  refine Z.isub C dX3_add_35 ?_
  rw [show cnt + 1 - 1 = cnt by omega]
  exact Z.iret C hr dX3_add_36 (⟨rfl, rfl⟩)
set_option maxRecDepth 20000 in
theorem iw_X3_replace_3 : ∀ w ∈ u_ws RX3 TX3 5, w ∈ wsX3_replace := by decide +kernel
abbrev rmX3_replace : Room := { frames := 0, cells := 0, slots := 0, locals := 0 }
set_option maxHeartbeats 4000000 in
set_option maxRecDepth 100000 in
theorem c_replace (l : Launch) (D : va_G) (cI cJ cL : ClassId) (ad : Nat → Nat) (M B : Int → Int → Int) (lo ch wt sn vo mo le ln od fe se td th : Int → Int) (cnt bw bs pl tk tc sill day lau : Int) (q x w : Int) (hq0 : 0 ≤ q) (hq1 : q < 16) : CI l yX3_replace wsX3_replace rmX3_replace [.ref (ad 5), .int (iI q), .int (iI x), .int (iI w)] D cI cJ cL (wX ad cI cJ M B lo ch wt sn vo mo le ln od fe se td th cnt bw bs pl tk tc sill day lau) (fun r w' => r = 10 * wt q + sn q ∧ w' = (wX ad cI cJ M B lo ch (zset wt q w) (zset sn q x) vo mo le ln od fe se td th cnt bw bs pl tk tc sill day lau)) := by
  refine CI.of (cc := cX3_replace) (maxL := 5) (ret := (some .int)) (own := RX3) _ 1 (by decide +kernel) rfl rfl rfl (Nat.le_of_ble_eq_true rfl) rfl (fun sz9 p9 e9 s9 m9 a9 b9 h9 c9 C hr => ?_)
  refine Z.bipush C dX3_replace_0 (by decide) ?_
  refine Z.aload_n C dX3_replace_2 rfl ?_
  refine Z.getf C 5 0 iw_X3_replace_3 rfl rfl (by decide) (by decide +kernel) rfl dX3_replace_3 ?_
  refine Z.iload_n C dX3_replace_6 rfl ?_
  refine Z.iald C 25 rfl (by omega) (by omega) (by decide) dX3_replace_7 ?_
  refine Z.imul C dX3_replace_8 ?_
  refine Z.aload_n C dX3_replace_9 rfl ?_
  refine Z.getf C 5 1 iw_X3_replace_3 rfl rfl (by decide) (by decide +kernel) rfl dX3_replace_10 ?_
  refine Z.iload_n C dX3_replace_13 rfl ?_
  refine Z.iald C 26 rfl (by omega) (by omega) (by decide) dX3_replace_14 ?_
  refine Z.iadd C dX3_replace_15 ?_
  refine Z.istore C dX3_replace_16 (by decide) ?_
  refine Z.aload_n C dX3_replace_18 rfl ?_
  refine Z.getf C 5 0 iw_X3_replace_3 rfl rfl (by decide) (by decide +kernel) rfl dX3_replace_19 ?_
  refine Z.iload_n C dX3_replace_22 rfl ?_
  refine Z.iload_n C dX3_replace_23 rfl ?_
  refine Z.iast C 25 rfl (by omega) (by omega) (by decide) dX3_replace_24 wX_a25 ?_
  refine Z.aload_n C dX3_replace_25 rfl ?_
  refine Z.getf C 5 1 iw_X3_replace_3 rfl rfl (by decide) (by decide +kernel) rfl dX3_replace_26 ?_
  refine Z.iload_n C dX3_replace_29 rfl ?_
  refine Z.iload_n C dX3_replace_30 rfl ?_
  refine Z.iast C 26 rfl (by omega) (by omega) (by decide) dX3_replace_31 wX_a26 ?_
  refine Z.iload C dX3_replace_32 rfl ?_
  exact Z.iret C hr dX3_replace_34 (⟨rfl, rfl⟩)
set_option maxRecDepth 20000 in
theorem iw_X3_loadWithoutBallast_3 : ∀ w ∈ u_ws RX3 TX3 5, w ∈ wsX3_loadWithoutBallast := by decide +kernel
abbrev rmX3_loadWithoutBallast : Room := { frames := 0, cells := 0, slots := 0, locals := 0 }
set_option maxHeartbeats 4000000 in
set_option maxRecDepth 100000 in
theorem c_loadWithoutBallast (l : Launch) (D : va_G) (cI cJ cL : ClassId) (ad : Nat → Nat) (M B : Int → Int → Int) (lo ch wt sn vo mo le ln od fe se td th : Int → Int) (cnt bw bs pl tk tc sill day lau : Int) (hc0 : 0 ≤ cnt) (hc1 : cnt ≤ 16) : CI l yX3_loadWithoutBallast wsX3_loadWithoutBallast rmX3_loadWithoutBallast [.ref (ad 5)] D cI cJ cL (wX ad cI cJ M B lo ch wt sn vo mo le ln od fe se td th cnt bw bs pl tk tc sill day lau) (fun r w' => r = 10 * sumZ wt cnt.toNat ∧ w' = (wX ad cI cJ M B lo ch wt sn vo mo le ln od fe se td th cnt bw bs pl tk tc sill day lau)) := by
  refine CI.of (cc := cX3_loadWithoutBallast) (maxL := 3) (ret := (some .int)) (own := RX3) _ 2 (by decide +kernel) rfl rfl rfl (Nat.le_of_ble_eq_true rfl) rfl (fun sz9 p9 e9 s9 m9 a9 b9 h9 c9 C hr => ?_)
  refine Z.iconst C dX3_loadWithoutBallast_0 ?_
  refine Z.istore_n C dX3_loadWithoutBallast_1 (by decide) ?_
  refine Z.iconst C dX3_loadWithoutBallast_2 ?_
  refine Z.istore_n C dX3_loadWithoutBallast_3 (by decide) ?_
  refine Z.loop (α := Nat) (fun _ => (wX ad cI cJ M B lo ch wt sn vo mo le ln od fe se td th cnt bw bs pl tk tc sill day lau)) (fun k => [.ref (ad 5), .int (iI (sumZ wt k)), .int (iI k)]) (fun k => k ≤ cnt.toNat) (fun k => cnt.toNat - k) 0 (by omega) rfl rfl (fun k hk ih => ?_)
  refine Z.iload_n C dX3_loadWithoutBallast_4 rfl ?_
  refine Z.aload_n C dX3_loadWithoutBallast_5 rfl ?_
  refine Z.getf C 5 2 iw_X3_loadWithoutBallast_3 rfl rfl (by decide) (by decide +kernel) rfl dX3_loadWithoutBallast_6 ?_
  refine Z.icmpge C 27 dX3_loadWithoutBallast_9 (by decide) (⟨by omega, by omega⟩) (⟨by omega, by omega⟩) (fun h => ?_) (fun h => ?_)
  · refine Z.bipush C dX3_loadWithoutBallast_27 (by decide) ?_
    refine Z.iload_n C dX3_loadWithoutBallast_29 rfl ?_
    refine Z.imul C dX3_loadWithoutBallast_30 ?_
    exact Z.iret C hr dX3_loadWithoutBallast_31 (⟨by rw [show k = cnt.toNat by omega], rfl⟩)
  · refine Z.iload_n C dX3_loadWithoutBallast_12 rfl ?_
    refine Z.aload_n C dX3_loadWithoutBallast_13 rfl ?_
    refine Z.getf C 5 0 iw_X3_loadWithoutBallast_3 rfl rfl (by decide) (by decide +kernel) rfl dX3_loadWithoutBallast_14 ?_
    refine Z.iload_n C dX3_loadWithoutBallast_17 rfl ?_
    refine Z.iald C 25 rfl (by omega) (by omega) (by decide) dX3_loadWithoutBallast_18 ?_
    refine Z.iadd C dX3_loadWithoutBallast_19 ?_
    refine Z.istore_n C dX3_loadWithoutBallast_20 (by decide) ?_
    refine Z.iinc C dX3_loadWithoutBallast_21 rfl (by decide) ?_
    refine Z.goto C 4 dX3_loadWithoutBallast_24 (by decide) ?_
    exact ih (k + 1) (by omega) (by omega)
set_option maxRecDepth 20000 in
theorem iw_X3_momentWithoutBallast_3 : ∀ w ∈ u_ws RX3 TX3 5, w ∈ wsX3_momentWithoutBallast := by decide +kernel
abbrev rmX3_momentWithoutBallast : Room := { frames := 0, cells := 0, slots := 0, locals := 0 }
set_option maxHeartbeats 4000000 in
set_option maxRecDepth 100000 in
theorem c_momentWithoutBallast (l : Launch) (D : va_G) (cI cJ cL : ClassId) (ad : Nat → Nat) (M B : Int → Int → Int) (lo ch wt sn vo mo le ln od fe se td th : Int → Int) (cnt bw bs pl tk tc sill day lau : Int) (hc0 : 0 ≤ cnt) (hc1 : cnt ≤ 16) : CI l yX3_momentWithoutBallast wsX3_momentWithoutBallast rmX3_momentWithoutBallast [.ref (ad 5)] D cI cJ cL (wX ad cI cJ M B lo ch wt sn vo mo le ln od fe se td th cnt bw bs pl tk tc sill day lau) (fun r w' => r = msZ wt sn cnt.toNat ∧ w' = (wX ad cI cJ M B lo ch wt sn vo mo le ln od fe se td th cnt bw bs pl tk tc sill day lau)) := by
  refine CI.of (cc := cX3_momentWithoutBallast) (maxL := 3) (ret := (some .int)) (own := RX3) _ 2 (by decide +kernel) rfl rfl rfl (Nat.le_of_ble_eq_true rfl) rfl (fun sz9 p9 e9 s9 m9 a9 b9 h9 c9 C hr => ?_)
  refine Z.iconst C dX3_momentWithoutBallast_0 ?_
  refine Z.istore_n C dX3_momentWithoutBallast_1 (by decide) ?_
  refine Z.iconst C dX3_momentWithoutBallast_2 ?_
  refine Z.istore_n C dX3_momentWithoutBallast_3 (by decide) ?_
  refine Z.loop (α := Nat) (fun _ => (wX ad cI cJ M B lo ch wt sn vo mo le ln od fe se td th cnt bw bs pl tk tc sill day lau)) (fun k => [.ref (ad 5), .int (iI (msZ wt sn k)), .int (iI k)]) (fun k => k ≤ cnt.toNat) (fun k => cnt.toNat - k) 0 (by omega) rfl rfl (fun k hk ih => ?_)
  refine Z.iload_n C dX3_momentWithoutBallast_4 rfl ?_
  refine Z.aload_n C dX3_momentWithoutBallast_5 rfl ?_
  refine Z.getf C 5 2 iw_X3_momentWithoutBallast_3 rfl rfl (by decide) (by decide +kernel) rfl dX3_momentWithoutBallast_6 ?_
  refine Z.icmpge C 37 dX3_momentWithoutBallast_9 (by decide) (⟨by omega, by omega⟩) (⟨by omega, by omega⟩) (fun h => ?_) (fun h => ?_)
  · refine Z.iload_n C dX3_momentWithoutBallast_37 rfl ?_
    exact Z.iret C hr dX3_momentWithoutBallast_38 (⟨by rw [show k = cnt.toNat by omega], rfl⟩)
  · refine Z.iload_n C dX3_momentWithoutBallast_12 rfl ?_
    refine Z.aload_n C dX3_momentWithoutBallast_13 rfl ?_
    refine Z.getf C 5 0 iw_X3_momentWithoutBallast_3 rfl rfl (by decide) (by decide +kernel) rfl dX3_momentWithoutBallast_14 ?_
    refine Z.iload_n C dX3_momentWithoutBallast_17 rfl ?_
    refine Z.iald C 25 rfl (by omega) (by omega) (by decide) dX3_momentWithoutBallast_18 ?_
    refine Z.bipush C dX3_momentWithoutBallast_19 (by decide) ?_
    refine Z.imul C dX3_momentWithoutBallast_21 ?_
    refine Z.aload_n C dX3_momentWithoutBallast_22 rfl ?_
    refine Z.getf C 5 1 iw_X3_momentWithoutBallast_3 rfl rfl (by decide) (by decide +kernel) rfl dX3_momentWithoutBallast_23 ?_
    refine Z.iload_n C dX3_momentWithoutBallast_26 rfl ?_
    refine Z.iald C 26 rfl (by omega) (by omega) (by decide) dX3_momentWithoutBallast_27 ?_
    refine Z.imul C dX3_momentWithoutBallast_28 ?_
    refine Z.iadd C dX3_momentWithoutBallast_29 ?_
    refine Z.istore_n C dX3_momentWithoutBallast_30 (by decide) ?_
    refine Z.iinc C dX3_momentWithoutBallast_31 rfl (by decide) ?_
    refine Z.goto C 4 dX3_momentWithoutBallast_34 (by decide) ?_
    exact ih (k + 1) (by omega) (by omega)
set_option maxRecDepth 20000 in
theorem iw_X3_wholeLoad_3 : ∀ w ∈ u_ws RX3 TX3 5, w ∈ wsX3_wholeLoad := by decide +kernel
abbrev rmX3_wholeLoad : Room := { frames := 1, cells := 0, slots := 0, locals := 22 }
set_option maxHeartbeats 4000000 in
set_option maxRecDepth 100000 in
theorem c_wholeLoad (l : Launch) (D : va_G) (cI cJ cL : ClassId) (ad : Nat → Nat) (M B : Int → Int → Int) (lo ch wt sn vo mo le ln od fe se td th : Int → Int) (cnt bw bs pl tk tc sill day lau : Int) (hc0 : 0 ≤ cnt) (hc1 : cnt ≤ 16) : CI l yX3_wholeLoad wsX3_wholeLoad rmX3_wholeLoad [.ref (ad 5)] D cI cJ cL (wX ad cI cJ M B lo ch wt sn vo mo le ln od fe se td th cnt bw bs pl tk tc sill day lau) (fun r w' => r = 10 * sumZ wt cnt.toNat + 10 * bw ∧ w' = (wX ad cI cJ M B lo ch wt sn vo mo le ln od fe se td th cnt bw bs pl tk tc sill day lau)) := by
  refine CI.of (cc := cX3_wholeLoad) (maxL := 1) (ret := (some .int)) (own := RX3) _ 0 (by decide +kernel) rfl rfl rfl (Nat.le_of_ble_eq_true rfl) rfl (fun sz9 p9 e9 s9 m9 a9 b9 h9 c9 C hr => ?_)
  refine Z.aload_n C dX3_wholeLoad_0 rfl ?_
  refine Z.cVId C 5 0 (c_loadWithoutBallast l D cI cJ cL ad M B lo ch wt sn vo mo le ln od fe se td th cnt bw bs pl tk tc sill day lau hc0 hc1) rfl rfl gX3_wholeLoad_X3_loadWithoutBallast rfl rfl rfl (by decide +kernel) ⟨Nat.le_of_ble_eq_true rfl, Nat.le_of_ble_eq_true rfl⟩ rfl rfl (Nat.le_of_ble_eq_true rfl) ⟨Nat.le_of_ble_eq_true rfl, Nat.le_of_ble_eq_true rfl⟩ dX3_wholeLoad_1 ?_
  refine Z.bipush C dX3_wholeLoad_4 (by decide) ?_
  refine Z.aload_n C dX3_wholeLoad_6 rfl ?_
  refine Z.getf C 5 3 iw_X3_wholeLoad_3 rfl rfl (by decide) (by decide +kernel) rfl dX3_wholeLoad_7 ?_
  refine Z.imul C dX3_wholeLoad_10 ?_
  refine Z.iadd C dX3_wholeLoad_11 ?_
  exact Z.iret C hr dX3_wholeLoad_12 (⟨rfl, rfl⟩)
set_option maxRecDepth 20000 in
theorem iw_X3_wholeMoment_3 : ∀ w ∈ u_ws RX3 TX3 5, w ∈ wsX3_wholeMoment := by decide +kernel
abbrev rmX3_wholeMoment : Room := { frames := 1, cells := 0, slots := 0, locals := 22 }
set_option maxHeartbeats 4000000 in
set_option maxRecDepth 100000 in
theorem c_wholeMoment (l : Launch) (D : va_G) (cI cJ cL : ClassId) (ad : Nat → Nat) (M B : Int → Int → Int) (lo ch wt sn vo mo le ln od fe se td th : Int → Int) (cnt bw bs pl tk tc sill day lau : Int) (hc0 : 0 ≤ cnt) (hc1 : cnt ≤ 16) : CI l yX3_wholeMoment wsX3_wholeMoment rmX3_wholeMoment [.ref (ad 5)] D cI cJ cL (wX ad cI cJ M B lo ch wt sn vo mo le ln od fe se td th cnt bw bs pl tk tc sill day lau) (fun r w' => r = msZ wt sn cnt.toNat + bw * 20 * bs ∧ w' = (wX ad cI cJ M B lo ch wt sn vo mo le ln od fe se td th cnt bw bs pl tk tc sill day lau)) := by
  refine CI.of (cc := cX3_wholeMoment) (maxL := 1) (ret := (some .int)) (own := RX3) _ 0 (by decide +kernel) rfl rfl rfl (Nat.le_of_ble_eq_true rfl) rfl (fun sz9 p9 e9 s9 m9 a9 b9 h9 c9 C hr => ?_)
  refine Z.aload_n C dX3_wholeMoment_0 rfl ?_
  refine Z.cVId C 5 0 (c_momentWithoutBallast l D cI cJ cL ad M B lo ch wt sn vo mo le ln od fe se td th cnt bw bs pl tk tc sill day lau hc0 hc1) rfl rfl gX3_wholeMoment_X3_momentWithoutBallast rfl rfl rfl (by decide +kernel) ⟨Nat.le_of_ble_eq_true rfl, Nat.le_of_ble_eq_true rfl⟩ rfl rfl (Nat.le_of_ble_eq_true rfl) ⟨Nat.le_of_ble_eq_true rfl, Nat.le_of_ble_eq_true rfl⟩ dX3_wholeMoment_1 ?_
  refine Z.aload_n C dX3_wholeMoment_4 rfl ?_
  refine Z.getf C 5 3 iw_X3_wholeMoment_3 rfl rfl (by decide) (by decide +kernel) rfl dX3_wholeMoment_5 ?_
  refine Z.bipush C dX3_wholeMoment_8 (by decide) ?_
  refine Z.imul C dX3_wholeMoment_10 ?_
  refine Z.aload_n C dX3_wholeMoment_11 rfl ?_
  refine Z.getf C 5 4 iw_X3_wholeMoment_3 rfl rfl (by decide) (by decide +kernel) rfl dX3_wholeMoment_12 ?_
  refine Z.imul C dX3_wholeMoment_15 ?_
  refine Z.iadd C dX3_wholeMoment_16 ?_
  exact Z.iret C hr dX3_wholeMoment_17 (⟨rfl, rfl⟩)
end
section
/-! ===== the JDK's floorDiv and floorMod, at numbers that are not below 0 ===== -/
theorem iI_nI {a : Int} (h0 : 0 ≤ a) : iI a = nI a.toNat := by
  show Int32.ofInt a = Int32.ofNat a.toNat
  rw [← Int32.ofInt_eq_ofNat, Int.toNat_of_nonneg h0]
theorem zxor_nI (a b : Nat) : nI a ^^^ nI b = nI (a ^^^ b) := by
  apply Int32.toBitVec_inj.1
  show BitVec.ofNat 32 a ^^^ BitVec.ofNat 32 b = BitVec.ofNat 32 (a ^^^ b)
  apply BitVec.eq_of_getLsbD_eq
  intro i hi
  simp [hi]
theorem zxor_pos {a b : Int} (ha : 0 ≤ a) (ha2 : a ≤ 2147483647) (hb : 0 ≤ b) (hb2 : b ≤ 2147483647) : 0 ≤ iI a ^^^ iI b := by
  rw [iI_nI ha, iI_nI hb, zxor_nI]
  exact nI_pos' (Nat.xor_lt_two_pow (n := 31) (by omega) (by omega))
theorem CI.ofF {l : Launch} {y : MethodName} {w w' : List Cond} {rm : Room} {av : List Value} {D : va_G} {cI cJ cL : ClassId} {ws : va_W} {cc : ByteArray} {maxL : Nat} {own : String} {post : Int → va_W → Prop} {ret : Option FieldType} (lv0 : List Value) (k : Nat) (hy : plainFor y = true) (hw : w = Cond.code y cc maxL ret :: w') (hown : y.cls = own) (hc1 : zc1 av = true) (hn : av.length ≤ maxL) (hlv : av ++ List.replicate k Value.null = lv0)
    (body : ∀ (sz : Nat) (p : Program) (e : Env) (s : State) (m : MethodId) (args : Array Value) (below : List Frame) (meth : Method) (c : Code), Cx p s m args meth c maxL (va_A ws sz) D cI cJ cL cc w own → meth.sig.returnType = ret →
      Z p l e rm s m args below meth c maxL (va_A ws sz) D (QI below args s D ws sz post) 0 0 ws lv0 0 []) : CI l y w rm av D cI cJ cL ws post := by
  intro sz
  subst hlv
  refine va_MetF (cc := cc) (maxL := maxL) (ret := ret) hy hw ?_
  intro p e s m args below meth c s₁ B hml hv
  obtain ⟨rfl, hsz, hP, hK, hN, hD0, hQ⟩ := hv
  have hts := atoms_spec (ws := w) B.pre
  have hf : s.vm.findClass own = some m.cls := hown ▸ findClass_of_methodNamed B.named
  have hA : ∀ q, s.heap.size ≤ q → va_A ws sz q := fun q h => Or.inr (hsz ▸ h)
  rw [lg_entry_eq]
  exact body sz p e s m av.toArray below meth c ⟨⟨B.exec, B.bytes, hml, hf, hts⟩, hK, hA, B.notSynchronized, hN, hQ⟩ B.returns s.heap [] _ hP hD0.self va_S.rf (lvl_start hc1 hn)
section ZXO
variable {p : Program} {l : Launch} {e : Env} {R : Room} {s : State} {m : MethodId} {args : Array Value} {below : List Frame} {meth : Method} {c : Code} {nL : Nat} {A : Nat → Prop} {D : va_G} {Q : State → Prop} {cells slots : Nat} {ws : va_W} {lv : List Value} {pc : Nat} {st : List Value} {cI cJ cL : ClassId} {cc : ByteArray} {Ts : List Cond} {own : String}
theorem Z.ixorge (C : Cx p s m args meth c nL A D cI cJ cL cc Ts own) {off a b : Int} (tgt : Nat) (hd : decode cc pc = .ok (.ixor, 1)) (hd2 : decode cc (pc + 1) = .ok (.ifCond .ge off, 3)) (ht : ((pc + 1 : Nat) : Int) + off = (tgt : Int)) (ha : 0 ≤ a) (ha2 : a ≤ 2147483647) (hb : 0 ≤ b) (hb2 : b ≤ 2147483647) (k : Z p l e R s m args below meth c nL A D Q cells slots ws lv tgt st) : Z p l e R s m args below meth c nL A D Q cells slots ws lv pc (.int (iI b) :: .int (iI a) :: st) := by
  intro H locs ls hP hD hS hl
  refine lv_ixor C.1.1 C.1.2.1 hd ?_
  exact lv_if_ge C.1.1 C.1.2.1 hd2 ht (fun _ => k H locs ls hP hD hS hl) (fun h => absurd (zxor_pos ha ha2 hb hb2) h)
end ZXO
abbrev rmJ9_floorDiv_7cf53 : Room := { frames := 0, cells := 0, slots := 0, locals := 0 }
set_option maxHeartbeats 4000000 in
set_option maxRecDepth 100000 in
theorem c_floorDiv (l : Launch) (D : va_G) (cI cJ cL : ClassId) (a b : Int) (ha : 0 ≤ a) (ha2 : a ≤ 2147483647) (hb : 0 < b) (hb2 : b ≤ 2147483647) : CI l yJ9_floorDiv_7cf53 wsJ9_floorDiv_7cf53 rmJ9_floorDiv_7cf53 [.int (iI a), .int (iI b)] D cI cJ cL [] (fun r w' => r = a / b ∧ w' = []) := by
  refine CI.ofF (cc := cJ9_floorDiv_7cf53) (maxL := 3) (ret := (some .int)) (own := RJ9) _ 1 (by decide +kernel) rfl rfl rfl (Nat.le_of_ble_eq_true rfl) rfl (fun sz9 p9 e9 s9 m9 a9 b9 h9 c9 C hr => ?_)
  refine Z.iload_n C dJ9_floorDiv_7cf53_0 rfl ?_
  refine Z.iload_n C dJ9_floorDiv_7cf53_1 rfl ?_
  refine Z.idiv C dJ9_floorDiv_7cf53_2 (by omega) (by omega) (by omega) (by omega) ?_
  refine Z.istore_n C dJ9_floorDiv_7cf53_3 (by decide) ?_
  refine Z.iload_n C dJ9_floorDiv_7cf53_4 rfl ?_
  refine Z.iload_n C dJ9_floorDiv_7cf53_5 rfl ?_
  refine Z.ixorge C 21 dJ9_floorDiv_7cf53_6 dJ9_floorDiv_7cf53_7 (by decide) (by omega) (by omega) (by omega) (by omega) ?_
  refine Z.iload_n C dJ9_floorDiv_7cf53_21 rfl ?_
  exact Z.iret C hr dJ9_floorDiv_7cf53_22 (⟨rfl, rfl⟩)
abbrev rmJ9_floorMod_7cf53 : Room := { frames := 0, cells := 0, slots := 0, locals := 0 }
set_option maxHeartbeats 4000000 in
set_option maxRecDepth 100000 in
theorem c_floorMod (l : Launch) (D : va_G) (cI cJ cL : ClassId) (a b : Int) (ha : 0 ≤ a) (ha2 : a ≤ 2147483647) (hb : 0 < b) (hb2 : b ≤ 2147483647) : CI l yJ9_floorMod_7cf53 wsJ9_floorMod_7cf53 rmJ9_floorMod_7cf53 [.int (iI a), .int (iI b)] D cI cJ cL [] (fun r w' => r = a % b ∧ w' = []) := by
  refine CI.ofF (cc := cJ9_floorMod_7cf53) (maxL := 3) (ret := (some .int)) (own := RJ9) _ 1 (by decide +kernel) rfl rfl rfl (Nat.le_of_ble_eq_true rfl) rfl (fun sz9 p9 e9 s9 m9 a9 b9 h9 c9 C hr => ?_)
  refine Z.iload_n C dJ9_floorMod_7cf53_0 rfl ?_
  refine Z.iload_n C dJ9_floorMod_7cf53_1 rfl ?_
  refine Z.irem C dJ9_floorMod_7cf53_2 (by omega) (by omega) (by omega) (by omega) ?_
  refine Z.istore_n C dJ9_floorMod_7cf53_3 (by decide) ?_
  refine Z.iload_n C dJ9_floorMod_7cf53_4 rfl ?_
  refine Z.iload_n C dJ9_floorMod_7cf53_5 rfl ?_
  refine Z.ixorge C 18 dJ9_floorMod_7cf53_6 dJ9_floorMod_7cf53_7 (by decide) (by omega) (by omega) (by omega) (by omega) ?_
  refine Z.iload_n C dJ9_floorMod_7cf53_18 rfl ?_
  exact Z.iret C hr dJ9_floorMod_7cf53_19 (⟨rfl, rfl⟩)
end
section
/-! ===== Almanac ===== -/
def plZ (td : Int → Int) (day : Int) : Nat → Int
  | 0 => -1
  | k + 1 => if td k = day then (k : Int) else plZ td day k
def tdZ (td th : Int → Int) (day : Int) : Nat → Int
  | 0 => (7 * day + 3) % 19
  | k + 1 => if td k = day then th k else tdZ td th day k
def uqZ (td : Int → Int) (n : Int) : Prop := ∀ i j : Int, 0 ≤ i → i < n → 0 ≤ j → j < n → td i = td j → i = j
theorem plZ_none {td : Int → Int} {day : Int} : ∀ n : Nat, (∀ j : Nat, j < n → td j ≠ day) → plZ td day n = -1
  | 0, _ => rfl
  | n + 1, h => by
    simp only [plZ]
    rw [if_neg (h n (Nat.lt_succ_self n))]
    exact plZ_none n (fun j hj => h j (by omega))
theorem plZ_found {td : Int → Int} {day : Int} : ∀ (n k : Nat), uqZ td n → k < n → td k = day → plZ td day n = k
  | 0, k, _, h, _ => absurd h (Nat.not_lt_zero _)
  | n + 1, k, hu, h, hk => by
    simp only [plZ]
    by_cases e : td n = day
    · rw [if_pos e]
      exact hu n k (by omega) (by push_cast; omega) (by omega) (by push_cast; omega) (e.trans hk.symm)
    · rw [if_neg e]
      have hne : k ≠ n := fun q => e (q ▸ hk)
      exact plZ_found n k (fun i j h1 h2 h3 h4 => hu i j h1 (by push_cast; omega) h3 (by push_cast; omega)) (by omega) hk
theorem plZ_cases {td : Int → Int} {day : Int} : ∀ n : Nat, (plZ td day n = -1 ∧ ∀ j : Nat, j < n → td j ≠ day) ∨ ∃ k : Nat, k < n ∧ plZ td day n = k ∧ td k = day
  | 0 => Or.inl ⟨rfl, fun j h => absurd h (Nat.not_lt_zero _)⟩
  | n + 1 => by
    simp only [plZ]
    by_cases e : td n = day
    · rw [if_pos e]
      exact Or.inr ⟨n, Nat.lt_succ_self n, rfl, e⟩
    · rw [if_neg e]
      rcases plZ_cases (td := td) (day := day) n with ⟨h1, h2⟩ | ⟨k, h1, h2, h3⟩
      · refine Or.inl ⟨h1, fun j hj => ?_⟩
        by_cases q : j = n
        · rw [q]; exact e
        · exact h2 j (by omega)
      · exact Or.inr ⟨k, by omega, h2, h3⟩
theorem tdZ_none {td th : Int → Int} {day : Int} : ∀ n : Nat, plZ td day n = -1 → tdZ td th day n = (7 * day + 3) % 19
  | 0, _ => rfl
  | n + 1, h => by
    simp only [plZ] at h
    simp only [tdZ]
    by_cases e : td n = day
    · rw [if_pos e] at h
      omega
    · rw [if_neg e] at h ⊢
      exact tdZ_none n h
theorem tdZ_found {td th : Int → Int} {day : Int} : ∀ n : Nat, plZ td day n ≠ -1 → tdZ td th day n = th (plZ td day n)
  | 0, h => absurd rfl h
  | n + 1, h => by
    simp only [plZ] at h ⊢
    simp only [tdZ]
    by_cases e : td n = day
    · rw [if_pos e, if_pos e]
    · rw [if_neg e] at h ⊢
      rw [if_neg e]
      exact tdZ_found n h
set_option maxRecDepth 20000 in
theorem iw_X0_placeOf_0 : ∀ w ∈ u_ws RX0 TX0 3, w ∈ wsX0_placeOf := by decide +kernel
abbrev rmX0_placeOf : Room := { frames := 0, cells := 0, slots := 0, locals := 0 }
set_option maxHeartbeats 4000000 in
set_option maxRecDepth 100000 in
theorem c_placeOf (l : Launch) (D : va_G) (cI cJ cL : ClassId) (ad : Nat → Nat) (M B : Int → Int → Int) (lo ch wt sn vo mo le ln od fe se td th : Int → Int) (cnt bw bs pl tk tc sill day lau : Int) (x : Int) (hx0 : 0 ≤ x) (hx1 : x ≤ 10000) (hc0 : 0 ≤ tc) (hc1 : tc ≤ 40) (hu : uqZ td tc) (ht : ∀ j : Int, 0 ≤ td j ∧ td j ≤ 9999) : CI l yX0_placeOf wsX0_placeOf rmX0_placeOf [.ref (ad 8), .int (iI x)] D cI cJ cL (wX ad cI cJ M B lo ch wt sn vo mo le ln od fe se td th cnt bw bs pl tk tc sill day lau) (fun r w' => r = plZ td x tc.toNat ∧ w' = (wX ad cI cJ M B lo ch wt sn vo mo le ln od fe se td th cnt bw bs pl tk tc sill day lau)) := by
  refine CI.of (cc := cX0_placeOf) (maxL := 3) (ret := (some .int)) (own := RX0) _ 1 (by decide +kernel) rfl rfl rfl (Nat.le_of_ble_eq_true rfl) rfl (fun sz9 p9 e9 s9 m9 a9 b9 h9 c9 C hr => ?_)
  refine Z.iconst C dX0_placeOf_0 ?_
  refine Z.istore_n C dX0_placeOf_1 (by decide) ?_
  refine Z.loop (α := Nat) (fun _ => (wX ad cI cJ M B lo ch wt sn vo mo le ln od fe se td th cnt bw bs pl tk tc sill day lau)) (fun k => [.ref (ad 8), .int (iI x), .int (iI k)]) (fun k => k ≤ tc.toNat ∧ ∀ j : Nat, j < k → td j ≠ x) (fun k => tc.toNat - k) 0 ⟨by omega, fun j h => absurd h (Nat.not_lt_zero _)⟩ rfl rfl (fun k hk ih => ?_)
  obtain ⟨hk, hj⟩ := hk
  have hn : (tc.toNat : Int) = tc := Int.toNat_of_nonneg hc0
  refine Z.iload_n C dX0_placeOf_2 rfl ?_
  refine Z.aload_n C dX0_placeOf_3 rfl ?_
  refine Z.getf C 8 2 iw_X0_placeOf_0 rfl rfl (by decide) (by decide +kernel) rfl dX0_placeOf_4 ?_
  refine Z.icmpge C 28 dX0_placeOf_7 (by decide) (⟨by omega, by omega⟩) (⟨by omega, by omega⟩) (fun h => ?_) (fun h => ?_)
  · refine Z.iconst C dX0_placeOf_28 ?_
    exact Z.iret C hr dX0_placeOf_29 (⟨by rw [plZ_none _ (fun j q => hj j (by omega))], rfl⟩)
  · have b1 := ht k
    refine Z.aload_n C dX0_placeOf_10 rfl ?_
    refine Z.getf C 8 0 iw_X0_placeOf_0 rfl rfl (by decide) (by decide +kernel) rfl dX0_placeOf_11 ?_
    refine Z.iload_n C dX0_placeOf_14 rfl ?_
    refine Z.iald C 34 rfl (by omega) (by omega) (by decide) dX0_placeOf_15 ?_
    refine Z.iload_n C dX0_placeOf_16 rfl ?_
    refine Z.icmpne C 22 dX0_placeOf_17 (by decide) (⟨by omega, by omega⟩) (⟨by omega, by omega⟩) (fun q => ?_) (fun q => ?_)
    · refine Z.iinc C dX0_placeOf_22 rfl (by decide) ?_
      refine Z.goto C 2 dX0_placeOf_25 (by decide) ?_
      refine ih (k + 1) ⟨by omega, fun j z => ?_⟩ (by omega)
      by_cases e : j = k
      · rw [e]; exact q
      · exact hj j (by omega)
    · refine Z.iload_n C dX0_placeOf_20 rfl ?_
      exact Z.iret C hr dX0_placeOf_21 (⟨by rw [plZ_found _ k (by rw [hn]; exact hu) (by omega) q], rfl⟩)
set_option maxRecDepth 20000 in
theorem iw_X0_hasRoomFor_0 : ∀ w ∈ u_ws RX0 TX0 3, w ∈ wsX0_hasRoomFor := by decide +kernel
abbrev rmX0_hasRoomFor : Room := { frames := 1, cells := 0, slots := 0, locals := 22 }
set_option maxHeartbeats 4000000 in
set_option maxRecDepth 100000 in
theorem c_hasRoomFor (l : Launch) (D : va_G) (cI cJ cL : ClassId) (ad : Nat → Nat) (M B : Int → Int → Int) (lo ch wt sn vo mo le ln od fe se td th : Int → Int) (cnt bw bs pl tk tc sill day lau : Int) (x : Int) (hx0 : 0 ≤ x) (hx1 : x ≤ 10000) (hc0 : 0 ≤ tc) (hc1 : tc ≤ 40) (hu : uqZ td tc) (ht : ∀ j : Int, 0 ≤ td j ∧ td j ≤ 9999) : CI l yX0_hasRoomFor wsX0_hasRoomFor rmX0_hasRoomFor [.ref (ad 8), .int (iI x)] D cI cJ cL (wX ad cI cJ M B lo ch wt sn vo mo le ln od fe se td th cnt bw bs pl tk tc sill day lau) (fun r w' => r = (if tc < 40 ∨ plZ td x tc.toNat ≠ -1 then 1 else 0) ∧ w' = (wX ad cI cJ M B lo ch wt sn vo mo le ln od fe se td th cnt bw bs pl tk tc sill day lau)) := by
  refine CI.of (cc := cX0_hasRoomFor) (maxL := 2) (ret := (some .boolean)) (own := RX0) _ 0 (by decide +kernel) rfl rfl rfl (Nat.le_of_ble_eq_true rfl) rfl (fun sz9 p9 e9 s9 m9 a9 b9 h9 c9 C hr => ?_)
  refine Z.aload_n C dX0_hasRoomFor_0 rfl ?_
  refine Z.getf C 8 2 iw_X0_hasRoomFor_0 rfl rfl (by decide) (by decide +kernel) rfl dX0_hasRoomFor_1 ?_
  refine Z.bipush C dX0_hasRoomFor_4 (by decide) ?_
  refine Z.icmplt C 18 dX0_hasRoomFor_6 (by decide) (⟨by omega, by omega⟩) (⟨by omega, by omega⟩) (fun h => ?_) (fun h => ?_)
  · refine Z.iconst C dX0_hasRoomFor_18 ?_
    refine Z.goto C 23 dX0_hasRoomFor_19 (by decide) ?_
    exact Z.zret C hr (by omega) dX0_hasRoomFor_23 (⟨(if_pos (Or.inl h)).symm, rfl⟩)
  · refine Z.aload_n C dX0_hasRoomFor_9 rfl ?_
    refine Z.iload_n C dX0_hasRoomFor_10 rfl ?_
    refine Z.cVId C 8 1 (c_placeOf l D cI cJ cL ad M B lo ch wt sn vo mo le ln od fe se td th cnt bw bs pl tk tc sill day lau x hx0 hx1 hc0 hc1 hu ht) rfl rfl gX0_hasRoomFor_X0_placeOf rfl rfl rfl (by decide +kernel) ⟨Nat.le_of_ble_eq_true rfl, Nat.le_of_ble_eq_true rfl⟩ rfl rfl (Nat.le_of_ble_eq_true rfl) ⟨Nat.le_of_ble_eq_true rfl, Nat.le_of_ble_eq_true rfl⟩ dX0_hasRoomFor_11 ?_
    have b1 : -1 ≤ plZ td x tc.toNat ∧ plZ td x tc.toNat ≤ 40 := by
      rcases plZ_cases (td := td) (day := x) tc.toNat with ⟨q, -⟩ | ⟨k, q1, q2, -⟩ <;> omega
    refine Z.iconst C dX0_hasRoomFor_14 ?_
    refine Z.icmpeq C 22 dX0_hasRoomFor_15 (by decide) (⟨by omega, by omega⟩) (⟨by omega, by omega⟩) (fun q => ?_) (fun q => ?_)
    · refine Z.iconst C dX0_hasRoomFor_22 ?_
      exact Z.zret C hr (by omega) dX0_hasRoomFor_23 (⟨(if_neg (by omega)).symm, rfl⟩)
    · refine Z.iconst C dX0_hasRoomFor_18 ?_
      refine Z.goto C 23 dX0_hasRoomFor_19 (by decide) ?_
      exact Z.zret C hr (by omega) dX0_hasRoomFor_23 (⟨(if_pos (Or.inr q)).symm, rfl⟩)
set_option maxRecDepth 20000 in
theorem iw_X0_heightOn_0 : ∀ w ∈ u_ws RX0 TX0 3, w ∈ wsX0_heightOn := by decide +kernel
abbrev rmX0_heightOn : Room := { frames := 1, cells := 0, slots := 0, locals := 22 }
set_option maxHeartbeats 4000000 in
set_option maxRecDepth 100000 in
theorem c_heightOn (l : Launch) (D : va_G) (cI cJ cL : ClassId) (ad : Nat → Nat) (M B : Int → Int → Int) (lo ch wt sn vo mo le ln od fe se td th : Int → Int) (cnt bw bs pl tk tc sill day lau : Int) (x : Int) (hx0 : 0 ≤ x) (hx1 : x ≤ 10000) (hc0 : 0 ≤ tc) (hc1 : tc ≤ 40) (hu : uqZ td tc) (ht : ∀ j : Int, 0 ≤ td j ∧ td j ≤ 9999) : CI l yX0_heightOn wsX0_heightOn rmX0_heightOn [.ref (ad 8), .int (iI x)] D cI cJ cL (wX ad cI cJ M B lo ch wt sn vo mo le ln od fe se td th cnt bw bs pl tk tc sill day lau) (fun r w' => r = tdZ td th x tc.toNat ∧ w' = (wX ad cI cJ M B lo ch wt sn vo mo le ln od fe se td th cnt bw bs pl tk tc sill day lau)) := by
  refine CI.of (cc := cX0_heightOn) (maxL := 3) (ret := (some .int)) (own := RX0) _ 1 (by decide +kernel) rfl rfl rfl (Nat.le_of_ble_eq_true rfl) rfl (fun sz9 p9 e9 s9 m9 a9 b9 h9 c9 C hr => ?_)
  refine Z.aload_n C dX0_heightOn_0 rfl ?_
  refine Z.iload_n C dX0_heightOn_1 rfl ?_
  refine Z.cVId C 8 1 (c_placeOf l D cI cJ cL ad M B lo ch wt sn vo mo le ln od fe se td th cnt bw bs pl tk tc sill day lau x hx0 hx1 hc0 hc1 hu ht) rfl rfl gX0_heightOn_X0_placeOf rfl rfl rfl (by decide +kernel) ⟨Nat.le_of_ble_eq_true rfl, Nat.le_of_ble_eq_true rfl⟩ rfl rfl (Nat.le_of_ble_eq_true rfl) ⟨Nat.le_of_ble_eq_true rfl, Nat.le_of_ble_eq_true rfl⟩ dX0_heightOn_2 ?_
  have b1 : -1 ≤ plZ td x tc.toNat ∧ plZ td x tc.toNat < 40 := by
    rcases plZ_cases (td := td) (day := x) tc.toNat with ⟨q, -⟩ | ⟨k, q1, q2, -⟩ <;> omega
  refine Z.istore_n C dX0_heightOn_5 (by decide) ?_
  refine Z.iload_n C dX0_heightOn_6 rfl ?_
  refine Z.iconst C dX0_heightOn_7 ?_
  refine Z.icmpne C 25 dX0_heightOn_8 (by decide) (⟨by omega, by omega⟩) (⟨by omega, by omega⟩) (fun q => ?_) (fun q => ?_)
  · refine Z.aload_n C dX0_heightOn_25 rfl ?_
    refine Z.getf C 8 1 iw_X0_heightOn_0 rfl rfl (by decide) (by decide +kernel) rfl dX0_heightOn_26 ?_
    refine Z.iload_n C dX0_heightOn_29 rfl ?_
    refine Z.iald C 35 rfl (by omega) (by omega) (by decide) dX0_heightOn_30 ?_
    exact Z.iret C hr dX0_heightOn_31 (⟨(tdZ_found _ q).symm, rfl⟩)
  · refine Z.bipush C dX0_heightOn_11 (by decide) ?_
    refine Z.iload_n C dX0_heightOn_13 rfl ?_
    refine Z.imul C dX0_heightOn_14 ?_
    refine Z.iconst C dX0_heightOn_15 ?_
    refine Z.iadd C dX0_heightOn_16 ?_
    refine Z.bipush C dX0_heightOn_17 (by decide) ?_
    refine Z.cSIp C 2 (c_floorMod l D cI cJ cL (7 * x + 3) 19 (by omega) (by omega) (by omega) (by omega)) gX0_heightOn_J9_floorMod_7cf53 rfl rfl rfl (by decide +kernel) ⟨Nat.le_of_ble_eq_true rfl, Nat.le_of_ble_eq_true rfl⟩ rfl rfl (Nat.le_of_ble_eq_true rfl) ⟨Nat.le_of_ble_eq_true rfl, Nat.le_of_ble_eq_true rfl⟩ dX0_heightOn_19 ?_
    refine Z.goto C 31 dX0_heightOn_22 (by decide) ?_
    exact Z.iret C hr dX0_heightOn_31 (⟨(tdZ_none _ q).symm, rfl⟩)
set_option maxRecDepth 20000 in
theorem iw_X0_tell_0 : ∀ w ∈ u_ws RX0 TX0 3, w ∈ wsX0_tell := by decide +kernel
abbrev rmX0_tell : Room := { frames := 1, cells := 0, slots := 0, locals := 22 }
set_option maxHeartbeats 4000000 in
set_option maxRecDepth 100000 in
theorem c_tell (l : Launch) (D : va_G) (cI cJ cL : ClassId) (ad : Nat → Nat) (M B : Int → Int → Int) (lo ch wt sn vo mo le ln od fe se td th : Int → Int) (cnt bw bs pl tk tc sill day lau : Int) (x y : Int) (hx0 : 0 ≤ x) (hx1 : x ≤ 10000) (hc0 : 0 ≤ tc) (hc1 : tc ≤ 40) (hu : uqZ td tc) (ht : ∀ j : Int, 0 ≤ td j ∧ td j ≤ 9999) (hr0 : tc < 40 ∨ plZ td x tc.toNat ≠ -1) : CV l yX0_tell wsX0_tell rmX0_tell [.ref (ad 8), .int (iI x), .int (iI y)] D cI cJ cL (wX ad cI cJ M B lo ch wt sn vo mo le ln od fe se td th cnt bw bs pl tk tc sill day lau) (fun w' => w' = (if plZ td x tc.toNat = -1 then (wX ad cI cJ M B lo ch wt sn vo mo le ln od fe se (zset td tc x) (zset th tc y) cnt bw bs pl tk (tc + 1) sill day lau) else (wX ad cI cJ M B lo ch wt sn vo mo le ln od fe se (zset td (plZ td x tc.toNat) x) (zset th (plZ td x tc.toNat) y) cnt bw bs pl tk tc sill day lau))) := by
  refine CV.of (cc := cX0_tell) (maxL := 4) (ret := none) (own := RX0) _ 1 (by decide +kernel) rfl rfl rfl (Nat.le_of_ble_eq_true rfl) rfl (fun sz9 p9 e9 s9 m9 a9 b9 h9 c9 C hr => ?_)
  refine Z.aload_n C dX0_tell_0 rfl ?_
  refine Z.iload_n C dX0_tell_1 rfl ?_
  refine Z.cVId C 8 1 (c_placeOf l D cI cJ cL ad M B lo ch wt sn vo mo le ln od fe se td th cnt bw bs pl tk tc sill day lau x hx0 hx1 hc0 hc1 hu ht) rfl rfl gX0_tell_X0_placeOf rfl rfl rfl (by decide +kernel) ⟨Nat.le_of_ble_eq_true rfl, Nat.le_of_ble_eq_true rfl⟩ rfl rfl (Nat.le_of_ble_eq_true rfl) ⟨Nat.le_of_ble_eq_true rfl, Nat.le_of_ble_eq_true rfl⟩ dX0_tell_2 ?_
  have b1 : -1 ≤ plZ td x tc.toNat ∧ plZ td x tc.toNat < 40 := by
    rcases plZ_cases (td := td) (day := x) tc.toNat with ⟨q, -⟩ | ⟨k, q1, q2, -⟩ <;> omega
  refine Z.istore_n C dX0_tell_5 (by decide) ?_
  refine Z.iload_n C dX0_tell_6 rfl ?_
  refine Z.iconst C dX0_tell_7 ?_
  refine Z.icmpne C 26 dX0_tell_8 (by decide) (⟨by omega, by omega⟩) (⟨by omega, by omega⟩) (fun q => ?_) (fun q => ?_)
  · refine Z.aload_n C dX0_tell_26 rfl ?_
    refine Z.getf C 8 0 iw_X0_tell_0 rfl rfl (by decide) (by decide +kernel) rfl dX0_tell_27 ?_
    refine Z.iload_n C dX0_tell_30 rfl ?_
    refine Z.iload_n C dX0_tell_31 rfl ?_
    refine Z.iast C 34 rfl (by omega) (by omega) (by decide) dX0_tell_32 wX_a34 ?_
    refine Z.aload_n C dX0_tell_33 rfl ?_
    refine Z.getf C 8 1 iw_X0_tell_0 rfl rfl (by decide) (by decide +kernel) rfl dX0_tell_34 ?_
    refine Z.iload_n C dX0_tell_37 rfl ?_
    refine Z.iload_n C dX0_tell_38 rfl ?_
    refine Z.iast C 35 rfl (by omega) (by omega) (by decide) dX0_tell_39 wX_a35 ?_
    exact Z.vret C hr dX0_tell_40 ((if_neg q).symm)
  · refine Z.aload_n C dX0_tell_11 rfl ?_
    refine Z.getf C 8 2 iw_X0_tell_0 rfl rfl (by decide) (by decide +kernel) rfl dX0_tell_12 ?_
    refine Z.istore_n C dX0_tell_15 (by decide) ?_
    refine Z.aload_n C dX0_tell_16 rfl ?_
    refine Z.dup C dX0_tell_17 rfl ?_
    refine Z.getf C 8 2 iw_X0_tell_0 rfl rfl (by decide) (by decide +kernel) rfl dX0_tell_18 ?_
    refine Z.iconst C dX0_tell_21 ?_
    refine Z.iadd C dX0_tell_22 ?_
    refine Z.putf C 8 2 iw_X0_tell_0 rfl rfl (by decide) tyX0 tyX0_ok nmX0 (by decide +kernel) rfl (ty := .int) (by decide +kernel) rfl rfl (Nat.le_of_ble_eq_true rfl) dX0_tell_23 wX_s_tc ?_
    refine Z.aload_n C dX0_tell_26 rfl ?_
    refine Z.getf C 8 0 iw_X0_tell_0 rfl rfl (by decide) (by decide +kernel) rfl dX0_tell_27 ?_
    refine Z.iload_n C dX0_tell_30 rfl ?_
    refine Z.iload_n C dX0_tell_31 rfl ?_
    refine Z.iast C 34 rfl (by omega) (by omega) (by decide) dX0_tell_32 wX_a34 ?_
    refine Z.aload_n C dX0_tell_33 rfl ?_
    refine Z.getf C 8 1 iw_X0_tell_0 rfl rfl (by decide) (by decide +kernel) rfl dX0_tell_34 ?_
    refine Z.iload_n C dX0_tell_37 rfl ?_
    refine Z.iload_n C dX0_tell_38 rfl ?_
    refine Z.iast C 35 rfl (by omega) (by omega) (by decide) dX0_tell_39 wX_a35 ?_
    exact Z.vret C hr dX0_tell_40 ((if_pos q).symm)
end
section
/-! ===== Buoyancy ===== -/
def FAR : Int := 100000000
def drZ (V : Int → Int) (load : Int) : Int := if load ≤ V 0 then 0 else if load ≤ V 1 then 1 else if load ≤ V 2 then 2 else if load ≤ V 3 then 3 else if load ≤ V 4 then 4 else if load ≤ V 5 then 5 else -1
theorem drZ_first {V : Int → Int} {load : Int} {k : Nat} (hk : k ≤ 5) (h : ∀ j : Nat, j < k → V j < load) (hl : load ≤ V k) : drZ V load = k := by
  have g0 := h 0
  have g1 := h 1
  have g2 := h 2
  have g3 := h 3
  have g4 := h 4
  unfold drZ
  rcases (show k = 0 ∨ k = 1 ∨ k = 2 ∨ k = 3 ∨ k = 4 ∨ k = 5 by omega) with rfl | rfl | rfl | rfl | rfl | rfl <;> simp at g0 g1 g2 g3 g4 hl ⊢ <;> (repeat' split) <;> omega
theorem drZ_none {V : Int → Int} {load : Int} (h : ∀ j : Nat, j < 6 → V j < load) : drZ V load = -1 := by
  have g0 := h 0 (by omega)
  have g1 := h 1 (by omega)
  have g2 := h 2 (by omega)
  have g3 := h 3 (by omega)
  have g4 := h 4 (by omega)
  have g5 := h 5 (by omega)
  unfold drZ
  simp at g0 g1 g2 g3 g4 g5
  (repeat' split) <;> omega
theorem drZ_bd (V : Int → Int) (load : Int) : -1 ≤ drZ V load ∧ drZ V load ≤ 5 := by
  unfold drZ
  (repeat' split) <;> omega
theorem drZ_mono {V : Int → Int} {a b : Int} (hab : a ≤ b) (h : drZ V a = -1) : drZ V b = -1 := by
  unfold drZ at h ⊢
  (repeat' split at h) <;> (repeat' split) <;> omega
theorem drZ_cong {V V' : Int → Int} {a : Int} (h : ∀ j : Nat, j ≤ 5 → V j = V' j) : drZ V a = drZ V' a := by
  have g0 := h 0 (by omega)
  have g1 := h 1 (by omega)
  have g2 := h 2 (by omega)
  have g3 := h 3 (by omega)
  have g4 := h 4 (by omega)
  have g5 := h 5 (by omega)
  simp at g0 g1 g2 g3 g4 g5
  unfold drZ
  rw [g0, g1, g2, g3, g4, g5]
def VM (M : Int → Int → Int) : Int → Int := fun w => volZ M w.toNat 8
def MM (M : Int → Int → Int) : Int → Int := fun w => momZ M w.toNat 8
def hfZ (mo by_ : Int) : Int := if by_ = 0 then 0 else 100 * mo / by_
def tmZ (M : Int → Int → Int) (load mo : Int) : Int := if drZ (VM M) load = -1 then 0 else hfZ mo load - hfZ (MM M (drZ (VM M) load)) (VM M (drZ (VM M) load))
def itsZ (M : Int → Int → Int) (load mo : Int) : Int := if drZ (VM M) load = -1 then FAR else absZ (tmZ M load mo)
theorem momZ_bd {M : Int → Int → Int} (hM : hOK M) {w : Nat} (hw : w ≤ 5) : ∀ k : Nat, k ≤ 8 → 0 ≤ momZ M w k ∧ momZ M w k ≤ 15 * volZ M w k
  | 0, _ => by simp [momZ, volZ]
  | k + 1, hk => by
    have ih := momZ_bd hM hw k (by omega)
    have h1 := areaZ_bd hM k w
    have h2 := areaZ_bd hM (k + 1) w
    simp only [momZ, volZ]
    rcases (show k = 0 ∨ k = 1 ∨ k = 2 ∨ k = 3 ∨ k = 4 ∨ k = 5 ∨ k = 6 ∨ k = 7 by omega) with rfl | rfl | rfl | rfl | rfl | rfl | rfl | rfl <;> simp at ih h1 h2 ⊢ <;> omega
theorem VM_bd {M : Int → Int → Int} (hM : hOK M) {w : Int} (h0 : 0 ≤ w) (h1 : w ≤ 5) : 0 ≤ VM M w ∧ VM M w ≤ 32000 := by
  have := volZ_bd hM (w := w.toNat) (by omega) 8
  unfold VM
  omega
theorem MM_bd {M : Int → Int → Int} (hM : hOK M) {w : Int} (h0 : 0 ≤ w) (h1 : w ≤ 5) : 0 ≤ MM M w ∧ MM M w ≤ 15 * VM M w := momZ_bd hM (by omega) 8 (by omega)
theorem hfZ_bd {mo by_ k : Int} (h0 : 0 ≤ mo) (hb : 0 ≤ by_) (hk : 0 ≤ k) (h : mo ≤ k * by_) : 0 ≤ hfZ mo by_ ∧ hfZ mo by_ ≤ 100 * k := by
  unfold hfZ
  split
  · omega
  · refine ⟨Int.ediv_nonneg (by omega) hb, ?_⟩
    have : 100 * mo ≤ 100 * k * by_ := by rw [Int.mul_assoc]; omega
    have hb' : 0 < by_ := by omega
    exact Int.le_of_lt_add_one ((Int.ediv_lt_iff_lt_mul hb').mpr (by rw [Int.add_mul]; omega))
theorem tmZ_bd {M : Int → Int → Int} (hM : hOK M) {load mo : Int} (h0 : 0 ≤ mo) (hl : 0 ≤ load) (h : mo ≤ 16 * load) : -1500 ≤ tmZ M load mo ∧ tmZ M load mo ≤ 1600 := by
  unfold tmZ
  have hd := drZ_bd (VM M) load
  split
  · omega
  · have h1 := hfZ_bd h0 hl (k := 16) (by omega) h
    have hv := VM_bd hM (w := drZ (VM M) load) (by omega) (by omega)
    have hm := MM_bd hM (w := drZ (VM M) load) (by omega) (by omega)
    have h2 := hfZ_bd hm.1 hv.1 (k := 15) (by omega) hm.2
    omega
def mP (M : Int → Int → Int) (vo mo : Int → Int) (k : Nat) : Prop := ∀ j : Nat, j < k → vo j = VM M j ∧ mo j = MM M j
theorem mP.V {M : Int → Int → Int} {vo mo : Int → Int} (h : mP M vo mo 6) {x : Int} (h0 : 0 ≤ x) (h1 : x ≤ 5) : vo x = VM M x ∧ mo x = MM M x := by
  have := h x.toNat (by omega)
  rw [Int.toNat_of_nonneg h0] at this
  exact this
set_option maxRecDepth 20000 in
theorem iw_X2_measure_2 : ∀ w ∈ u_ws RX2 TX2 2, w ∈ wsX2_measure := by decide +kernel
abbrev rmX2_measure : Room := { frames := 2, cells := 0, slots := 0, locals := 48 }
set_option maxHeartbeats 4000000 in
set_option maxRecDepth 100000 in
theorem c_measure (l : Launch) (D : va_G) (cI cJ cL : ClassId) (ad : Nat → Nat) (M B : Int → Int → Int) (lo ch wt sn vo mo le ln od fe se td th : Int → Int) (cnt bw bs pl tk tc sill day lau : Int) (hM : hOK M) : CV l yX2_measure wsX2_measure rmX2_measure [.ref (ad 6), .ref (ad 1)] D cI cJ cL (wX ad cI cJ M B lo ch wt sn vo mo le ln od fe se td th cnt bw bs pl tk tc sill day lau) (fun w' => ∃ vo' mo' : Int → Int, mP M vo' mo' 6 ∧ w' = (wX ad cI cJ M B lo ch wt sn vo' mo' le ln od fe se td th cnt bw bs pl tk tc sill day lau)) := by
  refine CV.of (cc := cX2_measure) (maxL := 3) (ret := none) (own := RX2) _ 1 (by decide +kernel) rfl rfl rfl (Nat.le_of_ble_eq_true rfl) rfl (fun sz9 p9 e9 s9 m9 a9 b9 h9 c9 C hr => ?_)
  refine Z.iconst C dX2_measure_0 ?_
  refine Z.istore_n C dX2_measure_1 (by decide) ?_
  refine Z.loop (α := Nat × (Int → Int) × (Int → Int)) (fun x => (wX ad cI cJ M B lo ch wt sn x.2.1 x.2.2 le ln od fe se td th cnt bw bs pl tk tc sill day lau)) (fun x => [.ref (ad 6), .ref (ad 1), .int (iI x.1)]) (fun x => x.1 ≤ 6 ∧ mP M x.2.1 x.2.2 x.1) (fun x => 6 - x.1) (0, vo, mo) ⟨Nat.zero_le _, fun j h => absurd h (Nat.not_lt_zero _)⟩ rfl rfl (fun x hk ih => ?_)
  obtain ⟨k, vo1, mo1⟩ := x
  obtain ⟨hk, hm⟩ := hk
  dsimp only at hk hm ih ⊢
  refine Z.iload_n C dX2_measure_2 rfl ?_
  refine Z.bipush C dX2_measure_3 (by decide) ?_
  refine Z.icmpge C 36 dX2_measure_5 (by decide) (⟨by omega, by omega⟩) (⟨by omega, by omega⟩) (fun h => ?_) (fun h => ?_)
  · exact Z.vret C hr dX2_measure_36 ⟨vo1, mo1, by rw [show k = 6 by omega] at hm; exact hm, rfl⟩
  · refine Z.aload_n C dX2_measure_8 rfl ?_
    refine Z.getf C 6 0 iw_X2_measure_2 rfl rfl (by decide) (by decide +kernel) rfl dX2_measure_9 ?_
    refine Z.iload_n C dX2_measure_12 rfl ?_
    refine Z.aload_n C dX2_measure_13 rfl ?_
    refine Z.iload_n C dX2_measure_14 rfl ?_
    refine Z.cVNId C 1 (host := RX6) 1 (c_volumeUpTo l D cI cJ cL ad M B lo ch wt sn vo1 mo1 le ln od fe se td th cnt bw bs pl tk tc sill day lau k (by omega)) rfl rfl gX2_measure_X4_volumeUpTo_n18 (by decide +kernel) (by decide +kernel) (by decide +kernel) (by decide +kernel) rfl rfl rfl (by decide +kernel) ⟨Nat.le_of_ble_eq_true rfl, Nat.le_of_ble_eq_true rfl⟩ rfl rfl (Nat.le_of_ble_eq_true rfl) ⟨Nat.le_of_ble_eq_true rfl, Nat.le_of_ble_eq_true rfl⟩ dX2_measure_15 ?_
    refine Z.iast C 27 rfl (by omega) (by omega) (by decide) dX2_measure_18 wX_a27 ?_
    refine Z.aload_n C dX2_measure_19 rfl ?_
    refine Z.getf C 6 1 iw_X2_measure_2 rfl rfl (by decide) (by decide +kernel) rfl dX2_measure_20 ?_
    refine Z.iload_n C dX2_measure_23 rfl ?_
    refine Z.aload_n C dX2_measure_24 rfl ?_
    refine Z.iload_n C dX2_measure_25 rfl ?_
    refine Z.cVNId C 1 (host := RX6) 1 (c_momentUpTo l D cI cJ cL ad M B lo ch wt sn _ mo1 le ln od fe se td th cnt bw bs pl tk tc sill day lau k (by omega)) rfl rfl gX2_measure_X4_momentUpTo_n24 (by decide +kernel) (by decide +kernel) (by decide +kernel) (by decide +kernel) rfl rfl rfl (by decide +kernel) ⟨Nat.le_of_ble_eq_true rfl, Nat.le_of_ble_eq_true rfl⟩ rfl rfl (Nat.le_of_ble_eq_true rfl) ⟨Nat.le_of_ble_eq_true rfl, Nat.le_of_ble_eq_true rfl⟩ dX2_measure_26 ?_
    refine Z.iast C 28 rfl (by omega) (by omega) (by decide) dX2_measure_29 wX_a28 ?_
    refine Z.iinc C dX2_measure_30 rfl (by decide) ?_
    refine Z.goto C 2 dX2_measure_33 (by decide) ?_
    refine ih (k + 1, zset vo1 k (volZ M k 8), zset mo1 k (momZ M k 8)) ⟨by dsimp only; omega, fun j hj => ?_⟩ (by dsimp only; omega)
    dsimp only at hj ⊢
    by_cases e : j = k
    · subst e
      rw [zset_eq, zset_eq]
      unfold VM MM
      exact ⟨by rw [Int.toNat_natCast], by rw [Int.toNat_natCast]⟩
    · rw [zset_ne _ (by omega), zset_ne _ (by omega)]
      exact hm j (by omega)
set_option maxRecDepth 20000 in
theorem iw_X2_draughtUnder_2 : ∀ w ∈ u_ws RX2 TX2 2, w ∈ wsX2_draughtUnder := by decide +kernel
abbrev rmX2_draughtUnder : Room := { frames := 0, cells := 0, slots := 0, locals := 0 }
set_option maxHeartbeats 4000000 in
set_option maxRecDepth 100000 in
theorem c_draughtUnder (l : Launch) (D : va_G) (cI cJ cL : ClassId) (ad : Nat → Nat) (M B : Int → Int → Int) (lo ch wt sn vo mo le ln od fe se td th : Int → Int) (cnt bw bs pl tk tc sill day lau : Int) (hM : hOK M) (hm : mP M vo mo 6) (x : Int) (hx0 : 0 ≤ x) (hx1 : x ≤ 2000000) : CI l yX2_draughtUnder wsX2_draughtUnder rmX2_draughtUnder [.ref (ad 6), .int (iI x)] D cI cJ cL (wX ad cI cJ M B lo ch wt sn vo mo le ln od fe se td th cnt bw bs pl tk tc sill day lau) (fun r w' => r = drZ (VM M) x ∧ w' = (wX ad cI cJ M B lo ch wt sn vo mo le ln od fe se td th cnt bw bs pl tk tc sill day lau)) := by
  refine CI.of (cc := cX2_draughtUnder) (maxL := 3) (ret := (some .int)) (own := RX2) _ 1 (by decide +kernel) rfl rfl rfl (Nat.le_of_ble_eq_true rfl) rfl (fun sz9 p9 e9 s9 m9 a9 b9 h9 c9 C hr => ?_)
  refine Z.iconst C dX2_draughtUnder_0 ?_
  refine Z.istore_n C dX2_draughtUnder_1 (by decide) ?_
  refine Z.loop (α := Nat) (fun _ => (wX ad cI cJ M B lo ch wt sn vo mo le ln od fe se td th cnt bw bs pl tk tc sill day lau)) (fun k => [.ref (ad 6), .int (iI x), .int (iI k)]) (fun k => k ≤ 6 ∧ ∀ j : Nat, j < k → VM M j < x) (fun k => 6 - k) 0 ⟨Nat.zero_le _, fun j h => absurd h (Nat.not_lt_zero _)⟩ rfl rfl (fun k hk ih => ?_)
  obtain ⟨hk, hj⟩ := hk
  refine Z.iload_n C dX2_draughtUnder_2 rfl ?_
  refine Z.bipush C dX2_draughtUnder_3 (by decide) ?_
  refine Z.icmpge C 26 dX2_draughtUnder_5 (by decide) (⟨by omega, by omega⟩) (⟨by omega, by omega⟩) (fun h => ?_) (fun h => ?_)
  · refine Z.iconst C dX2_draughtUnder_26 ?_
    exact Z.iret C hr dX2_draughtUnder_27 (⟨by rw [drZ_none (fun j q => hj j (by omega))], rfl⟩)
  · have b1 := VM_bd hM (w := k) (by omega) (by omega)
    have b2 := (hm k (by omega)).1
    refine Z.aload_n C dX2_draughtUnder_8 rfl ?_
    refine Z.getf C 6 0 iw_X2_draughtUnder_2 rfl rfl (by decide) (by decide +kernel) rfl dX2_draughtUnder_9 ?_
    refine Z.iload_n C dX2_draughtUnder_12 rfl ?_
    refine Z.iald C 27 rfl (by omega) (by omega) (by decide) dX2_draughtUnder_13 ?_
    refine Z.iload_n C dX2_draughtUnder_14 rfl ?_
    refine Z.icmplt C 20 dX2_draughtUnder_15 (by decide) (⟨by omega, by omega⟩) (⟨by omega, by omega⟩) (fun q => ?_) (fun q => ?_)
    · refine Z.iinc C dX2_draughtUnder_20 rfl (by decide) ?_
      refine Z.goto C 2 dX2_draughtUnder_23 (by decide) ?_
      refine ih (k + 1) ⟨by omega, fun j z => ?_⟩ (by omega)
      by_cases e : j = k
      · rw [e]; omega
      · exact hj j (by omega)
    · refine Z.iload_n C dX2_draughtUnder_18 rfl ?_
      exact Z.iret C hr dX2_draughtUnder_19 (⟨by rw [drZ_first (k := k) (by omega) hj (by omega)], rfl⟩)
abbrev rmX2_hundredfold : Room := { frames := 1, cells := 0, slots := 0, locals := 22 }
set_option maxHeartbeats 4000000 in
set_option maxRecDepth 100000 in
theorem c_hundredfold (l : Launch) (D : va_G) (cI cJ cL : ClassId) (a b : Int) (ha : 0 ≤ a) (ha2 : a ≤ 20000000) (hb : 0 ≤ b) (hb2 : b ≤ 2147483647) : CI l yX2_hundredfold wsX2_hundredfold rmX2_hundredfold [.int (iI a), .int (iI b)] D cI cJ cL [] (fun r w' => r = hfZ a b ∧ w' = []) := by
  refine CI.of (cc := cX2_hundredfold) (maxL := 2) (ret := (some .int)) (own := RX2) _ 0 (by decide +kernel) rfl rfl rfl (Nat.le_of_ble_eq_true rfl) rfl (fun sz9 p9 e9 s9 m9 a9 b9 h9 c9 C hr => ?_)
  refine Z.iload_n C dX2_hundredfold_0 rfl ?_
  refine Z.ifne C 8 dX2_hundredfold_1 (by decide) (⟨by omega, by omega⟩) (fun h => ?_) (fun h => ?_)
  · refine Z.bipush C dX2_hundredfold_8 (by decide) ?_
    refine Z.iload_n C dX2_hundredfold_10 rfl ?_
    refine Z.imul C dX2_hundredfold_11 ?_
    refine Z.iload_n C dX2_hundredfold_12 rfl ?_
    refine Z.cSIp C 2 (c_floorDiv l D cI cJ cL (100 * a) b (by omega) (by omega) (by omega) (by omega)) gX2_hundredfold_J9_floorDiv_7cf53 rfl rfl rfl (by decide +kernel) ⟨Nat.le_of_ble_eq_true rfl, Nat.le_of_ble_eq_true rfl⟩ rfl rfl (Nat.le_of_ble_eq_true rfl) ⟨Nat.le_of_ble_eq_true rfl, Nat.le_of_ble_eq_true rfl⟩ dX2_hundredfold_13 ?_
    exact Z.iret C hr dX2_hundredfold_16 (⟨by unfold hfZ; rw [if_neg h], rfl⟩)
  · refine Z.iconst C dX2_hundredfold_4 ?_
    refine Z.goto C 16 dX2_hundredfold_5 (by decide) ?_
    exact Z.iret C hr dX2_hundredfold_16 (⟨by unfold hfZ; rw [if_pos h], rfl⟩)
set_option maxRecDepth 20000 in
theorem iw_X2_trimUnder_2 : ∀ w ∈ u_ws RX2 TX2 2, w ∈ wsX2_trimUnder := by decide +kernel
abbrev rmX2_trimUnder : Room := { frames := 2, cells := 0, slots := 0, locals := 43 }
set_option maxHeartbeats 4000000 in
set_option maxRecDepth 100000 in
theorem c_trimUnder (l : Launch) (D : va_G) (cI cJ cL : ClassId) (ad : Nat → Nat) (M B : Int → Int → Int) (lo ch wt sn vo mo le ln od fe se td th : Int → Int) (cnt bw bs pl tk tc sill day lau : Int) (hM : hOK M) (hm : mP M vo mo 6) (x y : Int) (hx0 : 0 ≤ x) (hx1 : x ≤ 1000000) (hy0 : 0 ≤ y) (hy1 : y ≤ 16 * x) : CI l yX2_trimUnder wsX2_trimUnder rmX2_trimUnder [.ref (ad 6), .int (iI x), .int (iI y)] D cI cJ cL (wX ad cI cJ M B lo ch wt sn vo mo le ln od fe se td th cnt bw bs pl tk tc sill day lau) (fun r w' => r = tmZ M x y ∧ w' = (wX ad cI cJ M B lo ch wt sn vo mo le ln od fe se td th cnt bw bs pl tk tc sill day lau)) := by
  refine CI.of (cc := cX2_trimUnder) (maxL := 4) (ret := (some .int)) (own := RX2) _ 1 (by decide +kernel) rfl rfl rfl (Nat.le_of_ble_eq_true rfl) rfl (fun sz9 p9 e9 s9 m9 a9 b9 h9 c9 C hr => ?_)
  refine Z.aload_n C dX2_trimUnder_0 rfl ?_
  refine Z.iload_n C dX2_trimUnder_1 rfl ?_
  refine Z.cVId C 6 1 (c_draughtUnder l D cI cJ cL ad M B lo ch wt sn vo mo le ln od fe se td th cnt bw bs pl tk tc sill day lau hM hm x hx0 (by omega)) rfl rfl gX2_trimUnder_X2_draughtUnder rfl rfl rfl (by decide +kernel) ⟨Nat.le_of_ble_eq_true rfl, Nat.le_of_ble_eq_true rfl⟩ rfl rfl (Nat.le_of_ble_eq_true rfl) ⟨Nat.le_of_ble_eq_true rfl, Nat.le_of_ble_eq_true rfl⟩ dX2_trimUnder_2 ?_
  have b0 := drZ_bd (VM M) x
  refine Z.istore_n C dX2_trimUnder_5 (by decide) ?_
  refine Z.iload_n C dX2_trimUnder_6 rfl ?_
  refine Z.iconst C dX2_trimUnder_7 ?_
  refine Z.icmpne C 13 dX2_trimUnder_8 (by decide) (⟨by omega, by omega⟩) (⟨by omega, by omega⟩) (fun h => ?_) (fun h => ?_)
  · have b1 := VM_bd hM (w := drZ (VM M) x) (by omega) (by omega)
    have b2 := MM_bd hM (w := drZ (VM M) x) (by omega) (by omega)
    obtain ⟨b3, b4⟩ := hm.V (x := drZ (VM M) x) (by omega) (by omega)
    refine Z.iload_n C dX2_trimUnder_13 rfl ?_
    refine Z.iload_n C dX2_trimUnder_14 rfl ?_
    refine Z.cSIp C 2 (c_hundredfold l D cI cJ cL y x (by omega) (by omega) (by omega) (by omega)) gX2_trimUnder_X2_hundredfold rfl rfl rfl (by decide +kernel) ⟨Nat.le_of_ble_eq_true rfl, Nat.le_of_ble_eq_true rfl⟩ rfl rfl (Nat.le_of_ble_eq_true rfl) ⟨Nat.le_of_ble_eq_true rfl, Nat.le_of_ble_eq_true rfl⟩ dX2_trimUnder_15 ?_
    refine Z.aload_n C dX2_trimUnder_18 rfl ?_
    refine Z.getf C 6 1 iw_X2_trimUnder_2 rfl rfl (by decide) (by decide +kernel) rfl dX2_trimUnder_19 ?_
    refine Z.iload_n C dX2_trimUnder_22 rfl ?_
    refine Z.iald C 28 rfl (by omega) (by omega) (by decide) dX2_trimUnder_23 ?_
    refine Z.aload_n C dX2_trimUnder_24 rfl ?_
    refine Z.getf C 6 0 iw_X2_trimUnder_2 rfl rfl (by decide) (by decide +kernel) rfl dX2_trimUnder_25 ?_
    refine Z.iload_n C dX2_trimUnder_28 rfl ?_
    refine Z.iald C 27 rfl (by omega) (by omega) (by decide) dX2_trimUnder_29 ?_
    refine Z.cSIp C 2 (c_hundredfold l D cI cJ cL (mo (drZ (VM M) x)) (vo (drZ (VM M) x)) (by omega) (by omega) (by omega) (by omega)) gX2_trimUnder_X2_hundredfold rfl rfl rfl (by decide +kernel) ⟨Nat.le_of_ble_eq_true rfl, Nat.le_of_ble_eq_true rfl⟩ rfl rfl (Nat.le_of_ble_eq_true rfl) ⟨Nat.le_of_ble_eq_true rfl, Nat.le_of_ble_eq_true rfl⟩ dX2_trimUnder_30 ?_
    refine Z.isub C dX2_trimUnder_33 ?_
    exact Z.iret C hr dX2_trimUnder_34 (⟨by unfold tmZ; rw [if_neg h, b3, b4], rfl⟩)
  · refine Z.iconst C dX2_trimUnder_11 ?_
    exact Z.iret C hr dX2_trimUnder_12 (⟨by unfold tmZ; rw [if_pos h], rfl⟩)
end
