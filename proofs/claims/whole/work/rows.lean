section
-- ===== PART A: goes FIRST, ahead of the names: the tables' words, and 'selects' of the private methods out of them =====
/-- a private method of a class that the tables say can be made, by its rows of tables_1 -/
def lw_okq (q : MethodName × Nat) : Prop := (q.1.cls ≠ "java/lang/invoke/MethodHandle" ∧ q.1.cls ≠ "java/lang/invoke/VarHandle") ∧ Cond.instantiable q.1.cls q.2 ∈ tables_1 ∧ Cond.privateMethod q.1 ∈ tables_1 ∧ Cond.instanceMethod q.1 ∈ tables_1
theorem lw_p0 : lw_okq (⟨"ClappedWrong$Page", "fits", "(II)Z"⟩, 2) := ⟨⟨by decide +kernel, by decide +kernel⟩, List.mem_of_getElem? (i := 24) (by decide +kernel), List.mem_of_getElem? (i := 170) (by decide +kernel), List.mem_of_getElem? (i := 171) (by decide +kernel)⟩
theorem lw_p1 : lw_okq (⟨"ClappedWrong", "aboutRow", "(II)I"⟩, 9) := ⟨⟨by decide +kernel, by decide +kernel⟩, List.mem_of_getElem? (i := 16) (by decide +kernel), List.mem_of_getElem? (i := 305) (by decide +kernel), List.mem_of_getElem? (i := 306) (by decide +kernel)⟩
theorem lw_p2 : lw_okq (⟨"ClappedWrong", "heard", "(II)I"⟩, 9) := ⟨⟨by decide +kernel, by decide +kernel⟩, List.mem_of_getElem? (i := 16) (by decide +kernel), List.mem_of_getElem? (i := 329) (by decide +kernel), List.mem_of_getElem? (i := 330) (by decide +kernel)⟩
theorem lw_p3 : lw_okq (⟨"ClappedWrong$Crowd", "soundNext", "(LClappedWrong$Hall;I)I"⟩, 4) := ⟨⟨by decide +kernel, by decide +kernel⟩, List.mem_of_getElem? (i := 73) (by decide +kernel), List.mem_of_getElem? (i := 386) (by decide +kernel), List.mem_of_getElem? (i := 387) (by decide +kernel)⟩
theorem lw_p4 : lw_okq (⟨"ClappedWrong$Crowd", "soundOfMore", "(LClappedWrong$Hall;I)I"⟩, 4) := ⟨⟨by decide +kernel, by decide +kernel⟩, List.mem_of_getElem? (i := 73) (by decide +kernel), List.mem_of_getElem? (i := 395) (by decide +kernel), List.mem_of_getElem? (i := 396) (by decide +kernel)⟩
theorem lw_p5 : lw_okq (⟨"ClappedWrong$Crowd", "palmsThatSound", "(LClappedWrong$Hall;II)I"⟩, 4) := ⟨⟨by decide +kernel, by decide +kernel⟩, List.mem_of_getElem? (i := 73) (by decide +kernel), List.mem_of_getElem? (i := 399) (by decide +kernel), List.mem_of_getElem? (i := 400) (by decide +kernel)⟩
theorem lw_p6 : lw_okq (⟨"ClappedWrong", "barsToRest", "()I"⟩, 9) := ⟨⟨by decide +kernel, by decide +kernel⟩, List.mem_of_getElem? (i := 16) (by decide +kernel), List.mem_of_getElem? (i := 431) (by decide +kernel), List.mem_of_getElem? (i := 432) (by decide +kernel)⟩
theorem lw_p7 : lw_okq (⟨"ClappedWrong", "rightBehind", "(II)I"⟩, 9) := ⟨⟨by decide +kernel, by decide +kernel⟩, List.mem_of_getElem? (i := 16) (by decide +kernel), List.mem_of_getElem? (i := 443) (by decide +kernel), List.mem_of_getElem? (i := 444) (by decide +kernel)⟩
theorem lw_p8 : lw_okq (⟨"ClappedWrong", "trickTold", "(II)I"⟩, 9) := ⟨⟨by decide +kernel, by decide +kernel⟩, List.mem_of_getElem? (i := 16) (by decide +kernel), List.mem_of_getElem? (i := 451) (by decide +kernel), List.mem_of_getElem? (i := 452) (by decide +kernel)⟩
theorem lw_p9 : lw_okq (⟨"ClappedWrong", "fewestTurned", "(I)I"⟩, 9) := ⟨⟨by decide +kernel, by decide +kernel⟩, List.mem_of_getElem? (i := 16) (by decide +kernel), List.mem_of_getElem? (i := 459) (by decide +kernel), List.mem_of_getElem? (i := 460) (by decide +kernel)⟩
theorem lw_p10 : lw_okq (⟨"ClappedWrong", "winsAll", "(II)Z"⟩, 9) := ⟨⟨by decide +kernel, by decide +kernel⟩, List.mem_of_getElem? (i := 16) (by decide +kernel), List.mem_of_getElem? (i := 469) (by decide +kernel), List.mem_of_getElem? (i := 470) (by decide +kernel)⟩
theorem lw_p11 : lw_okq (⟨"ClappedWrong", "waysBegun", "()I"⟩, 9) := ⟨⟨by decide +kernel, by decide +kernel⟩, List.mem_of_getElem? (i := 16) (by decide +kernel), List.mem_of_getElem? (i := 494) (by decide +kernel), List.mem_of_getElem? (i := 495) (by decide +kernel)⟩
theorem lw_p12 : lw_okq (⟨"ClappedWrong", "beganSo", "(I)Z"⟩, 9) := ⟨⟨by decide +kernel, by decide +kernel⟩, List.mem_of_getElem? (i := 16) (by decide +kernel), List.mem_of_getElem? (i := 498) (by decide +kernel), List.mem_of_getElem? (i := 499) (by decide +kernel)⟩
theorem lw_p13 : lw_okq (⟨"ClappedWrong", "leastBegun", "()I"⟩, 9) := ⟨⟨by decide +kernel, by decide +kernel⟩, List.mem_of_getElem? (i := 16) (by decide +kernel), List.mem_of_getElem? (i := 507) (by decide +kernel), List.mem_of_getElem? (i := 508) (by decide +kernel)⟩
theorem lw_p14 : lw_okq (⟨"ClappedWrong", "nightsTold", "(III)I"⟩, 9) := ⟨⟨by decide +kernel, by decide +kernel⟩, List.mem_of_getElem? (i := 16) (by decide +kernel), List.mem_of_getElem? (i := 515) (by decide +kernel), List.mem_of_getElem? (i := 516) (by decide +kernel)⟩
theorem lw_p15 : lw_okq (⟨"ClappedWrong", "happen", "(LClappedWrong$Draws;)V"⟩, 9) := ⟨⟨by decide +kernel, by decide +kernel⟩, List.mem_of_getElem? (i := 16) (by decide +kernel), List.mem_of_getElem? (i := 530) (by decide +kernel), List.mem_of_getElem? (i := 531) (by decide +kernel)⟩
def lw_privs_1 : List (MethodName × Nat) := [(⟨"ClappedWrong$Page", "fits", "(II)Z"⟩, 2), (⟨"ClappedWrong", "aboutRow", "(II)I"⟩, 9), (⟨"ClappedWrong", "heard", "(II)I"⟩, 9), (⟨"ClappedWrong$Crowd", "soundNext", "(LClappedWrong$Hall;I)I"⟩, 4), (⟨"ClappedWrong$Crowd", "soundOfMore", "(LClappedWrong$Hall;I)I"⟩, 4), (⟨"ClappedWrong$Crowd", "palmsThatSound", "(LClappedWrong$Hall;II)I"⟩, 4), (⟨"ClappedWrong", "barsToRest", "()I"⟩, 9), (⟨"ClappedWrong", "rightBehind", "(II)I"⟩, 9), (⟨"ClappedWrong", "trickTold", "(II)I"⟩, 9), (⟨"ClappedWrong", "fewestTurned", "(I)I"⟩, 9), (⟨"ClappedWrong", "winsAll", "(II)Z"⟩, 9), (⟨"ClappedWrong", "waysBegun", "()I"⟩, 9), (⟨"ClappedWrong", "beganSo", "(I)Z"⟩, 9), (⟨"ClappedWrong", "leastBegun", "()I"⟩, 9), (⟨"ClappedWrong", "nightsTold", "(III)I"⟩, 9), (⟨"ClappedWrong", "happen", "(LClappedWrong$Draws;)V"⟩, 9)]
theorem lw_r1 : ∀ q ∈ lw_privs_1, lw_okq q := List.forall_mem_cons.mpr ⟨lw_p0, List.forall_mem_cons.mpr ⟨lw_p1, List.forall_mem_cons.mpr ⟨lw_p2, List.forall_mem_cons.mpr ⟨lw_p3, List.forall_mem_cons.mpr ⟨lw_p4, List.forall_mem_cons.mpr ⟨lw_p5, List.forall_mem_cons.mpr ⟨lw_p6, List.forall_mem_cons.mpr ⟨lw_p7, List.forall_mem_cons.mpr ⟨lw_p8, List.forall_mem_cons.mpr ⟨lw_p9, List.forall_mem_cons.mpr ⟨lw_p10, List.forall_mem_cons.mpr ⟨lw_p11, List.forall_mem_cons.mpr ⟨lw_p12, List.forall_mem_cons.mpr ⟨lw_p13, List.forall_mem_cons.mpr ⟨lw_p14, List.forall_mem_cons.mpr ⟨lw_p15, fun _ h => absurd h List.not_mem_nil⟩⟩⟩⟩⟩⟩⟩⟩⟩⟩⟩⟩⟩⟩⟩⟩
theorem lw_p16 : lw_okq (⟨"ClappedWrongModel", "faultOf", "()I"⟩, 33) := ⟨⟨by decide +kernel, by decide +kernel⟩, List.mem_of_getElem? (i := 574) (by decide +kernel), List.mem_of_getElem? (i := 696) (by decide +kernel), List.mem_of_getElem? (i := 697) (by decide +kernel)⟩
theorem lw_p17 : lw_okq (⟨"ClappedWrongModel", "go", "(I)Z"⟩, 33) := ⟨⟨by decide +kernel, by decide +kernel⟩, List.mem_of_getElem? (i := 574) (by decide +kernel), List.mem_of_getElem? (i := 700) (by decide +kernel), List.mem_of_getElem? (i := 701) (by decide +kernel)⟩
theorem lw_p18 : lw_okq (⟨"ClappedWrongModel", "isRow", "(I)Z"⟩, 33) := ⟨⟨by decide +kernel, by decide +kernel⟩, List.mem_of_getElem? (i := 574) (by decide +kernel), List.mem_of_getElem? (i := 717) (by decide +kernel), List.mem_of_getElem? (i := 718) (by decide +kernel)⟩
theorem lw_p19 : lw_okq (⟨"ClappedWrongModel", "tell", "(II)I"⟩, 33) := ⟨⟨by decide +kernel, by decide +kernel⟩, List.mem_of_getElem? (i := 574) (by decide +kernel), List.mem_of_getElem? (i := 721) (by decide +kernel), List.mem_of_getElem? (i := 722) (by decide +kernel)⟩
theorem lw_p20 : lw_okq (⟨"ClappedWrongModel", "lagOf", "(I)I"⟩, 33) := ⟨⟨by decide +kernel, by decide +kernel⟩, List.mem_of_getElem? (i := 574) (by decide +kernel), List.mem_of_getElem? (i := 725) (by decide +kernel), List.mem_of_getElem? (i := 726) (by decide +kernel)⟩
theorem lw_p21 : lw_okq (⟨"ClappedWrongModel", "byLag", "(II)I"⟩, 33) := ⟨⟨by decide +kernel, by decide +kernel⟩, List.mem_of_getElem? (i := 574) (by decide +kernel), List.mem_of_getElem? (i := 729) (by decide +kernel), List.mem_of_getElem? (i := 730) (by decide +kernel)⟩
theorem lw_p22 : lw_okq (⟨"ClappedWrongModel", "isTired", "([II)Z"⟩, 33) := ⟨⟨by decide +kernel, by decide +kernel⟩, List.mem_of_getElem? (i := 574) (by decide +kernel), List.mem_of_getElem? (i := 733) (by decide +kernel), List.mem_of_getElem? (i := 734) (by decide +kernel)⟩
theorem lw_p23 : lw_okq (⟨"ClappedWrongModel", "asItIs", "()V"⟩, 33) := ⟨⟨by decide +kernel, by decide +kernel⟩, List.mem_of_getElem? (i := 574) (by decide +kernel), List.mem_of_getElem? (i := 746) (by decide +kernel), List.mem_of_getElem? (i := 747) (by decide +kernel)⟩
theorem lw_p24 : lw_okq (⟨"ClappedWrongModel", "makes", "(II)V"⟩, 33) := ⟨⟨by decide +kernel, by decide +kernel⟩, List.mem_of_getElem? (i := 574) (by decide +kernel), List.mem_of_getElem? (i := 750) (by decide +kernel), List.mem_of_getElem? (i := 751) (by decide +kernel)⟩
theorem lw_p25 : lw_okq (⟨"ClappedWrongModel", "layNow", "()V"⟩, 33) := ⟨⟨by decide +kernel, by decide +kernel⟩, List.mem_of_getElem? (i := 574) (by decide +kernel), List.mem_of_getElem? (i := 754) (by decide +kernel), List.mem_of_getElem? (i := 755) (by decide +kernel)⟩
theorem lw_p26 : lw_okq (⟨"ClappedWrongModel", "lacks", "()Z"⟩, 33) := ⟨⟨by decide +kernel, by decide +kernel⟩, List.mem_of_getElem? (i := 574) (by decide +kernel), List.mem_of_getElem? (i := 763) (by decide +kernel), List.mem_of_getElem? (i := 764) (by decide +kernel)⟩
theorem lw_p27 : lw_okq (⟨"ClappedWrongModel", "pass", "()V"⟩, 33) := ⟨⟨by decide +kernel, by decide +kernel⟩, List.mem_of_getElem? (i := 574) (by decide +kernel), List.mem_of_getElem? (i := 771) (by decide +kernel), List.mem_of_getElem? (i := 772) (by decide +kernel)⟩
theorem lw_p28 : lw_okq (⟨"ClappedWrongModel", "nextOf", "(I)I"⟩, 33) := ⟨⟨by decide +kernel, by decide +kernel⟩, List.mem_of_getElem? (i := 574) (by decide +kernel), List.mem_of_getElem? (i := 775) (by decide +kernel), List.mem_of_getElem? (i := 776) (by decide +kernel)⟩
theorem lw_p29 : lw_okq (⟨"ClappedWrongModel", "isStubborn", "(I)Z"⟩, 33) := ⟨⟨by decide +kernel, by decide +kernel⟩, List.mem_of_getElem? (i := 574) (by decide +kernel), List.mem_of_getElem? (i := 779) (by decide +kernel), List.mem_of_getElem? (i := 780) (by decide +kernel)⟩
theorem lw_p30 : lw_okq (⟨"ClappedWrongModel", "palmsBy", "(II)I"⟩, 33) := ⟨⟨by decide +kernel, by decide +kernel⟩, List.mem_of_getElem? (i := 574) (by decide +kernel), List.mem_of_getElem? (i := 783) (by decide +kernel), List.mem_of_getElem? (i := 784) (by decide +kernel)⟩
theorem lw_p31 : lw_okq (⟨"ClappedWrongModel", "rightNow", "()I"⟩, 33) := ⟨⟨by decide +kernel, by decide +kernel⟩, List.mem_of_getElem? (i := 574) (by decide +kernel), List.mem_of_getElem? (i := 787) (by decide +kernel), List.mem_of_getElem? (i := 788) (by decide +kernel)⟩
def lw_privs_2 : List (MethodName × Nat) := [(⟨"ClappedWrongModel", "faultOf", "()I"⟩, 33), (⟨"ClappedWrongModel", "go", "(I)Z"⟩, 33), (⟨"ClappedWrongModel", "isRow", "(I)Z"⟩, 33), (⟨"ClappedWrongModel", "tell", "(II)I"⟩, 33), (⟨"ClappedWrongModel", "lagOf", "(I)I"⟩, 33), (⟨"ClappedWrongModel", "byLag", "(II)I"⟩, 33), (⟨"ClappedWrongModel", "isTired", "([II)Z"⟩, 33), (⟨"ClappedWrongModel", "asItIs", "()V"⟩, 33), (⟨"ClappedWrongModel", "makes", "(II)V"⟩, 33), (⟨"ClappedWrongModel", "layNow", "()V"⟩, 33), (⟨"ClappedWrongModel", "lacks", "()Z"⟩, 33), (⟨"ClappedWrongModel", "pass", "()V"⟩, 33), (⟨"ClappedWrongModel", "nextOf", "(I)I"⟩, 33), (⟨"ClappedWrongModel", "isStubborn", "(I)Z"⟩, 33), (⟨"ClappedWrongModel", "palmsBy", "(II)I"⟩, 33), (⟨"ClappedWrongModel", "rightNow", "()I"⟩, 33)]
theorem lw_r2 : ∀ q ∈ lw_privs_2, lw_okq q := List.forall_mem_cons.mpr ⟨lw_p16, List.forall_mem_cons.mpr ⟨lw_p17, List.forall_mem_cons.mpr ⟨lw_p18, List.forall_mem_cons.mpr ⟨lw_p19, List.forall_mem_cons.mpr ⟨lw_p20, List.forall_mem_cons.mpr ⟨lw_p21, List.forall_mem_cons.mpr ⟨lw_p22, List.forall_mem_cons.mpr ⟨lw_p23, List.forall_mem_cons.mpr ⟨lw_p24, List.forall_mem_cons.mpr ⟨lw_p25, List.forall_mem_cons.mpr ⟨lw_p26, List.forall_mem_cons.mpr ⟨lw_p27, List.forall_mem_cons.mpr ⟨lw_p28, List.forall_mem_cons.mpr ⟨lw_p29, List.forall_mem_cons.mpr ⟨lw_p30, List.forall_mem_cons.mpr ⟨lw_p31, fun _ h => absurd h List.not_mem_nil⟩⟩⟩⟩⟩⟩⟩⟩⟩⟩⟩⟩⟩⟩⟩⟩
theorem lw_p32 : lw_okq (⟨"ClappedWrongModel", "leaveOut", "()V"⟩, 33) := ⟨⟨by decide +kernel, by decide +kernel⟩, List.mem_of_getElem? (i := 574) (by decide +kernel), List.mem_of_getElem? (i := 795) (by decide +kernel), List.mem_of_getElem? (i := 796) (by decide +kernel)⟩
theorem lw_p33 : lw_okq (⟨"ClappedWrongModel", "loudOf", "(II)I"⟩, 33) := ⟨⟨by decide +kernel, by decide +kernel⟩, List.mem_of_getElem? (i := 574) (by decide +kernel), List.mem_of_getElem? (i := 803) (by decide +kernel), List.mem_of_getElem? (i := 804) (by decide +kernel)⟩
theorem lw_p34 : lw_okq (⟨"ClappedWrongModel", "restOf", "()I"⟩, 33) := ⟨⟨by decide +kernel, by decide +kernel⟩, List.mem_of_getElem? (i := 574) (by decide +kernel), List.mem_of_getElem? (i := 811) (by decide +kernel), List.mem_of_getElem? (i := 812) (by decide +kernel)⟩
theorem lw_p35 : lw_okq (⟨"ClappedWrongModel", "outcomeOf", "(I)I"⟩, 33) := ⟨⟨by decide +kernel, by decide +kernel⟩, List.mem_of_getElem? (i := 574) (by decide +kernel), List.mem_of_getElem? (i := 820) (by decide +kernel), List.mem_of_getElem? (i := 821) (by decide +kernel)⟩
theorem lw_p36 : lw_okq (⟨"ClappedWrongModel", "passAll", "(I)V"⟩, 33) := ⟨⟨by decide +kernel, by decide +kernel⟩, List.mem_of_getElem? (i := 574) (by decide +kernel), List.mem_of_getElem? (i := 824) (by decide +kernel), List.mem_of_getElem? (i := 825) (by decide +kernel)⟩
theorem lw_p37 : lw_okq (⟨"ClappedWrongModel", "trickOf", "(II)I"⟩, 33) := ⟨⟨by decide +kernel, by decide +kernel⟩, List.mem_of_getElem? (i := 574) (by decide +kernel), List.mem_of_getElem? (i := 833) (by decide +kernel), List.mem_of_getElem? (i := 834) (by decide +kernel)⟩
theorem lw_p38 : lw_okq (⟨"ClappedWrongModel", "isWonBy", "(II)Z"⟩, 33) := ⟨⟨by decide +kernel, by decide +kernel⟩, List.mem_of_getElem? (i := 574) (by decide +kernel), List.mem_of_getElem? (i := 844) (by decide +kernel), List.mem_of_getElem? (i := 845) (by decide +kernel)⟩
theorem lw_p39 : lw_okq (⟨"ClappedWrongModel", "isRecordedBy", "(III)Z"⟩, 33) := ⟨⟨by decide +kernel, by decide +kernel⟩, List.mem_of_getElem? (i := 574) (by decide +kernel), List.mem_of_getElem? (i := 861) (by decide +kernel), List.mem_of_getElem? (i := 862) (by decide +kernel)⟩
theorem lw_p40 : lw_okq (⟨"ClappedWrongModel", "draw", "(I)I"⟩, 33) := ⟨⟨by decide +kernel, by decide +kernel⟩, List.mem_of_getElem? (i := 574) (by decide +kernel), List.mem_of_getElem? (i := 871) (by decide +kernel), List.mem_of_getElem? (i := 872) (by decide +kernel)⟩
theorem lw_p41 : lw_okq (⟨"ClappedWrongModel", "palmsAll", "()I"⟩, 33) := ⟨⟨by decide +kernel, by decide +kernel⟩, List.mem_of_getElem? (i := 574) (by decide +kernel), List.mem_of_getElem? (i := 879) (by decide +kernel), List.mem_of_getElem? (i := 880) (by decide +kernel)⟩
theorem lw_p42 : lw_okq (⟨"ClappedWrongModel", "countOf", "(I)I"⟩, 33) := ⟨⟨by decide +kernel, by decide +kernel⟩, List.mem_of_getElem? (i := 574) (by decide +kernel), List.mem_of_getElem? (i := 898) (by decide +kernel), List.mem_of_getElem? (i := 899) (by decide +kernel)⟩
theorem lw_p43 : lw_okq (⟨"ClappedWrongModel", "say", "(J)V"⟩, 33) := ⟨⟨by decide +kernel, by decide +kernel⟩, List.mem_of_getElem? (i := 574) (by decide +kernel), List.mem_of_getElem? (i := 907) (by decide +kernel), List.mem_of_getElem? (i := 908) (by decide +kernel)⟩
def lw_privs_3 : List (MethodName × Nat) := [(⟨"ClappedWrongModel", "leaveOut", "()V"⟩, 33), (⟨"ClappedWrongModel", "loudOf", "(II)I"⟩, 33), (⟨"ClappedWrongModel", "restOf", "()I"⟩, 33), (⟨"ClappedWrongModel", "outcomeOf", "(I)I"⟩, 33), (⟨"ClappedWrongModel", "passAll", "(I)V"⟩, 33), (⟨"ClappedWrongModel", "trickOf", "(II)I"⟩, 33), (⟨"ClappedWrongModel", "isWonBy", "(II)Z"⟩, 33), (⟨"ClappedWrongModel", "isRecordedBy", "(III)Z"⟩, 33), (⟨"ClappedWrongModel", "draw", "(I)I"⟩, 33), (⟨"ClappedWrongModel", "palmsAll", "()I"⟩, 33), (⟨"ClappedWrongModel", "countOf", "(I)I"⟩, 33), (⟨"ClappedWrongModel", "say", "(J)V"⟩, 33)]
theorem lw_r3 : ∀ q ∈ lw_privs_3, lw_okq q := List.forall_mem_cons.mpr ⟨lw_p32, List.forall_mem_cons.mpr ⟨lw_p33, List.forall_mem_cons.mpr ⟨lw_p34, List.forall_mem_cons.mpr ⟨lw_p35, List.forall_mem_cons.mpr ⟨lw_p36, List.forall_mem_cons.mpr ⟨lw_p37, List.forall_mem_cons.mpr ⟨lw_p38, List.forall_mem_cons.mpr ⟨lw_p39, List.forall_mem_cons.mpr ⟨lw_p40, List.forall_mem_cons.mpr ⟨lw_p41, List.forall_mem_cons.mpr ⟨lw_p42, List.forall_mem_cons.mpr ⟨lw_p43, fun _ h => absurd h List.not_mem_nil⟩⟩⟩⟩⟩⟩⟩⟩⟩⟩⟩⟩
def lw_privs : List (MethodName × Nat) := lw_privs_1 ++ (lw_privs_2 ++ (lw_privs_3))
def lw_tbl : List Cond := k2_sels lw_privs ++ tables_1
theorem lw_privs_ok : ∀ q ∈ lw_privs, lw_okq q := by
  show ∀ q ∈ lw_privs_1 ++ (lw_privs_2 ++ (lw_privs_3)), lw_okq q
  exact List.forall_mem_append.mpr ⟨lw_r1, List.forall_mem_append.mpr ⟨lw_r2, lw_r3⟩⟩
end
section
/-! ===== BEGIN words of one list among another's, by their places ===== -/
theorem goodIn_r {big : List Cond} (ws : List Cond) (ps : List Nat) (hp : ws = ps.filterMap (fun i => big[i]?)) (h : ws.all goodWord = true) : GoodIn big ws := by
  intro w hw
  have h1 := List.all_eq_true.mp h w hw
  rw [hp] at hw
  obtain ⟨i, -, hi⟩ := List.mem_filterMap.mp hw
  have hm : w ∈ big := by first | exact List.mem_of_getElem? hi | exact List.getElem?_mem hi
  exact ⟨hm, good_of_word h1⟩
theorem goodIn_app {big a b : List Cond} (ha : GoodIn big a) (hb : GoodIn big b) : GoodIn big (a ++ b) := fun w h => (List.mem_append.mp h).elim (ha w) (hb w)
theorem goodIn_ca {big a b : List Cond} {c : Cond} (ha : GoodIn big (c :: a)) (hb : GoodIn big b) : GoodIn big (c :: (a ++ b)) := fun w h => (List.mem_cons.mp h).elim (fun e => ha w (List.mem_cons.mpr (Or.inl e))) (fun h => (List.mem_append.mp h).elim (fun h => ha w (List.mem_cons.mpr (Or.inr h))) (hb w))
theorem goodIn_sub {big ws : List Cond} (hm : ∀ w ∈ ws, w ∈ big) (h : ws.all goodWord = true) : GoodIn big ws := fun w hw => ⟨hm w hw, good_of_word (List.all_eq_true.mp h w hw)⟩
/-! ===== END ===== -/

/-! ===== BEGIN printed: names, fields, word lists, decode rows ===== -/
def RX0 : String := "ClappedWrong$Crowd"
def TX0 : u_T := fun k => match k with
  | 0 => ("ClappedWrong$Crowd", "sounds", "[I", true)
  | 1 => ("ClappedWrong$Crowd", "clapped", "[I", true)
  | 2 => ("ClappedWrong$Crowd", "next", "[I", true)
  | _ => ("ClappedWrong$Crowd", "armRows", "I", false)
def tyX0 : Nat → FieldType := fun k => match k with
  | 0 => .array .int
  | 1 => .array .int
  | 2 => .array .int
  | _ => .int
abbrev wsX00 : List Cond := u_ws RX0 TX0 4
theorem nmX0 : ∀ a, a < 4 → ∀ b, b < 4 → a ≠ b → (TX0 a).2.1 ≠ (TX0 b).2.1 := by decide +kernel
theorem tyX0_ok : ∀ k, k < 4 → parseFieldDescriptor (TX0 k).2.2.1 = some (tyX0 k) := by decide +kernel
abbrev cX0_init : ByteArray := prog_2_method_1_code
def yX0_init : MethodName := ⟨RX0, "<init>", "()V"⟩
abbrev cX0_takeFrom : ByteArray := prog_2_method_2_code
def yX0_takeFrom : MethodName := ⟨RX0, "takeFrom", "(LClappedWrong$Crowd;)V"⟩
abbrev cX0_beginWith : ByteArray := prog_2_method_3_code
def yX0_beginWith : MethodName := ⟨RX0, "beginWith", "(II)V"⟩
abbrev cX0_soundOf : ByteArray := prog_2_method_4_code
def yX0_soundOf : MethodName := ⟨RX0, "soundOf", "(I)I"⟩
abbrev cX0_clappedOf : ByteArray := prog_2_method_5_code
def yX0_clappedOf : MethodName := ⟨RX0, "clappedOf", "(I)I"⟩
abbrev cX0_let : ByteArray := prog_2_method_6_code
def yX0_let : MethodName := ⟨RX0, "let", "(II)V"⟩
abbrev cX0_isTired : ByteArray := prog_2_method_7_code
def yX0_isTired : MethodName := ⟨RX0, "isTired", "(LClappedWrong$Hall;I)Z"⟩
abbrev cX0_seesArm : ByteArray := prog_2_method_8_code
def yX0_seesArm : MethodName := ⟨RX0, "seesArm", "(I)Z"⟩
abbrev cX0_goOn : ByteArray := prog_2_method_9_code
def yX0_goOn : MethodName := ⟨RX0, "goOn", "(LClappedWrong$Hall;)Z"⟩
abbrev cX0_soundNext : ByteArray := prog_2_method_10_code
def yX0_soundNext : MethodName := ⟨RX0, "soundNext", "(LClappedWrong$Hall;I)I"⟩
abbrev cX0_soundOfMore : ByteArray := prog_2_method_11_code
def yX0_soundOfMore : MethodName := ⟨RX0, "soundOfMore", "(LClappedWrong$Hall;I)I"⟩
abbrev cX0_palmsThatSound : ByteArray := prog_2_method_12_code
def yX0_palmsThatSound : MethodName := ⟨RX0, "palmsThatSound", "(LClappedWrong$Hall;II)I"⟩
abbrev cX0_leaveBeatOut : ByteArray := prog_2_method_13_code
def yX0_leaveBeatOut : MethodName := ⟨RX0, "leaveBeatOut", "(LClappedWrong$Hall;)V"⟩
abbrev cX0_palmsRight : ByteArray := prog_2_method_14_code
def yX0_palmsRight : MethodName := ⟨RX0, "palmsRight", "(LClappedWrong$Hall;)I"⟩
abbrev cX0_areWillingRight : ByteArray := prog_2_method_15_code
def yX0_areWillingRight : MethodName := ⟨RX0, "areWillingRight", "(LClappedWrong$Hall;)Z"⟩
abbrev cX0_loudness : ByteArray := prog_2_method_16_code
def yX0_loudness : MethodName := ⟨RX0, "loudness", "(LClappedWrong$Hall;II)I"⟩
def RX1 : String := "ClappedWrong$Draws"
def TX1 : u_T := fun k => match k with
  | _ => ("ClappedWrong$Draws", "seed", "I", false)
def tyX1 : Nat → FieldType := fun k => match k with
  | _ => .int
abbrev wsX10 : List Cond := u_ws RX1 TX1 1
theorem nmX1 : ∀ a, a < 1 → ∀ b, b < 1 → a ≠ b → (TX1 a).2.1 ≠ (TX1 b).2.1 := by decide +kernel
theorem tyX1_ok : ∀ k, k < 1 → parseFieldDescriptor (TX1 k).2.2.1 = some (tyX1 k) := by decide +kernel
abbrev cX1_init : ByteArray := prog_3_method_1_code
def yX1_init : MethodName := ⟨RX1, "<init>", "(I)V"⟩
abbrev cX1_next : ByteArray := prog_3_method_2_code
def yX1_next : MethodName := ⟨RX1, "next", "(I)I"⟩
def RX2 : String := "ClappedWrong$Hall"
def TX2 : u_T := fun k => match k with
  | 0 => ("ClappedWrong$Hall", "kinds", "[I", true)
  | 1 => ("ClappedWrong$Hall", "palms", "[I", true)
  | 2 => ("ClappedWrong$Hall", "strengths", "[I", true)
  | 3 => ("ClappedWrong$Hall", "rows", "I", false)
  | _ => ("ClappedWrong$Hall", "late", "I", false)
def tyX2 : Nat → FieldType := fun k => match k with
  | 0 => .array .int
  | 1 => .array .int
  | 2 => .array .int
  | 3 => .int
  | _ => .int
abbrev wsX20 : List Cond := u_ws RX2 TX2 5
theorem nmX2 : ∀ a, a < 5 → ∀ b, b < 5 → a ≠ b → (TX2 a).2.1 ≠ (TX2 b).2.1 := by decide +kernel
theorem tyX2_ok : ∀ k, k < 5 → parseFieldDescriptor (TX2 k).2.2.1 = some (tyX2 k) := by decide +kernel
abbrev cX2_init : ByteArray := prog_4_method_1_code
def yX2_init : MethodName := ⟨RX2, "<init>", "()V"⟩
abbrev cX2_read : ByteArray := prog_4_method_2_code
def yX2_read : MethodName := ⟨RX2, "read", "(LClappedWrong$Page;)V"⟩
abbrev cX2_isThere : ByteArray := prog_4_method_3_code
def yX2_isThere : MethodName := ⟨RX2, "isThere", "()Z"⟩
abbrev cX2_has : ByteArray := prog_4_method_4_code
def yX2_has : MethodName := ⟨RX2, "has", "(I)Z"⟩
abbrev cX2_kindOf : ByteArray := prog_4_method_5_code
def yX2_kindOf : MethodName := ⟨RX2, "kindOf", "(I)I"⟩
abbrev cX2_palmsOf : ByteArray := prog_4_method_6_code
def yX2_palmsOf : MethodName := ⟨RX2, "palmsOf", "(I)I"⟩
abbrev cX2_strengthOf : ByteArray := prog_4_method_7_code
def yX2_strengthOf : MethodName := ⟨RX2, "strengthOf", "(I)I"⟩
abbrev cX2_lag : ByteArray := prog_4_method_8_code
def yX2_lag : MethodName := ⟨RX2, "lag", "(I)I"⟩
abbrev cX2_isOf : ByteArray := prog_4_method_9_code
def yX2_isOf : MethodName := ⟨RX2, "isOf", "(II)Z"⟩
abbrev cX2_allPalms : ByteArray := prog_4_method_10_code
def yX2_allPalms : MethodName := ⟨RX2, "allPalms", "()I"⟩
def RX3 : String := "ClappedWrong$Night"
def TX3 : u_T := fun k => match k with
  | 0 => ("ClappedWrong$Night", "crowd", "LClappedWrong$Crowd;", true)
  | 1 => ("ClappedWrong$Night", "rightBehindBar", "[I", true)
  | 2 => ("ClappedWrong$Night", "recorded", "I", false)
  | 3 => ("ClappedWrong$Night", "barsGone", "I", false)
  | _ => ("ClappedWrong$Night", "beatsLeftOut", "I", false)
def tyX3 : Nat → FieldType := fun k => match k with
  | 0 => .object "ClappedWrong$Crowd"
  | 1 => .array .int
  | 2 => .int
  | 3 => .int
  | _ => .int
abbrev wsX30 : List Cond := u_ws RX3 TX3 5
theorem nmX3 : ∀ a, a < 5 → ∀ b, b < 5 → a ≠ b → (TX3 a).2.1 ≠ (TX3 b).2.1 := by decide +kernel
theorem tyX3_ok : ∀ k, k < 5 → parseFieldDescriptor (TX3 k).2.2.1 = some (tyX3 k) := by decide +kernel
abbrev cX3_init : ByteArray := prog_5_method_1_code
def yX3_init : MethodName := ⟨RX3, "<init>", "()V"⟩
abbrev cX3_startIn : ByteArray := prog_5_method_2_code
def yX3_startIn : MethodName := ⟨RX3, "startIn", "(LClappedWrong$Hall;)V"⟩
abbrev cX3_takeFrom : ByteArray := prog_5_method_3_code
def yX3_takeFrom : MethodName := ⟨RX3, "takeFrom", "(LClappedWrong$Night;)V"⟩
abbrev cX3_noteDown : ByteArray := prog_5_method_4_code
def yX3_noteDown : MethodName := ⟨RX3, "noteDown", "(I)Z"⟩
abbrev cX3_recordedAt : ByteArray := prog_5_method_5_code
def yX3_recordedAt : MethodName := ⟨RX3, "recordedAt", "(I)I"⟩
def RX4 : String := "ClappedWrong$Page"
def TX4 : u_T := fun k => match k with
  | 0 => ("ClappedWrong$Page", "codes", "[I", true)
  | _ => ("ClappedWrong$Page", "length", "I", false)
def tyX4 : Nat → FieldType := fun k => match k with
  | 0 => .array .int
  | _ => .int
abbrev wsX40 : List Cond := u_ws RX4 TX4 2
theorem nmX4 : ∀ a, a < 2 → ∀ b, b < 2 → a ≠ b → (TX4 a).2.1 ≠ (TX4 b).2.1 := by decide +kernel
theorem tyX4_ok : ∀ k, k < 2 → parseFieldDescriptor (TX4 k).2.2.1 = some (tyX4 k) := by decide +kernel
abbrev cX4_init : ByteArray := prog_6_method_1_code
def yX4_init : MethodName := ⟨RX4, "<init>", "()V"⟩
abbrev cX4_write : ByteArray := prog_6_method_2_code
def yX4_write : MethodName := ⟨RX4, "write", "(I)Z"⟩
abbrev cX4_wipe : ByteArray := prog_6_method_3_code
def yX4_wipe : MethodName := ⟨RX4, "wipe", "()V"⟩
abbrev cX4_codeAt : ByteArray := prog_6_method_4_code
def yX4_codeAt : MethodName := ⟨RX4, "codeAt", "(I)I"⟩
abbrev cX4_firstFault : ByteArray := prog_6_method_5_code
def yX4_firstFault : MethodName := ⟨RX4, "firstFault", "()I"⟩
abbrev cX4_isWhole : ByteArray := prog_6_method_6_code
def yX4_isWhole : MethodName := ⟨RX4, "isWhole", "()Z"⟩
abbrev cX4_fits : ByteArray := prog_6_method_7_code
def yX4_fits : MethodName := ⟨RX4, "fits", "(II)Z"⟩
abbrev cX4_followsRow : ByteArray := prog_6_method_8_code
def yX4_followsRow : MethodName := ⟨RX4, "followsRow", "(II)Z"⟩
abbrev cX4_kindBy : ByteArray := prog_6_method_9_code
def yX4_kindBy : MethodName := ⟨RX4, "kindBy", "(I)I"⟩
def RX5 : String := "ClappedWrong"
def TX5 : u_T := fun k => match k with
  | 0 => ("ClappedWrong", "page", "LClappedWrong$Page;", true)
  | 1 => ("ClappedWrong", "room", "LClappedWrong$Hall;", true)
  | 2 => ("ClappedWrong", "night", "LClappedWrong$Night;", true)
  | 3 => ("ClappedWrong", "kept", "LClappedWrong$Night;", true)
  | 4 => ("ClappedWrong", "trial", "LClappedWrong$Crowd;", true)
  | 5 => ("ClappedWrong", "isKept", "Z", false)
  | 6 => ("ClappedWrong", "hallsRead", "I", false)
  | 7 => ("ClappedWrong", "turnedDone", "I", false)
  | _ => ("ClappedWrong", "beganDone", "I", false)
def tyX5 : Nat → FieldType := fun k => match k with
  | 0 => .object "ClappedWrong$Page"
  | 1 => .object "ClappedWrong$Hall"
  | 2 => .object "ClappedWrong$Night"
  | 3 => .object "ClappedWrong$Night"
  | 4 => .object "ClappedWrong$Crowd"
  | 5 => .boolean
  | 6 => .int
  | 7 => .int
  | _ => .int
abbrev wsX50 : List Cond := u_ws RX5 TX5 9
theorem nmX5 : ∀ a, a < 9 → ∀ b, b < 9 → a ≠ b → (TX5 a).2.1 ≠ (TX5 b).2.1 := by decide +kernel
theorem tyX5_ok : ∀ k, k < 9 → parseFieldDescriptor (TX5 k).2.2.1 = some (tyX5 k) := by decide +kernel
abbrev cX5_init : ByteArray := prog_1_method_1_code
def yX5_init : MethodName := ⟨RX5, "<init>", "()V"⟩
abbrev cX5_letter : ByteArray := prog_1_method_2_code
def yX5_letter : MethodName := ⟨RX5, "letter", "(I)I"⟩
abbrev cX5_blank : ByteArray := prog_1_method_3_code
def yX5_blank : MethodName := ⟨RX5, "blank", "()I"⟩
abbrev cX5_fault : ByteArray := prog_1_method_4_code
def yX5_fault : MethodName := ⟨RX5, "fault", "()I"⟩
abbrev cX5_hall : ByteArray := prog_1_method_5_code
def yX5_hall : MethodName := ⟨RX5, "hall", "()I"⟩
abbrev cX5_about : ByteArray := prog_1_method_6_code
def yX5_about : MethodName := ⟨RX5, "about", "(II)I"⟩
abbrev cX5_as : ByteArray := prog_1_method_7_code
def yX5_as : MethodName := ⟨RX5, "as", "(II)I"⟩
abbrev cX5_clap : ByteArray := prog_1_method_8_code
def yX5_clap : MethodName := ⟨RX5, "clap", "(II)I"⟩
abbrev cX5_arm : ByteArray := prog_1_method_9_code
def yX5_arm : MethodName := ⟨RX5, "arm", "(I)I"⟩
abbrev cX5_bar : ByteArray := prog_1_method_10_code
def yX5_bar : MethodName := ⟨RX5, "bar", "()I"⟩
abbrev cX5_skip : ByteArray := prog_1_method_11_code
def yX5_skip : MethodName := ⟨RX5, "skip", "()I"⟩
abbrev cX5_loud : ByteArray := prog_1_method_12_code
def yX5_loud : MethodName := ⟨RX5, "loud", "(II)I"⟩
abbrev cX5_rest : ByteArray := prog_1_method_13_code
def yX5_rest : MethodName := ⟨RX5, "rest", "()I"⟩
abbrev cX5_outcome : ByteArray := prog_1_method_14_code
def yX5_outcome : MethodName := ⟨RX5, "outcome", "(I)I"⟩
abbrev cX5_trick : ByteArray := prog_1_method_15_code
def yX5_trick : MethodName := ⟨RX5, "trick", "(II)I"⟩
abbrev cX5_turned : ByteArray := prog_1_method_16_code
def yX5_turned : MethodName := ⟨RX5, "turned", "(II)I"⟩
abbrev cX5_record : ByteArray := prog_1_method_17_code
def yX5_record : MethodName := ⟨RX5, "record", "(I)I"⟩
abbrev cX5_forget : ByteArray := prog_1_method_18_code
def yX5_forget : MethodName := ⟨RX5, "forget", "()I"⟩
abbrev cX5_began : ByteArray := prog_1_method_19_code
def yX5_began : MethodName := ⟨RX5, "began", "(I)I"⟩
abbrev cX5_nights : ByteArray := prog_1_method_20_code
def yX5_nights : MethodName := ⟨RX5, "nights", "(III)I"⟩
abbrev cX5_image : ByteArray := prog_1_method_21_code
def yX5_image : MethodName := ⟨RX5, "image", "()I"⟩
abbrev cX5_restore : ByteArray := prog_1_method_22_code
def yX5_restore : MethodName := ⟨RX5, "restore", "()I"⟩
abbrev cX5_count : ByteArray := prog_1_method_23_code
def yX5_count : MethodName := ⟨RX5, "count", "(I)I"⟩
abbrev cX5_digest : ByteArray := prog_1_method_24_code
def yX5_digest : MethodName := ⟨RX5, "digest", "()J"⟩
abbrev cX5_within : ByteArray := prog_1_method_25_code
def yX5_within : MethodName := ⟨RX5, "within", "(III)Z"⟩
abbrev cX5_oneIf : ByteArray := prog_1_method_26_code
def yX5_oneIf : MethodName := ⟨RX5, "oneIf", "(Z)I"⟩
abbrev cX5_swapped : ByteArray := prog_1_method_27_code
def yX5_swapped : MethodName := ⟨RX5, "swapped", "(I)I"⟩
abbrev cX5_mixed : ByteArray := prog_1_method_28_code
def yX5_mixed : MethodName := ⟨RX5, "mixed", "(JI)J"⟩
abbrev cX5_heard : ByteArray := prog_1_method_29_code
def yX5_heard : MethodName := ⟨RX5, "heard", "(II)I"⟩
abbrev cX5_aboutRow : ByteArray := prog_1_method_30_code
def yX5_aboutRow : MethodName := ⟨RX5, "aboutRow", "(II)I"⟩
abbrev cX5_barsToRest : ByteArray := prog_1_method_31_code
def yX5_barsToRest : MethodName := ⟨RX5, "barsToRest", "()I"⟩
abbrev cX5_rightBehind : ByteArray := prog_1_method_32_code
def yX5_rightBehind : MethodName := ⟨RX5, "rightBehind", "(II)I"⟩
abbrev cX5_trickTold : ByteArray := prog_1_method_33_code
def yX5_trickTold : MethodName := ⟨RX5, "trickTold", "(II)I"⟩
abbrev cX5_fewestTurned : ByteArray := prog_1_method_34_code
def yX5_fewestTurned : MethodName := ⟨RX5, "fewestTurned", "(I)I"⟩
abbrev cX5_winsAll : ByteArray := prog_1_method_35_code
def yX5_winsAll : MethodName := ⟨RX5, "winsAll", "(II)Z"⟩
abbrev cX5_waysBegun : ByteArray := prog_1_method_36_code
def yX5_waysBegun : MethodName := ⟨RX5, "waysBegun", "()I"⟩
abbrev cX5_leastBegun : ByteArray := prog_1_method_37_code
def yX5_leastBegun : MethodName := ⟨RX5, "leastBegun", "()I"⟩
abbrev cX5_beganSo : ByteArray := prog_1_method_38_code
def yX5_beganSo : MethodName := ⟨RX5, "beganSo", "(I)Z"⟩
abbrev cX5_nightsTold : ByteArray := prog_1_method_39_code
def yX5_nightsTold : MethodName := ⟨RX5, "nightsTold", "(III)I"⟩
abbrev cX5_happen : ByteArray := prog_1_method_40_code
def yX5_happen : MethodName := ⟨RX5, "happen", "(LClappedWrong$Draws;)V"⟩
def RX6 : String := "ClappedWrongModel"
def TX6 : u_T := fun k => match k with
  | 0 => ("ClappedWrongModel", "page", "[I", true)
  | 1 => ("ClappedWrongModel", "pageMany", "I", false)
  | 2 => ("ClappedWrongModel", "read", "[I", true)
  | 3 => ("ClappedWrongModel", "readMany", "I", false)
  | 4 => ("ClappedWrongModel", "readLate", "I", false)
  | 5 => ("ClappedWrongModel", "state", "I", false)
  | 6 => ("ClappedWrongModel", "many", "I", false)
  | 7 => ("ClappedWrongModel", "late", "I", false)
  | 8 => ("ClappedWrongModel", "armNow", "I", false)
  | 9 => ("ClappedWrongModel", "barNow", "I", false)
  | 10 => ("ClappedWrongModel", "skips", "I", false)
  | 11 => ("ClappedWrongModel", "hallsRead", "I", false)
  | 12 => ("ClappedWrongModel", "rows", "[I", true)
  | 13 => ("ClappedWrongModel", "sounds", "[I", true)
  | 14 => ("ClappedWrongModel", "clapped", "[I", true)
  | 15 => ("ClappedWrongModel", "now", "[I", true)
  | 16 => ("ClappedWrongModel", "nowLong", "[I", true)
  | 17 => ("ClappedWrongModel", "ahead", "[I", true)
  | 18 => ("ClappedWrongModel", "nowArm", "I", false)
  | 19 => ("ClappedWrongModel", "turnedMany", "I", false)
  | 20 => ("ClappedWrongModel", "recordMany", "I", false)
  | 21 => ("ClappedWrongModel", "records", "[I", true)
  | 22 => ("ClappedWrongModel", "beganMany", "I", false)
  | 23 => ("ClappedWrongModel", "seedNow", "I", false)
  | 24 => ("ClappedWrongModel", "keptHall", "I", false)
  | 25 => ("ClappedWrongModel", "keptArm", "I", false)
  | 26 => ("ClappedWrongModel", "keptBar", "I", false)
  | 27 => ("ClappedWrongModel", "keptSkips", "I", false)
  | 28 => ("ClappedWrongModel", "keptRecordMany", "I", false)
  | 29 => ("ClappedWrongModel", "keptSounds", "[I", true)
  | 30 => ("ClappedWrongModel", "keptClapped", "[I", true)
  | 31 => ("ClappedWrongModel", "keptRecords", "[I", true)
  | _ => ("ClappedWrongModel", "hash", "J", false)
def tyX6 : Nat → FieldType := fun k => match k with
  | 0 => .array .int
  | 1 => .int
  | 2 => .array .int
  | 3 => .int
  | 4 => .int
  | 5 => .int
  | 6 => .int
  | 7 => .int
  | 8 => .int
  | 9 => .int
  | 10 => .int
  | 11 => .int
  | 12 => .array .int
  | 13 => .array .int
  | 14 => .array .int
  | 15 => .array .int
  | 16 => .array .int
  | 17 => .array .int
  | 18 => .int
  | 19 => .int
  | 20 => .int
  | 21 => .array .int
  | 22 => .int
  | 23 => .int
  | 24 => .int
  | 25 => .int
  | 26 => .int
  | 27 => .int
  | 28 => .int
  | 29 => .array .int
  | 30 => .array .int
  | 31 => .array .int
  | _ => .long
abbrev wsX60 : List Cond := u_ws RX6 TX6 33
theorem nmX6 : ∀ a, a < 33 → ∀ b, b < 33 → a ≠ b → (TX6 a).2.1 ≠ (TX6 b).2.1 := by decide +kernel
theorem tyX6_ok : ∀ k, k < 33 → parseFieldDescriptor (TX6 k).2.2.1 = some (tyX6 k) := by decide +kernel
abbrev cX6_init : ByteArray := prog_8_method_1_code
def yX6_init : MethodName := ⟨RX6, "<init>", "()V"⟩
abbrev cX6_in : ByteArray := prog_8_method_2_code
def yX6_in : MethodName := ⟨RX6, "in", "(JJJ)Z"⟩
abbrev cX6_letter : ByteArray := prog_8_method_3_code
def yX6_letter : MethodName := ⟨RX6, "letter", "(I)I"⟩
abbrev cX6_blank : ByteArray := prog_8_method_4_code
def yX6_blank : MethodName := ⟨RX6, "blank", "()I"⟩
abbrev cX6_kindBy : ByteArray := prog_8_method_5_code
def yX6_kindBy : MethodName := ⟨RX6, "kindBy", "(I)I"⟩
abbrev cX6_go : ByteArray := prog_8_method_6_code
def yX6_go : MethodName := ⟨RX6, "go", "(I)Z"⟩
abbrev cX6_faultOf : ByteArray := prog_8_method_7_code
def yX6_faultOf : MethodName := ⟨RX6, "faultOf", "()I"⟩
abbrev cX6_fault : ByteArray := prog_8_method_8_code
def yX6_fault : MethodName := ⟨RX6, "fault", "()I"⟩
abbrev cX6_hall : ByteArray := prog_8_method_9_code
def yX6_hall : MethodName := ⟨RX6, "hall", "()I"⟩
abbrev cX6_lacks : ByteArray := prog_8_method_10_code
def yX6_lacks : MethodName := ⟨RX6, "lacks", "()Z"⟩
abbrev cX6_isRow : ByteArray := prog_8_method_11_code
def yX6_isRow : MethodName := ⟨RX6, "isRow", "(I)Z"⟩
abbrev cX6_lagOf : ByteArray := prog_8_method_12_code
def yX6_lagOf : MethodName := ⟨RX6, "lagOf", "(I)I"⟩
abbrev cX6_byLag : ByteArray := prog_8_method_13_code
def yX6_byLag : MethodName := ⟨RX6, "byLag", "(II)I"⟩
abbrev cX6_isTired : ByteArray := prog_8_method_14_code
def yX6_isTired : MethodName := ⟨RX6, "isTired", "([II)Z"⟩
abbrev cX6_tell : ByteArray := prog_8_method_15_code
def yX6_tell : MethodName := ⟨RX6, "tell", "(II)I"⟩
abbrev cX6_about : ByteArray := prog_8_method_16_code
def yX6_about : MethodName := ⟨RX6, "about", "(II)I"⟩
abbrev cX6_as : ByteArray := prog_8_method_17_code
def yX6_as : MethodName := ⟨RX6, "as", "(II)I"⟩
abbrev cX6_asItIs : ByteArray := prog_8_method_18_code
def yX6_asItIs : MethodName := ⟨RX6, "asItIs", "()V"⟩
abbrev cX6_isStubborn : ByteArray := prog_8_method_19_code
def yX6_isStubborn : MethodName := ⟨RX6, "isStubborn", "(I)Z"⟩
abbrev cX6_palmsBy : ByteArray := prog_8_method_20_code
def yX6_palmsBy : MethodName := ⟨RX6, "palmsBy", "(II)I"⟩
abbrev cX6_nextOf : ByteArray := prog_8_method_21_code
def yX6_nextOf : MethodName := ⟨RX6, "nextOf", "(I)I"⟩
abbrev cX6_pass : ByteArray := prog_8_method_22_code
def yX6_pass : MethodName := ⟨RX6, "pass", "()V"⟩
abbrev cX6_passAll : ByteArray := prog_8_method_23_code
def yX6_passAll : MethodName := ⟨RX6, "passAll", "(I)V"⟩
abbrev cX6_leaveOut : ByteArray := prog_8_method_24_code
def yX6_leaveOut : MethodName := ⟨RX6, "leaveOut", "()V"⟩
abbrev cX6_makes : ByteArray := prog_8_method_25_code
def yX6_makes : MethodName := ⟨RX6, "makes", "(II)V"⟩
abbrev cX6_rightNow : ByteArray := prog_8_method_26_code
def yX6_rightNow : MethodName := ⟨RX6, "rightNow", "()I"⟩
abbrev cX6_layNow : ByteArray := prog_8_method_27_code
def yX6_layNow : MethodName := ⟨RX6, "layNow", "()V"⟩
abbrev cX6_clap : ByteArray := prog_8_method_28_code
def yX6_clap : MethodName := ⟨RX6, "clap", "(II)I"⟩
abbrev cX6_arm : ByteArray := prog_8_method_29_code
def yX6_arm : MethodName := ⟨RX6, "arm", "(I)I"⟩
abbrev cX6_bar : ByteArray := prog_8_method_30_code
def yX6_bar : MethodName := ⟨RX6, "bar", "()I"⟩
abbrev cX6_skip : ByteArray := prog_8_method_31_code
def yX6_skip : MethodName := ⟨RX6, "skip", "()I"⟩
abbrev cX6_loudOf : ByteArray := prog_8_method_32_code
def yX6_loudOf : MethodName := ⟨RX6, "loudOf", "(II)I"⟩
abbrev cX6_loud : ByteArray := prog_8_method_33_code
def yX6_loud : MethodName := ⟨RX6, "loud", "(II)I"⟩
abbrev cX6_restOf : ByteArray := prog_8_method_34_code
def yX6_restOf : MethodName := ⟨RX6, "restOf", "()I"⟩
abbrev cX6_rest : ByteArray := prog_8_method_35_code
def yX6_rest : MethodName := ⟨RX6, "rest", "()I"⟩
abbrev cX6_outcomeOf : ByteArray := prog_8_method_36_code
def yX6_outcomeOf : MethodName := ⟨RX6, "outcomeOf", "(I)I"⟩
abbrev cX6_outcome : ByteArray := prog_8_method_37_code
def yX6_outcome : MethodName := ⟨RX6, "outcome", "(I)I"⟩
abbrev cX6_trickOf : ByteArray := prog_8_method_38_code
def yX6_trickOf : MethodName := ⟨RX6, "trickOf", "(II)I"⟩
abbrev cX6_trick : ByteArray := prog_8_method_39_code
def yX6_trick : MethodName := ⟨RX6, "trick", "(II)I"⟩
abbrev cX6_isWonBy : ByteArray := prog_8_method_40_code
def yX6_isWonBy : MethodName := ⟨RX6, "isWonBy", "(II)Z"⟩
abbrev cX6_ones : ByteArray := prog_8_method_41_code
def yX6_ones : MethodName := ⟨RX6, "ones", "(I)I"⟩
abbrev cX6_turned : ByteArray := prog_8_method_42_code
def yX6_turned : MethodName := ⟨RX6, "turned", "(II)I"⟩
abbrev cX6_record : ByteArray := prog_8_method_43_code
def yX6_record : MethodName := ⟨RX6, "record", "(I)I"⟩
abbrev cX6_forget : ByteArray := prog_8_method_44_code
def yX6_forget : MethodName := ⟨RX6, "forget", "()I"⟩
abbrev cX6_isRecordedBy : ByteArray := prog_8_method_45_code
def yX6_isRecordedBy : MethodName := ⟨RX6, "isRecordedBy", "(III)Z"⟩
abbrev cX6_began : ByteArray := prog_8_method_46_code
def yX6_began : MethodName := ⟨RX6, "began", "(I)I"⟩
abbrev cX6_draw : ByteArray := prog_8_method_47_code
def yX6_draw : MethodName := ⟨RX6, "draw", "(I)I"⟩
abbrev cX6_palmsAll : ByteArray := prog_8_method_48_code
def yX6_palmsAll : MethodName := ⟨RX6, "palmsAll", "()I"⟩
abbrev cX6_nights : ByteArray := prog_8_method_49_code
def yX6_nights : MethodName := ⟨RX6, "nights", "(III)I"⟩
abbrev cX6_copy : ByteArray := prog_8_method_50_code
def yX6_copy : MethodName := ⟨RX6, "copy", "([I[I)V"⟩
abbrev cX6_image : ByteArray := prog_8_method_51_code
def yX6_image : MethodName := ⟨RX6, "image", "()I"⟩
abbrev cX6_restore : ByteArray := prog_8_method_52_code
def yX6_restore : MethodName := ⟨RX6, "restore", "()I"⟩
abbrev cX6_countOf : ByteArray := prog_8_method_53_code
def yX6_countOf : MethodName := ⟨RX6, "countOf", "(I)I"⟩
abbrev cX6_count : ByteArray := prog_8_method_54_code
def yX6_count : MethodName := ⟨RX6, "count", "(I)I"⟩
abbrev cX6_say : ByteArray := prog_8_method_55_code
def yX6_say : MethodName := ⟨RX6, "say", "(J)V"⟩
abbrev cX6_digest : ByteArray := prog_8_method_56_code
def yX6_digest : MethodName := ⟨RX6, "digest", "()J"⟩
def RJ11 : String := "java/lang/Character"
def TJ11 : u_T := fun k => match k with
  | _ => ("", "", "", false)
def tyJ11 : Nat → FieldType := fun k => match k with
  | _ => .int
abbrev wsJ110 : List Cond := u_ws RJ11 TJ11 0
theorem nmJ11 : ∀ a, a < 0 → ∀ b, b < 0 → a ≠ b → (TJ11 a).2.1 ≠ (TJ11 b).2.1 := by decide +kernel
theorem tyJ11_ok : ∀ k, k < 0 → parseFieldDescriptor (TJ11 k).2.2.1 = some (tyJ11 k) := by decide +kernel
abbrev cJ11_isValidCodePoint_9a6ad : ByteArray := prog_9_method_11_code
def yJ11_isValidCodePoint_9a6ad : MethodName := ⟨RJ11, "isValidCodePoint", "(I)Z"⟩
abbrev cJ11_highSurrogate_5068e : ByteArray := prog_9_method_28_code
def yJ11_highSurrogate_5068e : MethodName := ⟨RJ11, "highSurrogate", "(I)C"⟩
abbrev cJ11_lowSurrogate_5068e : ByteArray := prog_9_method_29_code
def yJ11_lowSurrogate_5068e : MethodName := ⟨RJ11, "lowSurrogate", "(I)C"⟩
def RJ6 : String := "java/lang/Integer"
def TJ6 : u_T := fun k => match k with
  | _ => ("", "", "", false)
def tyJ6 : Nat → FieldType := fun k => match k with
  | _ => .int
abbrev wsJ60 : List Cond := u_ws RJ6 TJ6 0
theorem nmJ6 : ∀ a, a < 0 → ∀ b, b < 0 → a ≠ b → (TJ6 a).2.1 ≠ (TJ6 b).2.1 := by decide +kernel
theorem tyJ6_ok : ∀ k, k < 0 → parseFieldDescriptor (TJ6 k).2.2.1 = some (tyJ6 k) := by decide +kernel
abbrev cJ6_bitCount_0f7a4 : ByteArray := prog_10_method_49_code
def yJ6_bitCount_0f7a4 : MethodName := ⟨RJ6, "bitCount", "(I)I"⟩
def RJ9 : String := "java/lang/Math"
def TJ9 : u_T := fun k => match k with
  | _ => ("", "", "", false)
def tyJ9 : Nat → FieldType := fun k => match k with
  | _ => .int
abbrev wsJ90 : List Cond := u_ws RJ9 TJ9 0
theorem nmJ9 : ∀ a, a < 0 → ∀ b, b < 0 → a ≠ b → (TJ9 a).2.1 ≠ (TJ9 b).2.1 := by decide +kernel
theorem tyJ9_ok : ∀ k, k < 0 → parseFieldDescriptor (TJ9 k).2.2.1 = some (tyJ9 k) := by decide +kernel
abbrev cJ9_max_7cf53 : ByteArray := prog_11_method_65_code
def yJ9_max_7cf53 : MethodName := ⟨RJ9, "max", "(II)I"⟩
abbrev cJ9_min_7cf53 : ByteArray := prog_11_method_69_code
def yJ9_min_7cf53 : MethodName := ⟨RJ9, "min", "(II)I"⟩
def RJ0 : String := "java/lang/String"
def TJ0 : u_T := fun k => match k with
  | _ => ("", "", "", false)
def tyJ0 : Nat → FieldType := fun k => match k with
  | _ => .int
abbrev wsJ00 : List Cond := u_ws RJ0 TJ0 0
theorem nmJ0 : ∀ a, a < 0 → ∀ b, b < 0 → a ≠ b → (TJ0 a).2.1 ≠ (TJ0 b).2.1 := by decide +kernel
theorem tyJ0_ok : ∀ k, k < 0 → parseFieldDescriptor (TJ0 k).2.2.1 = some (tyJ0 k) := by decide +kernel
abbrev cJ0_length_8abf5 : ByteArray := prog_12_method_54_code
def yJ0_length_8abf5 : MethodName := ⟨RJ0, "length", "()I"⟩
abbrev cJ0_indexOf_0f7a4 : ByteArray := prog_12_method_79_code
def yJ0_indexOf_0f7a4 : MethodName := ⟨RJ0, "indexOf", "(I)I"⟩
abbrev cJ0_indexOf_7cf53 : ByteArray := prog_12_method_80_code
def yJ0_indexOf_7cf53 : MethodName := ⟨RJ0, "indexOf", "(II)I"⟩
abbrev cJ0_coder_7d493 : ByteArray := prog_12_method_152_code
def yJ0_coder_7d493 : MethodName := ⟨RJ0, "coder", "()B"⟩
abbrev cJ0_isLatin1_aae02 : ByteArray := prog_12_method_154_code
def yJ0_isLatin1_aae02 : MethodName := ⟨RJ0, "isLatin1", "()Z"⟩
abbrev cJ0_checkBoundsBeginEnd_23922 : ByteArray := prog_12_method_158_code
def yJ0_checkBoundsBeginEnd_23922 : MethodName := ⟨RJ0, "checkBoundsBeginEnd", "(III)V"⟩
def RJ1 : String := "java/lang/StringLatin1"
def TJ1 : u_T := fun k => match k with
  | _ => ("", "", "", false)
def tyJ1 : Nat → FieldType := fun k => match k with
  | _ => .int
abbrev wsJ10 : List Cond := u_ws RJ1 TJ1 0
theorem nmJ1 : ∀ a, a < 0 → ∀ b, b < 0 → a ≠ b → (TJ1 a).2.1 ≠ (TJ1 b).2.1 := by decide +kernel
theorem tyJ1_ok : ∀ k, k < 0 → parseFieldDescriptor (TJ1 k).2.2.1 = some (tyJ1 k) := by decide +kernel
abbrev cJ1_canEncode_9a6ad : ByteArray := prog_13_method_4_code
def yJ1_canEncode_9a6ad : MethodName := ⟨RJ1, "canEncode", "(I)Z"⟩
abbrev cJ1_indexOf_4cfef : ByteArray := prog_13_method_22_code
def yJ1_indexOf_4cfef : MethodName := ⟨RJ1, "indexOf", "([BIII)I"⟩
abbrev cJ1_indexOfChar_4cfef : ByteArray := prog_13_method_23_code
def yJ1_indexOfChar_4cfef : MethodName := ⟨RJ1, "indexOfChar", "([BIII)I"⟩
def RJ2 : String := "java/lang/StringUTF16"
def TJ2 : u_T := fun k => match k with
  | _ => ("", "", "", false)
def tyJ2 : Nat → FieldType := fun k => match k with
  | _ => .int
abbrev wsJ20 : List Cond := u_ws RJ2 TJ2 0
theorem nmJ2 : ∀ a, a < 0 → ∀ b, b < 0 → a ≠ b → (TJ2 a).2.1 ≠ (TJ2 b).2.1 := by decide +kernel
theorem tyJ2_ok : ∀ k, k < 0 → parseFieldDescriptor (TJ2 k).2.2.1 = some (tyJ2 k) := by decide +kernel
abbrev cJ2_getChar_3b067 : ByteArray := prog_14_method_5_code
def yJ2_getChar_3b067 : MethodName := ⟨RJ2, "getChar", "([BI)C"⟩
abbrev cJ2_length_9d52b : ByteArray := prog_14_method_6_code
def yJ2_length_9d52b : MethodName := ⟨RJ2, "length", "([B)I"⟩
abbrev cJ2_indexOf_4cfef : ByteArray := prog_14_method_40_code
def yJ2_indexOf_4cfef : MethodName := ⟨RJ2, "indexOf", "([BIII)I"⟩
abbrev cJ2_indexOfChar_4cfef : ByteArray := prog_14_method_47_code
def yJ2_indexOfChar_4cfef : MethodName := ⟨RJ2, "indexOfChar", "([BIII)I"⟩
abbrev cJ2_indexOfCharUnsafe_4cfef : ByteArray := prog_14_method_48_code
def yJ2_indexOfCharUnsafe_4cfef : MethodName := ⟨RJ2, "indexOfCharUnsafe", "([BIII)I"⟩
abbrev cJ2_indexOfSupplementary_4cfef : ByteArray := prog_14_method_49_code
def yJ2_indexOfSupplementary_4cfef : MethodName := ⟨RJ2, "indexOfSupplementary", "([BIII)I"⟩
abbrev cJ2_checkBoundsBeginEnd_d044e : ByteArray := prog_14_method_93_code
def yJ2_checkBoundsBeginEnd_d044e : MethodName := ⟨RJ2, "checkBoundsBeginEnd", "(II[B)V"⟩
def RJ3 : String := "jdk/internal/util/Preconditions"
def TJ3 : u_T := fun k => match k with
  | _ => ("", "", "", false)
def tyJ3 : Nat → FieldType := fun k => match k with
  | _ => .int
abbrev wsJ30 : List Cond := u_ws RJ3 TJ3 0
theorem nmJ3 : ∀ a, a < 0 → ∀ b, b < 0 → a ≠ b → (TJ3 a).2.1 ≠ (TJ3 b).2.1 := by decide +kernel
theorem tyJ3_ok : ∀ k, k < 0 → parseFieldDescriptor (TJ3 k).2.2.1 = some (tyJ3 k) := by decide +kernel
abbrev cJ3_checkFromToIndex_8c36e : ByteArray := prog_15_method_12_code
def yJ3_checkFromToIndex_8c36e : MethodName := ⟨RJ3, "checkFromToIndex", "(IIILjava/util/function/BiFunction;)I"⟩
def RL : String := "ClappedWrongLaw"
abbrev cL_law : ByteArray := code
def yL_law : MethodName := ⟨RL, "law", "([I)Z"⟩
def wsX0_init : List Cond := .code yX0_init cX0_init 1 none :: ([.methodLink RX0 3 objectInit, .instanceMethod objectInit, .code objectInit ⟨#[0xb1]⟩ 1 none, .arrayClass .int, .fieldLink RX0 9 "ClappedWrong$Crowd" "sounds" "[I", .fieldLink RX0 15 "ClappedWrong$Crowd" "clapped" "[I", .fieldLink RX0 18 "ClappedWrong$Crowd" "next" "[I", .fieldLink RX0 21 "ClappedWrong$Crowd" "armRows" "I"] ++ wsX00)
def wsX0_takeFrom : List Cond := .code yX0_takeFrom cX0_takeFrom 3 none :: ([.fieldLink RX0 9 "ClappedWrong$Crowd" "sounds" "[I", .fieldLink RX0 15 "ClappedWrong$Crowd" "clapped" "[I", .fieldLink RX0 21 "ClappedWrong$Crowd" "armRows" "I"] ++ wsX00)
def wsX0_beginWith : List Cond := .code yX0_beginWith cX0_beginWith 4 none :: ([.fieldLink RX0 9 "ClappedWrong$Crowd" "sounds" "[I", .fieldLink RX0 15 "ClappedWrong$Crowd" "clapped" "[I", .fieldLink RX0 21 "ClappedWrong$Crowd" "armRows" "I"] ++ wsX00)
def wsX0_soundOf : List Cond := .code yX0_soundOf cX0_soundOf 2 (some .int) :: ([.fieldLink RX0 9 "ClappedWrong$Crowd" "sounds" "[I"] ++ wsX00)
def wsX0_clappedOf : List Cond := .code yX0_clappedOf cX0_clappedOf 2 (some .int) :: ([.fieldLink RX0 15 "ClappedWrong$Crowd" "clapped" "[I"] ++ wsX00)
def wsX0_let : List Cond := .code yX0_let cX0_let 3 none :: ([.fieldLink RX0 9 "ClappedWrong$Crowd" "sounds" "[I", .fieldLink RX0 15 "ClappedWrong$Crowd" "clapped" "[I"] ++ wsX00)
def wsX2_strengthOf : List Cond := .code yX2_strengthOf cX2_strengthOf 2 (some .int) :: ([.fieldLink RX2 21 "ClappedWrong$Hall" "rows" "I", .fieldLink RX2 18 "ClappedWrong$Hall" "strengths" "[I"] ++ wsX20)
def wsX0_isTired : List Cond := .code yX0_isTired cX0_isTired 4 (some .boolean) :: ([.methodLink RX0 25 yX2_strengthOf, .instanceMethod yX2_strengthOf, .selects RX2 yX2_strengthOf yX2_strengthOf, .initialized RX2, .code yX2_strengthOf cX2_strengthOf 2 (some .int), .fieldLink RX2 21 "ClappedWrong$Hall" "rows" "I", .fieldLink RX2 18 "ClappedWrong$Hall" "strengths" "[I", .methodLink RX0 31 yX0_clappedOf, .instanceMethod yX0_clappedOf, .selects RX0 yX0_clappedOf yX0_clappedOf, .initialized RX0, .code yX0_clappedOf cX0_clappedOf 2 (some .int), .fieldLink RX0 15 "ClappedWrong$Crowd" "clapped" "[I"] ++ wsX20 ++ wsX00)
def wsX0_seesArm : List Cond := .code yX0_seesArm cX0_seesArm 2 (some .boolean) :: ([.fieldLink RX0 21 "ClappedWrong$Crowd" "armRows" "I"] ++ wsX00)
def wsX2_kindOf : List Cond := .code yX2_kindOf cX2_kindOf 2 (some .int) :: ([.fieldLink RX2 21 "ClappedWrong$Hall" "rows" "I", .fieldLink RX2 9 "ClappedWrong$Hall" "kinds" "[I"] ++ wsX20)
def wsX2_isOf : List Cond := .code yX2_isOf cX2_isOf 4 (some .boolean) :: ([.methodLink RX2 46 yX2_kindOf, .instanceMethod yX2_kindOf, .selects RX2 yX2_kindOf yX2_kindOf, .initialized RX2, .code yX2_kindOf cX2_kindOf 2 (some .int), .fieldLink RX2 21 "ClappedWrong$Hall" "rows" "I", .fieldLink RX2 9 "ClappedWrong$Hall" "kinds" "[I"] ++ wsX20)
def wsX0_palmsThatSound : List Cond := .code yX0_palmsThatSound cX0_palmsThatSound 4 (some .int) :: ([.fieldLink RX0 9 "ClappedWrong$Crowd" "sounds" "[I"] ++ wsX20 ++ wsX00)
def wsX0_soundOfMore : List Cond := .code yX0_soundOfMore cX0_soundOfMore 6 (some .int) :: ([.methodLink RX0 70 yX0_palmsThatSound, .instanceMethod yX0_palmsThatSound, .selects RX0 yX0_palmsThatSound yX0_palmsThatSound, .initialized RX0, .code yX0_palmsThatSound cX0_palmsThatSound 4 (some .int), .fieldLink RX0 9 "ClappedWrong$Crowd" "sounds" "[I", .methodLink RX0 60 yX2_kindOf, .instanceMethod yX2_kindOf, .selects RX2 yX2_kindOf yX2_kindOf, .initialized RX2, .code yX2_kindOf cX2_kindOf 2 (some .int), .fieldLink RX2 21 "ClappedWrong$Hall" "rows" "I", .fieldLink RX2 9 "ClappedWrong$Hall" "kinds" "[I", .methodLink RX0 53 yX0_soundOf, .instanceMethod yX0_soundOf, .selects RX0 yX0_soundOf yX0_soundOf, .code yX0_soundOf cX0_soundOf 2 (some .int)] ++ wsX20 ++ wsX00)
def wsX0_soundNext_r1 : List Cond := [Cond.methodLink RX0 49 yX0_isTired, Cond.instanceMethod yX0_isTired, Cond.selects RX0 yX0_isTired yX0_isTired, Cond.initialized RX0, Cond.code yX0_isTired cX0_isTired 4 (some .boolean), Cond.methodLink RX0 25 yX2_strengthOf, Cond.instanceMethod yX2_strengthOf, Cond.selects RX2 yX2_strengthOf yX2_strengthOf, Cond.initialized RX2, Cond.code yX2_strengthOf cX2_strengthOf 2 (some .int), Cond.fieldLink RX2 21 "ClappedWrong$Hall" "rows" "I", Cond.fieldLink RX2 18 "ClappedWrong$Hall" "strengths" "[I", Cond.methodLink RX0 31 yX0_clappedOf, Cond.instanceMethod yX0_clappedOf, Cond.selects RX0 yX0_clappedOf yX0_clappedOf, Cond.code yX0_clappedOf cX0_clappedOf 2 (some .int), Cond.fieldLink RX0 15 "ClappedWrong$Crowd" "clapped" "[I", Cond.methodLink RX0 53 yX0_soundOf, Cond.instanceMethod yX0_soundOf, Cond.selects RX0 yX0_soundOf yX0_soundOf, Cond.code yX0_soundOf cX0_soundOf 2 (some .int), Cond.fieldLink RX0 9 "ClappedWrong$Crowd" "sounds" "[I", Cond.methodLink RX0 56 yX2_isOf, Cond.instanceMethod yX2_isOf]
def wsX0_soundNext_r2 : List Cond := [Cond.selects RX2 yX2_isOf yX2_isOf, Cond.code yX2_isOf cX2_isOf 4 (some .boolean), Cond.methodLink RX2 46 yX2_kindOf, Cond.instanceMethod yX2_kindOf, Cond.selects RX2 yX2_kindOf yX2_kindOf, Cond.code yX2_kindOf cX2_kindOf 2 (some .int), Cond.fieldLink RX2 9 "ClappedWrong$Hall" "kinds" "[I", Cond.methodLink RX0 60 yX2_kindOf, Cond.methodLink RX0 63 yX0_seesArm, Cond.instanceMethod yX0_seesArm, Cond.selects RX0 yX0_seesArm yX0_seesArm, Cond.code yX0_seesArm cX0_seesArm 2 (some .boolean), Cond.fieldLink RX0 21 "ClappedWrong$Crowd" "armRows" "I", Cond.methodLink RX0 67 yX0_soundOfMore, Cond.instanceMethod yX0_soundOfMore, Cond.selects RX0 yX0_soundOfMore yX0_soundOfMore, Cond.code yX0_soundOfMore cX0_soundOfMore 6 (some .int), Cond.methodLink RX0 70 yX0_palmsThatSound, Cond.instanceMethod yX0_palmsThatSound, Cond.selects RX0 yX0_palmsThatSound yX0_palmsThatSound, Cond.code yX0_palmsThatSound cX0_palmsThatSound 4 (some .int)]
def wsX0_soundNext : List Cond := .code yX0_soundNext cX0_soundNext 4 (some .int) :: ((wsX0_soundNext_r1 ++ wsX0_soundNext_r2) ++ wsX20 ++ wsX00)
def wsX5_oneIf : List Cond := .code yX5_oneIf cX5_oneIf 1 (some .int) :: ([])
def wsX0_goOn_r1 : List Cond := [Cond.fieldLink RX0 18 "ClappedWrong$Crowd" "next" "[I", Cond.fieldLink RX0 9 "ClappedWrong$Crowd" "sounds" "[I", Cond.fieldLink RX0 15 "ClappedWrong$Crowd" "clapped" "[I", Cond.methodLink RX0 37 yX0_soundNext, Cond.instanceMethod yX0_soundNext, Cond.selects RX0 yX0_soundNext yX0_soundNext, Cond.initialized RX0, Cond.code yX0_soundNext cX0_soundNext 4 (some .int), Cond.methodLink RX0 49 yX0_isTired, Cond.instanceMethod yX0_isTired, Cond.selects RX0 yX0_isTired yX0_isTired, Cond.code yX0_isTired cX0_isTired 4 (some .boolean), Cond.methodLink RX0 25 yX2_strengthOf, Cond.instanceMethod yX2_strengthOf, Cond.selects RX2 yX2_strengthOf yX2_strengthOf, Cond.initialized RX2, Cond.code yX2_strengthOf cX2_strengthOf 2 (some .int), Cond.fieldLink RX2 21 "ClappedWrong$Hall" "rows" "I", Cond.fieldLink RX2 18 "ClappedWrong$Hall" "strengths" "[I", Cond.methodLink RX0 31 yX0_clappedOf, Cond.instanceMethod yX0_clappedOf, Cond.selects RX0 yX0_clappedOf yX0_clappedOf, Cond.code yX0_clappedOf cX0_clappedOf 2 (some .int), Cond.methodLink RX0 53 yX0_soundOf]
def wsX0_goOn_r2 : List Cond := [Cond.instanceMethod yX0_soundOf, Cond.selects RX0 yX0_soundOf yX0_soundOf, Cond.code yX0_soundOf cX0_soundOf 2 (some .int), Cond.methodLink RX0 56 yX2_isOf, Cond.instanceMethod yX2_isOf, Cond.selects RX2 yX2_isOf yX2_isOf, Cond.code yX2_isOf cX2_isOf 4 (some .boolean), Cond.methodLink RX2 46 yX2_kindOf, Cond.instanceMethod yX2_kindOf, Cond.selects RX2 yX2_kindOf yX2_kindOf, Cond.code yX2_kindOf cX2_kindOf 2 (some .int), Cond.fieldLink RX2 9 "ClappedWrong$Hall" "kinds" "[I", Cond.methodLink RX0 60 yX2_kindOf, Cond.methodLink RX0 63 yX0_seesArm, Cond.instanceMethod yX0_seesArm, Cond.selects RX0 yX0_seesArm yX0_seesArm, Cond.code yX0_seesArm cX0_seesArm 2 (some .boolean), Cond.fieldLink RX0 21 "ClappedWrong$Crowd" "armRows" "I", Cond.methodLink RX0 67 yX0_soundOfMore, Cond.instanceMethod yX0_soundOfMore, Cond.selects RX0 yX0_soundOfMore yX0_soundOfMore, Cond.code yX0_soundOfMore cX0_soundOfMore 6 (some .int), Cond.methodLink RX0 70 yX0_palmsThatSound, Cond.instanceMethod yX0_palmsThatSound]
def wsX0_goOn_r3 : List Cond := [Cond.selects RX0 yX0_palmsThatSound yX0_palmsThatSound, Cond.code yX0_palmsThatSound cX0_palmsThatSound 4 (some .int), Cond.methodLink RX0 41 yX0_let, Cond.instanceMethod yX0_let, Cond.selects RX0 yX0_let yX0_let, Cond.code yX0_let cX0_let 3 none, Cond.static yX5_oneIf, Cond.initialized RX5, Cond.code yX5_oneIf cX5_oneIf 1 (some .int)]
def wsX0_goOn : List Cond := .code yX0_goOn cX0_goOn 4 (some .boolean) :: ((wsX0_goOn_r1 ++ (wsX0_goOn_r2 ++ wsX0_goOn_r3)) ++ wsX20 ++ wsX00)
def wsX5_swapped : List Cond := .code yX5_swapped cX5_swapped 1 (some .int) :: ([])
def wsX0_leaveBeatOut : List Cond := .code yX0_leaveBeatOut cX0_leaveBeatOut 3 none :: ([.fieldLink RX0 9 "ClappedWrong$Crowd" "sounds" "[I", .methodLink RX0 60 yX2_kindOf, .instanceMethod yX2_kindOf, .selects RX2 yX2_kindOf yX2_kindOf, .initialized RX2, .code yX2_kindOf cX2_kindOf 2 (some .int), .fieldLink RX2 21 "ClappedWrong$Hall" "rows" "I", .fieldLink RX2 9 "ClappedWrong$Hall" "kinds" "[I", .static yX5_swapped, .initialized RX5, .code yX5_swapped cX5_swapped 1 (some .int)] ++ wsX20 ++ wsX00)
def wsX2_palmsOf : List Cond := .code yX2_palmsOf cX2_palmsOf 2 (some .int) :: ([.fieldLink RX2 21 "ClappedWrong$Hall" "rows" "I", .fieldLink RX2 15 "ClappedWrong$Hall" "palms" "[I"] ++ wsX20)
def wsX0_palmsRight : List Cond := .code yX0_palmsRight cX0_palmsRight 4 (some .int) :: ([.fieldLink RX0 9 "ClappedWrong$Crowd" "sounds" "[I", .methodLink RX0 80 yX2_palmsOf, .instanceMethod yX2_palmsOf, .selects RX2 yX2_palmsOf yX2_palmsOf, .initialized RX2, .code yX2_palmsOf cX2_palmsOf 2 (some .int), .fieldLink RX2 21 "ClappedWrong$Hall" "rows" "I", .fieldLink RX2 15 "ClappedWrong$Hall" "palms" "[I"] ++ wsX20 ++ wsX00)
def wsX0_areWillingRight : List Cond := .code yX0_areWillingRight cX0_areWillingRight 3 (some .boolean) :: ([.fieldLink RX0 9 "ClappedWrong$Crowd" "sounds" "[I", .methodLink RX0 56 yX2_isOf, .instanceMethod yX2_isOf, .selects RX2 yX2_isOf yX2_isOf, .initialized RX2, .code yX2_isOf cX2_isOf 4 (some .boolean), .methodLink RX2 46 yX2_kindOf, .instanceMethod yX2_kindOf, .selects RX2 yX2_kindOf yX2_kindOf, .code yX2_kindOf cX2_kindOf 2 (some .int), .fieldLink RX2 21 "ClappedWrong$Hall" "rows" "I", .fieldLink RX2 9 "ClappedWrong$Hall" "kinds" "[I"] ++ wsX20 ++ wsX00)
def wsX0_loudness : List Cond := .code yX0_loudness cX0_loudness 7 (some .int) :: ([.methodLink RX0 70 yX0_palmsThatSound, .instanceMethod yX0_palmsThatSound, .selects RX0 yX0_palmsThatSound yX0_palmsThatSound, .initialized RX0, .code yX0_palmsThatSound cX0_palmsThatSound 4 (some .int), .fieldLink RX0 9 "ClappedWrong$Crowd" "sounds" "[I"] ++ wsX20 ++ wsX00)
def wsX1_init : List Cond := .code yX1_init cX1_init 2 none :: ([.methodLink RX1 1 objectInit, .instanceMethod objectInit, .code objectInit ⟨#[0xb1]⟩ 1 none, .fieldLink RX1 7 "ClappedWrong$Draws" "seed" "I"] ++ wsX10)
def wsX1_next : List Cond := .code yX1_next cX1_next 2 (some .int) :: ([.constantLong RX1 13 (1103515245), .fieldLink RX1 7 "ClappedWrong$Draws" "seed" "I", .constantLong RX1 15 (12345), .constantLong RX1 17 (2147483648), .constant RX1 19 (65536)] ++ wsX10)
def wsX2_init : List Cond := .code yX2_init cX2_init 1 none :: ([.methodLink RX2 3 objectInit, .instanceMethod objectInit, .code objectInit ⟨#[0xb1]⟩ 1 none, .arrayClass .int, .fieldLink RX2 9 "ClappedWrong$Hall" "kinds" "[I", .fieldLink RX2 15 "ClappedWrong$Hall" "palms" "[I", .fieldLink RX2 18 "ClappedWrong$Hall" "strengths" "[I", .fieldLink RX2 21 "ClappedWrong$Hall" "rows" "I", .fieldLink RX2 25 "ClappedWrong$Hall" "late" "I"] ++ wsX20)
def wsX5_within : List Cond := .code yX5_within cX5_within 3 (some .boolean) :: ([])
def wsX4_codeAt : List Cond := .code yX4_codeAt cX4_codeAt 2 (some .int) :: ([.fieldLink RX4 9 "ClappedWrong$Page" "codes" "[I", .static yX5_within, .initialized RX5, .code yX5_within cX5_within 3 (some .boolean)] ++ wsX40)
def wsJ0_isLatin1_aae02 : List Cond := .code yJ0_isLatin1_aae02 cJ0_isLatin1_aae02 1 (some .boolean) :: ([.fieldLink RJ0 38 "java/lang/String" "COMPACT_STRINGS" "Z", .fieldLink RJ0 15 "java/lang/String" "coder" "B"])
def wsJ0_coder_7d493 : List Cond := .code yJ0_coder_7d493 cJ0_coder_7d493 1 (some .byte) :: ([.fieldLink RJ0 38 "java/lang/String" "COMPACT_STRINGS" "Z", .fieldLink RJ0 15 "java/lang/String" "coder" "B"])
def wsJ0_length_8abf5 : List Cond := .code yJ0_length_8abf5 cJ0_length_8abf5 1 (some .int) :: ([.fieldLink RJ0 9 "java/lang/String" "value" "[B", .methodLink RJ0 335 yJ0_coder_7d493, .instanceMethod yJ0_coder_7d493, .selects RJ0 yJ0_coder_7d493 yJ0_coder_7d493, .initialized RJ0, .code yJ0_coder_7d493 cJ0_coder_7d493 1 (some .byte), .fieldLink RJ0 38 "java/lang/String" "COMPACT_STRINGS" "Z", .fieldLink RJ0 15 "java/lang/String" "coder" "B"])
def wsJ1_canEncode_9a6ad : List Cond := .code yJ1_canEncode_9a6ad cJ1_canEncode_9a6ad 1 (some .boolean) :: ([])
def wsJ1_indexOfChar_4cfef : List Cond := .code yJ1_indexOfChar_4cfef cJ1_indexOfChar_4cfef 6 (some .int) :: ([])
def wsJ1_indexOf_4cfef : List Cond := .code yJ1_indexOf_4cfef cJ1_indexOf_4cfef 4 (some .int) :: ([.methodLink RJ1 92 Lib.Math.max.name, .static Lib.Math.max.name, .initialized "java/lang/Math", .code Lib.Math.max.name Lib.Math.max.code 2 (some .int), .methodLink RJ1 38 Lib.Math.min.name, .static Lib.Math.min.name, .code Lib.Math.min.name Lib.Math.min.code 2 (some .int), .methodLink RJ1 88 yJ1_canEncode_9a6ad, .static yJ1_canEncode_9a6ad, .initialized RJ1, .code yJ1_canEncode_9a6ad cJ1_canEncode_9a6ad 1 (some .boolean), .methodLink RJ1 95 yJ1_indexOfChar_4cfef, .static yJ1_indexOfChar_4cfef, .code yJ1_indexOfChar_4cfef cJ1_indexOfChar_4cfef 6 (some .int)])
def wsJ2_length_9d52b : List Cond := .code yJ2_length_9d52b cJ2_length_9d52b 1 (some .int) :: ([])
def wsJ3_checkFromToIndex_8c36e : List Cond := .code yJ3_checkFromToIndex_8c36e cJ3_checkFromToIndex_8c36e 4 (some .int) :: ([])
def wsJ0_checkBoundsBeginEnd_23922 : List Cond := .code yJ0_checkBoundsBeginEnd_23922 cJ0_checkBoundsBeginEnd_23922 3 none :: ([.fieldLink RJ0 1053 "jdk/internal/util/Preconditions" "SIOOBE_FORMATTER" "Ljava/util/function/BiFunction;", .methodLink RJ0 1062 yJ3_checkFromToIndex_8c36e, .static yJ3_checkFromToIndex_8c36e, .initialized RJ3, .code yJ3_checkFromToIndex_8c36e cJ3_checkFromToIndex_8c36e 4 (some .int)])
def wsJ2_checkBoundsBeginEnd_d044e : List Cond := .code yJ2_checkBoundsBeginEnd_d044e cJ2_checkBoundsBeginEnd_d044e 3 none :: ([.methodLink RJ2 48 yJ2_length_9d52b, .static yJ2_length_9d52b, .initialized RJ2, .code yJ2_length_9d52b cJ2_length_9d52b 1 (some .int), .methodLink RJ2 241 yJ0_checkBoundsBeginEnd_23922, .static yJ0_checkBoundsBeginEnd_23922, .initialized RJ0, .code yJ0_checkBoundsBeginEnd_23922 cJ0_checkBoundsBeginEnd_23922 3 none, .fieldLink RJ0 1053 "jdk/internal/util/Preconditions" "SIOOBE_FORMATTER" "Ljava/util/function/BiFunction;", .methodLink RJ0 1062 yJ3_checkFromToIndex_8c36e, .static yJ3_checkFromToIndex_8c36e, .initialized RJ3, .code yJ3_checkFromToIndex_8c36e cJ3_checkFromToIndex_8c36e 4 (some .int)])
def wsJ2_getChar_3b067 : List Cond := .code yJ2_getChar_3b067 cJ2_getChar_3b067 2 (some .char) :: ([.fieldLink RJ2 44 "java/lang/StringUTF16" "$assertionsDisabled" "Z", .fieldLink RJ2 59 "java/lang/StringUTF16" "HI_BYTE_SHIFT" "I", .fieldLink RJ2 63 "java/lang/StringUTF16" "LO_BYTE_SHIFT" "I", .methodLink RJ2 48 yJ2_length_9d52b, .static yJ2_length_9d52b, .initialized RJ2, .code yJ2_length_9d52b cJ2_length_9d52b 1 (some .int)])
def wsJ2_indexOfCharUnsafe_4cfef : List Cond := .code yJ2_indexOfCharUnsafe_4cfef cJ2_indexOfCharUnsafe_4cfef 5 (some .int) :: ([.methodLink RJ2 71 yJ2_getChar_3b067, .static yJ2_getChar_3b067, .initialized RJ2, .code yJ2_getChar_3b067 cJ2_getChar_3b067 2 (some .char), .fieldLink RJ2 44 "java/lang/StringUTF16" "$assertionsDisabled" "Z", .fieldLink RJ2 59 "java/lang/StringUTF16" "HI_BYTE_SHIFT" "I", .fieldLink RJ2 63 "java/lang/StringUTF16" "LO_BYTE_SHIFT" "I", .methodLink RJ2 48 yJ2_length_9d52b, .static yJ2_length_9d52b, .code yJ2_length_9d52b cJ2_length_9d52b 1 (some .int)])
def wsJ2_indexOfChar_4cfef_r1 : List Cond := [Cond.methodLink RJ2 96 yJ2_checkBoundsBeginEnd_d044e, Cond.static yJ2_checkBoundsBeginEnd_d044e, Cond.initialized RJ2, Cond.code yJ2_checkBoundsBeginEnd_d044e cJ2_checkBoundsBeginEnd_d044e 3 none, Cond.methodLink RJ2 48 yJ2_length_9d52b, Cond.static yJ2_length_9d52b, Cond.code yJ2_length_9d52b cJ2_length_9d52b 1 (some .int), Cond.methodLink RJ2 241 yJ0_checkBoundsBeginEnd_23922, Cond.static yJ0_checkBoundsBeginEnd_23922, Cond.initialized RJ0, Cond.code yJ0_checkBoundsBeginEnd_23922 cJ0_checkBoundsBeginEnd_23922 3 none, Cond.fieldLink RJ0 1053 "jdk/internal/util/Preconditions" "SIOOBE_FORMATTER" "Ljava/util/function/BiFunction;", Cond.methodLink RJ0 1062 yJ3_checkFromToIndex_8c36e, Cond.static yJ3_checkFromToIndex_8c36e, Cond.initialized RJ3, Cond.code yJ3_checkFromToIndex_8c36e cJ3_checkFromToIndex_8c36e 4 (some .int), Cond.methodLink RJ2 244 yJ2_indexOfCharUnsafe_4cfef, Cond.static yJ2_indexOfCharUnsafe_4cfef, Cond.code yJ2_indexOfCharUnsafe_4cfef cJ2_indexOfCharUnsafe_4cfef 5 (some .int), Cond.methodLink RJ2 71 yJ2_getChar_3b067, Cond.static yJ2_getChar_3b067, Cond.code yJ2_getChar_3b067 cJ2_getChar_3b067 2 (some .char), Cond.fieldLink RJ2 44 "java/lang/StringUTF16" "$assertionsDisabled" "Z", Cond.fieldLink RJ2 59 "java/lang/StringUTF16" "HI_BYTE_SHIFT" "I"]
def wsJ2_indexOfChar_4cfef_r2 : List Cond := [Cond.fieldLink RJ2 63 "java/lang/StringUTF16" "LO_BYTE_SHIFT" "I"]
def wsJ2_indexOfChar_4cfef : List Cond := .code yJ2_indexOfChar_4cfef cJ2_indexOfChar_4cfef 4 (some .int) :: ((wsJ2_indexOfChar_4cfef_r1 ++ wsJ2_indexOfChar_4cfef_r2))
def wsJ11_isValidCodePoint_9a6ad : List Cond := .code yJ11_isValidCodePoint_9a6ad cJ11_isValidCodePoint_9a6ad 2 (some .boolean) :: ([])
def wsJ11_highSurrogate_5068e : List Cond := .code yJ11_highSurrogate_5068e cJ11_highSurrogate_5068e 1 (some .char) :: ([.constant RJ11 110 (55232)])
def wsJ11_lowSurrogate_5068e : List Cond := .code yJ11_lowSurrogate_5068e cJ11_lowSurrogate_5068e 1 (some .char) :: ([.constant RJ11 76 (56320)])
def wsJ2_indexOfSupplementary_4cfef_r1 : List Cond := [Cond.methodLink RJ2 164 yJ11_isValidCodePoint_9a6ad, Cond.static yJ11_isValidCodePoint_9a6ad, Cond.initialized RJ11, Cond.code yJ11_isValidCodePoint_9a6ad cJ11_isValidCodePoint_9a6ad 2 (some .boolean), Cond.methodLink RJ2 157 yJ11_highSurrogate_5068e, Cond.static yJ11_highSurrogate_5068e, Cond.code yJ11_highSurrogate_5068e cJ11_highSurrogate_5068e 1 (some .char), Cond.constant RJ11 110 (55232), Cond.methodLink RJ2 161 yJ11_lowSurrogate_5068e, Cond.static yJ11_lowSurrogate_5068e, Cond.code yJ11_lowSurrogate_5068e cJ11_lowSurrogate_5068e 1 (some .char), Cond.constant RJ11 76 (56320), Cond.methodLink RJ2 96 yJ2_checkBoundsBeginEnd_d044e, Cond.static yJ2_checkBoundsBeginEnd_d044e, Cond.initialized RJ2, Cond.code yJ2_checkBoundsBeginEnd_d044e cJ2_checkBoundsBeginEnd_d044e 3 none, Cond.methodLink RJ2 48 yJ2_length_9d52b, Cond.static yJ2_length_9d52b, Cond.code yJ2_length_9d52b cJ2_length_9d52b 1 (some .int), Cond.methodLink RJ2 241 yJ0_checkBoundsBeginEnd_23922, Cond.static yJ0_checkBoundsBeginEnd_23922, Cond.initialized RJ0, Cond.code yJ0_checkBoundsBeginEnd_23922 cJ0_checkBoundsBeginEnd_23922 3 none, Cond.fieldLink RJ0 1053 "jdk/internal/util/Preconditions" "SIOOBE_FORMATTER" "Ljava/util/function/BiFunction;"]
def wsJ2_indexOfSupplementary_4cfef_r2 : List Cond := [Cond.methodLink RJ0 1062 yJ3_checkFromToIndex_8c36e, Cond.static yJ3_checkFromToIndex_8c36e, Cond.initialized RJ3, Cond.code yJ3_checkFromToIndex_8c36e cJ3_checkFromToIndex_8c36e 4 (some .int), Cond.methodLink RJ2 71 yJ2_getChar_3b067, Cond.static yJ2_getChar_3b067, Cond.code yJ2_getChar_3b067 cJ2_getChar_3b067 2 (some .char), Cond.fieldLink RJ2 44 "java/lang/StringUTF16" "$assertionsDisabled" "Z", Cond.fieldLink RJ2 59 "java/lang/StringUTF16" "HI_BYTE_SHIFT" "I", Cond.fieldLink RJ2 63 "java/lang/StringUTF16" "LO_BYTE_SHIFT" "I"]
def wsJ2_indexOfSupplementary_4cfef : List Cond := .code yJ2_indexOfSupplementary_4cfef cJ2_indexOfSupplementary_4cfef 7 (some .int) :: ((wsJ2_indexOfSupplementary_4cfef_r1 ++ wsJ2_indexOfSupplementary_4cfef_r2))
def wsJ2_indexOf_4cfef_r1 : List Cond := [Cond.methodLink RJ2 224 Lib.Math.max.name, Cond.static Lib.Math.max.name, Cond.initialized "java/lang/Math", Cond.code Lib.Math.max.name Lib.Math.max.code 2 (some .int), Cond.methodLink RJ2 183 Lib.Math.min.name, Cond.static Lib.Math.min.name, Cond.code Lib.Math.min.name Lib.Math.min.code 2 (some .int), Cond.constant RJ2 227 (65536), Cond.methodLink RJ2 228 yJ2_indexOfChar_4cfef, Cond.static yJ2_indexOfChar_4cfef, Cond.initialized RJ2, Cond.code yJ2_indexOfChar_4cfef cJ2_indexOfChar_4cfef 4 (some .int), Cond.methodLink RJ2 96 yJ2_checkBoundsBeginEnd_d044e, Cond.static yJ2_checkBoundsBeginEnd_d044e, Cond.code yJ2_checkBoundsBeginEnd_d044e cJ2_checkBoundsBeginEnd_d044e 3 none, Cond.methodLink RJ2 48 yJ2_length_9d52b, Cond.static yJ2_length_9d52b, Cond.code yJ2_length_9d52b cJ2_length_9d52b 1 (some .int), Cond.methodLink RJ2 241 yJ0_checkBoundsBeginEnd_23922, Cond.static yJ0_checkBoundsBeginEnd_23922, Cond.initialized RJ0, Cond.code yJ0_checkBoundsBeginEnd_23922 cJ0_checkBoundsBeginEnd_23922 3 none, Cond.fieldLink RJ0 1053 "jdk/internal/util/Preconditions" "SIOOBE_FORMATTER" "Ljava/util/function/BiFunction;", Cond.methodLink RJ0 1062 yJ3_checkFromToIndex_8c36e]
def wsJ2_indexOf_4cfef_r2 : List Cond := [Cond.static yJ3_checkFromToIndex_8c36e, Cond.initialized RJ3, Cond.code yJ3_checkFromToIndex_8c36e cJ3_checkFromToIndex_8c36e 4 (some .int), Cond.methodLink RJ2 244 yJ2_indexOfCharUnsafe_4cfef, Cond.static yJ2_indexOfCharUnsafe_4cfef, Cond.code yJ2_indexOfCharUnsafe_4cfef cJ2_indexOfCharUnsafe_4cfef 5 (some .int), Cond.methodLink RJ2 71 yJ2_getChar_3b067, Cond.static yJ2_getChar_3b067, Cond.code yJ2_getChar_3b067 cJ2_getChar_3b067 2 (some .char), Cond.fieldLink RJ2 44 "java/lang/StringUTF16" "$assertionsDisabled" "Z", Cond.fieldLink RJ2 59 "java/lang/StringUTF16" "HI_BYTE_SHIFT" "I", Cond.fieldLink RJ2 63 "java/lang/StringUTF16" "LO_BYTE_SHIFT" "I", Cond.methodLink RJ2 232 yJ2_indexOfSupplementary_4cfef, Cond.static yJ2_indexOfSupplementary_4cfef, Cond.code yJ2_indexOfSupplementary_4cfef cJ2_indexOfSupplementary_4cfef 7 (some .int), Cond.methodLink RJ2 164 yJ11_isValidCodePoint_9a6ad, Cond.static yJ11_isValidCodePoint_9a6ad, Cond.initialized RJ11, Cond.code yJ11_isValidCodePoint_9a6ad cJ11_isValidCodePoint_9a6ad 2 (some .boolean), Cond.methodLink RJ2 157 yJ11_highSurrogate_5068e, Cond.static yJ11_highSurrogate_5068e, Cond.code yJ11_highSurrogate_5068e cJ11_highSurrogate_5068e 1 (some .char), Cond.constant RJ11 110 (55232), Cond.methodLink RJ2 161 yJ11_lowSurrogate_5068e]
def wsJ2_indexOf_4cfef_r3 : List Cond := [Cond.static yJ11_lowSurrogate_5068e, Cond.code yJ11_lowSurrogate_5068e cJ11_lowSurrogate_5068e 1 (some .char), Cond.constant RJ11 76 (56320)]
def wsJ2_indexOf_4cfef : List Cond := .code yJ2_indexOf_4cfef cJ2_indexOf_4cfef 4 (some .int) :: ((wsJ2_indexOf_4cfef_r1 ++ (wsJ2_indexOf_4cfef_r2 ++ wsJ2_indexOf_4cfef_r3)))
def wsJ0_indexOf_7cf53_r1 : List Cond := [Cond.fieldLink RJ0 9 "java/lang/String" "value" "[B", Cond.methodLink RJ0 492 yJ0_isLatin1_aae02, Cond.instanceMethod yJ0_isLatin1_aae02, Cond.selects RJ0 yJ0_isLatin1_aae02 yJ0_isLatin1_aae02, Cond.initialized RJ0, Cond.code yJ0_isLatin1_aae02 cJ0_isLatin1_aae02 1 (some .boolean), Cond.fieldLink RJ0 38 "java/lang/String" "COMPACT_STRINGS" "Z", Cond.fieldLink RJ0 15 "java/lang/String" "coder" "B", Cond.methodLink RJ0 505 yJ0_length_8abf5, Cond.instanceMethod yJ0_length_8abf5, Cond.selects RJ0 yJ0_length_8abf5 yJ0_length_8abf5, Cond.code yJ0_length_8abf5 cJ0_length_8abf5 1 (some .int), Cond.methodLink RJ0 335 yJ0_coder_7d493, Cond.instanceMethod yJ0_coder_7d493, Cond.selects RJ0 yJ0_coder_7d493 yJ0_coder_7d493, Cond.code yJ0_coder_7d493 cJ0_coder_7d493 1 (some .byte), Cond.methodLink RJ0 637 yJ1_indexOf_4cfef, Cond.static yJ1_indexOf_4cfef, Cond.initialized RJ1, Cond.code yJ1_indexOf_4cfef cJ1_indexOf_4cfef 4 (some .int), Cond.methodLink RJ1 92 Lib.Math.max.name, Cond.static Lib.Math.max.name, Cond.initialized "java/lang/Math", Cond.code Lib.Math.max.name Lib.Math.max.code 2 (some .int)]
def wsJ0_indexOf_7cf53_r2 : List Cond := [Cond.methodLink RJ1 38 Lib.Math.min.name, Cond.static Lib.Math.min.name, Cond.code Lib.Math.min.name Lib.Math.min.code 2 (some .int), Cond.methodLink RJ1 88 yJ1_canEncode_9a6ad, Cond.static yJ1_canEncode_9a6ad, Cond.code yJ1_canEncode_9a6ad cJ1_canEncode_9a6ad 1 (some .boolean), Cond.methodLink RJ1 95 yJ1_indexOfChar_4cfef, Cond.static yJ1_indexOfChar_4cfef, Cond.code yJ1_indexOfChar_4cfef cJ1_indexOfChar_4cfef 6 (some .int), Cond.methodLink RJ0 640 yJ2_indexOf_4cfef, Cond.static yJ2_indexOf_4cfef, Cond.initialized RJ2, Cond.code yJ2_indexOf_4cfef cJ2_indexOf_4cfef 4 (some .int), Cond.methodLink RJ2 224 Lib.Math.max.name, Cond.methodLink RJ2 183 Lib.Math.min.name, Cond.constant RJ2 227 (65536), Cond.methodLink RJ2 228 yJ2_indexOfChar_4cfef, Cond.static yJ2_indexOfChar_4cfef, Cond.code yJ2_indexOfChar_4cfef cJ2_indexOfChar_4cfef 4 (some .int), Cond.methodLink RJ2 96 yJ2_checkBoundsBeginEnd_d044e, Cond.static yJ2_checkBoundsBeginEnd_d044e, Cond.code yJ2_checkBoundsBeginEnd_d044e cJ2_checkBoundsBeginEnd_d044e 3 none, Cond.methodLink RJ2 48 yJ2_length_9d52b, Cond.static yJ2_length_9d52b]
def wsJ0_indexOf_7cf53_r3 : List Cond := [Cond.code yJ2_length_9d52b cJ2_length_9d52b 1 (some .int), Cond.methodLink RJ2 241 yJ0_checkBoundsBeginEnd_23922, Cond.static yJ0_checkBoundsBeginEnd_23922, Cond.code yJ0_checkBoundsBeginEnd_23922 cJ0_checkBoundsBeginEnd_23922 3 none, Cond.fieldLink RJ0 1053 "jdk/internal/util/Preconditions" "SIOOBE_FORMATTER" "Ljava/util/function/BiFunction;", Cond.methodLink RJ0 1062 yJ3_checkFromToIndex_8c36e, Cond.static yJ3_checkFromToIndex_8c36e, Cond.initialized RJ3, Cond.code yJ3_checkFromToIndex_8c36e cJ3_checkFromToIndex_8c36e 4 (some .int), Cond.methodLink RJ2 244 yJ2_indexOfCharUnsafe_4cfef, Cond.static yJ2_indexOfCharUnsafe_4cfef, Cond.code yJ2_indexOfCharUnsafe_4cfef cJ2_indexOfCharUnsafe_4cfef 5 (some .int), Cond.methodLink RJ2 71 yJ2_getChar_3b067, Cond.static yJ2_getChar_3b067, Cond.code yJ2_getChar_3b067 cJ2_getChar_3b067 2 (some .char), Cond.fieldLink RJ2 44 "java/lang/StringUTF16" "$assertionsDisabled" "Z", Cond.fieldLink RJ2 59 "java/lang/StringUTF16" "HI_BYTE_SHIFT" "I", Cond.fieldLink RJ2 63 "java/lang/StringUTF16" "LO_BYTE_SHIFT" "I", Cond.methodLink RJ2 232 yJ2_indexOfSupplementary_4cfef, Cond.static yJ2_indexOfSupplementary_4cfef, Cond.code yJ2_indexOfSupplementary_4cfef cJ2_indexOfSupplementary_4cfef 7 (some .int), Cond.methodLink RJ2 164 yJ11_isValidCodePoint_9a6ad, Cond.static yJ11_isValidCodePoint_9a6ad, Cond.initialized RJ11]
def wsJ0_indexOf_7cf53_r4 : List Cond := [Cond.code yJ11_isValidCodePoint_9a6ad cJ11_isValidCodePoint_9a6ad 2 (some .boolean), Cond.methodLink RJ2 157 yJ11_highSurrogate_5068e, Cond.static yJ11_highSurrogate_5068e, Cond.code yJ11_highSurrogate_5068e cJ11_highSurrogate_5068e 1 (some .char), Cond.constant RJ11 110 (55232), Cond.methodLink RJ2 161 yJ11_lowSurrogate_5068e, Cond.static yJ11_lowSurrogate_5068e, Cond.code yJ11_lowSurrogate_5068e cJ11_lowSurrogate_5068e 1 (some .char), Cond.constant RJ11 76 (56320)]
def wsJ0_indexOf_7cf53 : List Cond := .code yJ0_indexOf_7cf53 cJ0_indexOf_7cf53 3 (some .int) :: ((wsJ0_indexOf_7cf53_r1 ++ (wsJ0_indexOf_7cf53_r2 ++ (wsJ0_indexOf_7cf53_r3 ++ wsJ0_indexOf_7cf53_r4))))
def wsJ0_indexOf_0f7a4_r1 : List Cond := [Cond.methodLink RJ0 633 yJ0_indexOf_7cf53, Cond.instanceMethod yJ0_indexOf_7cf53, Cond.selects RJ0 yJ0_indexOf_7cf53 yJ0_indexOf_7cf53, Cond.initialized RJ0, Cond.code yJ0_indexOf_7cf53 cJ0_indexOf_7cf53 3 (some .int), Cond.fieldLink RJ0 9 "java/lang/String" "value" "[B", Cond.methodLink RJ0 492 yJ0_isLatin1_aae02, Cond.instanceMethod yJ0_isLatin1_aae02, Cond.selects RJ0 yJ0_isLatin1_aae02 yJ0_isLatin1_aae02, Cond.code yJ0_isLatin1_aae02 cJ0_isLatin1_aae02 1 (some .boolean), Cond.fieldLink RJ0 38 "java/lang/String" "COMPACT_STRINGS" "Z", Cond.fieldLink RJ0 15 "java/lang/String" "coder" "B", Cond.methodLink RJ0 505 yJ0_length_8abf5, Cond.instanceMethod yJ0_length_8abf5, Cond.selects RJ0 yJ0_length_8abf5 yJ0_length_8abf5, Cond.code yJ0_length_8abf5 cJ0_length_8abf5 1 (some .int), Cond.methodLink RJ0 335 yJ0_coder_7d493, Cond.instanceMethod yJ0_coder_7d493, Cond.selects RJ0 yJ0_coder_7d493 yJ0_coder_7d493, Cond.code yJ0_coder_7d493 cJ0_coder_7d493 1 (some .byte), Cond.methodLink RJ0 637 yJ1_indexOf_4cfef, Cond.static yJ1_indexOf_4cfef, Cond.initialized RJ1, Cond.code yJ1_indexOf_4cfef cJ1_indexOf_4cfef 4 (some .int)]
def wsJ0_indexOf_0f7a4_r2 : List Cond := [Cond.methodLink RJ1 92 Lib.Math.max.name, Cond.static Lib.Math.max.name, Cond.initialized "java/lang/Math", Cond.code Lib.Math.max.name Lib.Math.max.code 2 (some .int), Cond.methodLink RJ1 38 Lib.Math.min.name, Cond.static Lib.Math.min.name, Cond.code Lib.Math.min.name Lib.Math.min.code 2 (some .int), Cond.methodLink RJ1 88 yJ1_canEncode_9a6ad, Cond.static yJ1_canEncode_9a6ad, Cond.code yJ1_canEncode_9a6ad cJ1_canEncode_9a6ad 1 (some .boolean), Cond.methodLink RJ1 95 yJ1_indexOfChar_4cfef, Cond.static yJ1_indexOfChar_4cfef, Cond.code yJ1_indexOfChar_4cfef cJ1_indexOfChar_4cfef 6 (some .int), Cond.methodLink RJ0 640 yJ2_indexOf_4cfef, Cond.static yJ2_indexOf_4cfef, Cond.initialized RJ2, Cond.code yJ2_indexOf_4cfef cJ2_indexOf_4cfef 4 (some .int), Cond.methodLink RJ2 224 Lib.Math.max.name, Cond.methodLink RJ2 183 Lib.Math.min.name, Cond.constant RJ2 227 (65536), Cond.methodLink RJ2 228 yJ2_indexOfChar_4cfef, Cond.static yJ2_indexOfChar_4cfef, Cond.code yJ2_indexOfChar_4cfef cJ2_indexOfChar_4cfef 4 (some .int), Cond.methodLink RJ2 96 yJ2_checkBoundsBeginEnd_d044e]
def wsJ0_indexOf_0f7a4_r3 : List Cond := [Cond.static yJ2_checkBoundsBeginEnd_d044e, Cond.code yJ2_checkBoundsBeginEnd_d044e cJ2_checkBoundsBeginEnd_d044e 3 none, Cond.methodLink RJ2 48 yJ2_length_9d52b, Cond.static yJ2_length_9d52b, Cond.code yJ2_length_9d52b cJ2_length_9d52b 1 (some .int), Cond.methodLink RJ2 241 yJ0_checkBoundsBeginEnd_23922, Cond.static yJ0_checkBoundsBeginEnd_23922, Cond.code yJ0_checkBoundsBeginEnd_23922 cJ0_checkBoundsBeginEnd_23922 3 none, Cond.fieldLink RJ0 1053 "jdk/internal/util/Preconditions" "SIOOBE_FORMATTER" "Ljava/util/function/BiFunction;", Cond.methodLink RJ0 1062 yJ3_checkFromToIndex_8c36e, Cond.static yJ3_checkFromToIndex_8c36e, Cond.initialized RJ3, Cond.code yJ3_checkFromToIndex_8c36e cJ3_checkFromToIndex_8c36e 4 (some .int), Cond.methodLink RJ2 244 yJ2_indexOfCharUnsafe_4cfef, Cond.static yJ2_indexOfCharUnsafe_4cfef, Cond.code yJ2_indexOfCharUnsafe_4cfef cJ2_indexOfCharUnsafe_4cfef 5 (some .int), Cond.methodLink RJ2 71 yJ2_getChar_3b067, Cond.static yJ2_getChar_3b067, Cond.code yJ2_getChar_3b067 cJ2_getChar_3b067 2 (some .char), Cond.fieldLink RJ2 44 "java/lang/StringUTF16" "$assertionsDisabled" "Z", Cond.fieldLink RJ2 59 "java/lang/StringUTF16" "HI_BYTE_SHIFT" "I", Cond.fieldLink RJ2 63 "java/lang/StringUTF16" "LO_BYTE_SHIFT" "I", Cond.methodLink RJ2 232 yJ2_indexOfSupplementary_4cfef, Cond.static yJ2_indexOfSupplementary_4cfef]
def wsJ0_indexOf_0f7a4_r4 : List Cond := [Cond.code yJ2_indexOfSupplementary_4cfef cJ2_indexOfSupplementary_4cfef 7 (some .int), Cond.methodLink RJ2 164 yJ11_isValidCodePoint_9a6ad, Cond.static yJ11_isValidCodePoint_9a6ad, Cond.initialized RJ11, Cond.code yJ11_isValidCodePoint_9a6ad cJ11_isValidCodePoint_9a6ad 2 (some .boolean), Cond.methodLink RJ2 157 yJ11_highSurrogate_5068e, Cond.static yJ11_highSurrogate_5068e, Cond.code yJ11_highSurrogate_5068e cJ11_highSurrogate_5068e 1 (some .char), Cond.constant RJ11 110 (55232), Cond.methodLink RJ2 161 yJ11_lowSurrogate_5068e, Cond.static yJ11_lowSurrogate_5068e, Cond.code yJ11_lowSurrogate_5068e cJ11_lowSurrogate_5068e 1 (some .char), Cond.constant RJ11 76 (56320)]
def wsJ0_indexOf_0f7a4 : List Cond := .code yJ0_indexOf_0f7a4 cJ0_indexOf_0f7a4 2 (some .int) :: ((wsJ0_indexOf_0f7a4_r1 ++ (wsJ0_indexOf_0f7a4_r2 ++ (wsJ0_indexOf_0f7a4_r3 ++ wsJ0_indexOf_0f7a4_r4))))
def wsX4_kindBy_r1 : List Cond := [Cond.methodLink RX4 43 yJ0_indexOf_0f7a4, Cond.instanceMethod yJ0_indexOf_0f7a4, Cond.selects RJ0 yJ0_indexOf_0f7a4 yJ0_indexOf_0f7a4, Cond.initialized RJ0, Cond.code yJ0_indexOf_0f7a4 cJ0_indexOf_0f7a4 2 (some .int), Cond.methodLink RJ0 633 yJ0_indexOf_7cf53, Cond.instanceMethod yJ0_indexOf_7cf53, Cond.selects RJ0 yJ0_indexOf_7cf53 yJ0_indexOf_7cf53, Cond.code yJ0_indexOf_7cf53 cJ0_indexOf_7cf53 3 (some .int), Cond.fieldLink RJ0 9 "java/lang/String" "value" "[B", Cond.methodLink RJ0 492 yJ0_isLatin1_aae02, Cond.instanceMethod yJ0_isLatin1_aae02, Cond.selects RJ0 yJ0_isLatin1_aae02 yJ0_isLatin1_aae02, Cond.code yJ0_isLatin1_aae02 cJ0_isLatin1_aae02 1 (some .boolean), Cond.fieldLink RJ0 38 "java/lang/String" "COMPACT_STRINGS" "Z", Cond.fieldLink RJ0 15 "java/lang/String" "coder" "B", Cond.methodLink RJ0 505 yJ0_length_8abf5, Cond.instanceMethod yJ0_length_8abf5, Cond.selects RJ0 yJ0_length_8abf5 yJ0_length_8abf5, Cond.code yJ0_length_8abf5 cJ0_length_8abf5 1 (some .int), Cond.methodLink RJ0 335 yJ0_coder_7d493, Cond.instanceMethod yJ0_coder_7d493, Cond.selects RJ0 yJ0_coder_7d493 yJ0_coder_7d493, Cond.code yJ0_coder_7d493 cJ0_coder_7d493 1 (some .byte)]
def wsX4_kindBy_r2 : List Cond := [Cond.methodLink RJ0 637 yJ1_indexOf_4cfef, Cond.static yJ1_indexOf_4cfef, Cond.initialized RJ1, Cond.code yJ1_indexOf_4cfef cJ1_indexOf_4cfef 4 (some .int), Cond.methodLink RJ1 92 Lib.Math.max.name, Cond.static Lib.Math.max.name, Cond.initialized "java/lang/Math", Cond.code Lib.Math.max.name Lib.Math.max.code 2 (some .int), Cond.methodLink RJ1 38 Lib.Math.min.name, Cond.static Lib.Math.min.name, Cond.code Lib.Math.min.name Lib.Math.min.code 2 (some .int), Cond.methodLink RJ1 88 yJ1_canEncode_9a6ad, Cond.static yJ1_canEncode_9a6ad, Cond.code yJ1_canEncode_9a6ad cJ1_canEncode_9a6ad 1 (some .boolean), Cond.methodLink RJ1 95 yJ1_indexOfChar_4cfef, Cond.static yJ1_indexOfChar_4cfef, Cond.code yJ1_indexOfChar_4cfef cJ1_indexOfChar_4cfef 6 (some .int), Cond.methodLink RJ0 640 yJ2_indexOf_4cfef, Cond.static yJ2_indexOf_4cfef, Cond.initialized RJ2, Cond.code yJ2_indexOf_4cfef cJ2_indexOf_4cfef 4 (some .int), Cond.methodLink RJ2 224 Lib.Math.max.name, Cond.methodLink RJ2 183 Lib.Math.min.name, Cond.constant RJ2 227 (65536)]
def wsX4_kindBy_r3 : List Cond := [Cond.methodLink RJ2 228 yJ2_indexOfChar_4cfef, Cond.static yJ2_indexOfChar_4cfef, Cond.code yJ2_indexOfChar_4cfef cJ2_indexOfChar_4cfef 4 (some .int), Cond.methodLink RJ2 96 yJ2_checkBoundsBeginEnd_d044e, Cond.static yJ2_checkBoundsBeginEnd_d044e, Cond.code yJ2_checkBoundsBeginEnd_d044e cJ2_checkBoundsBeginEnd_d044e 3 none, Cond.methodLink RJ2 48 yJ2_length_9d52b, Cond.static yJ2_length_9d52b, Cond.code yJ2_length_9d52b cJ2_length_9d52b 1 (some .int), Cond.methodLink RJ2 241 yJ0_checkBoundsBeginEnd_23922, Cond.static yJ0_checkBoundsBeginEnd_23922, Cond.code yJ0_checkBoundsBeginEnd_23922 cJ0_checkBoundsBeginEnd_23922 3 none, Cond.fieldLink RJ0 1053 "jdk/internal/util/Preconditions" "SIOOBE_FORMATTER" "Ljava/util/function/BiFunction;", Cond.methodLink RJ0 1062 yJ3_checkFromToIndex_8c36e, Cond.static yJ3_checkFromToIndex_8c36e, Cond.initialized RJ3, Cond.code yJ3_checkFromToIndex_8c36e cJ3_checkFromToIndex_8c36e 4 (some .int), Cond.methodLink RJ2 244 yJ2_indexOfCharUnsafe_4cfef, Cond.static yJ2_indexOfCharUnsafe_4cfef, Cond.code yJ2_indexOfCharUnsafe_4cfef cJ2_indexOfCharUnsafe_4cfef 5 (some .int), Cond.methodLink RJ2 71 yJ2_getChar_3b067, Cond.static yJ2_getChar_3b067, Cond.code yJ2_getChar_3b067 cJ2_getChar_3b067 2 (some .char), Cond.fieldLink RJ2 44 "java/lang/StringUTF16" "$assertionsDisabled" "Z"]
def wsX4_kindBy_r4 : List Cond := [Cond.fieldLink RJ2 59 "java/lang/StringUTF16" "HI_BYTE_SHIFT" "I", Cond.fieldLink RJ2 63 "java/lang/StringUTF16" "LO_BYTE_SHIFT" "I", Cond.methodLink RJ2 232 yJ2_indexOfSupplementary_4cfef, Cond.static yJ2_indexOfSupplementary_4cfef, Cond.code yJ2_indexOfSupplementary_4cfef cJ2_indexOfSupplementary_4cfef 7 (some .int), Cond.methodLink RJ2 164 yJ11_isValidCodePoint_9a6ad, Cond.static yJ11_isValidCodePoint_9a6ad, Cond.initialized RJ11, Cond.code yJ11_isValidCodePoint_9a6ad cJ11_isValidCodePoint_9a6ad 2 (some .boolean), Cond.methodLink RJ2 157 yJ11_highSurrogate_5068e, Cond.static yJ11_highSurrogate_5068e, Cond.code yJ11_highSurrogate_5068e cJ11_highSurrogate_5068e 1 (some .char), Cond.constant RJ11 110 (55232), Cond.methodLink RJ2 161 yJ11_lowSurrogate_5068e, Cond.static yJ11_lowSurrogate_5068e, Cond.code yJ11_lowSurrogate_5068e cJ11_lowSurrogate_5068e 1 (some .char), Cond.constant RJ11 76 (56320)]
def wsX4_kindBy : List Cond := .code yX4_kindBy cX4_kindBy 1 (some .int) :: ((wsX4_kindBy_r1 ++ (wsX4_kindBy_r2 ++ (wsX4_kindBy_r3 ++ wsX4_kindBy_r4))))
def wsX2_read_r1 : List Cond := [Cond.methodLink RX2 33 Lib.Math.min.name, Cond.static Lib.Math.min.name, Cond.initialized "java/lang/Math", Cond.code Lib.Math.min.name Lib.Math.min.code 2 (some .int), Cond.fieldLink RX2 21 "ClappedWrong$Hall" "rows" "I", Cond.fieldLink RX2 9 "ClappedWrong$Hall" "kinds" "[I", Cond.fieldLink RX2 15 "ClappedWrong$Hall" "palms" "[I", Cond.fieldLink RX2 18 "ClappedWrong$Hall" "strengths" "[I", Cond.fieldLink RX2 25 "ClappedWrong$Hall" "late" "I", Cond.methodLink RX2 39 yX4_codeAt, Cond.instanceMethod yX4_codeAt, Cond.selects RX4 yX4_codeAt yX4_codeAt, Cond.initialized RX4, Cond.code yX4_codeAt cX4_codeAt 2 (some .int), Cond.fieldLink RX4 9 "ClappedWrong$Page" "codes" "[I", Cond.static yX5_within, Cond.initialized RX5, Cond.code yX5_within cX5_within 3 (some .boolean), Cond.methodLink RX2 43 yX4_kindBy, Cond.static yX4_kindBy, Cond.code yX4_kindBy cX4_kindBy 1 (some .int), Cond.methodLink RX4 43 yJ0_indexOf_0f7a4, Cond.instanceMethod yJ0_indexOf_0f7a4, Cond.selects RJ0 yJ0_indexOf_0f7a4 yJ0_indexOf_0f7a4]
def wsX2_read_r2 : List Cond := [Cond.initialized RJ0, Cond.code yJ0_indexOf_0f7a4 cJ0_indexOf_0f7a4 2 (some .int), Cond.methodLink RJ0 633 yJ0_indexOf_7cf53, Cond.instanceMethod yJ0_indexOf_7cf53, Cond.selects RJ0 yJ0_indexOf_7cf53 yJ0_indexOf_7cf53, Cond.code yJ0_indexOf_7cf53 cJ0_indexOf_7cf53 3 (some .int), Cond.fieldLink RJ0 9 "java/lang/String" "value" "[B", Cond.methodLink RJ0 492 yJ0_isLatin1_aae02, Cond.instanceMethod yJ0_isLatin1_aae02, Cond.selects RJ0 yJ0_isLatin1_aae02 yJ0_isLatin1_aae02, Cond.code yJ0_isLatin1_aae02 cJ0_isLatin1_aae02 1 (some .boolean), Cond.fieldLink RJ0 38 "java/lang/String" "COMPACT_STRINGS" "Z", Cond.fieldLink RJ0 15 "java/lang/String" "coder" "B", Cond.methodLink RJ0 505 yJ0_length_8abf5, Cond.instanceMethod yJ0_length_8abf5, Cond.selects RJ0 yJ0_length_8abf5 yJ0_length_8abf5, Cond.code yJ0_length_8abf5 cJ0_length_8abf5 1 (some .int), Cond.methodLink RJ0 335 yJ0_coder_7d493, Cond.instanceMethod yJ0_coder_7d493, Cond.selects RJ0 yJ0_coder_7d493 yJ0_coder_7d493, Cond.code yJ0_coder_7d493 cJ0_coder_7d493 1 (some .byte), Cond.methodLink RJ0 637 yJ1_indexOf_4cfef, Cond.static yJ1_indexOf_4cfef, Cond.initialized RJ1]
def wsX2_read_r3 : List Cond := [Cond.code yJ1_indexOf_4cfef cJ1_indexOf_4cfef 4 (some .int), Cond.methodLink RJ1 92 Lib.Math.max.name, Cond.static Lib.Math.max.name, Cond.code Lib.Math.max.name Lib.Math.max.code 2 (some .int), Cond.methodLink RJ1 38 Lib.Math.min.name, Cond.methodLink RJ1 88 yJ1_canEncode_9a6ad, Cond.static yJ1_canEncode_9a6ad, Cond.code yJ1_canEncode_9a6ad cJ1_canEncode_9a6ad 1 (some .boolean), Cond.methodLink RJ1 95 yJ1_indexOfChar_4cfef, Cond.static yJ1_indexOfChar_4cfef, Cond.code yJ1_indexOfChar_4cfef cJ1_indexOfChar_4cfef 6 (some .int), Cond.methodLink RJ0 640 yJ2_indexOf_4cfef, Cond.static yJ2_indexOf_4cfef, Cond.initialized RJ2, Cond.code yJ2_indexOf_4cfef cJ2_indexOf_4cfef 4 (some .int), Cond.methodLink RJ2 224 Lib.Math.max.name, Cond.methodLink RJ2 183 Lib.Math.min.name, Cond.constant RJ2 227 (65536), Cond.methodLink RJ2 228 yJ2_indexOfChar_4cfef, Cond.static yJ2_indexOfChar_4cfef, Cond.code yJ2_indexOfChar_4cfef cJ2_indexOfChar_4cfef 4 (some .int), Cond.methodLink RJ2 96 yJ2_checkBoundsBeginEnd_d044e, Cond.static yJ2_checkBoundsBeginEnd_d044e, Cond.code yJ2_checkBoundsBeginEnd_d044e cJ2_checkBoundsBeginEnd_d044e 3 none]
def wsX2_read_r4 : List Cond := [Cond.methodLink RJ2 48 yJ2_length_9d52b, Cond.static yJ2_length_9d52b, Cond.code yJ2_length_9d52b cJ2_length_9d52b 1 (some .int), Cond.methodLink RJ2 241 yJ0_checkBoundsBeginEnd_23922, Cond.static yJ0_checkBoundsBeginEnd_23922, Cond.code yJ0_checkBoundsBeginEnd_23922 cJ0_checkBoundsBeginEnd_23922 3 none, Cond.fieldLink RJ0 1053 "jdk/internal/util/Preconditions" "SIOOBE_FORMATTER" "Ljava/util/function/BiFunction;", Cond.methodLink RJ0 1062 yJ3_checkFromToIndex_8c36e, Cond.static yJ3_checkFromToIndex_8c36e, Cond.initialized RJ3, Cond.code yJ3_checkFromToIndex_8c36e cJ3_checkFromToIndex_8c36e 4 (some .int), Cond.methodLink RJ2 244 yJ2_indexOfCharUnsafe_4cfef, Cond.static yJ2_indexOfCharUnsafe_4cfef, Cond.code yJ2_indexOfCharUnsafe_4cfef cJ2_indexOfCharUnsafe_4cfef 5 (some .int), Cond.methodLink RJ2 71 yJ2_getChar_3b067, Cond.static yJ2_getChar_3b067, Cond.code yJ2_getChar_3b067 cJ2_getChar_3b067 2 (some .char), Cond.fieldLink RJ2 44 "java/lang/StringUTF16" "$assertionsDisabled" "Z", Cond.fieldLink RJ2 59 "java/lang/StringUTF16" "HI_BYTE_SHIFT" "I", Cond.fieldLink RJ2 63 "java/lang/StringUTF16" "LO_BYTE_SHIFT" "I", Cond.methodLink RJ2 232 yJ2_indexOfSupplementary_4cfef, Cond.static yJ2_indexOfSupplementary_4cfef, Cond.code yJ2_indexOfSupplementary_4cfef cJ2_indexOfSupplementary_4cfef 7 (some .int), Cond.methodLink RJ2 164 yJ11_isValidCodePoint_9a6ad]
def wsX2_read_r5 : List Cond := [Cond.static yJ11_isValidCodePoint_9a6ad, Cond.initialized RJ11, Cond.code yJ11_isValidCodePoint_9a6ad cJ11_isValidCodePoint_9a6ad 2 (some .boolean), Cond.methodLink RJ2 157 yJ11_highSurrogate_5068e, Cond.static yJ11_highSurrogate_5068e, Cond.code yJ11_highSurrogate_5068e cJ11_highSurrogate_5068e 1 (some .char), Cond.constant RJ11 110 (55232), Cond.methodLink RJ2 161 yJ11_lowSurrogate_5068e, Cond.static yJ11_lowSurrogate_5068e, Cond.code yJ11_lowSurrogate_5068e cJ11_lowSurrogate_5068e 1 (some .char), Cond.constant RJ11 76 (56320)]
def wsX2_read : List Cond := .code yX2_read cX2_read 3 none :: ((wsX2_read_r1 ++ (wsX2_read_r2 ++ (wsX2_read_r3 ++ (wsX2_read_r4 ++ wsX2_read_r5)))) ++ wsX40 ++ wsX20)
def wsX2_isThere : List Cond := .code yX2_isThere cX2_isThere 1 (some .boolean) :: ([.fieldLink RX2 21 "ClappedWrong$Hall" "rows" "I"] ++ wsX20)
def wsX2_has : List Cond := .code yX2_has cX2_has 2 (some .boolean) :: ([.fieldLink RX2 21 "ClappedWrong$Hall" "rows" "I"] ++ wsX20)
def wsX2_lag : List Cond := .code yX2_lag cX2_lag 2 (some .int) :: ([.fieldLink RX2 25 "ClappedWrong$Hall" "late" "I"] ++ wsX20)
def wsX2_allPalms : List Cond := .code yX2_allPalms cX2_allPalms 3 (some .int) :: ([.fieldLink RX2 21 "ClappedWrong$Hall" "rows" "I", .fieldLink RX2 15 "ClappedWrong$Hall" "palms" "[I"] ++ wsX20)
def wsX3_init : List Cond := .code yX3_init cX3_init 1 none :: ([.methodLink RX3 3 objectInit, .instanceMethod objectInit, .code objectInit ⟨#[0xb1]⟩ 1 none, .classLink RX3 9 RX0, .instantiable RX0 4, .initialized RX0, .fieldLink RX3 12 "ClappedWrong$Night" "crowd" "LClappedWrong$Crowd;", .arrayClass .int, .fieldLink RX3 18 "ClappedWrong$Night" "rightBehindBar" "[I", .fieldLink RX3 22 "ClappedWrong$Night" "recorded" "I", .fieldLink RX3 26 "ClappedWrong$Night" "barsGone" "I", .fieldLink RX3 29 "ClappedWrong$Night" "beatsLeftOut" "I", .methodLink RX3 11 yX0_init, .instanceMethod yX0_init, .code yX0_init cX0_init 1 none, .methodLink RX0 3 objectInit, .fieldLink RX0 9 "ClappedWrong$Crowd" "sounds" "[I", .fieldLink RX0 15 "ClappedWrong$Crowd" "clapped" "[I", .fieldLink RX0 18 "ClappedWrong$Crowd" "next" "[I", .fieldLink RX0 21 "ClappedWrong$Crowd" "armRows" "I"] ++ wsX00 ++ wsX30)
def wsX3_startIn : List Cond := .code yX3_startIn cX3_startIn 2 none :: ([.fieldLink RX3 12 "ClappedWrong$Night" "crowd" "LClappedWrong$Crowd;", .fieldLink RX3 22 "ClappedWrong$Night" "recorded" "I", .fieldLink RX3 26 "ClappedWrong$Night" "barsGone" "I", .fieldLink RX3 29 "ClappedWrong$Night" "beatsLeftOut" "I", .methodLink RX3 37 yX0_beginWith, .instanceMethod yX0_beginWith, .selects RX0 yX0_beginWith yX0_beginWith, .initialized RX0, .code yX0_beginWith cX0_beginWith 4 none, .fieldLink RX0 9 "ClappedWrong$Crowd" "sounds" "[I", .fieldLink RX0 15 "ClappedWrong$Crowd" "clapped" "[I", .fieldLink RX0 21 "ClappedWrong$Crowd" "armRows" "I"] ++ wsX30 ++ wsX20 ++ wsX00)
def wsX3_takeFrom : List Cond := .code yX3_takeFrom cX3_takeFrom 3 none :: ([.fieldLink RX3 12 "ClappedWrong$Night" "crowd" "LClappedWrong$Crowd;", .fieldLink RX3 18 "ClappedWrong$Night" "rightBehindBar" "[I", .fieldLink RX3 22 "ClappedWrong$Night" "recorded" "I", .fieldLink RX3 26 "ClappedWrong$Night" "barsGone" "I", .fieldLink RX3 29 "ClappedWrong$Night" "beatsLeftOut" "I", .methodLink RX3 41 yX0_takeFrom, .instanceMethod yX0_takeFrom, .selects RX0 yX0_takeFrom yX0_takeFrom, .initialized RX0, .code yX0_takeFrom cX0_takeFrom 3 none, .fieldLink RX0 9 "ClappedWrong$Crowd" "sounds" "[I", .fieldLink RX0 15 "ClappedWrong$Crowd" "clapped" "[I", .fieldLink RX0 21 "ClappedWrong$Crowd" "armRows" "I"] ++ wsX30 ++ wsX00)
def wsX3_noteDown : List Cond := .code yX3_noteDown cX3_noteDown 2 (some .boolean) :: ([.fieldLink RX3 22 "ClappedWrong$Night" "recorded" "I", .fieldLink RX3 18 "ClappedWrong$Night" "rightBehindBar" "[I", .static yX5_within, .initialized RX5, .code yX5_within cX5_within 3 (some .boolean)] ++ wsX30)
def wsX3_recordedAt : List Cond := .code yX3_recordedAt cX3_recordedAt 2 (some .int) :: ([.fieldLink RX3 18 "ClappedWrong$Night" "rightBehindBar" "[I", .static yX5_within, .initialized RX5, .code yX5_within cX5_within 3 (some .boolean)] ++ wsX30)
def wsX4_init : List Cond := .code yX4_init cX4_init 1 none :: ([.methodLink RX4 3 objectInit, .instanceMethod objectInit, .code objectInit ⟨#[0xb1]⟩ 1 none, .arrayClass .int, .fieldLink RX4 9 "ClappedWrong$Page" "codes" "[I", .fieldLink RX4 15 "ClappedWrong$Page" "length" "I"] ++ wsX40)
def wsX4_write : List Cond := .code yX4_write cX4_write 2 (some .boolean) :: ([.fieldLink RX4 15 "ClappedWrong$Page" "length" "I", .fieldLink RX4 9 "ClappedWrong$Page" "codes" "[I"] ++ wsX40)
def wsX4_wipe : List Cond := .code yX4_wipe cX4_wipe 1 none :: ([.fieldLink RX4 15 "ClappedWrong$Page" "length" "I"] ++ wsX40)
def wsX4_followsRow : List Cond := .code yX4_followsRow cX4_followsRow 2 (some .boolean) :: ([])
def wsX4_fits_r1 : List Cond := [Cond.methodLink RX4 27 yX4_codeAt, Cond.instanceMethod yX4_codeAt, Cond.selects RX4 yX4_codeAt yX4_codeAt, Cond.initialized RX4, Cond.code yX4_codeAt cX4_codeAt 2 (some .int), Cond.fieldLink RX4 9 "ClappedWrong$Page" "codes" "[I", Cond.static yX5_within, Cond.initialized RX5, Cond.code yX5_within cX5_within 3 (some .boolean), Cond.methodLink RX4 35 yX4_kindBy, Cond.static yX4_kindBy, Cond.code yX4_kindBy cX4_kindBy 1 (some .int), Cond.methodLink RX4 43 yJ0_indexOf_0f7a4, Cond.instanceMethod yJ0_indexOf_0f7a4, Cond.selects RJ0 yJ0_indexOf_0f7a4 yJ0_indexOf_0f7a4, Cond.initialized RJ0, Cond.code yJ0_indexOf_0f7a4 cJ0_indexOf_0f7a4 2 (some .int), Cond.methodLink RJ0 633 yJ0_indexOf_7cf53, Cond.instanceMethod yJ0_indexOf_7cf53, Cond.selects RJ0 yJ0_indexOf_7cf53 yJ0_indexOf_7cf53, Cond.code yJ0_indexOf_7cf53 cJ0_indexOf_7cf53 3 (some .int), Cond.fieldLink RJ0 9 "java/lang/String" "value" "[B", Cond.methodLink RJ0 492 yJ0_isLatin1_aae02, Cond.instanceMethod yJ0_isLatin1_aae02]
def wsX4_fits_r2 : List Cond := [Cond.selects RJ0 yJ0_isLatin1_aae02 yJ0_isLatin1_aae02, Cond.code yJ0_isLatin1_aae02 cJ0_isLatin1_aae02 1 (some .boolean), Cond.fieldLink RJ0 38 "java/lang/String" "COMPACT_STRINGS" "Z", Cond.fieldLink RJ0 15 "java/lang/String" "coder" "B", Cond.methodLink RJ0 505 yJ0_length_8abf5, Cond.instanceMethod yJ0_length_8abf5, Cond.selects RJ0 yJ0_length_8abf5 yJ0_length_8abf5, Cond.code yJ0_length_8abf5 cJ0_length_8abf5 1 (some .int), Cond.methodLink RJ0 335 yJ0_coder_7d493, Cond.instanceMethod yJ0_coder_7d493, Cond.selects RJ0 yJ0_coder_7d493 yJ0_coder_7d493, Cond.code yJ0_coder_7d493 cJ0_coder_7d493 1 (some .byte), Cond.methodLink RJ0 637 yJ1_indexOf_4cfef, Cond.static yJ1_indexOf_4cfef, Cond.initialized RJ1, Cond.code yJ1_indexOf_4cfef cJ1_indexOf_4cfef 4 (some .int), Cond.methodLink RJ1 92 Lib.Math.max.name, Cond.static Lib.Math.max.name, Cond.initialized "java/lang/Math", Cond.code Lib.Math.max.name Lib.Math.max.code 2 (some .int), Cond.methodLink RJ1 38 Lib.Math.min.name, Cond.static Lib.Math.min.name, Cond.code Lib.Math.min.name Lib.Math.min.code 2 (some .int), Cond.methodLink RJ1 88 yJ1_canEncode_9a6ad]
def wsX4_fits_r3 : List Cond := [Cond.static yJ1_canEncode_9a6ad, Cond.code yJ1_canEncode_9a6ad cJ1_canEncode_9a6ad 1 (some .boolean), Cond.methodLink RJ1 95 yJ1_indexOfChar_4cfef, Cond.static yJ1_indexOfChar_4cfef, Cond.code yJ1_indexOfChar_4cfef cJ1_indexOfChar_4cfef 6 (some .int), Cond.methodLink RJ0 640 yJ2_indexOf_4cfef, Cond.static yJ2_indexOf_4cfef, Cond.initialized RJ2, Cond.code yJ2_indexOf_4cfef cJ2_indexOf_4cfef 4 (some .int), Cond.methodLink RJ2 224 Lib.Math.max.name, Cond.methodLink RJ2 183 Lib.Math.min.name, Cond.constant RJ2 227 (65536), Cond.methodLink RJ2 228 yJ2_indexOfChar_4cfef, Cond.static yJ2_indexOfChar_4cfef, Cond.code yJ2_indexOfChar_4cfef cJ2_indexOfChar_4cfef 4 (some .int), Cond.methodLink RJ2 96 yJ2_checkBoundsBeginEnd_d044e, Cond.static yJ2_checkBoundsBeginEnd_d044e, Cond.code yJ2_checkBoundsBeginEnd_d044e cJ2_checkBoundsBeginEnd_d044e 3 none, Cond.methodLink RJ2 48 yJ2_length_9d52b, Cond.static yJ2_length_9d52b, Cond.code yJ2_length_9d52b cJ2_length_9d52b 1 (some .int), Cond.methodLink RJ2 241 yJ0_checkBoundsBeginEnd_23922, Cond.static yJ0_checkBoundsBeginEnd_23922, Cond.code yJ0_checkBoundsBeginEnd_23922 cJ0_checkBoundsBeginEnd_23922 3 none]
def wsX4_fits_r4 : List Cond := [Cond.fieldLink RJ0 1053 "jdk/internal/util/Preconditions" "SIOOBE_FORMATTER" "Ljava/util/function/BiFunction;", Cond.methodLink RJ0 1062 yJ3_checkFromToIndex_8c36e, Cond.static yJ3_checkFromToIndex_8c36e, Cond.initialized RJ3, Cond.code yJ3_checkFromToIndex_8c36e cJ3_checkFromToIndex_8c36e 4 (some .int), Cond.methodLink RJ2 244 yJ2_indexOfCharUnsafe_4cfef, Cond.static yJ2_indexOfCharUnsafe_4cfef, Cond.code yJ2_indexOfCharUnsafe_4cfef cJ2_indexOfCharUnsafe_4cfef 5 (some .int), Cond.methodLink RJ2 71 yJ2_getChar_3b067, Cond.static yJ2_getChar_3b067, Cond.code yJ2_getChar_3b067 cJ2_getChar_3b067 2 (some .char), Cond.fieldLink RJ2 44 "java/lang/StringUTF16" "$assertionsDisabled" "Z", Cond.fieldLink RJ2 59 "java/lang/StringUTF16" "HI_BYTE_SHIFT" "I", Cond.fieldLink RJ2 63 "java/lang/StringUTF16" "LO_BYTE_SHIFT" "I", Cond.methodLink RJ2 232 yJ2_indexOfSupplementary_4cfef, Cond.static yJ2_indexOfSupplementary_4cfef, Cond.code yJ2_indexOfSupplementary_4cfef cJ2_indexOfSupplementary_4cfef 7 (some .int), Cond.methodLink RJ2 164 yJ11_isValidCodePoint_9a6ad, Cond.static yJ11_isValidCodePoint_9a6ad, Cond.initialized RJ11, Cond.code yJ11_isValidCodePoint_9a6ad cJ11_isValidCodePoint_9a6ad 2 (some .boolean), Cond.methodLink RJ2 157 yJ11_highSurrogate_5068e, Cond.static yJ11_highSurrogate_5068e, Cond.code yJ11_highSurrogate_5068e cJ11_highSurrogate_5068e 1 (some .char)]
def wsX4_fits_r5 : List Cond := [Cond.constant RJ11 110 (55232), Cond.methodLink RJ2 161 yJ11_lowSurrogate_5068e, Cond.static yJ11_lowSurrogate_5068e, Cond.code yJ11_lowSurrogate_5068e cJ11_lowSurrogate_5068e 1 (some .char), Cond.constant RJ11 76 (56320), Cond.methodLink RX4 38 yX4_followsRow, Cond.static yX4_followsRow, Cond.code yX4_followsRow cX4_followsRow 2 (some .boolean)]
def wsX4_fits : List Cond := .code yX4_fits cX4_fits 4 (some .boolean) :: ((wsX4_fits_r1 ++ (wsX4_fits_r2 ++ (wsX4_fits_r3 ++ (wsX4_fits_r4 ++ wsX4_fits_r5)))) ++ wsX40)
def wsX4_firstFault_r1 : List Cond := [Cond.fieldLink RX4 15 "ClappedWrong$Page" "length" "I", Cond.methodLink RX4 23 yX4_fits, Cond.instanceMethod yX4_fits, Cond.selects RX4 yX4_fits yX4_fits, Cond.initialized RX4, Cond.code yX4_fits cX4_fits 4 (some .boolean), Cond.methodLink RX4 27 yX4_codeAt, Cond.instanceMethod yX4_codeAt, Cond.selects RX4 yX4_codeAt yX4_codeAt, Cond.code yX4_codeAt cX4_codeAt 2 (some .int), Cond.fieldLink RX4 9 "ClappedWrong$Page" "codes" "[I", Cond.static yX5_within, Cond.initialized RX5, Cond.code yX5_within cX5_within 3 (some .boolean), Cond.methodLink RX4 35 yX4_kindBy, Cond.static yX4_kindBy, Cond.code yX4_kindBy cX4_kindBy 1 (some .int), Cond.methodLink RX4 43 yJ0_indexOf_0f7a4, Cond.instanceMethod yJ0_indexOf_0f7a4, Cond.selects RJ0 yJ0_indexOf_0f7a4 yJ0_indexOf_0f7a4, Cond.initialized RJ0, Cond.code yJ0_indexOf_0f7a4 cJ0_indexOf_0f7a4 2 (some .int), Cond.methodLink RJ0 633 yJ0_indexOf_7cf53, Cond.instanceMethod yJ0_indexOf_7cf53]
def wsX4_firstFault_r2 : List Cond := [Cond.selects RJ0 yJ0_indexOf_7cf53 yJ0_indexOf_7cf53, Cond.code yJ0_indexOf_7cf53 cJ0_indexOf_7cf53 3 (some .int), Cond.fieldLink RJ0 9 "java/lang/String" "value" "[B", Cond.methodLink RJ0 492 yJ0_isLatin1_aae02, Cond.instanceMethod yJ0_isLatin1_aae02, Cond.selects RJ0 yJ0_isLatin1_aae02 yJ0_isLatin1_aae02, Cond.code yJ0_isLatin1_aae02 cJ0_isLatin1_aae02 1 (some .boolean), Cond.fieldLink RJ0 38 "java/lang/String" "COMPACT_STRINGS" "Z", Cond.fieldLink RJ0 15 "java/lang/String" "coder" "B", Cond.methodLink RJ0 505 yJ0_length_8abf5, Cond.instanceMethod yJ0_length_8abf5, Cond.selects RJ0 yJ0_length_8abf5 yJ0_length_8abf5, Cond.code yJ0_length_8abf5 cJ0_length_8abf5 1 (some .int), Cond.methodLink RJ0 335 yJ0_coder_7d493, Cond.instanceMethod yJ0_coder_7d493, Cond.selects RJ0 yJ0_coder_7d493 yJ0_coder_7d493, Cond.code yJ0_coder_7d493 cJ0_coder_7d493 1 (some .byte), Cond.methodLink RJ0 637 yJ1_indexOf_4cfef, Cond.static yJ1_indexOf_4cfef, Cond.initialized RJ1, Cond.code yJ1_indexOf_4cfef cJ1_indexOf_4cfef 4 (some .int), Cond.methodLink RJ1 92 Lib.Math.max.name, Cond.static Lib.Math.max.name, Cond.initialized "java/lang/Math"]
def wsX4_firstFault_r3 : List Cond := [Cond.code Lib.Math.max.name Lib.Math.max.code 2 (some .int), Cond.methodLink RJ1 38 Lib.Math.min.name, Cond.static Lib.Math.min.name, Cond.code Lib.Math.min.name Lib.Math.min.code 2 (some .int), Cond.methodLink RJ1 88 yJ1_canEncode_9a6ad, Cond.static yJ1_canEncode_9a6ad, Cond.code yJ1_canEncode_9a6ad cJ1_canEncode_9a6ad 1 (some .boolean), Cond.methodLink RJ1 95 yJ1_indexOfChar_4cfef, Cond.static yJ1_indexOfChar_4cfef, Cond.code yJ1_indexOfChar_4cfef cJ1_indexOfChar_4cfef 6 (some .int), Cond.methodLink RJ0 640 yJ2_indexOf_4cfef, Cond.static yJ2_indexOf_4cfef, Cond.initialized RJ2, Cond.code yJ2_indexOf_4cfef cJ2_indexOf_4cfef 4 (some .int), Cond.methodLink RJ2 224 Lib.Math.max.name, Cond.methodLink RJ2 183 Lib.Math.min.name, Cond.constant RJ2 227 (65536), Cond.methodLink RJ2 228 yJ2_indexOfChar_4cfef, Cond.static yJ2_indexOfChar_4cfef, Cond.code yJ2_indexOfChar_4cfef cJ2_indexOfChar_4cfef 4 (some .int), Cond.methodLink RJ2 96 yJ2_checkBoundsBeginEnd_d044e, Cond.static yJ2_checkBoundsBeginEnd_d044e, Cond.code yJ2_checkBoundsBeginEnd_d044e cJ2_checkBoundsBeginEnd_d044e 3 none, Cond.methodLink RJ2 48 yJ2_length_9d52b]
def wsX4_firstFault_r4 : List Cond := [Cond.static yJ2_length_9d52b, Cond.code yJ2_length_9d52b cJ2_length_9d52b 1 (some .int), Cond.methodLink RJ2 241 yJ0_checkBoundsBeginEnd_23922, Cond.static yJ0_checkBoundsBeginEnd_23922, Cond.code yJ0_checkBoundsBeginEnd_23922 cJ0_checkBoundsBeginEnd_23922 3 none, Cond.fieldLink RJ0 1053 "jdk/internal/util/Preconditions" "SIOOBE_FORMATTER" "Ljava/util/function/BiFunction;", Cond.methodLink RJ0 1062 yJ3_checkFromToIndex_8c36e, Cond.static yJ3_checkFromToIndex_8c36e, Cond.initialized RJ3, Cond.code yJ3_checkFromToIndex_8c36e cJ3_checkFromToIndex_8c36e 4 (some .int), Cond.methodLink RJ2 244 yJ2_indexOfCharUnsafe_4cfef, Cond.static yJ2_indexOfCharUnsafe_4cfef, Cond.code yJ2_indexOfCharUnsafe_4cfef cJ2_indexOfCharUnsafe_4cfef 5 (some .int), Cond.methodLink RJ2 71 yJ2_getChar_3b067, Cond.static yJ2_getChar_3b067, Cond.code yJ2_getChar_3b067 cJ2_getChar_3b067 2 (some .char), Cond.fieldLink RJ2 44 "java/lang/StringUTF16" "$assertionsDisabled" "Z", Cond.fieldLink RJ2 59 "java/lang/StringUTF16" "HI_BYTE_SHIFT" "I", Cond.fieldLink RJ2 63 "java/lang/StringUTF16" "LO_BYTE_SHIFT" "I", Cond.methodLink RJ2 232 yJ2_indexOfSupplementary_4cfef, Cond.static yJ2_indexOfSupplementary_4cfef, Cond.code yJ2_indexOfSupplementary_4cfef cJ2_indexOfSupplementary_4cfef 7 (some .int), Cond.methodLink RJ2 164 yJ11_isValidCodePoint_9a6ad, Cond.static yJ11_isValidCodePoint_9a6ad]
def wsX4_firstFault_r5 : List Cond := [Cond.initialized RJ11, Cond.code yJ11_isValidCodePoint_9a6ad cJ11_isValidCodePoint_9a6ad 2 (some .boolean), Cond.methodLink RJ2 157 yJ11_highSurrogate_5068e, Cond.static yJ11_highSurrogate_5068e, Cond.code yJ11_highSurrogate_5068e cJ11_highSurrogate_5068e 1 (some .char), Cond.constant RJ11 110 (55232), Cond.methodLink RJ2 161 yJ11_lowSurrogate_5068e, Cond.static yJ11_lowSurrogate_5068e, Cond.code yJ11_lowSurrogate_5068e cJ11_lowSurrogate_5068e 1 (some .char), Cond.constant RJ11 76 (56320), Cond.methodLink RX4 38 yX4_followsRow, Cond.static yX4_followsRow, Cond.code yX4_followsRow cX4_followsRow 2 (some .boolean)]
def wsX4_firstFault : List Cond := .code yX4_firstFault cX4_firstFault 3 (some .int) :: ((wsX4_firstFault_r1 ++ (wsX4_firstFault_r2 ++ (wsX4_firstFault_r3 ++ (wsX4_firstFault_r4 ++ wsX4_firstFault_r5)))) ++ wsX40)
def wsX4_isWhole_r1 : List Cond := [Cond.fieldLink RX4 15 "ClappedWrong$Page" "length" "I", Cond.methodLink RX4 31 yX4_firstFault, Cond.instanceMethod yX4_firstFault, Cond.selects RX4 yX4_firstFault yX4_firstFault, Cond.initialized RX4, Cond.code yX4_firstFault cX4_firstFault 3 (some .int), Cond.methodLink RX4 23 yX4_fits, Cond.instanceMethod yX4_fits, Cond.selects RX4 yX4_fits yX4_fits, Cond.code yX4_fits cX4_fits 4 (some .boolean), Cond.methodLink RX4 27 yX4_codeAt, Cond.instanceMethod yX4_codeAt, Cond.selects RX4 yX4_codeAt yX4_codeAt, Cond.code yX4_codeAt cX4_codeAt 2 (some .int), Cond.fieldLink RX4 9 "ClappedWrong$Page" "codes" "[I", Cond.static yX5_within, Cond.initialized RX5, Cond.code yX5_within cX5_within 3 (some .boolean), Cond.methodLink RX4 35 yX4_kindBy, Cond.static yX4_kindBy, Cond.code yX4_kindBy cX4_kindBy 1 (some .int), Cond.methodLink RX4 43 yJ0_indexOf_0f7a4, Cond.instanceMethod yJ0_indexOf_0f7a4, Cond.selects RJ0 yJ0_indexOf_0f7a4 yJ0_indexOf_0f7a4]
def wsX4_isWhole_r2 : List Cond := [Cond.initialized RJ0, Cond.code yJ0_indexOf_0f7a4 cJ0_indexOf_0f7a4 2 (some .int), Cond.methodLink RJ0 633 yJ0_indexOf_7cf53, Cond.instanceMethod yJ0_indexOf_7cf53, Cond.selects RJ0 yJ0_indexOf_7cf53 yJ0_indexOf_7cf53, Cond.code yJ0_indexOf_7cf53 cJ0_indexOf_7cf53 3 (some .int), Cond.fieldLink RJ0 9 "java/lang/String" "value" "[B", Cond.methodLink RJ0 492 yJ0_isLatin1_aae02, Cond.instanceMethod yJ0_isLatin1_aae02, Cond.selects RJ0 yJ0_isLatin1_aae02 yJ0_isLatin1_aae02, Cond.code yJ0_isLatin1_aae02 cJ0_isLatin1_aae02 1 (some .boolean), Cond.fieldLink RJ0 38 "java/lang/String" "COMPACT_STRINGS" "Z", Cond.fieldLink RJ0 15 "java/lang/String" "coder" "B", Cond.methodLink RJ0 505 yJ0_length_8abf5, Cond.instanceMethod yJ0_length_8abf5, Cond.selects RJ0 yJ0_length_8abf5 yJ0_length_8abf5, Cond.code yJ0_length_8abf5 cJ0_length_8abf5 1 (some .int), Cond.methodLink RJ0 335 yJ0_coder_7d493, Cond.instanceMethod yJ0_coder_7d493, Cond.selects RJ0 yJ0_coder_7d493 yJ0_coder_7d493, Cond.code yJ0_coder_7d493 cJ0_coder_7d493 1 (some .byte), Cond.methodLink RJ0 637 yJ1_indexOf_4cfef, Cond.static yJ1_indexOf_4cfef, Cond.initialized RJ1]
def wsX4_isWhole_r3 : List Cond := [Cond.code yJ1_indexOf_4cfef cJ1_indexOf_4cfef 4 (some .int), Cond.methodLink RJ1 92 Lib.Math.max.name, Cond.static Lib.Math.max.name, Cond.initialized "java/lang/Math", Cond.code Lib.Math.max.name Lib.Math.max.code 2 (some .int), Cond.methodLink RJ1 38 Lib.Math.min.name, Cond.static Lib.Math.min.name, Cond.code Lib.Math.min.name Lib.Math.min.code 2 (some .int), Cond.methodLink RJ1 88 yJ1_canEncode_9a6ad, Cond.static yJ1_canEncode_9a6ad, Cond.code yJ1_canEncode_9a6ad cJ1_canEncode_9a6ad 1 (some .boolean), Cond.methodLink RJ1 95 yJ1_indexOfChar_4cfef, Cond.static yJ1_indexOfChar_4cfef, Cond.code yJ1_indexOfChar_4cfef cJ1_indexOfChar_4cfef 6 (some .int), Cond.methodLink RJ0 640 yJ2_indexOf_4cfef, Cond.static yJ2_indexOf_4cfef, Cond.initialized RJ2, Cond.code yJ2_indexOf_4cfef cJ2_indexOf_4cfef 4 (some .int), Cond.methodLink RJ2 224 Lib.Math.max.name, Cond.methodLink RJ2 183 Lib.Math.min.name, Cond.constant RJ2 227 (65536), Cond.methodLink RJ2 228 yJ2_indexOfChar_4cfef, Cond.static yJ2_indexOfChar_4cfef, Cond.code yJ2_indexOfChar_4cfef cJ2_indexOfChar_4cfef 4 (some .int)]
def wsX4_isWhole_r4 : List Cond := [Cond.methodLink RJ2 96 yJ2_checkBoundsBeginEnd_d044e, Cond.static yJ2_checkBoundsBeginEnd_d044e, Cond.code yJ2_checkBoundsBeginEnd_d044e cJ2_checkBoundsBeginEnd_d044e 3 none, Cond.methodLink RJ2 48 yJ2_length_9d52b, Cond.static yJ2_length_9d52b, Cond.code yJ2_length_9d52b cJ2_length_9d52b 1 (some .int), Cond.methodLink RJ2 241 yJ0_checkBoundsBeginEnd_23922, Cond.static yJ0_checkBoundsBeginEnd_23922, Cond.code yJ0_checkBoundsBeginEnd_23922 cJ0_checkBoundsBeginEnd_23922 3 none, Cond.fieldLink RJ0 1053 "jdk/internal/util/Preconditions" "SIOOBE_FORMATTER" "Ljava/util/function/BiFunction;", Cond.methodLink RJ0 1062 yJ3_checkFromToIndex_8c36e, Cond.static yJ3_checkFromToIndex_8c36e, Cond.initialized RJ3, Cond.code yJ3_checkFromToIndex_8c36e cJ3_checkFromToIndex_8c36e 4 (some .int), Cond.methodLink RJ2 244 yJ2_indexOfCharUnsafe_4cfef, Cond.static yJ2_indexOfCharUnsafe_4cfef, Cond.code yJ2_indexOfCharUnsafe_4cfef cJ2_indexOfCharUnsafe_4cfef 5 (some .int), Cond.methodLink RJ2 71 yJ2_getChar_3b067, Cond.static yJ2_getChar_3b067, Cond.code yJ2_getChar_3b067 cJ2_getChar_3b067 2 (some .char), Cond.fieldLink RJ2 44 "java/lang/StringUTF16" "$assertionsDisabled" "Z", Cond.fieldLink RJ2 59 "java/lang/StringUTF16" "HI_BYTE_SHIFT" "I", Cond.fieldLink RJ2 63 "java/lang/StringUTF16" "LO_BYTE_SHIFT" "I", Cond.methodLink RJ2 232 yJ2_indexOfSupplementary_4cfef]
def wsX4_isWhole_r5 : List Cond := [Cond.static yJ2_indexOfSupplementary_4cfef, Cond.code yJ2_indexOfSupplementary_4cfef cJ2_indexOfSupplementary_4cfef 7 (some .int), Cond.methodLink RJ2 164 yJ11_isValidCodePoint_9a6ad, Cond.static yJ11_isValidCodePoint_9a6ad, Cond.initialized RJ11, Cond.code yJ11_isValidCodePoint_9a6ad cJ11_isValidCodePoint_9a6ad 2 (some .boolean), Cond.methodLink RJ2 157 yJ11_highSurrogate_5068e, Cond.static yJ11_highSurrogate_5068e, Cond.code yJ11_highSurrogate_5068e cJ11_highSurrogate_5068e 1 (some .char), Cond.constant RJ11 110 (55232), Cond.methodLink RJ2 161 yJ11_lowSurrogate_5068e, Cond.static yJ11_lowSurrogate_5068e, Cond.code yJ11_lowSurrogate_5068e cJ11_lowSurrogate_5068e 1 (some .char), Cond.constant RJ11 76 (56320), Cond.methodLink RX4 38 yX4_followsRow, Cond.static yX4_followsRow, Cond.code yX4_followsRow cX4_followsRow 2 (some .boolean)]
def wsX4_isWhole : List Cond := .code yX4_isWhole cX4_isWhole 1 (some .boolean) :: ((wsX4_isWhole_r1 ++ (wsX4_isWhole_r2 ++ (wsX4_isWhole_r3 ++ (wsX4_isWhole_r4 ++ wsX4_isWhole_r5)))) ++ wsX40)
def wsX5_init_r1 : List Cond := [Cond.methodLink RX5 1 objectInit, Cond.instanceMethod objectInit, Cond.code objectInit ⟨#[0xb1]⟩ 1 none, Cond.classLink RX5 7 RX4, Cond.instantiable RX4 2, Cond.initialized RX4, Cond.fieldLink RX5 10 "ClappedWrong" "page" "LClappedWrong$Page;", Cond.classLink RX5 16 RX2, Cond.instantiable RX2 5, Cond.initialized RX2, Cond.fieldLink RX5 19 "ClappedWrong" "room" "LClappedWrong$Hall;", Cond.classLink RX5 23 RX3, Cond.instantiable RX3 5, Cond.initialized RX3, Cond.fieldLink RX5 26 "ClappedWrong" "night" "LClappedWrong$Night;", Cond.fieldLink RX5 30 "ClappedWrong" "kept" "LClappedWrong$Night;", Cond.classLink RX5 33 RX0, Cond.instantiable RX0 4, Cond.initialized RX0, Cond.fieldLink RX5 36 "ClappedWrong" "trial" "LClappedWrong$Crowd;", Cond.fieldLink RX5 40 "ClappedWrong" "isKept" "Z", Cond.fieldLink RX5 44 "ClappedWrong" "hallsRead" "I", Cond.fieldLink RX5 48 "ClappedWrong" "turnedDone" "I", Cond.fieldLink RX5 51 "ClappedWrong" "beganDone" "I"]
def wsX5_init_r2 : List Cond := [Cond.methodLink RX5 9 yX4_init, Cond.instanceMethod yX4_init, Cond.code yX4_init cX4_init 1 none, Cond.methodLink RX4 3 objectInit, Cond.arrayClass .int, Cond.fieldLink RX4 9 "ClappedWrong$Page" "codes" "[I", Cond.fieldLink RX4 15 "ClappedWrong$Page" "length" "I", Cond.methodLink RX5 18 yX2_init, Cond.instanceMethod yX2_init, Cond.code yX2_init cX2_init 1 none, Cond.methodLink RX2 3 objectInit, Cond.fieldLink RX2 9 "ClappedWrong$Hall" "kinds" "[I", Cond.fieldLink RX2 15 "ClappedWrong$Hall" "palms" "[I", Cond.fieldLink RX2 18 "ClappedWrong$Hall" "strengths" "[I", Cond.fieldLink RX2 21 "ClappedWrong$Hall" "rows" "I", Cond.fieldLink RX2 25 "ClappedWrong$Hall" "late" "I", Cond.methodLink RX5 25 yX3_init, Cond.instanceMethod yX3_init, Cond.code yX3_init cX3_init 1 none, Cond.methodLink RX3 3 objectInit, Cond.classLink RX3 9 RX0, Cond.fieldLink RX3 12 "ClappedWrong$Night" "crowd" "LClappedWrong$Crowd;", Cond.fieldLink RX3 18 "ClappedWrong$Night" "rightBehindBar" "[I", Cond.fieldLink RX3 22 "ClappedWrong$Night" "recorded" "I"]
def wsX5_init_r3 : List Cond := [Cond.fieldLink RX3 26 "ClappedWrong$Night" "barsGone" "I", Cond.fieldLink RX3 29 "ClappedWrong$Night" "beatsLeftOut" "I", Cond.methodLink RX3 11 yX0_init, Cond.instanceMethod yX0_init, Cond.code yX0_init cX0_init 1 none, Cond.methodLink RX0 3 objectInit, Cond.fieldLink RX0 9 "ClappedWrong$Crowd" "sounds" "[I", Cond.fieldLink RX0 15 "ClappedWrong$Crowd" "clapped" "[I", Cond.fieldLink RX0 18 "ClappedWrong$Crowd" "next" "[I", Cond.fieldLink RX0 21 "ClappedWrong$Crowd" "armRows" "I", Cond.methodLink RX5 35 yX0_init]
def wsX5_init : List Cond := .code yX5_init cX5_init 1 none :: ((wsX5_init_r1 ++ (wsX5_init_r2 ++ wsX5_init_r3)) ++ wsX40 ++ wsX50 ++ wsX20 ++ wsX30 ++ wsX00)
def wsX5_letter : List Cond := .code yX5_letter cX5_letter 2 (some .int) :: ([.fieldLink RX5 10 "ClappedWrong" "page" "LClappedWrong$Page;", .methodLink RX5 54 yX5_within, .static yX5_within, .initialized RX5, .code yX5_within cX5_within 3 (some .boolean), .methodLink RX5 58 yX4_write, .instanceMethod yX4_write, .selects RX4 yX4_write yX4_write, .initialized RX4, .code yX4_write cX4_write 2 (some .boolean), .fieldLink RX4 15 "ClappedWrong$Page" "length" "I", .fieldLink RX4 9 "ClappedWrong$Page" "codes" "[I"] ++ wsX50 ++ wsX40)
def wsX5_blank : List Cond := .code yX5_blank cX5_blank 2 (some .int) :: ([.fieldLink RX5 10 "ClappedWrong" "page" "LClappedWrong$Page;", .methodLink RX5 65 yX4_wipe, .instanceMethod yX4_wipe, .selects RX4 yX4_wipe yX4_wipe, .initialized RX4, .code yX4_wipe cX4_wipe 1 none, .fieldLink RX4 15 "ClappedWrong$Page" "length" "I"] ++ wsX50 ++ wsX40)
def wsX5_fault_r1 : List Cond := [Cond.fieldLink RX5 10 "ClappedWrong" "page" "LClappedWrong$Page;", Cond.methodLink RX5 68 yX4_firstFault, Cond.instanceMethod yX4_firstFault, Cond.selects RX4 yX4_firstFault yX4_firstFault, Cond.initialized RX4, Cond.code yX4_firstFault cX4_firstFault 3 (some .int), Cond.fieldLink RX4 15 "ClappedWrong$Page" "length" "I", Cond.methodLink RX4 23 yX4_fits, Cond.instanceMethod yX4_fits, Cond.selects RX4 yX4_fits yX4_fits, Cond.code yX4_fits cX4_fits 4 (some .boolean), Cond.methodLink RX4 27 yX4_codeAt, Cond.instanceMethod yX4_codeAt, Cond.selects RX4 yX4_codeAt yX4_codeAt, Cond.code yX4_codeAt cX4_codeAt 2 (some .int), Cond.fieldLink RX4 9 "ClappedWrong$Page" "codes" "[I", Cond.static yX5_within, Cond.initialized RX5, Cond.code yX5_within cX5_within 3 (some .boolean), Cond.methodLink RX4 35 yX4_kindBy, Cond.static yX4_kindBy, Cond.code yX4_kindBy cX4_kindBy 1 (some .int), Cond.methodLink RX4 43 yJ0_indexOf_0f7a4, Cond.instanceMethod yJ0_indexOf_0f7a4]
def wsX5_fault_r2 : List Cond := [Cond.selects RJ0 yJ0_indexOf_0f7a4 yJ0_indexOf_0f7a4, Cond.initialized RJ0, Cond.code yJ0_indexOf_0f7a4 cJ0_indexOf_0f7a4 2 (some .int), Cond.methodLink RJ0 633 yJ0_indexOf_7cf53, Cond.instanceMethod yJ0_indexOf_7cf53, Cond.selects RJ0 yJ0_indexOf_7cf53 yJ0_indexOf_7cf53, Cond.code yJ0_indexOf_7cf53 cJ0_indexOf_7cf53 3 (some .int), Cond.fieldLink RJ0 9 "java/lang/String" "value" "[B", Cond.methodLink RJ0 492 yJ0_isLatin1_aae02, Cond.instanceMethod yJ0_isLatin1_aae02, Cond.selects RJ0 yJ0_isLatin1_aae02 yJ0_isLatin1_aae02, Cond.code yJ0_isLatin1_aae02 cJ0_isLatin1_aae02 1 (some .boolean), Cond.fieldLink RJ0 38 "java/lang/String" "COMPACT_STRINGS" "Z", Cond.fieldLink RJ0 15 "java/lang/String" "coder" "B", Cond.methodLink RJ0 505 yJ0_length_8abf5, Cond.instanceMethod yJ0_length_8abf5, Cond.selects RJ0 yJ0_length_8abf5 yJ0_length_8abf5, Cond.code yJ0_length_8abf5 cJ0_length_8abf5 1 (some .int), Cond.methodLink RJ0 335 yJ0_coder_7d493, Cond.instanceMethod yJ0_coder_7d493, Cond.selects RJ0 yJ0_coder_7d493 yJ0_coder_7d493, Cond.code yJ0_coder_7d493 cJ0_coder_7d493 1 (some .byte), Cond.methodLink RJ0 637 yJ1_indexOf_4cfef, Cond.static yJ1_indexOf_4cfef]
def wsX5_fault_r3 : List Cond := [Cond.initialized RJ1, Cond.code yJ1_indexOf_4cfef cJ1_indexOf_4cfef 4 (some .int), Cond.methodLink RJ1 92 Lib.Math.max.name, Cond.static Lib.Math.max.name, Cond.initialized "java/lang/Math", Cond.code Lib.Math.max.name Lib.Math.max.code 2 (some .int), Cond.methodLink RJ1 38 Lib.Math.min.name, Cond.static Lib.Math.min.name, Cond.code Lib.Math.min.name Lib.Math.min.code 2 (some .int), Cond.methodLink RJ1 88 yJ1_canEncode_9a6ad, Cond.static yJ1_canEncode_9a6ad, Cond.code yJ1_canEncode_9a6ad cJ1_canEncode_9a6ad 1 (some .boolean), Cond.methodLink RJ1 95 yJ1_indexOfChar_4cfef, Cond.static yJ1_indexOfChar_4cfef, Cond.code yJ1_indexOfChar_4cfef cJ1_indexOfChar_4cfef 6 (some .int), Cond.methodLink RJ0 640 yJ2_indexOf_4cfef, Cond.static yJ2_indexOf_4cfef, Cond.initialized RJ2, Cond.code yJ2_indexOf_4cfef cJ2_indexOf_4cfef 4 (some .int), Cond.methodLink RJ2 224 Lib.Math.max.name, Cond.methodLink RJ2 183 Lib.Math.min.name, Cond.constant RJ2 227 (65536), Cond.methodLink RJ2 228 yJ2_indexOfChar_4cfef, Cond.static yJ2_indexOfChar_4cfef]
def wsX5_fault_r4 : List Cond := [Cond.code yJ2_indexOfChar_4cfef cJ2_indexOfChar_4cfef 4 (some .int), Cond.methodLink RJ2 96 yJ2_checkBoundsBeginEnd_d044e, Cond.static yJ2_checkBoundsBeginEnd_d044e, Cond.code yJ2_checkBoundsBeginEnd_d044e cJ2_checkBoundsBeginEnd_d044e 3 none, Cond.methodLink RJ2 48 yJ2_length_9d52b, Cond.static yJ2_length_9d52b, Cond.code yJ2_length_9d52b cJ2_length_9d52b 1 (some .int), Cond.methodLink RJ2 241 yJ0_checkBoundsBeginEnd_23922, Cond.static yJ0_checkBoundsBeginEnd_23922, Cond.code yJ0_checkBoundsBeginEnd_23922 cJ0_checkBoundsBeginEnd_23922 3 none, Cond.fieldLink RJ0 1053 "jdk/internal/util/Preconditions" "SIOOBE_FORMATTER" "Ljava/util/function/BiFunction;", Cond.methodLink RJ0 1062 yJ3_checkFromToIndex_8c36e, Cond.static yJ3_checkFromToIndex_8c36e, Cond.initialized RJ3, Cond.code yJ3_checkFromToIndex_8c36e cJ3_checkFromToIndex_8c36e 4 (some .int), Cond.methodLink RJ2 244 yJ2_indexOfCharUnsafe_4cfef, Cond.static yJ2_indexOfCharUnsafe_4cfef, Cond.code yJ2_indexOfCharUnsafe_4cfef cJ2_indexOfCharUnsafe_4cfef 5 (some .int), Cond.methodLink RJ2 71 yJ2_getChar_3b067, Cond.static yJ2_getChar_3b067, Cond.code yJ2_getChar_3b067 cJ2_getChar_3b067 2 (some .char), Cond.fieldLink RJ2 44 "java/lang/StringUTF16" "$assertionsDisabled" "Z", Cond.fieldLink RJ2 59 "java/lang/StringUTF16" "HI_BYTE_SHIFT" "I", Cond.fieldLink RJ2 63 "java/lang/StringUTF16" "LO_BYTE_SHIFT" "I"]
def wsX5_fault_r5 : List Cond := [Cond.methodLink RJ2 232 yJ2_indexOfSupplementary_4cfef, Cond.static yJ2_indexOfSupplementary_4cfef, Cond.code yJ2_indexOfSupplementary_4cfef cJ2_indexOfSupplementary_4cfef 7 (some .int), Cond.methodLink RJ2 164 yJ11_isValidCodePoint_9a6ad, Cond.static yJ11_isValidCodePoint_9a6ad, Cond.initialized RJ11, Cond.code yJ11_isValidCodePoint_9a6ad cJ11_isValidCodePoint_9a6ad 2 (some .boolean), Cond.methodLink RJ2 157 yJ11_highSurrogate_5068e, Cond.static yJ11_highSurrogate_5068e, Cond.code yJ11_highSurrogate_5068e cJ11_highSurrogate_5068e 1 (some .char), Cond.constant RJ11 110 (55232), Cond.methodLink RJ2 161 yJ11_lowSurrogate_5068e, Cond.static yJ11_lowSurrogate_5068e, Cond.code yJ11_lowSurrogate_5068e cJ11_lowSurrogate_5068e 1 (some .char), Cond.constant RJ11 76 (56320), Cond.methodLink RX4 38 yX4_followsRow, Cond.static yX4_followsRow, Cond.code yX4_followsRow cX4_followsRow 2 (some .boolean)]
def wsX5_fault : List Cond := .code yX5_fault cX5_fault 1 (some .int) :: ((wsX5_fault_r1 ++ (wsX5_fault_r2 ++ (wsX5_fault_r3 ++ (wsX5_fault_r4 ++ wsX5_fault_r5)))) ++ wsX50 ++ wsX40)
def wsX5_hall_r1 : List Cond := [Cond.fieldLink RX5 10 "ClappedWrong" "page" "LClappedWrong$Page;", Cond.fieldLink RX5 19 "ClappedWrong" "room" "LClappedWrong$Hall;", Cond.fieldLink RX5 26 "ClappedWrong" "night" "LClappedWrong$Night;", Cond.fieldLink RX5 40 "ClappedWrong" "isKept" "Z", Cond.fieldLink RX5 44 "ClappedWrong" "hallsRead" "I", Cond.methodLink RX5 72 yX4_isWhole, Cond.instanceMethod yX4_isWhole, Cond.selects RX4 yX4_isWhole yX4_isWhole, Cond.initialized RX4, Cond.code yX4_isWhole cX4_isWhole 1 (some .boolean), Cond.fieldLink RX4 15 "ClappedWrong$Page" "length" "I", Cond.methodLink RX4 31 yX4_firstFault, Cond.instanceMethod yX4_firstFault, Cond.selects RX4 yX4_firstFault yX4_firstFault, Cond.code yX4_firstFault cX4_firstFault 3 (some .int), Cond.methodLink RX4 23 yX4_fits, Cond.instanceMethod yX4_fits, Cond.selects RX4 yX4_fits yX4_fits, Cond.code yX4_fits cX4_fits 4 (some .boolean), Cond.methodLink RX4 27 yX4_codeAt, Cond.instanceMethod yX4_codeAt, Cond.selects RX4 yX4_codeAt yX4_codeAt, Cond.code yX4_codeAt cX4_codeAt 2 (some .int), Cond.fieldLink RX4 9 "ClappedWrong$Page" "codes" "[I"]
def wsX5_hall_r2 : List Cond := [Cond.static yX5_within, Cond.initialized RX5, Cond.code yX5_within cX5_within 3 (some .boolean), Cond.methodLink RX4 35 yX4_kindBy, Cond.static yX4_kindBy, Cond.code yX4_kindBy cX4_kindBy 1 (some .int), Cond.methodLink RX4 43 yJ0_indexOf_0f7a4, Cond.instanceMethod yJ0_indexOf_0f7a4, Cond.selects RJ0 yJ0_indexOf_0f7a4 yJ0_indexOf_0f7a4, Cond.initialized RJ0, Cond.code yJ0_indexOf_0f7a4 cJ0_indexOf_0f7a4 2 (some .int), Cond.methodLink RJ0 633 yJ0_indexOf_7cf53, Cond.instanceMethod yJ0_indexOf_7cf53, Cond.selects RJ0 yJ0_indexOf_7cf53 yJ0_indexOf_7cf53, Cond.code yJ0_indexOf_7cf53 cJ0_indexOf_7cf53 3 (some .int), Cond.fieldLink RJ0 9 "java/lang/String" "value" "[B", Cond.methodLink RJ0 492 yJ0_isLatin1_aae02, Cond.instanceMethod yJ0_isLatin1_aae02, Cond.selects RJ0 yJ0_isLatin1_aae02 yJ0_isLatin1_aae02, Cond.code yJ0_isLatin1_aae02 cJ0_isLatin1_aae02 1 (some .boolean), Cond.fieldLink RJ0 38 "java/lang/String" "COMPACT_STRINGS" "Z", Cond.fieldLink RJ0 15 "java/lang/String" "coder" "B", Cond.methodLink RJ0 505 yJ0_length_8abf5, Cond.instanceMethod yJ0_length_8abf5]
def wsX5_hall_r3 : List Cond := [Cond.selects RJ0 yJ0_length_8abf5 yJ0_length_8abf5, Cond.code yJ0_length_8abf5 cJ0_length_8abf5 1 (some .int), Cond.methodLink RJ0 335 yJ0_coder_7d493, Cond.instanceMethod yJ0_coder_7d493, Cond.selects RJ0 yJ0_coder_7d493 yJ0_coder_7d493, Cond.code yJ0_coder_7d493 cJ0_coder_7d493 1 (some .byte), Cond.methodLink RJ0 637 yJ1_indexOf_4cfef, Cond.static yJ1_indexOf_4cfef, Cond.initialized RJ1, Cond.code yJ1_indexOf_4cfef cJ1_indexOf_4cfef 4 (some .int), Cond.methodLink RJ1 92 Lib.Math.max.name, Cond.static Lib.Math.max.name, Cond.initialized "java/lang/Math", Cond.code Lib.Math.max.name Lib.Math.max.code 2 (some .int), Cond.methodLink RJ1 38 Lib.Math.min.name, Cond.static Lib.Math.min.name, Cond.code Lib.Math.min.name Lib.Math.min.code 2 (some .int), Cond.methodLink RJ1 88 yJ1_canEncode_9a6ad, Cond.static yJ1_canEncode_9a6ad, Cond.code yJ1_canEncode_9a6ad cJ1_canEncode_9a6ad 1 (some .boolean), Cond.methodLink RJ1 95 yJ1_indexOfChar_4cfef, Cond.static yJ1_indexOfChar_4cfef, Cond.code yJ1_indexOfChar_4cfef cJ1_indexOfChar_4cfef 6 (some .int), Cond.methodLink RJ0 640 yJ2_indexOf_4cfef]
def wsX5_hall_r4 : List Cond := [Cond.static yJ2_indexOf_4cfef, Cond.initialized RJ2, Cond.code yJ2_indexOf_4cfef cJ2_indexOf_4cfef 4 (some .int), Cond.methodLink RJ2 224 Lib.Math.max.name, Cond.methodLink RJ2 183 Lib.Math.min.name, Cond.constant RJ2 227 (65536), Cond.methodLink RJ2 228 yJ2_indexOfChar_4cfef, Cond.static yJ2_indexOfChar_4cfef, Cond.code yJ2_indexOfChar_4cfef cJ2_indexOfChar_4cfef 4 (some .int), Cond.methodLink RJ2 96 yJ2_checkBoundsBeginEnd_d044e, Cond.static yJ2_checkBoundsBeginEnd_d044e, Cond.code yJ2_checkBoundsBeginEnd_d044e cJ2_checkBoundsBeginEnd_d044e 3 none, Cond.methodLink RJ2 48 yJ2_length_9d52b, Cond.static yJ2_length_9d52b, Cond.code yJ2_length_9d52b cJ2_length_9d52b 1 (some .int), Cond.methodLink RJ2 241 yJ0_checkBoundsBeginEnd_23922, Cond.static yJ0_checkBoundsBeginEnd_23922, Cond.code yJ0_checkBoundsBeginEnd_23922 cJ0_checkBoundsBeginEnd_23922 3 none, Cond.fieldLink RJ0 1053 "jdk/internal/util/Preconditions" "SIOOBE_FORMATTER" "Ljava/util/function/BiFunction;", Cond.methodLink RJ0 1062 yJ3_checkFromToIndex_8c36e, Cond.static yJ3_checkFromToIndex_8c36e, Cond.initialized RJ3, Cond.code yJ3_checkFromToIndex_8c36e cJ3_checkFromToIndex_8c36e 4 (some .int), Cond.methodLink RJ2 244 yJ2_indexOfCharUnsafe_4cfef]
def wsX5_hall_r5 : List Cond := [Cond.static yJ2_indexOfCharUnsafe_4cfef, Cond.code yJ2_indexOfCharUnsafe_4cfef cJ2_indexOfCharUnsafe_4cfef 5 (some .int), Cond.methodLink RJ2 71 yJ2_getChar_3b067, Cond.static yJ2_getChar_3b067, Cond.code yJ2_getChar_3b067 cJ2_getChar_3b067 2 (some .char), Cond.fieldLink RJ2 44 "java/lang/StringUTF16" "$assertionsDisabled" "Z", Cond.fieldLink RJ2 59 "java/lang/StringUTF16" "HI_BYTE_SHIFT" "I", Cond.fieldLink RJ2 63 "java/lang/StringUTF16" "LO_BYTE_SHIFT" "I", Cond.methodLink RJ2 232 yJ2_indexOfSupplementary_4cfef, Cond.static yJ2_indexOfSupplementary_4cfef, Cond.code yJ2_indexOfSupplementary_4cfef cJ2_indexOfSupplementary_4cfef 7 (some .int), Cond.methodLink RJ2 164 yJ11_isValidCodePoint_9a6ad, Cond.static yJ11_isValidCodePoint_9a6ad, Cond.initialized RJ11, Cond.code yJ11_isValidCodePoint_9a6ad cJ11_isValidCodePoint_9a6ad 2 (some .boolean), Cond.methodLink RJ2 157 yJ11_highSurrogate_5068e, Cond.static yJ11_highSurrogate_5068e, Cond.code yJ11_highSurrogate_5068e cJ11_highSurrogate_5068e 1 (some .char), Cond.constant RJ11 110 (55232), Cond.methodLink RJ2 161 yJ11_lowSurrogate_5068e, Cond.static yJ11_lowSurrogate_5068e, Cond.code yJ11_lowSurrogate_5068e cJ11_lowSurrogate_5068e 1 (some .char), Cond.constant RJ11 76 (56320), Cond.methodLink RX4 38 yX4_followsRow]
def wsX5_hall_r6 : List Cond := [Cond.static yX4_followsRow, Cond.code yX4_followsRow cX4_followsRow 2 (some .boolean), Cond.methodLink RX5 76 yX2_read, Cond.instanceMethod yX2_read, Cond.selects RX2 yX2_read yX2_read, Cond.initialized RX2, Cond.code yX2_read cX2_read 3 none, Cond.methodLink RX2 33 Lib.Math.min.name, Cond.fieldLink RX2 21 "ClappedWrong$Hall" "rows" "I", Cond.fieldLink RX2 9 "ClappedWrong$Hall" "kinds" "[I", Cond.fieldLink RX2 15 "ClappedWrong$Hall" "palms" "[I", Cond.fieldLink RX2 18 "ClappedWrong$Hall" "strengths" "[I", Cond.fieldLink RX2 25 "ClappedWrong$Hall" "late" "I", Cond.methodLink RX2 39 yX4_codeAt, Cond.methodLink RX2 43 yX4_kindBy, Cond.methodLink RX5 65 yX4_wipe, Cond.instanceMethod yX4_wipe, Cond.selects RX4 yX4_wipe yX4_wipe, Cond.code yX4_wipe cX4_wipe 1 none, Cond.methodLink RX5 80 yX3_startIn, Cond.instanceMethod yX3_startIn, Cond.selects RX3 yX3_startIn yX3_startIn, Cond.initialized RX3, Cond.code yX3_startIn cX3_startIn 2 none]
def wsX5_hall_r7 : List Cond := [Cond.fieldLink RX3 12 "ClappedWrong$Night" "crowd" "LClappedWrong$Crowd;", Cond.fieldLink RX3 22 "ClappedWrong$Night" "recorded" "I", Cond.fieldLink RX3 26 "ClappedWrong$Night" "barsGone" "I", Cond.fieldLink RX3 29 "ClappedWrong$Night" "beatsLeftOut" "I", Cond.methodLink RX3 37 yX0_beginWith, Cond.instanceMethod yX0_beginWith, Cond.selects RX0 yX0_beginWith yX0_beginWith, Cond.initialized RX0, Cond.code yX0_beginWith cX0_beginWith 4 none, Cond.fieldLink RX0 9 "ClappedWrong$Crowd" "sounds" "[I", Cond.fieldLink RX0 15 "ClappedWrong$Crowd" "clapped" "[I", Cond.fieldLink RX0 21 "ClappedWrong$Crowd" "armRows" "I"]
def wsX5_hall : List Cond := .code yX5_hall cX5_hall 1 (some .int) :: ((wsX5_hall_r1 ++ (wsX5_hall_r2 ++ (wsX5_hall_r3 ++ (wsX5_hall_r4 ++ (wsX5_hall_r5 ++ (wsX5_hall_r6 ++ wsX5_hall_r7)))))) ++ wsX50 ++ wsX20 ++ wsX40 ++ wsX30 ++ wsX00)
def wsX5_heard : List Cond := .code yX5_heard cX5_heard 3 (some .int) :: ([.fieldLink RX5 19 "ClappedWrong" "room" "LClappedWrong$Hall;", .methodLink RX5 196 yX2_lag, .instanceMethod yX2_lag, .selects RX2 yX2_lag yX2_lag, .initialized RX2, .code yX2_lag cX2_lag 2 (some .int), .fieldLink RX2 25 "ClappedWrong$Hall" "late" "I", .methodLink RX5 199 yX5_swapped, .static yX5_swapped, .initialized RX5, .code yX5_swapped cX5_swapped 1 (some .int)] ++ wsX50 ++ wsX20)
def wsX5_aboutRow_r1 : List Cond := [Cond.fieldLink RX5 26 "ClappedWrong" "night" "LClappedWrong$Night;", Cond.fieldLink RX5 19 "ClappedWrong" "room" "LClappedWrong$Hall;", Cond.methodLink RX5 202 yX2_kindOf, Cond.instanceMethod yX2_kindOf, Cond.selects RX2 yX2_kindOf yX2_kindOf, Cond.initialized RX2, Cond.code yX2_kindOf cX2_kindOf 2 (some .int), Cond.fieldLink RX2 21 "ClappedWrong$Hall" "rows" "I", Cond.fieldLink RX2 9 "ClappedWrong$Hall" "kinds" "[I", Cond.methodLink RX5 205 yX2_palmsOf, Cond.instanceMethod yX2_palmsOf, Cond.selects RX2 yX2_palmsOf yX2_palmsOf, Cond.code yX2_palmsOf cX2_palmsOf 2 (some .int), Cond.fieldLink RX2 15 "ClappedWrong$Hall" "palms" "[I", Cond.methodLink RX5 208 yX2_strengthOf, Cond.instanceMethod yX2_strengthOf, Cond.selects RX2 yX2_strengthOf yX2_strengthOf, Cond.code yX2_strengthOf cX2_strengthOf 2 (some .int), Cond.fieldLink RX2 18 "ClappedWrong$Hall" "strengths" "[I", Cond.methodLink RX5 196 yX2_lag, Cond.instanceMethod yX2_lag, Cond.selects RX2 yX2_lag yX2_lag, Cond.code yX2_lag cX2_lag 2 (some .int), Cond.fieldLink RX2 25 "ClappedWrong$Hall" "late" "I"]
def wsX5_aboutRow_r2 : List Cond := [Cond.methodLink RX5 101 yX0_soundOf, Cond.instanceMethod yX0_soundOf, Cond.selects RX0 yX0_soundOf yX0_soundOf, Cond.initialized RX0, Cond.code yX0_soundOf cX0_soundOf 2 (some .int), Cond.fieldLink RX0 9 "ClappedWrong$Crowd" "sounds" "[I", Cond.methodLink RX5 105 yX5_heard, Cond.instanceMethod yX5_heard, Cond.selects RX5 yX5_heard yX5_heard, Cond.initialized RX5, Cond.code yX5_heard cX5_heard 3 (some .int), Cond.methodLink RX5 199 yX5_swapped, Cond.static yX5_swapped, Cond.code yX5_swapped cX5_swapped 1 (some .int), Cond.methodLink RX5 211 yX0_clappedOf, Cond.instanceMethod yX0_clappedOf, Cond.selects RX0 yX0_clappedOf yX0_clappedOf, Cond.code yX0_clappedOf cX0_clappedOf 2 (some .int), Cond.fieldLink RX0 15 "ClappedWrong$Crowd" "clapped" "[I", Cond.methodLink RX5 214 yX0_isTired, Cond.instanceMethod yX0_isTired, Cond.selects RX0 yX0_isTired yX0_isTired, Cond.code yX0_isTired cX0_isTired 4 (some .boolean), Cond.methodLink RX0 25 yX2_strengthOf]
def wsX5_aboutRow_r3 : List Cond := [Cond.methodLink RX0 31 yX0_clappedOf, Cond.methodLink RX5 218 yX5_oneIf, Cond.static yX5_oneIf, Cond.code yX5_oneIf cX5_oneIf 1 (some .int), Cond.methodLink RX5 222 yX0_seesArm, Cond.instanceMethod yX0_seesArm, Cond.selects RX0 yX0_seesArm yX0_seesArm, Cond.code yX0_seesArm cX0_seesArm 2 (some .boolean), Cond.fieldLink RX0 21 "ClappedWrong$Crowd" "armRows" "I"]
def wsX5_aboutRow : List Cond := .code yX5_aboutRow cX5_aboutRow 4 (some .int) :: ((wsX5_aboutRow_r1 ++ (wsX5_aboutRow_r2 ++ wsX5_aboutRow_r3)) ++ wsX50 ++ wsX30 ++ wsX20 ++ wsX00)
def wsX5_about_r1 : List Cond := [Cond.fieldLink RX5 19 "ClappedWrong" "room" "LClappedWrong$Hall;", Cond.methodLink RX5 87 yX2_has, Cond.instanceMethod yX2_has, Cond.selects RX2 yX2_has yX2_has, Cond.initialized RX2, Cond.code yX2_has cX2_has 2 (some .boolean), Cond.fieldLink RX2 21 "ClappedWrong$Hall" "rows" "I", Cond.methodLink RX5 54 yX5_within, Cond.static yX5_within, Cond.initialized RX5, Cond.code yX5_within cX5_within 3 (some .boolean), Cond.methodLink RX5 90 yX5_aboutRow, Cond.instanceMethod yX5_aboutRow, Cond.selects RX5 yX5_aboutRow yX5_aboutRow, Cond.code yX5_aboutRow cX5_aboutRow 4 (some .int), Cond.fieldLink RX5 26 "ClappedWrong" "night" "LClappedWrong$Night;", Cond.methodLink RX5 202 yX2_kindOf, Cond.instanceMethod yX2_kindOf, Cond.selects RX2 yX2_kindOf yX2_kindOf, Cond.code yX2_kindOf cX2_kindOf 2 (some .int), Cond.fieldLink RX2 9 "ClappedWrong$Hall" "kinds" "[I", Cond.methodLink RX5 205 yX2_palmsOf, Cond.instanceMethod yX2_palmsOf, Cond.selects RX2 yX2_palmsOf yX2_palmsOf]
def wsX5_about_r2 : List Cond := [Cond.code yX2_palmsOf cX2_palmsOf 2 (some .int), Cond.fieldLink RX2 15 "ClappedWrong$Hall" "palms" "[I", Cond.methodLink RX5 208 yX2_strengthOf, Cond.instanceMethod yX2_strengthOf, Cond.selects RX2 yX2_strengthOf yX2_strengthOf, Cond.code yX2_strengthOf cX2_strengthOf 2 (some .int), Cond.fieldLink RX2 18 "ClappedWrong$Hall" "strengths" "[I", Cond.methodLink RX5 196 yX2_lag, Cond.instanceMethod yX2_lag, Cond.selects RX2 yX2_lag yX2_lag, Cond.code yX2_lag cX2_lag 2 (some .int), Cond.fieldLink RX2 25 "ClappedWrong$Hall" "late" "I", Cond.methodLink RX5 101 yX0_soundOf, Cond.instanceMethod yX0_soundOf, Cond.selects RX0 yX0_soundOf yX0_soundOf, Cond.initialized RX0, Cond.code yX0_soundOf cX0_soundOf 2 (some .int), Cond.fieldLink RX0 9 "ClappedWrong$Crowd" "sounds" "[I", Cond.methodLink RX5 105 yX5_heard, Cond.instanceMethod yX5_heard, Cond.selects RX5 yX5_heard yX5_heard, Cond.code yX5_heard cX5_heard 3 (some .int), Cond.methodLink RX5 199 yX5_swapped, Cond.static yX5_swapped]
def wsX5_about_r3 : List Cond := [Cond.code yX5_swapped cX5_swapped 1 (some .int), Cond.methodLink RX5 211 yX0_clappedOf, Cond.instanceMethod yX0_clappedOf, Cond.selects RX0 yX0_clappedOf yX0_clappedOf, Cond.code yX0_clappedOf cX0_clappedOf 2 (some .int), Cond.fieldLink RX0 15 "ClappedWrong$Crowd" "clapped" "[I", Cond.methodLink RX5 214 yX0_isTired, Cond.instanceMethod yX0_isTired, Cond.selects RX0 yX0_isTired yX0_isTired, Cond.code yX0_isTired cX0_isTired 4 (some .boolean), Cond.methodLink RX0 25 yX2_strengthOf, Cond.methodLink RX0 31 yX0_clappedOf, Cond.methodLink RX5 218 yX5_oneIf, Cond.static yX5_oneIf, Cond.code yX5_oneIf cX5_oneIf 1 (some .int), Cond.methodLink RX5 222 yX0_seesArm, Cond.instanceMethod yX0_seesArm, Cond.selects RX0 yX0_seesArm yX0_seesArm, Cond.code yX0_seesArm cX0_seesArm 2 (some .boolean), Cond.fieldLink RX0 21 "ClappedWrong$Crowd" "armRows" "I"]
def wsX5_about : List Cond := .code yX5_about cX5_about 3 (some .int) :: ((wsX5_about_r1 ++ (wsX5_about_r2 ++ wsX5_about_r3)) ++ wsX50 ++ wsX20 ++ wsX30 ++ wsX00)
def wsX5_as : List Cond := .code yX5_as cX5_as 3 (some .int) :: ([.fieldLink RX5 19 "ClappedWrong" "room" "LClappedWrong$Hall;", .methodLink RX5 87 yX2_has, .instanceMethod yX2_has, .selects RX2 yX2_has yX2_has, .initialized RX2, .code yX2_has cX2_has 2 (some .boolean), .fieldLink RX2 21 "ClappedWrong$Hall" "rows" "I", .methodLink RX5 54 yX5_within, .static yX5_within, .initialized RX5, .code yX5_within cX5_within 3 (some .boolean), .methodLink RX5 94 yX2_isOf, .instanceMethod yX2_isOf, .selects RX2 yX2_isOf yX2_isOf, .code yX2_isOf cX2_isOf 4 (some .boolean), .methodLink RX2 46 yX2_kindOf, .instanceMethod yX2_kindOf, .selects RX2 yX2_kindOf yX2_kindOf, .code yX2_kindOf cX2_kindOf 2 (some .int), .fieldLink RX2 9 "ClappedWrong$Hall" "kinds" "[I"] ++ wsX50 ++ wsX20)
def wsX5_clap_r1 : List Cond := [Cond.fieldLink RX5 19 "ClappedWrong" "room" "LClappedWrong$Hall;", Cond.fieldLink RX5 26 "ClappedWrong" "night" "LClappedWrong$Night;", Cond.methodLink RX5 87 yX2_has, Cond.instanceMethod yX2_has, Cond.selects RX2 yX2_has yX2_has, Cond.initialized RX2, Cond.code yX2_has cX2_has 2 (some .boolean), Cond.fieldLink RX2 21 "ClappedWrong$Hall" "rows" "I", Cond.methodLink RX5 54 yX5_within, Cond.static yX5_within, Cond.initialized RX5, Cond.code yX5_within cX5_within 3 (some .boolean), Cond.methodLink RX5 101 yX0_soundOf, Cond.instanceMethod yX0_soundOf, Cond.selects RX0 yX0_soundOf yX0_soundOf, Cond.initialized RX0, Cond.code yX0_soundOf cX0_soundOf 2 (some .int), Cond.fieldLink RX0 9 "ClappedWrong$Crowd" "sounds" "[I", Cond.methodLink RX5 105 yX5_heard, Cond.instanceMethod yX5_heard, Cond.selects RX5 yX5_heard yX5_heard, Cond.code yX5_heard cX5_heard 3 (some .int), Cond.methodLink RX5 196 yX2_lag, Cond.instanceMethod yX2_lag]
def wsX5_clap_r2 : List Cond := [Cond.selects RX2 yX2_lag yX2_lag, Cond.code yX2_lag cX2_lag 2 (some .int), Cond.fieldLink RX2 25 "ClappedWrong$Hall" "late" "I", Cond.methodLink RX5 199 yX5_swapped, Cond.static yX5_swapped, Cond.code yX5_swapped cX5_swapped 1 (some .int), Cond.methodLink RX5 108 yX0_let, Cond.instanceMethod yX0_let, Cond.selects RX0 yX0_let yX0_let, Cond.code yX0_let cX0_let 3 none, Cond.fieldLink RX0 15 "ClappedWrong$Crowd" "clapped" "[I"]
def wsX5_clap : List Cond := .code yX5_clap cX5_clap 4 (some .int) :: ((wsX5_clap_r1 ++ wsX5_clap_r2) ++ wsX50 ++ wsX30 ++ wsX20 ++ wsX00)
def wsX5_arm : List Cond := .code yX5_arm cX5_arm 3 (some .int) :: ([.fieldLink RX5 19 "ClappedWrong" "room" "LClappedWrong$Hall;", .fieldLink RX5 26 "ClappedWrong" "night" "LClappedWrong$Night;", .methodLink RX5 54 yX5_within, .static yX5_within, .initialized RX5, .code yX5_within cX5_within 3 (some .boolean), .methodLink RX5 112 yX2_isThere, .instanceMethod yX2_isThere, .selects RX2 yX2_isThere yX2_isThere, .initialized RX2, .code yX2_isThere cX2_isThere 1 (some .boolean), .fieldLink RX2 21 "ClappedWrong$Hall" "rows" "I"] ++ wsX50 ++ wsX30 ++ wsX00 ++ wsX20)
def wsX5_bar_r1 : List Cond := [Cond.fieldLink RX5 19 "ClappedWrong" "room" "LClappedWrong$Hall;", Cond.fieldLink RX5 26 "ClappedWrong" "night" "LClappedWrong$Night;", Cond.methodLink RX5 112 yX2_isThere, Cond.instanceMethod yX2_isThere, Cond.selects RX2 yX2_isThere yX2_isThere, Cond.initialized RX2, Cond.code yX2_isThere cX2_isThere 1 (some .boolean), Cond.fieldLink RX2 21 "ClappedWrong$Hall" "rows" "I", Cond.methodLink RX5 118 yX0_goOn, Cond.instanceMethod yX0_goOn, Cond.selects RX0 yX0_goOn yX0_goOn, Cond.initialized RX0, Cond.code yX0_goOn cX0_goOn 4 (some .boolean), Cond.fieldLink RX0 18 "ClappedWrong$Crowd" "next" "[I", Cond.fieldLink RX0 9 "ClappedWrong$Crowd" "sounds" "[I", Cond.fieldLink RX0 15 "ClappedWrong$Crowd" "clapped" "[I", Cond.methodLink RX0 37 yX0_soundNext, Cond.instanceMethod yX0_soundNext, Cond.selects RX0 yX0_soundNext yX0_soundNext, Cond.code yX0_soundNext cX0_soundNext 4 (some .int), Cond.methodLink RX0 49 yX0_isTired, Cond.instanceMethod yX0_isTired, Cond.selects RX0 yX0_isTired yX0_isTired, Cond.code yX0_isTired cX0_isTired 4 (some .boolean)]
def wsX5_bar_r2 : List Cond := [Cond.methodLink RX0 25 yX2_strengthOf, Cond.instanceMethod yX2_strengthOf, Cond.selects RX2 yX2_strengthOf yX2_strengthOf, Cond.code yX2_strengthOf cX2_strengthOf 2 (some .int), Cond.fieldLink RX2 18 "ClappedWrong$Hall" "strengths" "[I", Cond.methodLink RX0 31 yX0_clappedOf, Cond.instanceMethod yX0_clappedOf, Cond.selects RX0 yX0_clappedOf yX0_clappedOf, Cond.code yX0_clappedOf cX0_clappedOf 2 (some .int), Cond.methodLink RX0 53 yX0_soundOf, Cond.instanceMethod yX0_soundOf, Cond.selects RX0 yX0_soundOf yX0_soundOf, Cond.code yX0_soundOf cX0_soundOf 2 (some .int), Cond.methodLink RX0 56 yX2_isOf, Cond.instanceMethod yX2_isOf, Cond.selects RX2 yX2_isOf yX2_isOf, Cond.code yX2_isOf cX2_isOf 4 (some .boolean), Cond.methodLink RX2 46 yX2_kindOf, Cond.instanceMethod yX2_kindOf, Cond.selects RX2 yX2_kindOf yX2_kindOf, Cond.code yX2_kindOf cX2_kindOf 2 (some .int), Cond.fieldLink RX2 9 "ClappedWrong$Hall" "kinds" "[I", Cond.methodLink RX0 60 yX2_kindOf, Cond.methodLink RX0 63 yX0_seesArm]
def wsX5_bar_r3 : List Cond := [Cond.instanceMethod yX0_seesArm, Cond.selects RX0 yX0_seesArm yX0_seesArm, Cond.code yX0_seesArm cX0_seesArm 2 (some .boolean), Cond.fieldLink RX0 21 "ClappedWrong$Crowd" "armRows" "I", Cond.methodLink RX0 67 yX0_soundOfMore, Cond.instanceMethod yX0_soundOfMore, Cond.selects RX0 yX0_soundOfMore yX0_soundOfMore, Cond.code yX0_soundOfMore cX0_soundOfMore 6 (some .int), Cond.methodLink RX0 70 yX0_palmsThatSound, Cond.instanceMethod yX0_palmsThatSound, Cond.selects RX0 yX0_palmsThatSound yX0_palmsThatSound, Cond.code yX0_palmsThatSound cX0_palmsThatSound 4 (some .int), Cond.methodLink RX0 41 yX0_let, Cond.instanceMethod yX0_let, Cond.selects RX0 yX0_let yX0_let, Cond.code yX0_let cX0_let 3 none, Cond.static yX5_oneIf, Cond.initialized RX5, Cond.code yX5_oneIf cX5_oneIf 1 (some .int), Cond.methodLink RX5 125 yX0_palmsRight, Cond.instanceMethod yX0_palmsRight, Cond.selects RX0 yX0_palmsRight yX0_palmsRight, Cond.code yX0_palmsRight cX0_palmsRight 4 (some .int), Cond.methodLink RX0 80 yX2_palmsOf]
def wsX5_bar_r4 : List Cond := [Cond.instanceMethod yX2_palmsOf, Cond.selects RX2 yX2_palmsOf yX2_palmsOf, Cond.code yX2_palmsOf cX2_palmsOf 2 (some .int), Cond.fieldLink RX2 15 "ClappedWrong$Hall" "palms" "[I"]
def wsX5_bar : List Cond := .code yX5_bar cX5_bar 1 (some .int) :: ((wsX5_bar_r1 ++ (wsX5_bar_r2 ++ (wsX5_bar_r3 ++ wsX5_bar_r4))) ++ wsX50 ++ wsX30 ++ wsX20 ++ wsX00)
def wsX5_skip_r1 : List Cond := [Cond.fieldLink RX5 19 "ClappedWrong" "room" "LClappedWrong$Hall;", Cond.fieldLink RX5 26 "ClappedWrong" "night" "LClappedWrong$Night;", Cond.methodLink RX5 112 yX2_isThere, Cond.instanceMethod yX2_isThere, Cond.selects RX2 yX2_isThere yX2_isThere, Cond.initialized RX2, Cond.code yX2_isThere cX2_isThere 1 (some .boolean), Cond.fieldLink RX2 21 "ClappedWrong$Hall" "rows" "I", Cond.methodLink RX5 129 yX0_leaveBeatOut, Cond.instanceMethod yX0_leaveBeatOut, Cond.selects RX0 yX0_leaveBeatOut yX0_leaveBeatOut, Cond.initialized RX0, Cond.code yX0_leaveBeatOut cX0_leaveBeatOut 3 none, Cond.fieldLink RX0 9 "ClappedWrong$Crowd" "sounds" "[I", Cond.methodLink RX0 60 yX2_kindOf, Cond.instanceMethod yX2_kindOf, Cond.selects RX2 yX2_kindOf yX2_kindOf, Cond.code yX2_kindOf cX2_kindOf 2 (some .int), Cond.fieldLink RX2 9 "ClappedWrong$Hall" "kinds" "[I", Cond.static yX5_swapped, Cond.initialized RX5, Cond.code yX5_swapped cX5_swapped 1 (some .int), Cond.methodLink RX5 125 yX0_palmsRight, Cond.instanceMethod yX0_palmsRight]
def wsX5_skip_r2 : List Cond := [Cond.selects RX0 yX0_palmsRight yX0_palmsRight, Cond.code yX0_palmsRight cX0_palmsRight 4 (some .int), Cond.methodLink RX0 80 yX2_palmsOf, Cond.instanceMethod yX2_palmsOf, Cond.selects RX2 yX2_palmsOf yX2_palmsOf, Cond.code yX2_palmsOf cX2_palmsOf 2 (some .int), Cond.fieldLink RX2 15 "ClappedWrong$Hall" "palms" "[I"]
def wsX5_skip : List Cond := .code yX5_skip cX5_skip 1 (some .int) :: ((wsX5_skip_r1 ++ wsX5_skip_r2) ++ wsX50 ++ wsX30 ++ wsX20 ++ wsX00)
def wsX5_loud : List Cond := .code yX5_loud cX5_loud 3 (some .int) :: ([.fieldLink RX5 19 "ClappedWrong" "room" "LClappedWrong$Hall;", .fieldLink RX5 26 "ClappedWrong" "night" "LClappedWrong$Night;", .methodLink RX5 87 yX2_has, .instanceMethod yX2_has, .selects RX2 yX2_has yX2_has, .initialized RX2, .code yX2_has cX2_has 2 (some .boolean), .fieldLink RX2 21 "ClappedWrong$Hall" "rows" "I", .methodLink RX5 54 yX5_within, .static yX5_within, .initialized RX5, .code yX5_within cX5_within 3 (some .boolean), .methodLink RX5 135 yX0_loudness, .instanceMethod yX0_loudness, .selects RX0 yX0_loudness yX0_loudness, .initialized RX0, .code yX0_loudness cX0_loudness 7 (some .int), .methodLink RX0 70 yX0_palmsThatSound, .instanceMethod yX0_palmsThatSound, .selects RX0 yX0_palmsThatSound yX0_palmsThatSound, .code yX0_palmsThatSound cX0_palmsThatSound 4 (some .int), .fieldLink RX0 9 "ClappedWrong$Crowd" "sounds" "[I"] ++ wsX50 ++ wsX30 ++ wsX20 ++ wsX00)
def wsX5_barsToRest_r1 : List Cond := [Cond.fieldLink RX5 36 "ClappedWrong" "trial" "LClappedWrong$Crowd;", Cond.fieldLink RX5 26 "ClappedWrong" "night" "LClappedWrong$Night;", Cond.fieldLink RX5 19 "ClappedWrong" "room" "LClappedWrong$Hall;", Cond.methodLink RX5 225 yX0_takeFrom, Cond.instanceMethod yX0_takeFrom, Cond.selects RX0 yX0_takeFrom yX0_takeFrom, Cond.initialized RX0, Cond.code yX0_takeFrom cX0_takeFrom 3 none, Cond.fieldLink RX0 9 "ClappedWrong$Crowd" "sounds" "[I", Cond.fieldLink RX0 15 "ClappedWrong$Crowd" "clapped" "[I", Cond.fieldLink RX0 21 "ClappedWrong$Crowd" "armRows" "I", Cond.methodLink RX5 118 yX0_goOn, Cond.instanceMethod yX0_goOn, Cond.selects RX0 yX0_goOn yX0_goOn, Cond.code yX0_goOn cX0_goOn 4 (some .boolean), Cond.fieldLink RX0 18 "ClappedWrong$Crowd" "next" "[I", Cond.methodLink RX0 37 yX0_soundNext, Cond.instanceMethod yX0_soundNext, Cond.selects RX0 yX0_soundNext yX0_soundNext, Cond.code yX0_soundNext cX0_soundNext 4 (some .int), Cond.methodLink RX0 49 yX0_isTired, Cond.instanceMethod yX0_isTired, Cond.selects RX0 yX0_isTired yX0_isTired, Cond.code yX0_isTired cX0_isTired 4 (some .boolean)]
def wsX5_barsToRest_r2 : List Cond := [Cond.methodLink RX0 25 yX2_strengthOf, Cond.instanceMethod yX2_strengthOf, Cond.selects RX2 yX2_strengthOf yX2_strengthOf, Cond.initialized RX2, Cond.code yX2_strengthOf cX2_strengthOf 2 (some .int), Cond.fieldLink RX2 21 "ClappedWrong$Hall" "rows" "I", Cond.fieldLink RX2 18 "ClappedWrong$Hall" "strengths" "[I", Cond.methodLink RX0 31 yX0_clappedOf, Cond.instanceMethod yX0_clappedOf, Cond.selects RX0 yX0_clappedOf yX0_clappedOf, Cond.code yX0_clappedOf cX0_clappedOf 2 (some .int), Cond.methodLink RX0 53 yX0_soundOf, Cond.instanceMethod yX0_soundOf, Cond.selects RX0 yX0_soundOf yX0_soundOf, Cond.code yX0_soundOf cX0_soundOf 2 (some .int), Cond.methodLink RX0 56 yX2_isOf, Cond.instanceMethod yX2_isOf, Cond.selects RX2 yX2_isOf yX2_isOf, Cond.code yX2_isOf cX2_isOf 4 (some .boolean), Cond.methodLink RX2 46 yX2_kindOf, Cond.instanceMethod yX2_kindOf, Cond.selects RX2 yX2_kindOf yX2_kindOf, Cond.code yX2_kindOf cX2_kindOf 2 (some .int), Cond.fieldLink RX2 9 "ClappedWrong$Hall" "kinds" "[I"]
def wsX5_barsToRest_r3 : List Cond := [Cond.methodLink RX0 60 yX2_kindOf, Cond.methodLink RX0 63 yX0_seesArm, Cond.instanceMethod yX0_seesArm, Cond.selects RX0 yX0_seesArm yX0_seesArm, Cond.code yX0_seesArm cX0_seesArm 2 (some .boolean), Cond.methodLink RX0 67 yX0_soundOfMore, Cond.instanceMethod yX0_soundOfMore, Cond.selects RX0 yX0_soundOfMore yX0_soundOfMore, Cond.code yX0_soundOfMore cX0_soundOfMore 6 (some .int), Cond.methodLink RX0 70 yX0_palmsThatSound, Cond.instanceMethod yX0_palmsThatSound, Cond.selects RX0 yX0_palmsThatSound yX0_palmsThatSound, Cond.code yX0_palmsThatSound cX0_palmsThatSound 4 (some .int), Cond.methodLink RX0 41 yX0_let, Cond.instanceMethod yX0_let, Cond.selects RX0 yX0_let yX0_let, Cond.code yX0_let cX0_let 3 none, Cond.static yX5_oneIf, Cond.initialized RX5, Cond.code yX5_oneIf cX5_oneIf 1 (some .int)]
def wsX5_barsToRest : List Cond := .code yX5_barsToRest cX5_barsToRest 2 (some .int) :: ((wsX5_barsToRest_r1 ++ (wsX5_barsToRest_r2 ++ wsX5_barsToRest_r3)) ++ wsX50 ++ wsX30 ++ wsX00 ++ wsX20)
def wsX5_rest_r1 : List Cond := [Cond.fieldLink RX5 19 "ClappedWrong" "room" "LClappedWrong$Hall;", Cond.methodLink RX5 112 yX2_isThere, Cond.instanceMethod yX2_isThere, Cond.selects RX2 yX2_isThere yX2_isThere, Cond.initialized RX2, Cond.code yX2_isThere cX2_isThere 1 (some .boolean), Cond.fieldLink RX2 21 "ClappedWrong$Hall" "rows" "I", Cond.methodLink RX5 139 yX5_barsToRest, Cond.instanceMethod yX5_barsToRest, Cond.selects RX5 yX5_barsToRest yX5_barsToRest, Cond.initialized RX5, Cond.code yX5_barsToRest cX5_barsToRest 2 (some .int), Cond.fieldLink RX5 36 "ClappedWrong" "trial" "LClappedWrong$Crowd;", Cond.fieldLink RX5 26 "ClappedWrong" "night" "LClappedWrong$Night;", Cond.methodLink RX5 225 yX0_takeFrom, Cond.instanceMethod yX0_takeFrom, Cond.selects RX0 yX0_takeFrom yX0_takeFrom, Cond.initialized RX0, Cond.code yX0_takeFrom cX0_takeFrom 3 none, Cond.fieldLink RX0 9 "ClappedWrong$Crowd" "sounds" "[I", Cond.fieldLink RX0 15 "ClappedWrong$Crowd" "clapped" "[I", Cond.fieldLink RX0 21 "ClappedWrong$Crowd" "armRows" "I", Cond.methodLink RX5 118 yX0_goOn, Cond.instanceMethod yX0_goOn]
def wsX5_rest_r2 : List Cond := [Cond.selects RX0 yX0_goOn yX0_goOn, Cond.code yX0_goOn cX0_goOn 4 (some .boolean), Cond.fieldLink RX0 18 "ClappedWrong$Crowd" "next" "[I", Cond.methodLink RX0 37 yX0_soundNext, Cond.instanceMethod yX0_soundNext, Cond.selects RX0 yX0_soundNext yX0_soundNext, Cond.code yX0_soundNext cX0_soundNext 4 (some .int), Cond.methodLink RX0 49 yX0_isTired, Cond.instanceMethod yX0_isTired, Cond.selects RX0 yX0_isTired yX0_isTired, Cond.code yX0_isTired cX0_isTired 4 (some .boolean), Cond.methodLink RX0 25 yX2_strengthOf, Cond.instanceMethod yX2_strengthOf, Cond.selects RX2 yX2_strengthOf yX2_strengthOf, Cond.code yX2_strengthOf cX2_strengthOf 2 (some .int), Cond.fieldLink RX2 18 "ClappedWrong$Hall" "strengths" "[I", Cond.methodLink RX0 31 yX0_clappedOf, Cond.instanceMethod yX0_clappedOf, Cond.selects RX0 yX0_clappedOf yX0_clappedOf, Cond.code yX0_clappedOf cX0_clappedOf 2 (some .int), Cond.methodLink RX0 53 yX0_soundOf, Cond.instanceMethod yX0_soundOf, Cond.selects RX0 yX0_soundOf yX0_soundOf, Cond.code yX0_soundOf cX0_soundOf 2 (some .int)]
def wsX5_rest_r3 : List Cond := [Cond.methodLink RX0 56 yX2_isOf, Cond.instanceMethod yX2_isOf, Cond.selects RX2 yX2_isOf yX2_isOf, Cond.code yX2_isOf cX2_isOf 4 (some .boolean), Cond.methodLink RX2 46 yX2_kindOf, Cond.instanceMethod yX2_kindOf, Cond.selects RX2 yX2_kindOf yX2_kindOf, Cond.code yX2_kindOf cX2_kindOf 2 (some .int), Cond.fieldLink RX2 9 "ClappedWrong$Hall" "kinds" "[I", Cond.methodLink RX0 60 yX2_kindOf, Cond.methodLink RX0 63 yX0_seesArm, Cond.instanceMethod yX0_seesArm, Cond.selects RX0 yX0_seesArm yX0_seesArm, Cond.code yX0_seesArm cX0_seesArm 2 (some .boolean), Cond.methodLink RX0 67 yX0_soundOfMore, Cond.instanceMethod yX0_soundOfMore, Cond.selects RX0 yX0_soundOfMore yX0_soundOfMore, Cond.code yX0_soundOfMore cX0_soundOfMore 6 (some .int), Cond.methodLink RX0 70 yX0_palmsThatSound, Cond.instanceMethod yX0_palmsThatSound, Cond.selects RX0 yX0_palmsThatSound yX0_palmsThatSound, Cond.code yX0_palmsThatSound cX0_palmsThatSound 4 (some .int), Cond.methodLink RX0 41 yX0_let, Cond.instanceMethod yX0_let]
def wsX5_rest_r4 : List Cond := [Cond.selects RX0 yX0_let yX0_let, Cond.code yX0_let cX0_let 3 none, Cond.static yX5_oneIf, Cond.code yX5_oneIf cX5_oneIf 1 (some .int)]
def wsX5_rest : List Cond := .code yX5_rest cX5_rest 1 (some .int) :: ((wsX5_rest_r1 ++ (wsX5_rest_r2 ++ (wsX5_rest_r3 ++ wsX5_rest_r4))) ++ wsX50 ++ wsX20 ++ wsX30 ++ wsX00)
def wsX5_rightBehind_r1 : List Cond := [Cond.fieldLink RX5 36 "ClappedWrong" "trial" "LClappedWrong$Crowd;", Cond.fieldLink RX5 26 "ClappedWrong" "night" "LClappedWrong$Night;", Cond.fieldLink RX5 19 "ClappedWrong" "room" "LClappedWrong$Hall;", Cond.methodLink RX5 225 yX0_takeFrom, Cond.instanceMethod yX0_takeFrom, Cond.selects RX0 yX0_takeFrom yX0_takeFrom, Cond.initialized RX0, Cond.code yX0_takeFrom cX0_takeFrom 3 none, Cond.fieldLink RX0 9 "ClappedWrong$Crowd" "sounds" "[I", Cond.fieldLink RX0 15 "ClappedWrong$Crowd" "clapped" "[I", Cond.fieldLink RX0 21 "ClappedWrong$Crowd" "armRows" "I", Cond.methodLink RX5 129 yX0_leaveBeatOut, Cond.instanceMethod yX0_leaveBeatOut, Cond.selects RX0 yX0_leaveBeatOut yX0_leaveBeatOut, Cond.code yX0_leaveBeatOut cX0_leaveBeatOut 3 none, Cond.methodLink RX0 60 yX2_kindOf, Cond.instanceMethod yX2_kindOf, Cond.selects RX2 yX2_kindOf yX2_kindOf, Cond.initialized RX2, Cond.code yX2_kindOf cX2_kindOf 2 (some .int), Cond.fieldLink RX2 21 "ClappedWrong$Hall" "rows" "I", Cond.fieldLink RX2 9 "ClappedWrong$Hall" "kinds" "[I", Cond.static yX5_swapped, Cond.initialized RX5]
def wsX5_rightBehind_r2 : List Cond := [Cond.code yX5_swapped cX5_swapped 1 (some .int), Cond.methodLink RX5 118 yX0_goOn, Cond.instanceMethod yX0_goOn, Cond.selects RX0 yX0_goOn yX0_goOn, Cond.code yX0_goOn cX0_goOn 4 (some .boolean), Cond.fieldLink RX0 18 "ClappedWrong$Crowd" "next" "[I", Cond.methodLink RX0 37 yX0_soundNext, Cond.instanceMethod yX0_soundNext, Cond.selects RX0 yX0_soundNext yX0_soundNext, Cond.code yX0_soundNext cX0_soundNext 4 (some .int), Cond.methodLink RX0 49 yX0_isTired, Cond.instanceMethod yX0_isTired, Cond.selects RX0 yX0_isTired yX0_isTired, Cond.code yX0_isTired cX0_isTired 4 (some .boolean), Cond.methodLink RX0 25 yX2_strengthOf, Cond.instanceMethod yX2_strengthOf, Cond.selects RX2 yX2_strengthOf yX2_strengthOf, Cond.code yX2_strengthOf cX2_strengthOf 2 (some .int), Cond.fieldLink RX2 18 "ClappedWrong$Hall" "strengths" "[I", Cond.methodLink RX0 31 yX0_clappedOf, Cond.instanceMethod yX0_clappedOf, Cond.selects RX0 yX0_clappedOf yX0_clappedOf, Cond.code yX0_clappedOf cX0_clappedOf 2 (some .int), Cond.methodLink RX0 53 yX0_soundOf]
def wsX5_rightBehind_r3 : List Cond := [Cond.instanceMethod yX0_soundOf, Cond.selects RX0 yX0_soundOf yX0_soundOf, Cond.code yX0_soundOf cX0_soundOf 2 (some .int), Cond.methodLink RX0 56 yX2_isOf, Cond.instanceMethod yX2_isOf, Cond.selects RX2 yX2_isOf yX2_isOf, Cond.code yX2_isOf cX2_isOf 4 (some .boolean), Cond.methodLink RX2 46 yX2_kindOf, Cond.methodLink RX0 63 yX0_seesArm, Cond.instanceMethod yX0_seesArm, Cond.selects RX0 yX0_seesArm yX0_seesArm, Cond.code yX0_seesArm cX0_seesArm 2 (some .boolean), Cond.methodLink RX0 67 yX0_soundOfMore, Cond.instanceMethod yX0_soundOfMore, Cond.selects RX0 yX0_soundOfMore yX0_soundOfMore, Cond.code yX0_soundOfMore cX0_soundOfMore 6 (some .int), Cond.methodLink RX0 70 yX0_palmsThatSound, Cond.instanceMethod yX0_palmsThatSound, Cond.selects RX0 yX0_palmsThatSound yX0_palmsThatSound, Cond.code yX0_palmsThatSound cX0_palmsThatSound 4 (some .int), Cond.methodLink RX0 41 yX0_let, Cond.instanceMethod yX0_let, Cond.selects RX0 yX0_let yX0_let, Cond.code yX0_let cX0_let 3 none]
def wsX5_rightBehind_r4 : List Cond := [Cond.static yX5_oneIf, Cond.code yX5_oneIf cX5_oneIf 1 (some .int), Cond.methodLink RX5 125 yX0_palmsRight, Cond.instanceMethod yX0_palmsRight, Cond.selects RX0 yX0_palmsRight yX0_palmsRight, Cond.code yX0_palmsRight cX0_palmsRight 4 (some .int), Cond.methodLink RX0 80 yX2_palmsOf, Cond.instanceMethod yX2_palmsOf, Cond.selects RX2 yX2_palmsOf yX2_palmsOf, Cond.code yX2_palmsOf cX2_palmsOf 2 (some .int), Cond.fieldLink RX2 15 "ClappedWrong$Hall" "palms" "[I"]
def wsX5_rightBehind : List Cond := .code yX5_rightBehind cX5_rightBehind 4 (some .int) :: ((wsX5_rightBehind_r1 ++ (wsX5_rightBehind_r2 ++ (wsX5_rightBehind_r3 ++ wsX5_rightBehind_r4))) ++ wsX50 ++ wsX30 ++ wsX00 ++ wsX20)
def wsX5_outcome_r1 : List Cond := [Cond.fieldLink RX5 19 "ClappedWrong" "room" "LClappedWrong$Hall;", Cond.methodLink RX5 54 yX5_within, Cond.static yX5_within, Cond.initialized RX5, Cond.code yX5_within cX5_within 3 (some .boolean), Cond.methodLink RX5 112 yX2_isThere, Cond.instanceMethod yX2_isThere, Cond.selects RX2 yX2_isThere yX2_isThere, Cond.initialized RX2, Cond.code yX2_isThere cX2_isThere 1 (some .boolean), Cond.fieldLink RX2 21 "ClappedWrong$Hall" "rows" "I", Cond.methodLink RX5 142 yX5_rightBehind, Cond.instanceMethod yX5_rightBehind, Cond.selects RX5 yX5_rightBehind yX5_rightBehind, Cond.code yX5_rightBehind cX5_rightBehind 4 (some .int), Cond.fieldLink RX5 36 "ClappedWrong" "trial" "LClappedWrong$Crowd;", Cond.fieldLink RX5 26 "ClappedWrong" "night" "LClappedWrong$Night;", Cond.methodLink RX5 225 yX0_takeFrom, Cond.instanceMethod yX0_takeFrom, Cond.selects RX0 yX0_takeFrom yX0_takeFrom, Cond.initialized RX0, Cond.code yX0_takeFrom cX0_takeFrom 3 none, Cond.fieldLink RX0 9 "ClappedWrong$Crowd" "sounds" "[I", Cond.fieldLink RX0 15 "ClappedWrong$Crowd" "clapped" "[I"]
def wsX5_outcome_r2 : List Cond := [Cond.fieldLink RX0 21 "ClappedWrong$Crowd" "armRows" "I", Cond.methodLink RX5 129 yX0_leaveBeatOut, Cond.instanceMethod yX0_leaveBeatOut, Cond.selects RX0 yX0_leaveBeatOut yX0_leaveBeatOut, Cond.code yX0_leaveBeatOut cX0_leaveBeatOut 3 none, Cond.methodLink RX0 60 yX2_kindOf, Cond.instanceMethod yX2_kindOf, Cond.selects RX2 yX2_kindOf yX2_kindOf, Cond.code yX2_kindOf cX2_kindOf 2 (some .int), Cond.fieldLink RX2 9 "ClappedWrong$Hall" "kinds" "[I", Cond.static yX5_swapped, Cond.code yX5_swapped cX5_swapped 1 (some .int), Cond.methodLink RX5 118 yX0_goOn, Cond.instanceMethod yX0_goOn, Cond.selects RX0 yX0_goOn yX0_goOn, Cond.code yX0_goOn cX0_goOn 4 (some .boolean), Cond.fieldLink RX0 18 "ClappedWrong$Crowd" "next" "[I", Cond.methodLink RX0 37 yX0_soundNext, Cond.instanceMethod yX0_soundNext, Cond.selects RX0 yX0_soundNext yX0_soundNext, Cond.code yX0_soundNext cX0_soundNext 4 (some .int), Cond.methodLink RX0 49 yX0_isTired, Cond.instanceMethod yX0_isTired, Cond.selects RX0 yX0_isTired yX0_isTired]
def wsX5_outcome_r3 : List Cond := [Cond.code yX0_isTired cX0_isTired 4 (some .boolean), Cond.methodLink RX0 25 yX2_strengthOf, Cond.instanceMethod yX2_strengthOf, Cond.selects RX2 yX2_strengthOf yX2_strengthOf, Cond.code yX2_strengthOf cX2_strengthOf 2 (some .int), Cond.fieldLink RX2 18 "ClappedWrong$Hall" "strengths" "[I", Cond.methodLink RX0 31 yX0_clappedOf, Cond.instanceMethod yX0_clappedOf, Cond.selects RX0 yX0_clappedOf yX0_clappedOf, Cond.code yX0_clappedOf cX0_clappedOf 2 (some .int), Cond.methodLink RX0 53 yX0_soundOf, Cond.instanceMethod yX0_soundOf, Cond.selects RX0 yX0_soundOf yX0_soundOf, Cond.code yX0_soundOf cX0_soundOf 2 (some .int), Cond.methodLink RX0 56 yX2_isOf, Cond.instanceMethod yX2_isOf, Cond.selects RX2 yX2_isOf yX2_isOf, Cond.code yX2_isOf cX2_isOf 4 (some .boolean), Cond.methodLink RX2 46 yX2_kindOf, Cond.methodLink RX0 63 yX0_seesArm, Cond.instanceMethod yX0_seesArm, Cond.selects RX0 yX0_seesArm yX0_seesArm, Cond.code yX0_seesArm cX0_seesArm 2 (some .boolean), Cond.methodLink RX0 67 yX0_soundOfMore]
def wsX5_outcome_r4 : List Cond := [Cond.instanceMethod yX0_soundOfMore, Cond.selects RX0 yX0_soundOfMore yX0_soundOfMore, Cond.code yX0_soundOfMore cX0_soundOfMore 6 (some .int), Cond.methodLink RX0 70 yX0_palmsThatSound, Cond.instanceMethod yX0_palmsThatSound, Cond.selects RX0 yX0_palmsThatSound yX0_palmsThatSound, Cond.code yX0_palmsThatSound cX0_palmsThatSound 4 (some .int), Cond.methodLink RX0 41 yX0_let, Cond.instanceMethod yX0_let, Cond.selects RX0 yX0_let yX0_let, Cond.code yX0_let cX0_let 3 none, Cond.static yX5_oneIf, Cond.code yX5_oneIf cX5_oneIf 1 (some .int), Cond.methodLink RX5 125 yX0_palmsRight, Cond.instanceMethod yX0_palmsRight, Cond.selects RX0 yX0_palmsRight yX0_palmsRight, Cond.code yX0_palmsRight cX0_palmsRight 4 (some .int), Cond.methodLink RX0 80 yX2_palmsOf, Cond.instanceMethod yX2_palmsOf, Cond.selects RX2 yX2_palmsOf yX2_palmsOf, Cond.code yX2_palmsOf cX2_palmsOf 2 (some .int), Cond.fieldLink RX2 15 "ClappedWrong$Hall" "palms" "[I"]
def wsX5_outcome : List Cond := .code yX5_outcome cX5_outcome 2 (some .int) :: ((wsX5_outcome_r1 ++ (wsX5_outcome_r2 ++ (wsX5_outcome_r3 ++ wsX5_outcome_r4))) ++ wsX50 ++ wsX20 ++ wsX30 ++ wsX00)
def wsX5_trickTold_r1 : List Cond := [Cond.methodLink RX5 142 yX5_rightBehind, Cond.instanceMethod yX5_rightBehind, Cond.selects RX5 yX5_rightBehind yX5_rightBehind, Cond.initialized RX5, Cond.code yX5_rightBehind cX5_rightBehind 4 (some .int), Cond.fieldLink RX5 36 "ClappedWrong" "trial" "LClappedWrong$Crowd;", Cond.fieldLink RX5 26 "ClappedWrong" "night" "LClappedWrong$Night;", Cond.fieldLink RX5 19 "ClappedWrong" "room" "LClappedWrong$Hall;", Cond.methodLink RX5 225 yX0_takeFrom, Cond.instanceMethod yX0_takeFrom, Cond.selects RX0 yX0_takeFrom yX0_takeFrom, Cond.initialized RX0, Cond.code yX0_takeFrom cX0_takeFrom 3 none, Cond.fieldLink RX0 9 "ClappedWrong$Crowd" "sounds" "[I", Cond.fieldLink RX0 15 "ClappedWrong$Crowd" "clapped" "[I", Cond.fieldLink RX0 21 "ClappedWrong$Crowd" "armRows" "I", Cond.methodLink RX5 129 yX0_leaveBeatOut, Cond.instanceMethod yX0_leaveBeatOut, Cond.selects RX0 yX0_leaveBeatOut yX0_leaveBeatOut, Cond.code yX0_leaveBeatOut cX0_leaveBeatOut 3 none, Cond.methodLink RX0 60 yX2_kindOf, Cond.instanceMethod yX2_kindOf, Cond.selects RX2 yX2_kindOf yX2_kindOf, Cond.initialized RX2]
def wsX5_trickTold_r2 : List Cond := [Cond.code yX2_kindOf cX2_kindOf 2 (some .int), Cond.fieldLink RX2 21 "ClappedWrong$Hall" "rows" "I", Cond.fieldLink RX2 9 "ClappedWrong$Hall" "kinds" "[I", Cond.static yX5_swapped, Cond.code yX5_swapped cX5_swapped 1 (some .int), Cond.methodLink RX5 118 yX0_goOn, Cond.instanceMethod yX0_goOn, Cond.selects RX0 yX0_goOn yX0_goOn, Cond.code yX0_goOn cX0_goOn 4 (some .boolean), Cond.fieldLink RX0 18 "ClappedWrong$Crowd" "next" "[I", Cond.methodLink RX0 37 yX0_soundNext, Cond.instanceMethod yX0_soundNext, Cond.selects RX0 yX0_soundNext yX0_soundNext, Cond.code yX0_soundNext cX0_soundNext 4 (some .int), Cond.methodLink RX0 49 yX0_isTired, Cond.instanceMethod yX0_isTired, Cond.selects RX0 yX0_isTired yX0_isTired, Cond.code yX0_isTired cX0_isTired 4 (some .boolean), Cond.methodLink RX0 25 yX2_strengthOf, Cond.instanceMethod yX2_strengthOf, Cond.selects RX2 yX2_strengthOf yX2_strengthOf, Cond.code yX2_strengthOf cX2_strengthOf 2 (some .int), Cond.fieldLink RX2 18 "ClappedWrong$Hall" "strengths" "[I", Cond.methodLink RX0 31 yX0_clappedOf]
def wsX5_trickTold_r3 : List Cond := [Cond.instanceMethod yX0_clappedOf, Cond.selects RX0 yX0_clappedOf yX0_clappedOf, Cond.code yX0_clappedOf cX0_clappedOf 2 (some .int), Cond.methodLink RX0 53 yX0_soundOf, Cond.instanceMethod yX0_soundOf, Cond.selects RX0 yX0_soundOf yX0_soundOf, Cond.code yX0_soundOf cX0_soundOf 2 (some .int), Cond.methodLink RX0 56 yX2_isOf, Cond.instanceMethod yX2_isOf, Cond.selects RX2 yX2_isOf yX2_isOf, Cond.code yX2_isOf cX2_isOf 4 (some .boolean), Cond.methodLink RX2 46 yX2_kindOf, Cond.methodLink RX0 63 yX0_seesArm, Cond.instanceMethod yX0_seesArm, Cond.selects RX0 yX0_seesArm yX0_seesArm, Cond.code yX0_seesArm cX0_seesArm 2 (some .boolean), Cond.methodLink RX0 67 yX0_soundOfMore, Cond.instanceMethod yX0_soundOfMore, Cond.selects RX0 yX0_soundOfMore yX0_soundOfMore, Cond.code yX0_soundOfMore cX0_soundOfMore 6 (some .int), Cond.methodLink RX0 70 yX0_palmsThatSound, Cond.instanceMethod yX0_palmsThatSound, Cond.selects RX0 yX0_palmsThatSound yX0_palmsThatSound, Cond.code yX0_palmsThatSound cX0_palmsThatSound 4 (some .int)]
def wsX5_trickTold_r4 : List Cond := [Cond.methodLink RX0 41 yX0_let, Cond.instanceMethod yX0_let, Cond.selects RX0 yX0_let yX0_let, Cond.code yX0_let cX0_let 3 none, Cond.static yX5_oneIf, Cond.code yX5_oneIf cX5_oneIf 1 (some .int), Cond.methodLink RX5 125 yX0_palmsRight, Cond.instanceMethod yX0_palmsRight, Cond.selects RX0 yX0_palmsRight yX0_palmsRight, Cond.code yX0_palmsRight cX0_palmsRight 4 (some .int), Cond.methodLink RX0 80 yX2_palmsOf, Cond.instanceMethod yX2_palmsOf, Cond.selects RX2 yX2_palmsOf yX2_palmsOf, Cond.code yX2_palmsOf cX2_palmsOf 2 (some .int), Cond.fieldLink RX2 15 "ClappedWrong$Hall" "palms" "[I"]
def wsX5_trickTold : List Cond := .code yX5_trickTold cX5_trickTold 7 (some .int) :: ((wsX5_trickTold_r1 ++ (wsX5_trickTold_r2 ++ (wsX5_trickTold_r3 ++ wsX5_trickTold_r4))) ++ wsX50 ++ wsX30 ++ wsX00 ++ wsX20)
def wsX5_trick_r1 : List Cond := [Cond.fieldLink RX5 19 "ClappedWrong" "room" "LClappedWrong$Hall;", Cond.methodLink RX5 54 yX5_within, Cond.static yX5_within, Cond.initialized RX5, Cond.code yX5_within cX5_within 3 (some .boolean), Cond.methodLink RX5 112 yX2_isThere, Cond.instanceMethod yX2_isThere, Cond.selects RX2 yX2_isThere yX2_isThere, Cond.initialized RX2, Cond.code yX2_isThere cX2_isThere 1 (some .boolean), Cond.fieldLink RX2 21 "ClappedWrong$Hall" "rows" "I", Cond.methodLink RX5 145 yX5_trickTold, Cond.instanceMethod yX5_trickTold, Cond.selects RX5 yX5_trickTold yX5_trickTold, Cond.code yX5_trickTold cX5_trickTold 7 (some .int), Cond.methodLink RX5 142 yX5_rightBehind, Cond.instanceMethod yX5_rightBehind, Cond.selects RX5 yX5_rightBehind yX5_rightBehind, Cond.code yX5_rightBehind cX5_rightBehind 4 (some .int), Cond.fieldLink RX5 36 "ClappedWrong" "trial" "LClappedWrong$Crowd;", Cond.fieldLink RX5 26 "ClappedWrong" "night" "LClappedWrong$Night;", Cond.methodLink RX5 225 yX0_takeFrom, Cond.instanceMethod yX0_takeFrom, Cond.selects RX0 yX0_takeFrom yX0_takeFrom]
def wsX5_trick_r2 : List Cond := [Cond.initialized RX0, Cond.code yX0_takeFrom cX0_takeFrom 3 none, Cond.fieldLink RX0 9 "ClappedWrong$Crowd" "sounds" "[I", Cond.fieldLink RX0 15 "ClappedWrong$Crowd" "clapped" "[I", Cond.fieldLink RX0 21 "ClappedWrong$Crowd" "armRows" "I", Cond.methodLink RX5 129 yX0_leaveBeatOut, Cond.instanceMethod yX0_leaveBeatOut, Cond.selects RX0 yX0_leaveBeatOut yX0_leaveBeatOut, Cond.code yX0_leaveBeatOut cX0_leaveBeatOut 3 none, Cond.methodLink RX0 60 yX2_kindOf, Cond.instanceMethod yX2_kindOf, Cond.selects RX2 yX2_kindOf yX2_kindOf, Cond.code yX2_kindOf cX2_kindOf 2 (some .int), Cond.fieldLink RX2 9 "ClappedWrong$Hall" "kinds" "[I", Cond.static yX5_swapped, Cond.code yX5_swapped cX5_swapped 1 (some .int), Cond.methodLink RX5 118 yX0_goOn, Cond.instanceMethod yX0_goOn, Cond.selects RX0 yX0_goOn yX0_goOn, Cond.code yX0_goOn cX0_goOn 4 (some .boolean), Cond.fieldLink RX0 18 "ClappedWrong$Crowd" "next" "[I", Cond.methodLink RX0 37 yX0_soundNext, Cond.instanceMethod yX0_soundNext, Cond.selects RX0 yX0_soundNext yX0_soundNext]
def wsX5_trick_r3 : List Cond := [Cond.code yX0_soundNext cX0_soundNext 4 (some .int), Cond.methodLink RX0 49 yX0_isTired, Cond.instanceMethod yX0_isTired, Cond.selects RX0 yX0_isTired yX0_isTired, Cond.code yX0_isTired cX0_isTired 4 (some .boolean), Cond.methodLink RX0 25 yX2_strengthOf, Cond.instanceMethod yX2_strengthOf, Cond.selects RX2 yX2_strengthOf yX2_strengthOf, Cond.code yX2_strengthOf cX2_strengthOf 2 (some .int), Cond.fieldLink RX2 18 "ClappedWrong$Hall" "strengths" "[I", Cond.methodLink RX0 31 yX0_clappedOf, Cond.instanceMethod yX0_clappedOf, Cond.selects RX0 yX0_clappedOf yX0_clappedOf, Cond.code yX0_clappedOf cX0_clappedOf 2 (some .int), Cond.methodLink RX0 53 yX0_soundOf, Cond.instanceMethod yX0_soundOf, Cond.selects RX0 yX0_soundOf yX0_soundOf, Cond.code yX0_soundOf cX0_soundOf 2 (some .int), Cond.methodLink RX0 56 yX2_isOf, Cond.instanceMethod yX2_isOf, Cond.selects RX2 yX2_isOf yX2_isOf, Cond.code yX2_isOf cX2_isOf 4 (some .boolean), Cond.methodLink RX2 46 yX2_kindOf, Cond.methodLink RX0 63 yX0_seesArm]
def wsX5_trick_r4 : List Cond := [Cond.instanceMethod yX0_seesArm, Cond.selects RX0 yX0_seesArm yX0_seesArm, Cond.code yX0_seesArm cX0_seesArm 2 (some .boolean), Cond.methodLink RX0 67 yX0_soundOfMore, Cond.instanceMethod yX0_soundOfMore, Cond.selects RX0 yX0_soundOfMore yX0_soundOfMore, Cond.code yX0_soundOfMore cX0_soundOfMore 6 (some .int), Cond.methodLink RX0 70 yX0_palmsThatSound, Cond.instanceMethod yX0_palmsThatSound, Cond.selects RX0 yX0_palmsThatSound yX0_palmsThatSound, Cond.code yX0_palmsThatSound cX0_palmsThatSound 4 (some .int), Cond.methodLink RX0 41 yX0_let, Cond.instanceMethod yX0_let, Cond.selects RX0 yX0_let yX0_let, Cond.code yX0_let cX0_let 3 none, Cond.static yX5_oneIf, Cond.code yX5_oneIf cX5_oneIf 1 (some .int), Cond.methodLink RX5 125 yX0_palmsRight, Cond.instanceMethod yX0_palmsRight, Cond.selects RX0 yX0_palmsRight yX0_palmsRight, Cond.code yX0_palmsRight cX0_palmsRight 4 (some .int), Cond.methodLink RX0 80 yX2_palmsOf, Cond.instanceMethod yX2_palmsOf, Cond.selects RX2 yX2_palmsOf yX2_palmsOf]
def wsX5_trick_r5 : List Cond := [Cond.code yX2_palmsOf cX2_palmsOf 2 (some .int), Cond.fieldLink RX2 15 "ClappedWrong$Hall" "palms" "[I"]
def wsX5_trick : List Cond := .code yX5_trick cX5_trick 3 (some .int) :: ((wsX5_trick_r1 ++ (wsX5_trick_r2 ++ (wsX5_trick_r3 ++ (wsX5_trick_r4 ++ wsX5_trick_r5)))) ++ wsX50 ++ wsX20 ++ wsX30 ++ wsX00)
def wsJ6_bitCount_0f7a4 : List Cond := .code yJ6_bitCount_0f7a4 cJ6_bitCount_0f7a4 1 (some .int) :: ([.constant RJ6 265 (1431655765), .constant RJ6 266 (858993459), .constant RJ6 267 (252645135)])
def wsX5_winsAll_r1 : List Cond := [Cond.fieldLink RX5 36 "ClappedWrong" "trial" "LClappedWrong$Crowd;", Cond.fieldLink RX5 26 "ClappedWrong" "night" "LClappedWrong$Night;", Cond.fieldLink RX5 19 "ClappedWrong" "room" "LClappedWrong$Hall;", Cond.methodLink RX5 225 yX0_takeFrom, Cond.instanceMethod yX0_takeFrom, Cond.selects RX0 yX0_takeFrom yX0_takeFrom, Cond.initialized RX0, Cond.code yX0_takeFrom cX0_takeFrom 3 none, Cond.fieldLink RX0 9 "ClappedWrong$Crowd" "sounds" "[I", Cond.fieldLink RX0 15 "ClappedWrong$Crowd" "clapped" "[I", Cond.fieldLink RX0 21 "ClappedWrong$Crowd" "armRows" "I", Cond.methodLink RX5 108 yX0_let, Cond.instanceMethod yX0_let, Cond.selects RX0 yX0_let yX0_let, Cond.code yX0_let cX0_let 3 none, Cond.methodLink RX5 118 yX0_goOn, Cond.instanceMethod yX0_goOn, Cond.selects RX0 yX0_goOn yX0_goOn, Cond.code yX0_goOn cX0_goOn 4 (some .boolean), Cond.fieldLink RX0 18 "ClappedWrong$Crowd" "next" "[I", Cond.methodLink RX0 37 yX0_soundNext, Cond.instanceMethod yX0_soundNext, Cond.selects RX0 yX0_soundNext yX0_soundNext, Cond.code yX0_soundNext cX0_soundNext 4 (some .int)]
def wsX5_winsAll_r2 : List Cond := [Cond.methodLink RX0 49 yX0_isTired, Cond.instanceMethod yX0_isTired, Cond.selects RX0 yX0_isTired yX0_isTired, Cond.code yX0_isTired cX0_isTired 4 (some .boolean), Cond.methodLink RX0 25 yX2_strengthOf, Cond.instanceMethod yX2_strengthOf, Cond.selects RX2 yX2_strengthOf yX2_strengthOf, Cond.initialized RX2, Cond.code yX2_strengthOf cX2_strengthOf 2 (some .int), Cond.fieldLink RX2 21 "ClappedWrong$Hall" "rows" "I", Cond.fieldLink RX2 18 "ClappedWrong$Hall" "strengths" "[I", Cond.methodLink RX0 31 yX0_clappedOf, Cond.instanceMethod yX0_clappedOf, Cond.selects RX0 yX0_clappedOf yX0_clappedOf, Cond.code yX0_clappedOf cX0_clappedOf 2 (some .int), Cond.methodLink RX0 53 yX0_soundOf, Cond.instanceMethod yX0_soundOf, Cond.selects RX0 yX0_soundOf yX0_soundOf, Cond.code yX0_soundOf cX0_soundOf 2 (some .int), Cond.methodLink RX0 56 yX2_isOf, Cond.instanceMethod yX2_isOf, Cond.selects RX2 yX2_isOf yX2_isOf, Cond.code yX2_isOf cX2_isOf 4 (some .boolean), Cond.methodLink RX2 46 yX2_kindOf]
def wsX5_winsAll_r3 : List Cond := [Cond.instanceMethod yX2_kindOf, Cond.selects RX2 yX2_kindOf yX2_kindOf, Cond.code yX2_kindOf cX2_kindOf 2 (some .int), Cond.fieldLink RX2 9 "ClappedWrong$Hall" "kinds" "[I", Cond.methodLink RX0 60 yX2_kindOf, Cond.methodLink RX0 63 yX0_seesArm, Cond.instanceMethod yX0_seesArm, Cond.selects RX0 yX0_seesArm yX0_seesArm, Cond.code yX0_seesArm cX0_seesArm 2 (some .boolean), Cond.methodLink RX0 67 yX0_soundOfMore, Cond.instanceMethod yX0_soundOfMore, Cond.selects RX0 yX0_soundOfMore yX0_soundOfMore, Cond.code yX0_soundOfMore cX0_soundOfMore 6 (some .int), Cond.methodLink RX0 70 yX0_palmsThatSound, Cond.instanceMethod yX0_palmsThatSound, Cond.selects RX0 yX0_palmsThatSound yX0_palmsThatSound, Cond.code yX0_palmsThatSound cX0_palmsThatSound 4 (some .int), Cond.methodLink RX0 41 yX0_let, Cond.static yX5_oneIf, Cond.initialized RX5, Cond.code yX5_oneIf cX5_oneIf 1 (some .int), Cond.methodLink RX5 231 yX0_areWillingRight, Cond.instanceMethod yX0_areWillingRight, Cond.selects RX0 yX0_areWillingRight yX0_areWillingRight]
def wsX5_winsAll_r4 : List Cond := [Cond.code yX0_areWillingRight cX0_areWillingRight 3 (some .boolean)]
def wsX5_winsAll : List Cond := .code yX5_winsAll cX5_winsAll 4 (some .boolean) :: ((wsX5_winsAll_r1 ++ (wsX5_winsAll_r2 ++ (wsX5_winsAll_r3 ++ wsX5_winsAll_r4))) ++ wsX50 ++ wsX30 ++ wsX20 ++ wsX00)
def wsX5_fewestTurned_r1 : List Cond := [Cond.fieldLink RX5 19 "ClappedWrong" "room" "LClappedWrong$Hall;", Cond.methodLink RX5 151 yJ6_bitCount_0f7a4, Cond.static yJ6_bitCount_0f7a4, Cond.initialized RJ6, Cond.code yJ6_bitCount_0f7a4 cJ6_bitCount_0f7a4 1 (some .int), Cond.constant RJ6 265 (1431655765), Cond.constant RJ6 266 (858993459), Cond.constant RJ6 267 (252645135), Cond.methodLink RX5 228 yX5_winsAll, Cond.instanceMethod yX5_winsAll, Cond.selects RX5 yX5_winsAll yX5_winsAll, Cond.initialized RX5, Cond.code yX5_winsAll cX5_winsAll 4 (some .boolean), Cond.fieldLink RX5 36 "ClappedWrong" "trial" "LClappedWrong$Crowd;", Cond.fieldLink RX5 26 "ClappedWrong" "night" "LClappedWrong$Night;", Cond.methodLink RX5 225 yX0_takeFrom, Cond.instanceMethod yX0_takeFrom, Cond.selects RX0 yX0_takeFrom yX0_takeFrom, Cond.initialized RX0, Cond.code yX0_takeFrom cX0_takeFrom 3 none, Cond.fieldLink RX0 9 "ClappedWrong$Crowd" "sounds" "[I", Cond.fieldLink RX0 15 "ClappedWrong$Crowd" "clapped" "[I", Cond.fieldLink RX0 21 "ClappedWrong$Crowd" "armRows" "I", Cond.methodLink RX5 108 yX0_let]
def wsX5_fewestTurned_r2 : List Cond := [Cond.instanceMethod yX0_let, Cond.selects RX0 yX0_let yX0_let, Cond.code yX0_let cX0_let 3 none, Cond.methodLink RX5 118 yX0_goOn, Cond.instanceMethod yX0_goOn, Cond.selects RX0 yX0_goOn yX0_goOn, Cond.code yX0_goOn cX0_goOn 4 (some .boolean), Cond.fieldLink RX0 18 "ClappedWrong$Crowd" "next" "[I", Cond.methodLink RX0 37 yX0_soundNext, Cond.instanceMethod yX0_soundNext, Cond.selects RX0 yX0_soundNext yX0_soundNext, Cond.code yX0_soundNext cX0_soundNext 4 (some .int), Cond.methodLink RX0 49 yX0_isTired, Cond.instanceMethod yX0_isTired, Cond.selects RX0 yX0_isTired yX0_isTired, Cond.code yX0_isTired cX0_isTired 4 (some .boolean), Cond.methodLink RX0 25 yX2_strengthOf, Cond.instanceMethod yX2_strengthOf, Cond.selects RX2 yX2_strengthOf yX2_strengthOf, Cond.initialized RX2, Cond.code yX2_strengthOf cX2_strengthOf 2 (some .int), Cond.fieldLink RX2 21 "ClappedWrong$Hall" "rows" "I", Cond.fieldLink RX2 18 "ClappedWrong$Hall" "strengths" "[I", Cond.methodLink RX0 31 yX0_clappedOf]
def wsX5_fewestTurned_r3 : List Cond := [Cond.instanceMethod yX0_clappedOf, Cond.selects RX0 yX0_clappedOf yX0_clappedOf, Cond.code yX0_clappedOf cX0_clappedOf 2 (some .int), Cond.methodLink RX0 53 yX0_soundOf, Cond.instanceMethod yX0_soundOf, Cond.selects RX0 yX0_soundOf yX0_soundOf, Cond.code yX0_soundOf cX0_soundOf 2 (some .int), Cond.methodLink RX0 56 yX2_isOf, Cond.instanceMethod yX2_isOf, Cond.selects RX2 yX2_isOf yX2_isOf, Cond.code yX2_isOf cX2_isOf 4 (some .boolean), Cond.methodLink RX2 46 yX2_kindOf, Cond.instanceMethod yX2_kindOf, Cond.selects RX2 yX2_kindOf yX2_kindOf, Cond.code yX2_kindOf cX2_kindOf 2 (some .int), Cond.fieldLink RX2 9 "ClappedWrong$Hall" "kinds" "[I", Cond.methodLink RX0 60 yX2_kindOf, Cond.methodLink RX0 63 yX0_seesArm, Cond.instanceMethod yX0_seesArm, Cond.selects RX0 yX0_seesArm yX0_seesArm, Cond.code yX0_seesArm cX0_seesArm 2 (some .boolean), Cond.methodLink RX0 67 yX0_soundOfMore, Cond.instanceMethod yX0_soundOfMore, Cond.selects RX0 yX0_soundOfMore yX0_soundOfMore]
def wsX5_fewestTurned_r4 : List Cond := [Cond.code yX0_soundOfMore cX0_soundOfMore 6 (some .int), Cond.methodLink RX0 70 yX0_palmsThatSound, Cond.instanceMethod yX0_palmsThatSound, Cond.selects RX0 yX0_palmsThatSound yX0_palmsThatSound, Cond.code yX0_palmsThatSound cX0_palmsThatSound 4 (some .int), Cond.methodLink RX0 41 yX0_let, Cond.static yX5_oneIf, Cond.code yX5_oneIf cX5_oneIf 1 (some .int), Cond.methodLink RX5 231 yX0_areWillingRight, Cond.instanceMethod yX0_areWillingRight, Cond.selects RX0 yX0_areWillingRight yX0_areWillingRight, Cond.code yX0_areWillingRight cX0_areWillingRight 3 (some .boolean)]
def wsX5_fewestTurned : List Cond := .code yX5_fewestTurned cX5_fewestTurned 7 (some .int) :: ((wsX5_fewestTurned_r1 ++ (wsX5_fewestTurned_r2 ++ (wsX5_fewestTurned_r3 ++ wsX5_fewestTurned_r4))) ++ wsX50 ++ wsX20 ++ wsX30 ++ wsX00)
def wsX5_turned_r1 : List Cond := [Cond.fieldLink RX5 19 "ClappedWrong" "room" "LClappedWrong$Hall;", Cond.fieldLink RX5 48 "ClappedWrong" "turnedDone" "I", Cond.methodLink RX5 54 yX5_within, Cond.static yX5_within, Cond.initialized RX5, Cond.code yX5_within cX5_within 3 (some .boolean), Cond.methodLink RX5 112 yX2_isThere, Cond.instanceMethod yX2_isThere, Cond.selects RX2 yX2_isThere yX2_isThere, Cond.initialized RX2, Cond.code yX2_isThere cX2_isThere 1 (some .boolean), Cond.fieldLink RX2 21 "ClappedWrong$Hall" "rows" "I", Cond.methodLink RX5 148 yX5_fewestTurned, Cond.instanceMethod yX5_fewestTurned, Cond.selects RX5 yX5_fewestTurned yX5_fewestTurned, Cond.code yX5_fewestTurned cX5_fewestTurned 7 (some .int), Cond.methodLink RX5 151 yJ6_bitCount_0f7a4, Cond.static yJ6_bitCount_0f7a4, Cond.initialized RJ6, Cond.code yJ6_bitCount_0f7a4 cJ6_bitCount_0f7a4 1 (some .int), Cond.constant RJ6 265 (1431655765), Cond.constant RJ6 266 (858993459), Cond.constant RJ6 267 (252645135), Cond.methodLink RX5 228 yX5_winsAll]
def wsX5_turned_r2 : List Cond := [Cond.instanceMethod yX5_winsAll, Cond.selects RX5 yX5_winsAll yX5_winsAll, Cond.code yX5_winsAll cX5_winsAll 4 (some .boolean), Cond.fieldLink RX5 36 "ClappedWrong" "trial" "LClappedWrong$Crowd;", Cond.fieldLink RX5 26 "ClappedWrong" "night" "LClappedWrong$Night;", Cond.methodLink RX5 225 yX0_takeFrom, Cond.instanceMethod yX0_takeFrom, Cond.selects RX0 yX0_takeFrom yX0_takeFrom, Cond.initialized RX0, Cond.code yX0_takeFrom cX0_takeFrom 3 none, Cond.fieldLink RX0 9 "ClappedWrong$Crowd" "sounds" "[I", Cond.fieldLink RX0 15 "ClappedWrong$Crowd" "clapped" "[I", Cond.fieldLink RX0 21 "ClappedWrong$Crowd" "armRows" "I", Cond.methodLink RX5 108 yX0_let, Cond.instanceMethod yX0_let, Cond.selects RX0 yX0_let yX0_let, Cond.code yX0_let cX0_let 3 none, Cond.methodLink RX5 118 yX0_goOn, Cond.instanceMethod yX0_goOn, Cond.selects RX0 yX0_goOn yX0_goOn, Cond.code yX0_goOn cX0_goOn 4 (some .boolean), Cond.fieldLink RX0 18 "ClappedWrong$Crowd" "next" "[I", Cond.methodLink RX0 37 yX0_soundNext, Cond.instanceMethod yX0_soundNext]
def wsX5_turned_r3 : List Cond := [Cond.selects RX0 yX0_soundNext yX0_soundNext, Cond.code yX0_soundNext cX0_soundNext 4 (some .int), Cond.methodLink RX0 49 yX0_isTired, Cond.instanceMethod yX0_isTired, Cond.selects RX0 yX0_isTired yX0_isTired, Cond.code yX0_isTired cX0_isTired 4 (some .boolean), Cond.methodLink RX0 25 yX2_strengthOf, Cond.instanceMethod yX2_strengthOf, Cond.selects RX2 yX2_strengthOf yX2_strengthOf, Cond.code yX2_strengthOf cX2_strengthOf 2 (some .int), Cond.fieldLink RX2 18 "ClappedWrong$Hall" "strengths" "[I", Cond.methodLink RX0 31 yX0_clappedOf, Cond.instanceMethod yX0_clappedOf, Cond.selects RX0 yX0_clappedOf yX0_clappedOf, Cond.code yX0_clappedOf cX0_clappedOf 2 (some .int), Cond.methodLink RX0 53 yX0_soundOf, Cond.instanceMethod yX0_soundOf, Cond.selects RX0 yX0_soundOf yX0_soundOf, Cond.code yX0_soundOf cX0_soundOf 2 (some .int), Cond.methodLink RX0 56 yX2_isOf, Cond.instanceMethod yX2_isOf, Cond.selects RX2 yX2_isOf yX2_isOf, Cond.code yX2_isOf cX2_isOf 4 (some .boolean), Cond.methodLink RX2 46 yX2_kindOf]
def wsX5_turned_r4 : List Cond := [Cond.instanceMethod yX2_kindOf, Cond.selects RX2 yX2_kindOf yX2_kindOf, Cond.code yX2_kindOf cX2_kindOf 2 (some .int), Cond.fieldLink RX2 9 "ClappedWrong$Hall" "kinds" "[I", Cond.methodLink RX0 60 yX2_kindOf, Cond.methodLink RX0 63 yX0_seesArm, Cond.instanceMethod yX0_seesArm, Cond.selects RX0 yX0_seesArm yX0_seesArm, Cond.code yX0_seesArm cX0_seesArm 2 (some .boolean), Cond.methodLink RX0 67 yX0_soundOfMore, Cond.instanceMethod yX0_soundOfMore, Cond.selects RX0 yX0_soundOfMore yX0_soundOfMore, Cond.code yX0_soundOfMore cX0_soundOfMore 6 (some .int), Cond.methodLink RX0 70 yX0_palmsThatSound, Cond.instanceMethod yX0_palmsThatSound, Cond.selects RX0 yX0_palmsThatSound yX0_palmsThatSound, Cond.code yX0_palmsThatSound cX0_palmsThatSound 4 (some .int), Cond.methodLink RX0 41 yX0_let, Cond.static yX5_oneIf, Cond.code yX5_oneIf cX5_oneIf 1 (some .int), Cond.methodLink RX5 231 yX0_areWillingRight, Cond.instanceMethod yX0_areWillingRight, Cond.selects RX0 yX0_areWillingRight yX0_areWillingRight, Cond.code yX0_areWillingRight cX0_areWillingRight 3 (some .boolean)]
def wsX5_turned : List Cond := .code yX5_turned cX5_turned 4 (some .int) :: ((wsX5_turned_r1 ++ (wsX5_turned_r2 ++ (wsX5_turned_r3 ++ wsX5_turned_r4))) ++ wsX50 ++ wsX20 ++ wsX30 ++ wsX00)
def wsX5_record : List Cond := .code yX5_record cX5_record 2 (some .int) :: ([.fieldLink RX5 26 "ClappedWrong" "night" "LClappedWrong$Night;", .methodLink RX5 54 yX5_within, .static yX5_within, .initialized RX5, .code yX5_within cX5_within 3 (some .boolean), .methodLink RX5 156 yX3_noteDown, .instanceMethod yX3_noteDown, .selects RX3 yX3_noteDown yX3_noteDown, .initialized RX3, .code yX3_noteDown cX3_noteDown 2 (some .boolean), .fieldLink RX3 22 "ClappedWrong$Night" "recorded" "I", .fieldLink RX3 18 "ClappedWrong$Night" "rightBehindBar" "[I"] ++ wsX50 ++ wsX30)
def wsX5_forget : List Cond := .code yX5_forget cX5_forget 2 (some .int) :: ([.fieldLink RX5 26 "ClappedWrong" "night" "LClappedWrong$Night;"] ++ wsX50 ++ wsX30)
def wsX5_beganSo_r1 : List Cond := [Cond.fieldLink RX5 19 "ClappedWrong" "room" "LClappedWrong$Hall;", Cond.fieldLink RX5 36 "ClappedWrong" "trial" "LClappedWrong$Crowd;", Cond.fieldLink RX5 26 "ClappedWrong" "night" "LClappedWrong$Night;", Cond.methodLink RX5 87 yX2_has, Cond.instanceMethod yX2_has, Cond.selects RX2 yX2_has yX2_has, Cond.initialized RX2, Cond.code yX2_has cX2_has 2 (some .boolean), Cond.fieldLink RX2 21 "ClappedWrong$Hall" "rows" "I", Cond.methodLink RX5 237 yX0_beginWith, Cond.instanceMethod yX0_beginWith, Cond.selects RX0 yX0_beginWith yX0_beginWith, Cond.initialized RX0, Cond.code yX0_beginWith cX0_beginWith 4 none, Cond.fieldLink RX0 9 "ClappedWrong$Crowd" "sounds" "[I", Cond.fieldLink RX0 15 "ClappedWrong$Crowd" "clapped" "[I", Cond.fieldLink RX0 21 "ClappedWrong$Crowd" "armRows" "I", Cond.methodLink RX5 108 yX0_let, Cond.instanceMethod yX0_let, Cond.selects RX0 yX0_let yX0_let, Cond.code yX0_let cX0_let 3 none, Cond.methodLink RX5 118 yX0_goOn, Cond.instanceMethod yX0_goOn, Cond.selects RX0 yX0_goOn yX0_goOn]
def wsX5_beganSo_r2 : List Cond := [Cond.code yX0_goOn cX0_goOn 4 (some .boolean), Cond.fieldLink RX0 18 "ClappedWrong$Crowd" "next" "[I", Cond.methodLink RX0 37 yX0_soundNext, Cond.instanceMethod yX0_soundNext, Cond.selects RX0 yX0_soundNext yX0_soundNext, Cond.code yX0_soundNext cX0_soundNext 4 (some .int), Cond.methodLink RX0 49 yX0_isTired, Cond.instanceMethod yX0_isTired, Cond.selects RX0 yX0_isTired yX0_isTired, Cond.code yX0_isTired cX0_isTired 4 (some .boolean), Cond.methodLink RX0 25 yX2_strengthOf, Cond.instanceMethod yX2_strengthOf, Cond.selects RX2 yX2_strengthOf yX2_strengthOf, Cond.code yX2_strengthOf cX2_strengthOf 2 (some .int), Cond.fieldLink RX2 18 "ClappedWrong$Hall" "strengths" "[I", Cond.methodLink RX0 31 yX0_clappedOf, Cond.instanceMethod yX0_clappedOf, Cond.selects RX0 yX0_clappedOf yX0_clappedOf, Cond.code yX0_clappedOf cX0_clappedOf 2 (some .int), Cond.methodLink RX0 53 yX0_soundOf, Cond.instanceMethod yX0_soundOf, Cond.selects RX0 yX0_soundOf yX0_soundOf, Cond.code yX0_soundOf cX0_soundOf 2 (some .int), Cond.methodLink RX0 56 yX2_isOf]
def wsX5_beganSo_r3 : List Cond := [Cond.instanceMethod yX2_isOf, Cond.selects RX2 yX2_isOf yX2_isOf, Cond.code yX2_isOf cX2_isOf 4 (some .boolean), Cond.methodLink RX2 46 yX2_kindOf, Cond.instanceMethod yX2_kindOf, Cond.selects RX2 yX2_kindOf yX2_kindOf, Cond.code yX2_kindOf cX2_kindOf 2 (some .int), Cond.fieldLink RX2 9 "ClappedWrong$Hall" "kinds" "[I", Cond.methodLink RX0 60 yX2_kindOf, Cond.methodLink RX0 63 yX0_seesArm, Cond.instanceMethod yX0_seesArm, Cond.selects RX0 yX0_seesArm yX0_seesArm, Cond.code yX0_seesArm cX0_seesArm 2 (some .boolean), Cond.methodLink RX0 67 yX0_soundOfMore, Cond.instanceMethod yX0_soundOfMore, Cond.selects RX0 yX0_soundOfMore yX0_soundOfMore, Cond.code yX0_soundOfMore cX0_soundOfMore 6 (some .int), Cond.methodLink RX0 70 yX0_palmsThatSound, Cond.instanceMethod yX0_palmsThatSound, Cond.selects RX0 yX0_palmsThatSound yX0_palmsThatSound, Cond.code yX0_palmsThatSound cX0_palmsThatSound 4 (some .int), Cond.methodLink RX0 41 yX0_let, Cond.static yX5_oneIf, Cond.initialized RX5]
def wsX5_beganSo_r4 : List Cond := [Cond.code yX5_oneIf cX5_oneIf 1 (some .int), Cond.methodLink RX5 125 yX0_palmsRight, Cond.instanceMethod yX0_palmsRight, Cond.selects RX0 yX0_palmsRight yX0_palmsRight, Cond.code yX0_palmsRight cX0_palmsRight 4 (some .int), Cond.methodLink RX0 80 yX2_palmsOf, Cond.instanceMethod yX2_palmsOf, Cond.selects RX2 yX2_palmsOf yX2_palmsOf, Cond.code yX2_palmsOf cX2_palmsOf 2 (some .int), Cond.fieldLink RX2 15 "ClappedWrong$Hall" "palms" "[I", Cond.methodLink RX5 240 yX3_recordedAt, Cond.instanceMethod yX3_recordedAt, Cond.selects RX3 yX3_recordedAt yX3_recordedAt, Cond.initialized RX3, Cond.code yX3_recordedAt cX3_recordedAt 2 (some .int), Cond.fieldLink RX3 18 "ClappedWrong$Night" "rightBehindBar" "[I", Cond.static yX5_within, Cond.code yX5_within cX5_within 3 (some .boolean)]
def wsX5_beganSo : List Cond := .code yX5_beganSo cX5_beganSo 5 (some .boolean) :: ((wsX5_beganSo_r1 ++ (wsX5_beganSo_r2 ++ (wsX5_beganSo_r3 ++ wsX5_beganSo_r4))) ++ wsX50 ++ wsX20 ++ wsX30 ++ wsX00)
def wsX5_waysBegun_r1 : List Cond := [Cond.methodLink RX5 234 yX5_beganSo, Cond.instanceMethod yX5_beganSo, Cond.selects RX5 yX5_beganSo yX5_beganSo, Cond.initialized RX5, Cond.code yX5_beganSo cX5_beganSo 5 (some .boolean), Cond.fieldLink RX5 19 "ClappedWrong" "room" "LClappedWrong$Hall;", Cond.fieldLink RX5 36 "ClappedWrong" "trial" "LClappedWrong$Crowd;", Cond.fieldLink RX5 26 "ClappedWrong" "night" "LClappedWrong$Night;", Cond.methodLink RX5 87 yX2_has, Cond.instanceMethod yX2_has, Cond.selects RX2 yX2_has yX2_has, Cond.initialized RX2, Cond.code yX2_has cX2_has 2 (some .boolean), Cond.fieldLink RX2 21 "ClappedWrong$Hall" "rows" "I", Cond.methodLink RX5 237 yX0_beginWith, Cond.instanceMethod yX0_beginWith, Cond.selects RX0 yX0_beginWith yX0_beginWith, Cond.initialized RX0, Cond.code yX0_beginWith cX0_beginWith 4 none, Cond.fieldLink RX0 9 "ClappedWrong$Crowd" "sounds" "[I", Cond.fieldLink RX0 15 "ClappedWrong$Crowd" "clapped" "[I", Cond.fieldLink RX0 21 "ClappedWrong$Crowd" "armRows" "I", Cond.methodLink RX5 108 yX0_let, Cond.instanceMethod yX0_let]
def wsX5_waysBegun_r2 : List Cond := [Cond.selects RX0 yX0_let yX0_let, Cond.code yX0_let cX0_let 3 none, Cond.methodLink RX5 118 yX0_goOn, Cond.instanceMethod yX0_goOn, Cond.selects RX0 yX0_goOn yX0_goOn, Cond.code yX0_goOn cX0_goOn 4 (some .boolean), Cond.fieldLink RX0 18 "ClappedWrong$Crowd" "next" "[I", Cond.methodLink RX0 37 yX0_soundNext, Cond.instanceMethod yX0_soundNext, Cond.selects RX0 yX0_soundNext yX0_soundNext, Cond.code yX0_soundNext cX0_soundNext 4 (some .int), Cond.methodLink RX0 49 yX0_isTired, Cond.instanceMethod yX0_isTired, Cond.selects RX0 yX0_isTired yX0_isTired, Cond.code yX0_isTired cX0_isTired 4 (some .boolean), Cond.methodLink RX0 25 yX2_strengthOf, Cond.instanceMethod yX2_strengthOf, Cond.selects RX2 yX2_strengthOf yX2_strengthOf, Cond.code yX2_strengthOf cX2_strengthOf 2 (some .int), Cond.fieldLink RX2 18 "ClappedWrong$Hall" "strengths" "[I", Cond.methodLink RX0 31 yX0_clappedOf, Cond.instanceMethod yX0_clappedOf, Cond.selects RX0 yX0_clappedOf yX0_clappedOf, Cond.code yX0_clappedOf cX0_clappedOf 2 (some .int)]
def wsX5_waysBegun_r3 : List Cond := [Cond.methodLink RX0 53 yX0_soundOf, Cond.instanceMethod yX0_soundOf, Cond.selects RX0 yX0_soundOf yX0_soundOf, Cond.code yX0_soundOf cX0_soundOf 2 (some .int), Cond.methodLink RX0 56 yX2_isOf, Cond.instanceMethod yX2_isOf, Cond.selects RX2 yX2_isOf yX2_isOf, Cond.code yX2_isOf cX2_isOf 4 (some .boolean), Cond.methodLink RX2 46 yX2_kindOf, Cond.instanceMethod yX2_kindOf, Cond.selects RX2 yX2_kindOf yX2_kindOf, Cond.code yX2_kindOf cX2_kindOf 2 (some .int), Cond.fieldLink RX2 9 "ClappedWrong$Hall" "kinds" "[I", Cond.methodLink RX0 60 yX2_kindOf, Cond.methodLink RX0 63 yX0_seesArm, Cond.instanceMethod yX0_seesArm, Cond.selects RX0 yX0_seesArm yX0_seesArm, Cond.code yX0_seesArm cX0_seesArm 2 (some .boolean), Cond.methodLink RX0 67 yX0_soundOfMore, Cond.instanceMethod yX0_soundOfMore, Cond.selects RX0 yX0_soundOfMore yX0_soundOfMore, Cond.code yX0_soundOfMore cX0_soundOfMore 6 (some .int), Cond.methodLink RX0 70 yX0_palmsThatSound, Cond.instanceMethod yX0_palmsThatSound]
def wsX5_waysBegun_r4 : List Cond := [Cond.selects RX0 yX0_palmsThatSound yX0_palmsThatSound, Cond.code yX0_palmsThatSound cX0_palmsThatSound 4 (some .int), Cond.methodLink RX0 41 yX0_let, Cond.static yX5_oneIf, Cond.code yX5_oneIf cX5_oneIf 1 (some .int), Cond.methodLink RX5 125 yX0_palmsRight, Cond.instanceMethod yX0_palmsRight, Cond.selects RX0 yX0_palmsRight yX0_palmsRight, Cond.code yX0_palmsRight cX0_palmsRight 4 (some .int), Cond.methodLink RX0 80 yX2_palmsOf, Cond.instanceMethod yX2_palmsOf, Cond.selects RX2 yX2_palmsOf yX2_palmsOf, Cond.code yX2_palmsOf cX2_palmsOf 2 (some .int), Cond.fieldLink RX2 15 "ClappedWrong$Hall" "palms" "[I", Cond.methodLink RX5 240 yX3_recordedAt, Cond.instanceMethod yX3_recordedAt, Cond.selects RX3 yX3_recordedAt yX3_recordedAt, Cond.initialized RX3, Cond.code yX3_recordedAt cX3_recordedAt 2 (some .int), Cond.fieldLink RX3 18 "ClappedWrong$Night" "rightBehindBar" "[I", Cond.static yX5_within, Cond.code yX5_within cX5_within 3 (some .boolean), Cond.methodLink RX5 218 yX5_oneIf]
def wsX5_waysBegun : List Cond := .code yX5_waysBegun cX5_waysBegun 3 (some .int) :: ((wsX5_waysBegun_r1 ++ (wsX5_waysBegun_r2 ++ (wsX5_waysBegun_r3 ++ wsX5_waysBegun_r4))) ++ wsX50 ++ wsX20 ++ wsX30 ++ wsX00)
def wsX5_leastBegun_r1 : List Cond := [Cond.methodLink RX5 234 yX5_beganSo, Cond.instanceMethod yX5_beganSo, Cond.selects RX5 yX5_beganSo yX5_beganSo, Cond.initialized RX5, Cond.code yX5_beganSo cX5_beganSo 5 (some .boolean), Cond.fieldLink RX5 19 "ClappedWrong" "room" "LClappedWrong$Hall;", Cond.fieldLink RX5 36 "ClappedWrong" "trial" "LClappedWrong$Crowd;", Cond.fieldLink RX5 26 "ClappedWrong" "night" "LClappedWrong$Night;", Cond.methodLink RX5 87 yX2_has, Cond.instanceMethod yX2_has, Cond.selects RX2 yX2_has yX2_has, Cond.initialized RX2, Cond.code yX2_has cX2_has 2 (some .boolean), Cond.fieldLink RX2 21 "ClappedWrong$Hall" "rows" "I", Cond.methodLink RX5 237 yX0_beginWith, Cond.instanceMethod yX0_beginWith, Cond.selects RX0 yX0_beginWith yX0_beginWith, Cond.initialized RX0, Cond.code yX0_beginWith cX0_beginWith 4 none, Cond.fieldLink RX0 9 "ClappedWrong$Crowd" "sounds" "[I", Cond.fieldLink RX0 15 "ClappedWrong$Crowd" "clapped" "[I", Cond.fieldLink RX0 21 "ClappedWrong$Crowd" "armRows" "I", Cond.methodLink RX5 108 yX0_let, Cond.instanceMethod yX0_let]
def wsX5_leastBegun_r2 : List Cond := [Cond.selects RX0 yX0_let yX0_let, Cond.code yX0_let cX0_let 3 none, Cond.methodLink RX5 118 yX0_goOn, Cond.instanceMethod yX0_goOn, Cond.selects RX0 yX0_goOn yX0_goOn, Cond.code yX0_goOn cX0_goOn 4 (some .boolean), Cond.fieldLink RX0 18 "ClappedWrong$Crowd" "next" "[I", Cond.methodLink RX0 37 yX0_soundNext, Cond.instanceMethod yX0_soundNext, Cond.selects RX0 yX0_soundNext yX0_soundNext, Cond.code yX0_soundNext cX0_soundNext 4 (some .int), Cond.methodLink RX0 49 yX0_isTired, Cond.instanceMethod yX0_isTired, Cond.selects RX0 yX0_isTired yX0_isTired, Cond.code yX0_isTired cX0_isTired 4 (some .boolean), Cond.methodLink RX0 25 yX2_strengthOf, Cond.instanceMethod yX2_strengthOf, Cond.selects RX2 yX2_strengthOf yX2_strengthOf, Cond.code yX2_strengthOf cX2_strengthOf 2 (some .int), Cond.fieldLink RX2 18 "ClappedWrong$Hall" "strengths" "[I", Cond.methodLink RX0 31 yX0_clappedOf, Cond.instanceMethod yX0_clappedOf, Cond.selects RX0 yX0_clappedOf yX0_clappedOf, Cond.code yX0_clappedOf cX0_clappedOf 2 (some .int)]
def wsX5_leastBegun_r3 : List Cond := [Cond.methodLink RX0 53 yX0_soundOf, Cond.instanceMethod yX0_soundOf, Cond.selects RX0 yX0_soundOf yX0_soundOf, Cond.code yX0_soundOf cX0_soundOf 2 (some .int), Cond.methodLink RX0 56 yX2_isOf, Cond.instanceMethod yX2_isOf, Cond.selects RX2 yX2_isOf yX2_isOf, Cond.code yX2_isOf cX2_isOf 4 (some .boolean), Cond.methodLink RX2 46 yX2_kindOf, Cond.instanceMethod yX2_kindOf, Cond.selects RX2 yX2_kindOf yX2_kindOf, Cond.code yX2_kindOf cX2_kindOf 2 (some .int), Cond.fieldLink RX2 9 "ClappedWrong$Hall" "kinds" "[I", Cond.methodLink RX0 60 yX2_kindOf, Cond.methodLink RX0 63 yX0_seesArm, Cond.instanceMethod yX0_seesArm, Cond.selects RX0 yX0_seesArm yX0_seesArm, Cond.code yX0_seesArm cX0_seesArm 2 (some .boolean), Cond.methodLink RX0 67 yX0_soundOfMore, Cond.instanceMethod yX0_soundOfMore, Cond.selects RX0 yX0_soundOfMore yX0_soundOfMore, Cond.code yX0_soundOfMore cX0_soundOfMore 6 (some .int), Cond.methodLink RX0 70 yX0_palmsThatSound, Cond.instanceMethod yX0_palmsThatSound]
def wsX5_leastBegun_r4 : List Cond := [Cond.selects RX0 yX0_palmsThatSound yX0_palmsThatSound, Cond.code yX0_palmsThatSound cX0_palmsThatSound 4 (some .int), Cond.methodLink RX0 41 yX0_let, Cond.static yX5_oneIf, Cond.code yX5_oneIf cX5_oneIf 1 (some .int), Cond.methodLink RX5 125 yX0_palmsRight, Cond.instanceMethod yX0_palmsRight, Cond.selects RX0 yX0_palmsRight yX0_palmsRight, Cond.code yX0_palmsRight cX0_palmsRight 4 (some .int), Cond.methodLink RX0 80 yX2_palmsOf, Cond.instanceMethod yX2_palmsOf, Cond.selects RX2 yX2_palmsOf yX2_palmsOf, Cond.code yX2_palmsOf cX2_palmsOf 2 (some .int), Cond.fieldLink RX2 15 "ClappedWrong$Hall" "palms" "[I", Cond.methodLink RX5 240 yX3_recordedAt, Cond.instanceMethod yX3_recordedAt, Cond.selects RX3 yX3_recordedAt yX3_recordedAt, Cond.initialized RX3, Cond.code yX3_recordedAt cX3_recordedAt 2 (some .int), Cond.fieldLink RX3 18 "ClappedWrong$Night" "rightBehindBar" "[I", Cond.static yX5_within, Cond.code yX5_within cX5_within 3 (some .boolean)]
def wsX5_leastBegun : List Cond := .code yX5_leastBegun cX5_leastBegun 2 (some .int) :: ((wsX5_leastBegun_r1 ++ (wsX5_leastBegun_r2 ++ (wsX5_leastBegun_r3 ++ wsX5_leastBegun_r4))) ++ wsX50 ++ wsX20 ++ wsX30 ++ wsX00)
def wsX5_began_r1 : List Cond := [Cond.fieldLink RX5 19 "ClappedWrong" "room" "LClappedWrong$Hall;", Cond.fieldLink RX5 51 "ClappedWrong" "beganDone" "I", Cond.methodLink RX5 54 yX5_within, Cond.static yX5_within, Cond.initialized RX5, Cond.code yX5_within cX5_within 3 (some .boolean), Cond.methodLink RX5 112 yX2_isThere, Cond.instanceMethod yX2_isThere, Cond.selects RX2 yX2_isThere yX2_isThere, Cond.initialized RX2, Cond.code yX2_isThere cX2_isThere 1 (some .boolean), Cond.fieldLink RX2 21 "ClappedWrong$Hall" "rows" "I", Cond.methodLink RX5 162 yX5_waysBegun, Cond.instanceMethod yX5_waysBegun, Cond.selects RX5 yX5_waysBegun yX5_waysBegun, Cond.code yX5_waysBegun cX5_waysBegun 3 (some .int), Cond.methodLink RX5 234 yX5_beganSo, Cond.instanceMethod yX5_beganSo, Cond.selects RX5 yX5_beganSo yX5_beganSo, Cond.code yX5_beganSo cX5_beganSo 5 (some .boolean), Cond.fieldLink RX5 36 "ClappedWrong" "trial" "LClappedWrong$Crowd;", Cond.fieldLink RX5 26 "ClappedWrong" "night" "LClappedWrong$Night;", Cond.methodLink RX5 87 yX2_has, Cond.instanceMethod yX2_has]
def wsX5_began_r2 : List Cond := [Cond.selects RX2 yX2_has yX2_has, Cond.code yX2_has cX2_has 2 (some .boolean), Cond.methodLink RX5 237 yX0_beginWith, Cond.instanceMethod yX0_beginWith, Cond.selects RX0 yX0_beginWith yX0_beginWith, Cond.initialized RX0, Cond.code yX0_beginWith cX0_beginWith 4 none, Cond.fieldLink RX0 9 "ClappedWrong$Crowd" "sounds" "[I", Cond.fieldLink RX0 15 "ClappedWrong$Crowd" "clapped" "[I", Cond.fieldLink RX0 21 "ClappedWrong$Crowd" "armRows" "I", Cond.methodLink RX5 108 yX0_let, Cond.instanceMethod yX0_let, Cond.selects RX0 yX0_let yX0_let, Cond.code yX0_let cX0_let 3 none, Cond.methodLink RX5 118 yX0_goOn, Cond.instanceMethod yX0_goOn, Cond.selects RX0 yX0_goOn yX0_goOn, Cond.code yX0_goOn cX0_goOn 4 (some .boolean), Cond.fieldLink RX0 18 "ClappedWrong$Crowd" "next" "[I", Cond.methodLink RX0 37 yX0_soundNext, Cond.instanceMethod yX0_soundNext, Cond.selects RX0 yX0_soundNext yX0_soundNext, Cond.code yX0_soundNext cX0_soundNext 4 (some .int), Cond.methodLink RX0 49 yX0_isTired]
def wsX5_began_r3 : List Cond := [Cond.instanceMethod yX0_isTired, Cond.selects RX0 yX0_isTired yX0_isTired, Cond.code yX0_isTired cX0_isTired 4 (some .boolean), Cond.methodLink RX0 25 yX2_strengthOf, Cond.instanceMethod yX2_strengthOf, Cond.selects RX2 yX2_strengthOf yX2_strengthOf, Cond.code yX2_strengthOf cX2_strengthOf 2 (some .int), Cond.fieldLink RX2 18 "ClappedWrong$Hall" "strengths" "[I", Cond.methodLink RX0 31 yX0_clappedOf, Cond.instanceMethod yX0_clappedOf, Cond.selects RX0 yX0_clappedOf yX0_clappedOf, Cond.code yX0_clappedOf cX0_clappedOf 2 (some .int), Cond.methodLink RX0 53 yX0_soundOf, Cond.instanceMethod yX0_soundOf, Cond.selects RX0 yX0_soundOf yX0_soundOf, Cond.code yX0_soundOf cX0_soundOf 2 (some .int), Cond.methodLink RX0 56 yX2_isOf, Cond.instanceMethod yX2_isOf, Cond.selects RX2 yX2_isOf yX2_isOf, Cond.code yX2_isOf cX2_isOf 4 (some .boolean), Cond.methodLink RX2 46 yX2_kindOf, Cond.instanceMethod yX2_kindOf, Cond.selects RX2 yX2_kindOf yX2_kindOf, Cond.code yX2_kindOf cX2_kindOf 2 (some .int)]
def wsX5_began_r4 : List Cond := [Cond.fieldLink RX2 9 "ClappedWrong$Hall" "kinds" "[I", Cond.methodLink RX0 60 yX2_kindOf, Cond.methodLink RX0 63 yX0_seesArm, Cond.instanceMethod yX0_seesArm, Cond.selects RX0 yX0_seesArm yX0_seesArm, Cond.code yX0_seesArm cX0_seesArm 2 (some .boolean), Cond.methodLink RX0 67 yX0_soundOfMore, Cond.instanceMethod yX0_soundOfMore, Cond.selects RX0 yX0_soundOfMore yX0_soundOfMore, Cond.code yX0_soundOfMore cX0_soundOfMore 6 (some .int), Cond.methodLink RX0 70 yX0_palmsThatSound, Cond.instanceMethod yX0_palmsThatSound, Cond.selects RX0 yX0_palmsThatSound yX0_palmsThatSound, Cond.code yX0_palmsThatSound cX0_palmsThatSound 4 (some .int), Cond.methodLink RX0 41 yX0_let, Cond.static yX5_oneIf, Cond.code yX5_oneIf cX5_oneIf 1 (some .int), Cond.methodLink RX5 125 yX0_palmsRight, Cond.instanceMethod yX0_palmsRight, Cond.selects RX0 yX0_palmsRight yX0_palmsRight, Cond.code yX0_palmsRight cX0_palmsRight 4 (some .int), Cond.methodLink RX0 80 yX2_palmsOf, Cond.instanceMethod yX2_palmsOf, Cond.selects RX2 yX2_palmsOf yX2_palmsOf]
def wsX5_began_r5 : List Cond := [Cond.code yX2_palmsOf cX2_palmsOf 2 (some .int), Cond.fieldLink RX2 15 "ClappedWrong$Hall" "palms" "[I", Cond.methodLink RX5 240 yX3_recordedAt, Cond.instanceMethod yX3_recordedAt, Cond.selects RX3 yX3_recordedAt yX3_recordedAt, Cond.initialized RX3, Cond.code yX3_recordedAt cX3_recordedAt 2 (some .int), Cond.fieldLink RX3 18 "ClappedWrong$Night" "rightBehindBar" "[I", Cond.methodLink RX5 218 yX5_oneIf, Cond.methodLink RX5 165 yX5_leastBegun, Cond.instanceMethod yX5_leastBegun, Cond.selects RX5 yX5_leastBegun yX5_leastBegun, Cond.code yX5_leastBegun cX5_leastBegun 2 (some .int)]
def wsX5_began : List Cond := .code yX5_began cX5_began 2 (some .int) :: ((wsX5_began_r1 ++ (wsX5_began_r2 ++ (wsX5_began_r3 ++ (wsX5_began_r4 ++ wsX5_began_r5)))) ++ wsX50 ++ wsX20 ++ wsX30 ++ wsX00)
def wsX5_happen_r1 : List Cond := [Cond.fieldLink RX5 36 "ClappedWrong" "trial" "LClappedWrong$Crowd;", Cond.fieldLink RX5 19 "ClappedWrong" "room" "LClappedWrong$Hall;", Cond.methodLink RX5 255 yX1_next, Cond.instanceMethod yX1_next, Cond.selects RX1 yX1_next yX1_next, Cond.initialized RX1, Cond.code yX1_next cX1_next 2 (some .int), Cond.constantLong RX1 13 (1103515245), Cond.fieldLink RX1 7 "ClappedWrong$Draws" "seed" "I", Cond.constantLong RX1 15 (12345), Cond.constantLong RX1 17 (2147483648), Cond.constant RX1 19 (65536), Cond.methodLink RX5 129 yX0_leaveBeatOut, Cond.instanceMethod yX0_leaveBeatOut, Cond.selects RX0 yX0_leaveBeatOut yX0_leaveBeatOut, Cond.initialized RX0, Cond.code yX0_leaveBeatOut cX0_leaveBeatOut 3 none, Cond.fieldLink RX0 9 "ClappedWrong$Crowd" "sounds" "[I", Cond.methodLink RX0 60 yX2_kindOf, Cond.instanceMethod yX2_kindOf, Cond.selects RX2 yX2_kindOf yX2_kindOf, Cond.initialized RX2, Cond.code yX2_kindOf cX2_kindOf 2 (some .int), Cond.fieldLink RX2 21 "ClappedWrong$Hall" "rows" "I"]
def wsX5_happen_r2 : List Cond := [Cond.fieldLink RX2 9 "ClappedWrong$Hall" "kinds" "[I", Cond.static yX5_swapped, Cond.initialized RX5, Cond.code yX5_swapped cX5_swapped 1 (some .int), Cond.methodLink RX5 108 yX0_let, Cond.instanceMethod yX0_let, Cond.selects RX0 yX0_let yX0_let, Cond.code yX0_let cX0_let 3 none, Cond.fieldLink RX0 15 "ClappedWrong$Crowd" "clapped" "[I"]
def wsX5_happen : List Cond := .code yX5_happen cX5_happen 2 none :: ((wsX5_happen_r1 ++ wsX5_happen_r2) ++ wsX50 ++ wsX20 ++ wsX00 ++ wsX10)
def wsX5_nightsTold_r1 : List Cond := [Cond.classLink RX5 243 RX1, Cond.instantiable RX1 1, Cond.initialized RX1, Cond.fieldLink RX5 36 "ClappedWrong" "trial" "LClappedWrong$Crowd;", Cond.fieldLink RX5 26 "ClappedWrong" "night" "LClappedWrong$Night;", Cond.fieldLink RX5 19 "ClappedWrong" "room" "LClappedWrong$Hall;", Cond.methodLink RX5 245 yX1_init, Cond.instanceMethod yX1_init, Cond.code yX1_init cX1_init 2 none, Cond.methodLink RX1 1 objectInit, Cond.instanceMethod objectInit, Cond.code objectInit ⟨#[0xb1]⟩ 1 none, Cond.fieldLink RX1 7 "ClappedWrong$Draws" "seed" "I", Cond.methodLink RX5 225 yX0_takeFrom, Cond.instanceMethod yX0_takeFrom, Cond.selects RX0 yX0_takeFrom yX0_takeFrom, Cond.initialized RX0, Cond.code yX0_takeFrom cX0_takeFrom 3 none, Cond.fieldLink RX0 9 "ClappedWrong$Crowd" "sounds" "[I", Cond.fieldLink RX0 15 "ClappedWrong$Crowd" "clapped" "[I", Cond.fieldLink RX0 21 "ClappedWrong$Crowd" "armRows" "I", Cond.methodLink RX5 248 yX5_happen, Cond.instanceMethod yX5_happen, Cond.selects RX5 yX5_happen yX5_happen]
def wsX5_nightsTold_r2 : List Cond := [Cond.initialized RX5, Cond.code yX5_happen cX5_happen 2 none, Cond.methodLink RX5 255 yX1_next, Cond.instanceMethod yX1_next, Cond.selects RX1 yX1_next yX1_next, Cond.code yX1_next cX1_next 2 (some .int), Cond.constantLong RX1 13 (1103515245), Cond.constantLong RX1 15 (12345), Cond.constantLong RX1 17 (2147483648), Cond.constant RX1 19 (65536), Cond.methodLink RX5 129 yX0_leaveBeatOut, Cond.instanceMethod yX0_leaveBeatOut, Cond.selects RX0 yX0_leaveBeatOut yX0_leaveBeatOut, Cond.code yX0_leaveBeatOut cX0_leaveBeatOut 3 none, Cond.methodLink RX0 60 yX2_kindOf, Cond.instanceMethod yX2_kindOf, Cond.selects RX2 yX2_kindOf yX2_kindOf, Cond.initialized RX2, Cond.code yX2_kindOf cX2_kindOf 2 (some .int), Cond.fieldLink RX2 21 "ClappedWrong$Hall" "rows" "I", Cond.fieldLink RX2 9 "ClappedWrong$Hall" "kinds" "[I", Cond.static yX5_swapped, Cond.code yX5_swapped cX5_swapped 1 (some .int), Cond.methodLink RX5 108 yX0_let]
def wsX5_nightsTold_r3 : List Cond := [Cond.instanceMethod yX0_let, Cond.selects RX0 yX0_let yX0_let, Cond.code yX0_let cX0_let 3 none, Cond.methodLink RX5 118 yX0_goOn, Cond.instanceMethod yX0_goOn, Cond.selects RX0 yX0_goOn yX0_goOn, Cond.code yX0_goOn cX0_goOn 4 (some .boolean), Cond.fieldLink RX0 18 "ClappedWrong$Crowd" "next" "[I", Cond.methodLink RX0 37 yX0_soundNext, Cond.instanceMethod yX0_soundNext, Cond.selects RX0 yX0_soundNext yX0_soundNext, Cond.code yX0_soundNext cX0_soundNext 4 (some .int), Cond.methodLink RX0 49 yX0_isTired, Cond.instanceMethod yX0_isTired, Cond.selects RX0 yX0_isTired yX0_isTired, Cond.code yX0_isTired cX0_isTired 4 (some .boolean), Cond.methodLink RX0 25 yX2_strengthOf, Cond.instanceMethod yX2_strengthOf, Cond.selects RX2 yX2_strengthOf yX2_strengthOf, Cond.code yX2_strengthOf cX2_strengthOf 2 (some .int), Cond.fieldLink RX2 18 "ClappedWrong$Hall" "strengths" "[I", Cond.methodLink RX0 31 yX0_clappedOf, Cond.instanceMethod yX0_clappedOf, Cond.selects RX0 yX0_clappedOf yX0_clappedOf]
def wsX5_nightsTold_r4 : List Cond := [Cond.code yX0_clappedOf cX0_clappedOf 2 (some .int), Cond.methodLink RX0 53 yX0_soundOf, Cond.instanceMethod yX0_soundOf, Cond.selects RX0 yX0_soundOf yX0_soundOf, Cond.code yX0_soundOf cX0_soundOf 2 (some .int), Cond.methodLink RX0 56 yX2_isOf, Cond.instanceMethod yX2_isOf, Cond.selects RX2 yX2_isOf yX2_isOf, Cond.code yX2_isOf cX2_isOf 4 (some .boolean), Cond.methodLink RX2 46 yX2_kindOf, Cond.methodLink RX0 63 yX0_seesArm, Cond.instanceMethod yX0_seesArm, Cond.selects RX0 yX0_seesArm yX0_seesArm, Cond.code yX0_seesArm cX0_seesArm 2 (some .boolean), Cond.methodLink RX0 67 yX0_soundOfMore, Cond.instanceMethod yX0_soundOfMore, Cond.selects RX0 yX0_soundOfMore yX0_soundOfMore, Cond.code yX0_soundOfMore cX0_soundOfMore 6 (some .int), Cond.methodLink RX0 70 yX0_palmsThatSound, Cond.instanceMethod yX0_palmsThatSound, Cond.selects RX0 yX0_palmsThatSound yX0_palmsThatSound, Cond.code yX0_palmsThatSound cX0_palmsThatSound 4 (some .int), Cond.methodLink RX0 41 yX0_let, Cond.static yX5_oneIf]
def wsX5_nightsTold_r5 : List Cond := [Cond.code yX5_oneIf cX5_oneIf 1 (some .int), Cond.methodLink RX5 125 yX0_palmsRight, Cond.instanceMethod yX0_palmsRight, Cond.selects RX0 yX0_palmsRight yX0_palmsRight, Cond.code yX0_palmsRight cX0_palmsRight 4 (some .int), Cond.methodLink RX0 80 yX2_palmsOf, Cond.instanceMethod yX2_palmsOf, Cond.selects RX2 yX2_palmsOf yX2_palmsOf, Cond.code yX2_palmsOf cX2_palmsOf 2 (some .int), Cond.fieldLink RX2 15 "ClappedWrong$Hall" "palms" "[I", Cond.methodLink RX5 179 yX2_allPalms, Cond.instanceMethod yX2_allPalms, Cond.selects RX2 yX2_allPalms yX2_allPalms, Cond.code yX2_allPalms cX2_allPalms 3 (some .int), Cond.methodLink RX5 218 yX5_oneIf]
def wsX5_nightsTold : List Cond := .code yX5_nightsTold cX5_nightsTold 7 (some .int) :: ((wsX5_nightsTold_r1 ++ (wsX5_nightsTold_r2 ++ (wsX5_nightsTold_r3 ++ (wsX5_nightsTold_r4 ++ wsX5_nightsTold_r5)))) ++ wsX10 ++ wsX50 ++ wsX30 ++ wsX00 ++ wsX20)
def wsX5_nights_r1 : List Cond := [Cond.fieldLink RX5 19 "ClappedWrong" "room" "LClappedWrong$Hall;", Cond.methodLink RX5 54 yX5_within, Cond.static yX5_within, Cond.initialized RX5, Cond.code yX5_within cX5_within 3 (some .boolean), Cond.methodLink RX5 112 yX2_isThere, Cond.instanceMethod yX2_isThere, Cond.selects RX2 yX2_isThere yX2_isThere, Cond.initialized RX2, Cond.code yX2_isThere cX2_isThere 1 (some .boolean), Cond.fieldLink RX2 21 "ClappedWrong$Hall" "rows" "I", Cond.methodLink RX5 168 yX5_nightsTold, Cond.instanceMethod yX5_nightsTold, Cond.selects RX5 yX5_nightsTold yX5_nightsTold, Cond.code yX5_nightsTold cX5_nightsTold 7 (some .int), Cond.classLink RX5 243 RX1, Cond.instantiable RX1 1, Cond.initialized RX1, Cond.fieldLink RX5 36 "ClappedWrong" "trial" "LClappedWrong$Crowd;", Cond.fieldLink RX5 26 "ClappedWrong" "night" "LClappedWrong$Night;", Cond.methodLink RX5 245 yX1_init, Cond.instanceMethod yX1_init, Cond.code yX1_init cX1_init 2 none, Cond.methodLink RX1 1 objectInit]
def wsX5_nights_r2 : List Cond := [Cond.instanceMethod objectInit, Cond.code objectInit ⟨#[0xb1]⟩ 1 none, Cond.fieldLink RX1 7 "ClappedWrong$Draws" "seed" "I", Cond.methodLink RX5 225 yX0_takeFrom, Cond.instanceMethod yX0_takeFrom, Cond.selects RX0 yX0_takeFrom yX0_takeFrom, Cond.initialized RX0, Cond.code yX0_takeFrom cX0_takeFrom 3 none, Cond.fieldLink RX0 9 "ClappedWrong$Crowd" "sounds" "[I", Cond.fieldLink RX0 15 "ClappedWrong$Crowd" "clapped" "[I", Cond.fieldLink RX0 21 "ClappedWrong$Crowd" "armRows" "I", Cond.methodLink RX5 248 yX5_happen, Cond.instanceMethod yX5_happen, Cond.selects RX5 yX5_happen yX5_happen, Cond.code yX5_happen cX5_happen 2 none, Cond.methodLink RX5 255 yX1_next, Cond.instanceMethod yX1_next, Cond.selects RX1 yX1_next yX1_next, Cond.code yX1_next cX1_next 2 (some .int), Cond.constantLong RX1 13 (1103515245), Cond.constantLong RX1 15 (12345), Cond.constantLong RX1 17 (2147483648), Cond.constant RX1 19 (65536), Cond.methodLink RX5 129 yX0_leaveBeatOut]
def wsX5_nights_r3 : List Cond := [Cond.instanceMethod yX0_leaveBeatOut, Cond.selects RX0 yX0_leaveBeatOut yX0_leaveBeatOut, Cond.code yX0_leaveBeatOut cX0_leaveBeatOut 3 none, Cond.methodLink RX0 60 yX2_kindOf, Cond.instanceMethod yX2_kindOf, Cond.selects RX2 yX2_kindOf yX2_kindOf, Cond.code yX2_kindOf cX2_kindOf 2 (some .int), Cond.fieldLink RX2 9 "ClappedWrong$Hall" "kinds" "[I", Cond.static yX5_swapped, Cond.code yX5_swapped cX5_swapped 1 (some .int), Cond.methodLink RX5 108 yX0_let, Cond.instanceMethod yX0_let, Cond.selects RX0 yX0_let yX0_let, Cond.code yX0_let cX0_let 3 none, Cond.methodLink RX5 118 yX0_goOn, Cond.instanceMethod yX0_goOn, Cond.selects RX0 yX0_goOn yX0_goOn, Cond.code yX0_goOn cX0_goOn 4 (some .boolean), Cond.fieldLink RX0 18 "ClappedWrong$Crowd" "next" "[I", Cond.methodLink RX0 37 yX0_soundNext, Cond.instanceMethod yX0_soundNext, Cond.selects RX0 yX0_soundNext yX0_soundNext, Cond.code yX0_soundNext cX0_soundNext 4 (some .int), Cond.methodLink RX0 49 yX0_isTired]
def wsX5_nights_r4 : List Cond := [Cond.instanceMethod yX0_isTired, Cond.selects RX0 yX0_isTired yX0_isTired, Cond.code yX0_isTired cX0_isTired 4 (some .boolean), Cond.methodLink RX0 25 yX2_strengthOf, Cond.instanceMethod yX2_strengthOf, Cond.selects RX2 yX2_strengthOf yX2_strengthOf, Cond.code yX2_strengthOf cX2_strengthOf 2 (some .int), Cond.fieldLink RX2 18 "ClappedWrong$Hall" "strengths" "[I", Cond.methodLink RX0 31 yX0_clappedOf, Cond.instanceMethod yX0_clappedOf, Cond.selects RX0 yX0_clappedOf yX0_clappedOf, Cond.code yX0_clappedOf cX0_clappedOf 2 (some .int), Cond.methodLink RX0 53 yX0_soundOf, Cond.instanceMethod yX0_soundOf, Cond.selects RX0 yX0_soundOf yX0_soundOf, Cond.code yX0_soundOf cX0_soundOf 2 (some .int), Cond.methodLink RX0 56 yX2_isOf, Cond.instanceMethod yX2_isOf, Cond.selects RX2 yX2_isOf yX2_isOf, Cond.code yX2_isOf cX2_isOf 4 (some .boolean), Cond.methodLink RX2 46 yX2_kindOf, Cond.methodLink RX0 63 yX0_seesArm, Cond.instanceMethod yX0_seesArm, Cond.selects RX0 yX0_seesArm yX0_seesArm]
def wsX5_nights_r5 : List Cond := [Cond.code yX0_seesArm cX0_seesArm 2 (some .boolean), Cond.methodLink RX0 67 yX0_soundOfMore, Cond.instanceMethod yX0_soundOfMore, Cond.selects RX0 yX0_soundOfMore yX0_soundOfMore, Cond.code yX0_soundOfMore cX0_soundOfMore 6 (some .int), Cond.methodLink RX0 70 yX0_palmsThatSound, Cond.instanceMethod yX0_palmsThatSound, Cond.selects RX0 yX0_palmsThatSound yX0_palmsThatSound, Cond.code yX0_palmsThatSound cX0_palmsThatSound 4 (some .int), Cond.methodLink RX0 41 yX0_let, Cond.static yX5_oneIf, Cond.code yX5_oneIf cX5_oneIf 1 (some .int), Cond.methodLink RX5 125 yX0_palmsRight, Cond.instanceMethod yX0_palmsRight, Cond.selects RX0 yX0_palmsRight yX0_palmsRight, Cond.code yX0_palmsRight cX0_palmsRight 4 (some .int), Cond.methodLink RX0 80 yX2_palmsOf, Cond.instanceMethod yX2_palmsOf, Cond.selects RX2 yX2_palmsOf yX2_palmsOf, Cond.code yX2_palmsOf cX2_palmsOf 2 (some .int), Cond.fieldLink RX2 15 "ClappedWrong$Hall" "palms" "[I", Cond.methodLink RX5 179 yX2_allPalms, Cond.instanceMethod yX2_allPalms, Cond.selects RX2 yX2_allPalms yX2_allPalms]
def wsX5_nights_r6 : List Cond := [Cond.code yX2_allPalms cX2_allPalms 3 (some .int), Cond.methodLink RX5 218 yX5_oneIf]
def wsX5_nights : List Cond := .code yX5_nights cX5_nights 4 (some .int) :: ((wsX5_nights_r1 ++ (wsX5_nights_r2 ++ (wsX5_nights_r3 ++ (wsX5_nights_r4 ++ (wsX5_nights_r5 ++ wsX5_nights_r6))))) ++ wsX50 ++ wsX20 ++ wsX10 ++ wsX30 ++ wsX00)
def wsX5_image_r1 : List Cond := [Cond.fieldLink RX5 19 "ClappedWrong" "room" "LClappedWrong$Hall;", Cond.fieldLink RX5 30 "ClappedWrong" "kept" "LClappedWrong$Night;", Cond.fieldLink RX5 26 "ClappedWrong" "night" "LClappedWrong$Night;", Cond.fieldLink RX5 40 "ClappedWrong" "isKept" "Z", Cond.methodLink RX5 112 yX2_isThere, Cond.instanceMethod yX2_isThere, Cond.selects RX2 yX2_isThere yX2_isThere, Cond.initialized RX2, Cond.code yX2_isThere cX2_isThere 1 (some .boolean), Cond.fieldLink RX2 21 "ClappedWrong$Hall" "rows" "I", Cond.methodLink RX5 172 yX3_takeFrom, Cond.instanceMethod yX3_takeFrom, Cond.selects RX3 yX3_takeFrom yX3_takeFrom, Cond.initialized RX3, Cond.code yX3_takeFrom cX3_takeFrom 3 none, Cond.fieldLink RX3 12 "ClappedWrong$Night" "crowd" "LClappedWrong$Crowd;", Cond.fieldLink RX3 18 "ClappedWrong$Night" "rightBehindBar" "[I", Cond.fieldLink RX3 22 "ClappedWrong$Night" "recorded" "I", Cond.fieldLink RX3 26 "ClappedWrong$Night" "barsGone" "I", Cond.fieldLink RX3 29 "ClappedWrong$Night" "beatsLeftOut" "I", Cond.methodLink RX3 41 yX0_takeFrom, Cond.instanceMethod yX0_takeFrom, Cond.selects RX0 yX0_takeFrom yX0_takeFrom, Cond.initialized RX0]
def wsX5_image_r2 : List Cond := [Cond.code yX0_takeFrom cX0_takeFrom 3 none, Cond.fieldLink RX0 9 "ClappedWrong$Crowd" "sounds" "[I", Cond.fieldLink RX0 15 "ClappedWrong$Crowd" "clapped" "[I", Cond.fieldLink RX0 21 "ClappedWrong$Crowd" "armRows" "I"]
def wsX5_image : List Cond := .code yX5_image cX5_image 1 (some .int) :: ((wsX5_image_r1 ++ wsX5_image_r2) ++ wsX50 ++ wsX30 ++ wsX20 ++ wsX00)
def wsX5_restore : List Cond := .code yX5_restore cX5_restore 1 (some .int) :: ([.fieldLink RX5 40 "ClappedWrong" "isKept" "Z", .fieldLink RX5 26 "ClappedWrong" "night" "LClappedWrong$Night;", .fieldLink RX5 30 "ClappedWrong" "kept" "LClappedWrong$Night;", .methodLink RX5 172 yX3_takeFrom, .instanceMethod yX3_takeFrom, .selects RX3 yX3_takeFrom yX3_takeFrom, .initialized RX3, .code yX3_takeFrom cX3_takeFrom 3 none, .fieldLink RX3 12 "ClappedWrong$Night" "crowd" "LClappedWrong$Crowd;", .fieldLink RX3 18 "ClappedWrong$Night" "rightBehindBar" "[I", .fieldLink RX3 22 "ClappedWrong$Night" "recorded" "I", .fieldLink RX3 26 "ClappedWrong$Night" "barsGone" "I", .fieldLink RX3 29 "ClappedWrong$Night" "beatsLeftOut" "I", .methodLink RX3 41 yX0_takeFrom, .instanceMethod yX0_takeFrom, .selects RX0 yX0_takeFrom yX0_takeFrom, .initialized RX0, .code yX0_takeFrom cX0_takeFrom 3 none, .fieldLink RX0 9 "ClappedWrong$Crowd" "sounds" "[I", .fieldLink RX0 15 "ClappedWrong$Crowd" "clapped" "[I", .fieldLink RX0 21 "ClappedWrong$Crowd" "armRows" "I"] ++ wsX50 ++ wsX30 ++ wsX00)
def wsX5_count : List Cond := .code yX5_count cX5_count 2 (some .int) :: ([.fieldLink RX5 19 "ClappedWrong" "room" "LClappedWrong$Hall;", .fieldLink RX5 26 "ClappedWrong" "night" "LClappedWrong$Night;", .fieldLink RX5 10 "ClappedWrong" "page" "LClappedWrong$Page;", .fieldLink RX5 44 "ClappedWrong" "hallsRead" "I", .fieldLink RX5 48 "ClappedWrong" "turnedDone" "I", .fieldLink RX5 51 "ClappedWrong" "beganDone" "I", .methodLink RX5 179 yX2_allPalms, .instanceMethod yX2_allPalms, .selects RX2 yX2_allPalms yX2_allPalms, .initialized RX2, .code yX2_allPalms cX2_allPalms 3 (some .int), .fieldLink RX2 21 "ClappedWrong$Hall" "rows" "I", .fieldLink RX2 15 "ClappedWrong$Hall" "palms" "[I", .methodLink RX5 125 yX0_palmsRight, .instanceMethod yX0_palmsRight, .selects RX0 yX0_palmsRight yX0_palmsRight, .initialized RX0, .code yX0_palmsRight cX0_palmsRight 4 (some .int), .fieldLink RX0 9 "ClappedWrong$Crowd" "sounds" "[I", .methodLink RX0 80 yX2_palmsOf, .instanceMethod yX2_palmsOf, .selects RX2 yX2_palmsOf yX2_palmsOf, .code yX2_palmsOf cX2_palmsOf 2 (some .int)] ++ wsX50 ++ wsX20 ++ wsX30 ++ wsX00 ++ wsX40)
def wsX5_mixed : List Cond := .code yX5_mixed cX5_mixed 3 (some .long) :: ([.constantLong RX5 194 (31)])
def wsX5_digest_r1 : List Cond := [Cond.constantLong RX5 182 (773), Cond.fieldLink RX5 19 "ClappedWrong" "room" "LClappedWrong$Hall;", Cond.fieldLink RX5 26 "ClappedWrong" "night" "LClappedWrong$Night;", Cond.fieldLink RX5 10 "ClappedWrong" "page" "LClappedWrong$Page;", Cond.methodLink RX5 90 yX5_aboutRow, Cond.instanceMethod yX5_aboutRow, Cond.selects RX5 yX5_aboutRow yX5_aboutRow, Cond.initialized RX5, Cond.code yX5_aboutRow cX5_aboutRow 4 (some .int), Cond.methodLink RX5 202 yX2_kindOf, Cond.instanceMethod yX2_kindOf, Cond.selects RX2 yX2_kindOf yX2_kindOf, Cond.initialized RX2, Cond.code yX2_kindOf cX2_kindOf 2 (some .int), Cond.fieldLink RX2 21 "ClappedWrong$Hall" "rows" "I", Cond.fieldLink RX2 9 "ClappedWrong$Hall" "kinds" "[I", Cond.methodLink RX5 205 yX2_palmsOf, Cond.instanceMethod yX2_palmsOf, Cond.selects RX2 yX2_palmsOf yX2_palmsOf, Cond.code yX2_palmsOf cX2_palmsOf 2 (some .int), Cond.fieldLink RX2 15 "ClappedWrong$Hall" "palms" "[I", Cond.methodLink RX5 208 yX2_strengthOf, Cond.instanceMethod yX2_strengthOf, Cond.selects RX2 yX2_strengthOf yX2_strengthOf]
def wsX5_digest_r2 : List Cond := [Cond.code yX2_strengthOf cX2_strengthOf 2 (some .int), Cond.fieldLink RX2 18 "ClappedWrong$Hall" "strengths" "[I", Cond.methodLink RX5 196 yX2_lag, Cond.instanceMethod yX2_lag, Cond.selects RX2 yX2_lag yX2_lag, Cond.code yX2_lag cX2_lag 2 (some .int), Cond.fieldLink RX2 25 "ClappedWrong$Hall" "late" "I", Cond.methodLink RX5 101 yX0_soundOf, Cond.instanceMethod yX0_soundOf, Cond.selects RX0 yX0_soundOf yX0_soundOf, Cond.initialized RX0, Cond.code yX0_soundOf cX0_soundOf 2 (some .int), Cond.fieldLink RX0 9 "ClappedWrong$Crowd" "sounds" "[I", Cond.methodLink RX5 105 yX5_heard, Cond.instanceMethod yX5_heard, Cond.selects RX5 yX5_heard yX5_heard, Cond.code yX5_heard cX5_heard 3 (some .int), Cond.methodLink RX5 199 yX5_swapped, Cond.static yX5_swapped, Cond.code yX5_swapped cX5_swapped 1 (some .int), Cond.methodLink RX5 211 yX0_clappedOf, Cond.instanceMethod yX0_clappedOf, Cond.selects RX0 yX0_clappedOf yX0_clappedOf, Cond.code yX0_clappedOf cX0_clappedOf 2 (some .int)]
def wsX5_digest_r3 : List Cond := [Cond.fieldLink RX0 15 "ClappedWrong$Crowd" "clapped" "[I", Cond.methodLink RX5 214 yX0_isTired, Cond.instanceMethod yX0_isTired, Cond.selects RX0 yX0_isTired yX0_isTired, Cond.code yX0_isTired cX0_isTired 4 (some .boolean), Cond.methodLink RX0 25 yX2_strengthOf, Cond.methodLink RX0 31 yX0_clappedOf, Cond.methodLink RX5 218 yX5_oneIf, Cond.static yX5_oneIf, Cond.code yX5_oneIf cX5_oneIf 1 (some .int), Cond.methodLink RX5 222 yX0_seesArm, Cond.instanceMethod yX0_seesArm, Cond.selects RX0 yX0_seesArm yX0_seesArm, Cond.code yX0_seesArm cX0_seesArm 2 (some .boolean), Cond.fieldLink RX0 21 "ClappedWrong$Crowd" "armRows" "I", Cond.methodLink RX5 184 yX5_mixed, Cond.static yX5_mixed, Cond.code yX5_mixed cX5_mixed 3 (some .long), Cond.constantLong RX5 194 (31), Cond.methodLink RX5 135 yX0_loudness, Cond.instanceMethod yX0_loudness, Cond.selects RX0 yX0_loudness yX0_loudness, Cond.code yX0_loudness cX0_loudness 7 (some .int), Cond.methodLink RX0 70 yX0_palmsThatSound]
def wsX5_digest_r4 : List Cond := [Cond.instanceMethod yX0_palmsThatSound, Cond.selects RX0 yX0_palmsThatSound yX0_palmsThatSound, Cond.code yX0_palmsThatSound cX0_palmsThatSound 4 (some .int), Cond.methodLink RX5 112 yX2_isThere, Cond.instanceMethod yX2_isThere, Cond.selects RX2 yX2_isThere yX2_isThere, Cond.code yX2_isThere cX2_isThere 1 (some .boolean), Cond.methodLink RX5 139 yX5_barsToRest, Cond.instanceMethod yX5_barsToRest, Cond.selects RX5 yX5_barsToRest yX5_barsToRest, Cond.code yX5_barsToRest cX5_barsToRest 2 (some .int), Cond.fieldLink RX5 36 "ClappedWrong" "trial" "LClappedWrong$Crowd;", Cond.methodLink RX5 225 yX0_takeFrom, Cond.instanceMethod yX0_takeFrom, Cond.selects RX0 yX0_takeFrom yX0_takeFrom, Cond.code yX0_takeFrom cX0_takeFrom 3 none, Cond.methodLink RX5 118 yX0_goOn, Cond.instanceMethod yX0_goOn, Cond.selects RX0 yX0_goOn yX0_goOn, Cond.code yX0_goOn cX0_goOn 4 (some .boolean), Cond.fieldLink RX0 18 "ClappedWrong$Crowd" "next" "[I", Cond.methodLink RX0 37 yX0_soundNext, Cond.instanceMethod yX0_soundNext, Cond.selects RX0 yX0_soundNext yX0_soundNext]
def wsX5_digest_r5 : List Cond := [Cond.code yX0_soundNext cX0_soundNext 4 (some .int), Cond.methodLink RX0 49 yX0_isTired, Cond.methodLink RX0 53 yX0_soundOf, Cond.methodLink RX0 56 yX2_isOf, Cond.instanceMethod yX2_isOf, Cond.selects RX2 yX2_isOf yX2_isOf, Cond.code yX2_isOf cX2_isOf 4 (some .boolean), Cond.methodLink RX2 46 yX2_kindOf, Cond.methodLink RX0 60 yX2_kindOf, Cond.methodLink RX0 63 yX0_seesArm, Cond.methodLink RX0 67 yX0_soundOfMore, Cond.instanceMethod yX0_soundOfMore, Cond.selects RX0 yX0_soundOfMore yX0_soundOfMore, Cond.code yX0_soundOfMore cX0_soundOfMore 6 (some .int), Cond.methodLink RX0 41 yX0_let, Cond.instanceMethod yX0_let, Cond.selects RX0 yX0_let yX0_let, Cond.code yX0_let cX0_let 3 none, Cond.methodLink RX5 142 yX5_rightBehind, Cond.instanceMethod yX5_rightBehind, Cond.selects RX5 yX5_rightBehind yX5_rightBehind, Cond.code yX5_rightBehind cX5_rightBehind 4 (some .int), Cond.methodLink RX5 129 yX0_leaveBeatOut, Cond.instanceMethod yX0_leaveBeatOut]
def wsX5_digest_r6 : List Cond := [Cond.selects RX0 yX0_leaveBeatOut yX0_leaveBeatOut, Cond.code yX0_leaveBeatOut cX0_leaveBeatOut 3 none, Cond.methodLink RX5 125 yX0_palmsRight, Cond.instanceMethod yX0_palmsRight, Cond.selects RX0 yX0_palmsRight yX0_palmsRight, Cond.code yX0_palmsRight cX0_palmsRight 4 (some .int), Cond.methodLink RX0 80 yX2_palmsOf, Cond.methodLink RX5 145 yX5_trickTold, Cond.instanceMethod yX5_trickTold, Cond.selects RX5 yX5_trickTold yX5_trickTold, Cond.code yX5_trickTold cX5_trickTold 7 (some .int), Cond.methodLink RX5 188 yX4_codeAt, Cond.instanceMethod yX4_codeAt, Cond.selects RX4 yX4_codeAt yX4_codeAt, Cond.initialized RX4, Cond.code yX4_codeAt cX4_codeAt 2 (some .int), Cond.fieldLink RX4 9 "ClappedWrong$Page" "codes" "[I", Cond.static yX5_within, Cond.code yX5_within cX5_within 3 (some .boolean), Cond.methodLink RX5 191 yX5_count, Cond.instanceMethod yX5_count, Cond.selects RX5 yX5_count yX5_count, Cond.code yX5_count cX5_count 2 (some .int), Cond.fieldLink RX5 44 "ClappedWrong" "hallsRead" "I"]
def wsX5_digest_r7 : List Cond := [Cond.fieldLink RX5 48 "ClappedWrong" "turnedDone" "I", Cond.fieldLink RX5 51 "ClappedWrong" "beganDone" "I", Cond.methodLink RX5 179 yX2_allPalms, Cond.instanceMethod yX2_allPalms, Cond.selects RX2 yX2_allPalms yX2_allPalms, Cond.code yX2_allPalms cX2_allPalms 3 (some .int)]
def wsX5_digest : List Cond := .code yX5_digest cX5_digest 5 (some .long) :: ((wsX5_digest_r1 ++ (wsX5_digest_r2 ++ (wsX5_digest_r3 ++ (wsX5_digest_r4 ++ (wsX5_digest_r5 ++ (wsX5_digest_r6 ++ wsX5_digest_r7)))))) ++ wsX50 ++ wsX20 ++ wsX30 ++ wsX40 ++ wsX00)
def wsX6_init : List Cond := .code yX6_init cX6_init 1 none :: ([.methodLink RX6 1 objectInit, .instanceMethod objectInit, .code objectInit ⟨#[0xb1]⟩ 1 none, .arrayClass .int, .fieldLink RX6 7 "ClappedWrongModel" "page" "[I", .fieldLink RX6 13 "ClappedWrongModel" "read" "[I", .fieldLink RX6 16 "ClappedWrongModel" "rows" "[I", .fieldLink RX6 19 "ClappedWrongModel" "sounds" "[I", .fieldLink RX6 22 "ClappedWrongModel" "clapped" "[I", .fieldLink RX6 25 "ClappedWrongModel" "now" "[I", .fieldLink RX6 28 "ClappedWrongModel" "nowLong" "[I", .fieldLink RX6 31 "ClappedWrongModel" "ahead" "[I", .fieldLink RX6 34 "ClappedWrongModel" "records" "[I", .fieldLink RX6 37 "ClappedWrongModel" "keptSounds" "[I", .fieldLink RX6 40 "ClappedWrongModel" "keptClapped" "[I", .fieldLink RX6 43 "ClappedWrongModel" "keptRecords" "[I", .fieldLink RX6 46 "ClappedWrongModel" "keptHall" "I"] ++ wsX60)
def wsX6_in : List Cond := .code yX6_in cX6_in 6 (some .boolean) :: ([])
def wsX6_letter : List Cond := .code yX6_letter cX6_letter 2 (some .int) :: ([.constantLong RX6 50 (126), .fieldLink RX6 56 "ClappedWrongModel" "pageMany" "I", .fieldLink RX6 7 "ClappedWrongModel" "page" "[I", .methodLink RX6 52 yX6_in, .static yX6_in, .initialized RX6, .code yX6_in cX6_in 6 (some .boolean)] ++ wsX60)
def wsX6_blank : List Cond := .code yX6_blank cX6_blank 2 (some .int) :: ([.fieldLink RX6 56 "ClappedWrongModel" "pageMany" "I"] ++ wsX60)
def wsX6_kindBy : List Cond := .code yX6_kindBy cX6_kindBy 1 (some .int) :: ([])
def wsX6_go : List Cond := .code yX6_go cX6_go 4 (some .boolean) :: ([.fieldLink RX6 59 "ClappedWrongModel" "state" "I", .fieldLink RX6 13 "ClappedWrongModel" "read" "[I", .fieldLink RX6 62 "ClappedWrongModel" "readMany" "I", .constantLong RX6 69 (9), .fieldLink RX6 71 "ClappedWrongModel" "readLate" "I", .constantLong RX6 74 (3), .methodLink RX6 65 yX6_kindBy, .static yX6_kindBy, .initialized RX6, .code yX6_kindBy cX6_kindBy 1 (some .int), .methodLink RX6 52 yX6_in, .static yX6_in, .code yX6_in cX6_in 6 (some .boolean)] ++ wsX60)
def wsX6_faultOf : List Cond := .code yX6_faultOf cX6_faultOf 2 (some .int) :: ([.fieldLink RX6 62 "ClappedWrongModel" "readMany" "I", .fieldLink RX6 59 "ClappedWrongModel" "state" "I", .fieldLink RX6 56 "ClappedWrongModel" "pageMany" "I", .fieldLink RX6 7 "ClappedWrongModel" "page" "[I", .methodLink RX6 76 yX6_go, .instanceMethod yX6_go, .selects RX6 yX6_go yX6_go, .initialized RX6, .code yX6_go cX6_go 4 (some .boolean), .fieldLink RX6 13 "ClappedWrongModel" "read" "[I", .constantLong RX6 69 (9), .fieldLink RX6 71 "ClappedWrongModel" "readLate" "I", .constantLong RX6 74 (3), .methodLink RX6 65 yX6_kindBy, .static yX6_kindBy, .code yX6_kindBy cX6_kindBy 1 (some .int), .methodLink RX6 52 yX6_in, .static yX6_in, .code yX6_in cX6_in 6 (some .boolean)] ++ wsX60)
def wsX6_fault : List Cond := .code yX6_fault cX6_fault 1 (some .int) :: ([.methodLink RX6 80 yX6_faultOf, .instanceMethod yX6_faultOf, .selects RX6 yX6_faultOf yX6_faultOf, .initialized RX6, .code yX6_faultOf cX6_faultOf 2 (some .int), .fieldLink RX6 62 "ClappedWrongModel" "readMany" "I", .fieldLink RX6 59 "ClappedWrongModel" "state" "I", .fieldLink RX6 56 "ClappedWrongModel" "pageMany" "I", .fieldLink RX6 7 "ClappedWrongModel" "page" "[I", .methodLink RX6 76 yX6_go, .instanceMethod yX6_go, .selects RX6 yX6_go yX6_go, .code yX6_go cX6_go 4 (some .boolean), .fieldLink RX6 13 "ClappedWrongModel" "read" "[I", .constantLong RX6 69 (9), .fieldLink RX6 71 "ClappedWrongModel" "readLate" "I", .constantLong RX6 74 (3), .methodLink RX6 65 yX6_kindBy, .static yX6_kindBy, .code yX6_kindBy cX6_kindBy 1 (some .int), .methodLink RX6 52 yX6_in, .static yX6_in, .code yX6_in cX6_in 6 (some .boolean)] ++ wsX60)
def wsX6_hall_r1 : List Cond := [Cond.fieldLink RX6 56 "ClappedWrongModel" "pageMany" "I", Cond.fieldLink RX6 59 "ClappedWrongModel" "state" "I", Cond.fieldLink RX6 16 "ClappedWrongModel" "rows" "[I", Cond.fieldLink RX6 13 "ClappedWrongModel" "read" "[I", Cond.fieldLink RX6 19 "ClappedWrongModel" "sounds" "[I", Cond.fieldLink RX6 22 "ClappedWrongModel" "clapped" "[I", Cond.fieldLink RX6 62 "ClappedWrongModel" "readMany" "I", Cond.fieldLink RX6 84 "ClappedWrongModel" "many" "I", Cond.fieldLink RX6 71 "ClappedWrongModel" "readLate" "I", Cond.fieldLink RX6 87 "ClappedWrongModel" "late" "I", Cond.fieldLink RX6 90 "ClappedWrongModel" "armNow" "I", Cond.fieldLink RX6 93 "ClappedWrongModel" "barNow" "I", Cond.fieldLink RX6 96 "ClappedWrongModel" "skips" "I", Cond.fieldLink RX6 99 "ClappedWrongModel" "recordMany" "I", Cond.fieldLink RX6 102 "ClappedWrongModel" "hallsRead" "I", Cond.methodLink RX6 80 yX6_faultOf, Cond.instanceMethod yX6_faultOf, Cond.selects RX6 yX6_faultOf yX6_faultOf, Cond.initialized RX6, Cond.code yX6_faultOf cX6_faultOf 2 (some .int), Cond.fieldLink RX6 7 "ClappedWrongModel" "page" "[I", Cond.methodLink RX6 76 yX6_go, Cond.instanceMethod yX6_go, Cond.selects RX6 yX6_go yX6_go]
def wsX6_hall_r2 : List Cond := [Cond.code yX6_go cX6_go 4 (some .boolean), Cond.constantLong RX6 69 (9), Cond.constantLong RX6 74 (3), Cond.methodLink RX6 65 yX6_kindBy, Cond.static yX6_kindBy, Cond.code yX6_kindBy cX6_kindBy 1 (some .int), Cond.methodLink RX6 52 yX6_in, Cond.static yX6_in, Cond.code yX6_in cX6_in 6 (some .boolean)]
def wsX6_hall : List Cond := .code yX6_hall cX6_hall 2 (some .int) :: ((wsX6_hall_r1 ++ wsX6_hall_r2) ++ wsX60)
def wsX6_lacks : List Cond := .code yX6_lacks cX6_lacks 1 (some .boolean) :: ([.fieldLink RX6 84 "ClappedWrongModel" "many" "I"] ++ wsX60)
def wsX6_isRow : List Cond := .code yX6_isRow cX6_isRow 2 (some .boolean) :: ([.fieldLink RX6 84 "ClappedWrongModel" "many" "I", .methodLink RX6 52 yX6_in, .static yX6_in, .initialized RX6, .code yX6_in cX6_in 6 (some .boolean)] ++ wsX60)
def wsX6_lagOf : List Cond := .code yX6_lagOf cX6_lagOf 2 (some .int) :: ([.fieldLink RX6 87 "ClappedWrongModel" "late" "I"] ++ wsX60)
def wsX6_byLag : List Cond := .code yX6_byLag cX6_byLag 4 (some .int) :: ([.methodLink RX6 105 yX6_lagOf, .instanceMethod yX6_lagOf, .selects RX6 yX6_lagOf yX6_lagOf, .initialized RX6, .code yX6_lagOf cX6_lagOf 2 (some .int), .fieldLink RX6 87 "ClappedWrongModel" "late" "I"] ++ wsX60)
def wsX6_isTired : List Cond := .code yX6_isTired cX6_isTired 3 (some .boolean) :: ([.fieldLink RX6 16 "ClappedWrongModel" "rows" "[I"] ++ wsX60)
def wsX6_tell : List Cond := .code yX6_tell cX6_tell 3 (some .int) :: ([.fieldLink RX6 16 "ClappedWrongModel" "rows" "[I", .fieldLink RX6 19 "ClappedWrongModel" "sounds" "[I", .fieldLink RX6 22 "ClappedWrongModel" "clapped" "[I", .fieldLink RX6 90 "ClappedWrongModel" "armNow" "I", .methodLink RX6 105 yX6_lagOf, .instanceMethod yX6_lagOf, .selects RX6 yX6_lagOf yX6_lagOf, .initialized RX6, .code yX6_lagOf cX6_lagOf 2 (some .int), .fieldLink RX6 87 "ClappedWrongModel" "late" "I", .methodLink RX6 108 yX6_byLag, .instanceMethod yX6_byLag, .selects RX6 yX6_byLag yX6_byLag, .code yX6_byLag cX6_byLag 4 (some .int), .methodLink RX6 112 yX6_isTired, .instanceMethod yX6_isTired, .selects RX6 yX6_isTired yX6_isTired, .code yX6_isTired cX6_isTired 3 (some .boolean)] ++ wsX60)
def wsX6_about_r1 : List Cond := [Cond.methodLink RX6 116 yX6_isRow, Cond.instanceMethod yX6_isRow, Cond.selects RX6 yX6_isRow yX6_isRow, Cond.initialized RX6, Cond.code yX6_isRow cX6_isRow 2 (some .boolean), Cond.fieldLink RX6 84 "ClappedWrongModel" "many" "I", Cond.methodLink RX6 52 yX6_in, Cond.static yX6_in, Cond.code yX6_in cX6_in 6 (some .boolean), Cond.methodLink RX6 119 yX6_tell, Cond.instanceMethod yX6_tell, Cond.selects RX6 yX6_tell yX6_tell, Cond.code yX6_tell cX6_tell 3 (some .int), Cond.fieldLink RX6 16 "ClappedWrongModel" "rows" "[I", Cond.fieldLink RX6 19 "ClappedWrongModel" "sounds" "[I", Cond.fieldLink RX6 22 "ClappedWrongModel" "clapped" "[I", Cond.fieldLink RX6 90 "ClappedWrongModel" "armNow" "I", Cond.methodLink RX6 105 yX6_lagOf, Cond.instanceMethod yX6_lagOf, Cond.selects RX6 yX6_lagOf yX6_lagOf, Cond.code yX6_lagOf cX6_lagOf 2 (some .int), Cond.fieldLink RX6 87 "ClappedWrongModel" "late" "I", Cond.methodLink RX6 108 yX6_byLag, Cond.instanceMethod yX6_byLag]
def wsX6_about_r2 : List Cond := [Cond.selects RX6 yX6_byLag yX6_byLag, Cond.code yX6_byLag cX6_byLag 4 (some .int), Cond.methodLink RX6 112 yX6_isTired, Cond.instanceMethod yX6_isTired, Cond.selects RX6 yX6_isTired yX6_isTired, Cond.code yX6_isTired cX6_isTired 3 (some .boolean)]
def wsX6_about : List Cond := .code yX6_about cX6_about 3 (some .int) :: ((wsX6_about_r1 ++ wsX6_about_r2) ++ wsX60)
def wsX6_as : List Cond := .code yX6_as cX6_as 5 (some .int) :: ([.constantLong RX6 122 (4), .fieldLink RX6 16 "ClappedWrongModel" "rows" "[I", .methodLink RX6 116 yX6_isRow, .instanceMethod yX6_isRow, .selects RX6 yX6_isRow yX6_isRow, .initialized RX6, .code yX6_isRow cX6_isRow 2 (some .boolean), .fieldLink RX6 84 "ClappedWrongModel" "many" "I", .methodLink RX6 52 yX6_in, .static yX6_in, .code yX6_in cX6_in 6 (some .boolean)] ++ wsX60)
def wsX6_asItIs : List Cond := .code yX6_asItIs cX6_asItIs 2 none :: ([.fieldLink RX6 25 "ClappedWrongModel" "now" "[I", .fieldLink RX6 19 "ClappedWrongModel" "sounds" "[I", .fieldLink RX6 28 "ClappedWrongModel" "nowLong" "[I", .fieldLink RX6 22 "ClappedWrongModel" "clapped" "[I", .fieldLink RX6 90 "ClappedWrongModel" "armNow" "I", .fieldLink RX6 124 "ClappedWrongModel" "nowArm" "I"] ++ wsX60)
def wsX6_isStubborn : List Cond := .code yX6_isStubborn cX6_isStubborn 2 (some .boolean) :: ([.fieldLink RX6 16 "ClappedWrongModel" "rows" "[I"] ++ wsX60)
def wsX6_palmsBy : List Cond := .code yX6_palmsBy cX6_palmsBy 5 (some .int) :: ([.fieldLink RX6 31 "ClappedWrongModel" "ahead" "[I", .fieldLink RX6 16 "ClappedWrongModel" "rows" "[I", .methodLink RX6 116 yX6_isRow, .instanceMethod yX6_isRow, .selects RX6 yX6_isRow yX6_isRow, .initialized RX6, .code yX6_isRow cX6_isRow 2 (some .boolean), .fieldLink RX6 84 "ClappedWrongModel" "many" "I", .methodLink RX6 52 yX6_in, .static yX6_in, .code yX6_in cX6_in 6 (some .boolean)] ++ wsX60)
def wsX6_nextOf_r1 : List Cond := [Cond.fieldLink RX6 28 "ClappedWrongModel" "nowLong" "[I", Cond.fieldLink RX6 31 "ClappedWrongModel" "ahead" "[I", Cond.fieldLink RX6 16 "ClappedWrongModel" "rows" "[I", Cond.fieldLink RX6 124 "ClappedWrongModel" "nowArm" "I", Cond.methodLink RX6 112 yX6_isTired, Cond.instanceMethod yX6_isTired, Cond.selects RX6 yX6_isTired yX6_isTired, Cond.initialized RX6, Cond.code yX6_isTired cX6_isTired 3 (some .boolean), Cond.methodLink RX6 127 yX6_isStubborn, Cond.instanceMethod yX6_isStubborn, Cond.selects RX6 yX6_isStubborn yX6_isStubborn, Cond.code yX6_isStubborn cX6_isStubborn 2 (some .boolean), Cond.methodLink RX6 130 yX6_palmsBy, Cond.instanceMethod yX6_palmsBy, Cond.selects RX6 yX6_palmsBy yX6_palmsBy, Cond.code yX6_palmsBy cX6_palmsBy 5 (some .int), Cond.methodLink RX6 116 yX6_isRow, Cond.instanceMethod yX6_isRow, Cond.selects RX6 yX6_isRow yX6_isRow, Cond.code yX6_isRow cX6_isRow 2 (some .boolean), Cond.fieldLink RX6 84 "ClappedWrongModel" "many" "I", Cond.methodLink RX6 52 yX6_in, Cond.static yX6_in]
def wsX6_nextOf_r2 : List Cond := [Cond.code yX6_in cX6_in 6 (some .boolean)]
def wsX6_nextOf : List Cond := .code yX6_nextOf cX6_nextOf 4 (some .int) :: ((wsX6_nextOf_r1 ++ wsX6_nextOf_r2) ++ wsX60)
def wsX6_pass_r1 : List Cond := [Cond.fieldLink RX6 31 "ClappedWrongModel" "ahead" "[I", Cond.fieldLink RX6 25 "ClappedWrongModel" "now" "[I", Cond.fieldLink RX6 84 "ClappedWrongModel" "many" "I", Cond.fieldLink RX6 28 "ClappedWrongModel" "nowLong" "[I", Cond.methodLink RX6 133 yX6_nextOf, Cond.instanceMethod yX6_nextOf, Cond.selects RX6 yX6_nextOf yX6_nextOf, Cond.initialized RX6, Cond.code yX6_nextOf cX6_nextOf 4 (some .int), Cond.fieldLink RX6 16 "ClappedWrongModel" "rows" "[I", Cond.fieldLink RX6 124 "ClappedWrongModel" "nowArm" "I", Cond.methodLink RX6 112 yX6_isTired, Cond.instanceMethod yX6_isTired, Cond.selects RX6 yX6_isTired yX6_isTired, Cond.code yX6_isTired cX6_isTired 3 (some .boolean), Cond.methodLink RX6 127 yX6_isStubborn, Cond.instanceMethod yX6_isStubborn, Cond.selects RX6 yX6_isStubborn yX6_isStubborn, Cond.code yX6_isStubborn cX6_isStubborn 2 (some .boolean), Cond.methodLink RX6 130 yX6_palmsBy, Cond.instanceMethod yX6_palmsBy, Cond.selects RX6 yX6_palmsBy yX6_palmsBy, Cond.code yX6_palmsBy cX6_palmsBy 5 (some .int), Cond.methodLink RX6 116 yX6_isRow]
def wsX6_pass_r2 : List Cond := [Cond.instanceMethod yX6_isRow, Cond.selects RX6 yX6_isRow yX6_isRow, Cond.code yX6_isRow cX6_isRow 2 (some .boolean), Cond.methodLink RX6 52 yX6_in, Cond.static yX6_in, Cond.code yX6_in cX6_in 6 (some .boolean)]
def wsX6_pass : List Cond := .code yX6_pass cX6_pass 2 none :: ((wsX6_pass_r1 ++ wsX6_pass_r2) ++ wsX60)
def wsX6_passAll_r1 : List Cond := [Cond.methodLink RX6 136 yX6_pass, Cond.instanceMethod yX6_pass, Cond.selects RX6 yX6_pass yX6_pass, Cond.initialized RX6, Cond.code yX6_pass cX6_pass 2 none, Cond.fieldLink RX6 31 "ClappedWrongModel" "ahead" "[I", Cond.fieldLink RX6 25 "ClappedWrongModel" "now" "[I", Cond.fieldLink RX6 84 "ClappedWrongModel" "many" "I", Cond.fieldLink RX6 28 "ClappedWrongModel" "nowLong" "[I", Cond.methodLink RX6 133 yX6_nextOf, Cond.instanceMethod yX6_nextOf, Cond.selects RX6 yX6_nextOf yX6_nextOf, Cond.code yX6_nextOf cX6_nextOf 4 (some .int), Cond.fieldLink RX6 16 "ClappedWrongModel" "rows" "[I", Cond.fieldLink RX6 124 "ClappedWrongModel" "nowArm" "I", Cond.methodLink RX6 112 yX6_isTired, Cond.instanceMethod yX6_isTired, Cond.selects RX6 yX6_isTired yX6_isTired, Cond.code yX6_isTired cX6_isTired 3 (some .boolean), Cond.methodLink RX6 127 yX6_isStubborn, Cond.instanceMethod yX6_isStubborn, Cond.selects RX6 yX6_isStubborn yX6_isStubborn, Cond.code yX6_isStubborn cX6_isStubborn 2 (some .boolean), Cond.methodLink RX6 130 yX6_palmsBy]
def wsX6_passAll_r2 : List Cond := [Cond.instanceMethod yX6_palmsBy, Cond.selects RX6 yX6_palmsBy yX6_palmsBy, Cond.code yX6_palmsBy cX6_palmsBy 5 (some .int), Cond.methodLink RX6 116 yX6_isRow, Cond.instanceMethod yX6_isRow, Cond.selects RX6 yX6_isRow yX6_isRow, Cond.code yX6_isRow cX6_isRow 2 (some .boolean), Cond.methodLink RX6 52 yX6_in, Cond.static yX6_in, Cond.code yX6_in cX6_in 6 (some .boolean)]
def wsX6_passAll : List Cond := .code yX6_passAll cX6_passAll 3 none :: ((wsX6_passAll_r1 ++ wsX6_passAll_r2) ++ wsX60)
def wsX6_leaveOut : List Cond := .code yX6_leaveOut cX6_leaveOut 2 none :: ([.fieldLink RX6 84 "ClappedWrongModel" "many" "I", .fieldLink RX6 16 "ClappedWrongModel" "rows" "[I", .fieldLink RX6 25 "ClappedWrongModel" "now" "[I"] ++ wsX60)
def wsX6_makes : List Cond := .code yX6_makes cX6_makes 3 none :: ([.fieldLink RX6 25 "ClappedWrongModel" "now" "[I", .fieldLink RX6 28 "ClappedWrongModel" "nowLong" "[I"] ++ wsX60)
def wsX6_rightNow : List Cond := .code yX6_rightNow cX6_rightNow 3 (some .int) :: ([.fieldLink RX6 84 "ClappedWrongModel" "many" "I", .fieldLink RX6 25 "ClappedWrongModel" "now" "[I", .fieldLink RX6 16 "ClappedWrongModel" "rows" "[I"] ++ wsX60)
def wsX6_layNow : List Cond := .code yX6_layNow cX6_layNow 2 none :: ([.fieldLink RX6 19 "ClappedWrongModel" "sounds" "[I", .fieldLink RX6 25 "ClappedWrongModel" "now" "[I", .fieldLink RX6 22 "ClappedWrongModel" "clapped" "[I", .fieldLink RX6 28 "ClappedWrongModel" "nowLong" "[I"] ++ wsX60)
def wsX6_clap_r1 : List Cond := [Cond.constantLong RX6 74 (3), Cond.fieldLink RX6 19 "ClappedWrongModel" "sounds" "[I", Cond.methodLink RX6 116 yX6_isRow, Cond.instanceMethod yX6_isRow, Cond.selects RX6 yX6_isRow yX6_isRow, Cond.initialized RX6, Cond.code yX6_isRow cX6_isRow 2 (some .boolean), Cond.fieldLink RX6 84 "ClappedWrongModel" "many" "I", Cond.methodLink RX6 52 yX6_in, Cond.static yX6_in, Cond.code yX6_in cX6_in 6 (some .boolean), Cond.methodLink RX6 108 yX6_byLag, Cond.instanceMethod yX6_byLag, Cond.selects RX6 yX6_byLag yX6_byLag, Cond.code yX6_byLag cX6_byLag 4 (some .int), Cond.methodLink RX6 105 yX6_lagOf, Cond.instanceMethod yX6_lagOf, Cond.selects RX6 yX6_lagOf yX6_lagOf, Cond.code yX6_lagOf cX6_lagOf 2 (some .int), Cond.fieldLink RX6 87 "ClappedWrongModel" "late" "I", Cond.methodLink RX6 139 yX6_asItIs, Cond.instanceMethod yX6_asItIs, Cond.selects RX6 yX6_asItIs yX6_asItIs, Cond.code yX6_asItIs cX6_asItIs 2 none]
def wsX6_clap_r2 : List Cond := [Cond.fieldLink RX6 25 "ClappedWrongModel" "now" "[I", Cond.fieldLink RX6 28 "ClappedWrongModel" "nowLong" "[I", Cond.fieldLink RX6 22 "ClappedWrongModel" "clapped" "[I", Cond.fieldLink RX6 90 "ClappedWrongModel" "armNow" "I", Cond.fieldLink RX6 124 "ClappedWrongModel" "nowArm" "I", Cond.methodLink RX6 142 yX6_makes, Cond.instanceMethod yX6_makes, Cond.selects RX6 yX6_makes yX6_makes, Cond.code yX6_makes cX6_makes 3 none, Cond.methodLink RX6 146 yX6_layNow, Cond.instanceMethod yX6_layNow, Cond.selects RX6 yX6_layNow yX6_layNow, Cond.code yX6_layNow cX6_layNow 2 none]
def wsX6_clap : List Cond := .code yX6_clap cX6_clap 4 (some .int) :: ((wsX6_clap_r1 ++ wsX6_clap_r2) ++ wsX60)
def wsX6_arm : List Cond := .code yX6_arm cX6_arm 3 (some .int) :: ([.constantLong RX6 149 (8), .fieldLink RX6 90 "ClappedWrongModel" "armNow" "I", .methodLink RX6 52 yX6_in, .static yX6_in, .initialized RX6, .code yX6_in cX6_in 6 (some .boolean), .methodLink RX6 151 yX6_lacks, .instanceMethod yX6_lacks, .selects RX6 yX6_lacks yX6_lacks, .code yX6_lacks cX6_lacks 1 (some .boolean), .fieldLink RX6 84 "ClappedWrongModel" "many" "I"] ++ wsX60)
def wsX6_bar_r1 : List Cond := [Cond.fieldLink RX6 93 "ClappedWrongModel" "barNow" "I", Cond.methodLink RX6 151 yX6_lacks, Cond.instanceMethod yX6_lacks, Cond.selects RX6 yX6_lacks yX6_lacks, Cond.initialized RX6, Cond.code yX6_lacks cX6_lacks 1 (some .boolean), Cond.fieldLink RX6 84 "ClappedWrongModel" "many" "I", Cond.methodLink RX6 139 yX6_asItIs, Cond.instanceMethod yX6_asItIs, Cond.selects RX6 yX6_asItIs yX6_asItIs, Cond.code yX6_asItIs cX6_asItIs 2 none, Cond.fieldLink RX6 25 "ClappedWrongModel" "now" "[I", Cond.fieldLink RX6 19 "ClappedWrongModel" "sounds" "[I", Cond.fieldLink RX6 28 "ClappedWrongModel" "nowLong" "[I", Cond.fieldLink RX6 22 "ClappedWrongModel" "clapped" "[I", Cond.fieldLink RX6 90 "ClappedWrongModel" "armNow" "I", Cond.fieldLink RX6 124 "ClappedWrongModel" "nowArm" "I", Cond.methodLink RX6 136 yX6_pass, Cond.instanceMethod yX6_pass, Cond.selects RX6 yX6_pass yX6_pass, Cond.code yX6_pass cX6_pass 2 none, Cond.fieldLink RX6 31 "ClappedWrongModel" "ahead" "[I", Cond.methodLink RX6 133 yX6_nextOf, Cond.instanceMethod yX6_nextOf]
def wsX6_bar_r2 : List Cond := [Cond.selects RX6 yX6_nextOf yX6_nextOf, Cond.code yX6_nextOf cX6_nextOf 4 (some .int), Cond.fieldLink RX6 16 "ClappedWrongModel" "rows" "[I", Cond.methodLink RX6 112 yX6_isTired, Cond.instanceMethod yX6_isTired, Cond.selects RX6 yX6_isTired yX6_isTired, Cond.code yX6_isTired cX6_isTired 3 (some .boolean), Cond.methodLink RX6 127 yX6_isStubborn, Cond.instanceMethod yX6_isStubborn, Cond.selects RX6 yX6_isStubborn yX6_isStubborn, Cond.code yX6_isStubborn cX6_isStubborn 2 (some .boolean), Cond.methodLink RX6 130 yX6_palmsBy, Cond.instanceMethod yX6_palmsBy, Cond.selects RX6 yX6_palmsBy yX6_palmsBy, Cond.code yX6_palmsBy cX6_palmsBy 5 (some .int), Cond.methodLink RX6 116 yX6_isRow, Cond.instanceMethod yX6_isRow, Cond.selects RX6 yX6_isRow yX6_isRow, Cond.code yX6_isRow cX6_isRow 2 (some .boolean), Cond.methodLink RX6 52 yX6_in, Cond.static yX6_in, Cond.code yX6_in cX6_in 6 (some .boolean), Cond.methodLink RX6 146 yX6_layNow, Cond.instanceMethod yX6_layNow]
def wsX6_bar_r3 : List Cond := [Cond.selects RX6 yX6_layNow yX6_layNow, Cond.code yX6_layNow cX6_layNow 2 none, Cond.methodLink RX6 155 yX6_rightNow, Cond.instanceMethod yX6_rightNow, Cond.selects RX6 yX6_rightNow yX6_rightNow, Cond.code yX6_rightNow cX6_rightNow 3 (some .int)]
def wsX6_bar : List Cond := .code yX6_bar cX6_bar 1 (some .int) :: ((wsX6_bar_r1 ++ (wsX6_bar_r2 ++ wsX6_bar_r3)) ++ wsX60)
def wsX6_skip_r1 : List Cond := [Cond.fieldLink RX6 96 "ClappedWrongModel" "skips" "I", Cond.methodLink RX6 151 yX6_lacks, Cond.instanceMethod yX6_lacks, Cond.selects RX6 yX6_lacks yX6_lacks, Cond.initialized RX6, Cond.code yX6_lacks cX6_lacks 1 (some .boolean), Cond.fieldLink RX6 84 "ClappedWrongModel" "many" "I", Cond.methodLink RX6 139 yX6_asItIs, Cond.instanceMethod yX6_asItIs, Cond.selects RX6 yX6_asItIs yX6_asItIs, Cond.code yX6_asItIs cX6_asItIs 2 none, Cond.fieldLink RX6 25 "ClappedWrongModel" "now" "[I", Cond.fieldLink RX6 19 "ClappedWrongModel" "sounds" "[I", Cond.fieldLink RX6 28 "ClappedWrongModel" "nowLong" "[I", Cond.fieldLink RX6 22 "ClappedWrongModel" "clapped" "[I", Cond.fieldLink RX6 90 "ClappedWrongModel" "armNow" "I", Cond.fieldLink RX6 124 "ClappedWrongModel" "nowArm" "I", Cond.methodLink RX6 158 yX6_leaveOut, Cond.instanceMethod yX6_leaveOut, Cond.selects RX6 yX6_leaveOut yX6_leaveOut, Cond.code yX6_leaveOut cX6_leaveOut 2 none, Cond.fieldLink RX6 16 "ClappedWrongModel" "rows" "[I", Cond.methodLink RX6 146 yX6_layNow, Cond.instanceMethod yX6_layNow]
def wsX6_skip_r2 : List Cond := [Cond.selects RX6 yX6_layNow yX6_layNow, Cond.code yX6_layNow cX6_layNow 2 none, Cond.methodLink RX6 155 yX6_rightNow, Cond.instanceMethod yX6_rightNow, Cond.selects RX6 yX6_rightNow yX6_rightNow, Cond.code yX6_rightNow cX6_rightNow 3 (some .int)]
def wsX6_skip : List Cond := .code yX6_skip cX6_skip 1 (some .int) :: ((wsX6_skip_r1 ++ wsX6_skip_r2) ++ wsX60)
def wsX6_loudOf : List Cond := .code yX6_loudOf cX6_loudOf 7 (some .int) :: ([.fieldLink RX6 19 "ClappedWrongModel" "sounds" "[I", .fieldLink RX6 16 "ClappedWrongModel" "rows" "[I", .methodLink RX6 116 yX6_isRow, .instanceMethod yX6_isRow, .selects RX6 yX6_isRow yX6_isRow, .initialized RX6, .code yX6_isRow cX6_isRow 2 (some .boolean), .fieldLink RX6 84 "ClappedWrongModel" "many" "I", .methodLink RX6 52 yX6_in, .static yX6_in, .code yX6_in cX6_in 6 (some .boolean)] ++ wsX60)
def wsX6_loud : List Cond := .code yX6_loud cX6_loud 3 (some .int) :: ([.constantLong RX6 74 (3), .methodLink RX6 116 yX6_isRow, .instanceMethod yX6_isRow, .selects RX6 yX6_isRow yX6_isRow, .initialized RX6, .code yX6_isRow cX6_isRow 2 (some .boolean), .fieldLink RX6 84 "ClappedWrongModel" "many" "I", .methodLink RX6 52 yX6_in, .static yX6_in, .code yX6_in cX6_in 6 (some .boolean), .methodLink RX6 161 yX6_loudOf, .instanceMethod yX6_loudOf, .selects RX6 yX6_loudOf yX6_loudOf, .code yX6_loudOf cX6_loudOf 7 (some .int), .fieldLink RX6 19 "ClappedWrongModel" "sounds" "[I", .fieldLink RX6 16 "ClappedWrongModel" "rows" "[I"] ++ wsX60)
def wsX6_restOf_r1 : List Cond := [Cond.fieldLink RX6 84 "ClappedWrongModel" "many" "I", Cond.fieldLink RX6 25 "ClappedWrongModel" "now" "[I", Cond.fieldLink RX6 31 "ClappedWrongModel" "ahead" "[I", Cond.methodLink RX6 139 yX6_asItIs, Cond.instanceMethod yX6_asItIs, Cond.selects RX6 yX6_asItIs yX6_asItIs, Cond.initialized RX6, Cond.code yX6_asItIs cX6_asItIs 2 none, Cond.fieldLink RX6 19 "ClappedWrongModel" "sounds" "[I", Cond.fieldLink RX6 28 "ClappedWrongModel" "nowLong" "[I", Cond.fieldLink RX6 22 "ClappedWrongModel" "clapped" "[I", Cond.fieldLink RX6 90 "ClappedWrongModel" "armNow" "I", Cond.fieldLink RX6 124 "ClappedWrongModel" "nowArm" "I", Cond.methodLink RX6 136 yX6_pass, Cond.instanceMethod yX6_pass, Cond.selects RX6 yX6_pass yX6_pass, Cond.code yX6_pass cX6_pass 2 none, Cond.methodLink RX6 133 yX6_nextOf, Cond.instanceMethod yX6_nextOf, Cond.selects RX6 yX6_nextOf yX6_nextOf, Cond.code yX6_nextOf cX6_nextOf 4 (some .int), Cond.fieldLink RX6 16 "ClappedWrongModel" "rows" "[I", Cond.methodLink RX6 112 yX6_isTired, Cond.instanceMethod yX6_isTired]
def wsX6_restOf_r2 : List Cond := [Cond.selects RX6 yX6_isTired yX6_isTired, Cond.code yX6_isTired cX6_isTired 3 (some .boolean), Cond.methodLink RX6 127 yX6_isStubborn, Cond.instanceMethod yX6_isStubborn, Cond.selects RX6 yX6_isStubborn yX6_isStubborn, Cond.code yX6_isStubborn cX6_isStubborn 2 (some .boolean), Cond.methodLink RX6 130 yX6_palmsBy, Cond.instanceMethod yX6_palmsBy, Cond.selects RX6 yX6_palmsBy yX6_palmsBy, Cond.code yX6_palmsBy cX6_palmsBy 5 (some .int), Cond.methodLink RX6 116 yX6_isRow, Cond.instanceMethod yX6_isRow, Cond.selects RX6 yX6_isRow yX6_isRow, Cond.code yX6_isRow cX6_isRow 2 (some .boolean), Cond.methodLink RX6 52 yX6_in, Cond.static yX6_in, Cond.code yX6_in cX6_in 6 (some .boolean)]
def wsX6_restOf : List Cond := .code yX6_restOf cX6_restOf 4 (some .int) :: ((wsX6_restOf_r1 ++ wsX6_restOf_r2) ++ wsX60)
def wsX6_rest_r1 : List Cond := [Cond.methodLink RX6 151 yX6_lacks, Cond.instanceMethod yX6_lacks, Cond.selects RX6 yX6_lacks yX6_lacks, Cond.initialized RX6, Cond.code yX6_lacks cX6_lacks 1 (some .boolean), Cond.fieldLink RX6 84 "ClappedWrongModel" "many" "I", Cond.methodLink RX6 164 yX6_restOf, Cond.instanceMethod yX6_restOf, Cond.selects RX6 yX6_restOf yX6_restOf, Cond.code yX6_restOf cX6_restOf 4 (some .int), Cond.fieldLink RX6 25 "ClappedWrongModel" "now" "[I", Cond.fieldLink RX6 31 "ClappedWrongModel" "ahead" "[I", Cond.methodLink RX6 139 yX6_asItIs, Cond.instanceMethod yX6_asItIs, Cond.selects RX6 yX6_asItIs yX6_asItIs, Cond.code yX6_asItIs cX6_asItIs 2 none, Cond.fieldLink RX6 19 "ClappedWrongModel" "sounds" "[I", Cond.fieldLink RX6 28 "ClappedWrongModel" "nowLong" "[I", Cond.fieldLink RX6 22 "ClappedWrongModel" "clapped" "[I", Cond.fieldLink RX6 90 "ClappedWrongModel" "armNow" "I", Cond.fieldLink RX6 124 "ClappedWrongModel" "nowArm" "I", Cond.methodLink RX6 136 yX6_pass, Cond.instanceMethod yX6_pass, Cond.selects RX6 yX6_pass yX6_pass]
def wsX6_rest_r2 : List Cond := [Cond.code yX6_pass cX6_pass 2 none, Cond.methodLink RX6 133 yX6_nextOf, Cond.instanceMethod yX6_nextOf, Cond.selects RX6 yX6_nextOf yX6_nextOf, Cond.code yX6_nextOf cX6_nextOf 4 (some .int), Cond.fieldLink RX6 16 "ClappedWrongModel" "rows" "[I", Cond.methodLink RX6 112 yX6_isTired, Cond.instanceMethod yX6_isTired, Cond.selects RX6 yX6_isTired yX6_isTired, Cond.code yX6_isTired cX6_isTired 3 (some .boolean), Cond.methodLink RX6 127 yX6_isStubborn, Cond.instanceMethod yX6_isStubborn, Cond.selects RX6 yX6_isStubborn yX6_isStubborn, Cond.code yX6_isStubborn cX6_isStubborn 2 (some .boolean), Cond.methodLink RX6 130 yX6_palmsBy, Cond.instanceMethod yX6_palmsBy, Cond.selects RX6 yX6_palmsBy yX6_palmsBy, Cond.code yX6_palmsBy cX6_palmsBy 5 (some .int), Cond.methodLink RX6 116 yX6_isRow, Cond.instanceMethod yX6_isRow, Cond.selects RX6 yX6_isRow yX6_isRow, Cond.code yX6_isRow cX6_isRow 2 (some .boolean), Cond.methodLink RX6 52 yX6_in, Cond.static yX6_in]
def wsX6_rest_r3 : List Cond := [Cond.code yX6_in cX6_in 6 (some .boolean)]
def wsX6_rest : List Cond := .code yX6_rest cX6_rest 1 (some .int) :: ((wsX6_rest_r1 ++ (wsX6_rest_r2 ++ wsX6_rest_r3)) ++ wsX60)
def wsX6_outcomeOf_r1 : List Cond := [Cond.methodLink RX6 139 yX6_asItIs, Cond.instanceMethod yX6_asItIs, Cond.selects RX6 yX6_asItIs yX6_asItIs, Cond.initialized RX6, Cond.code yX6_asItIs cX6_asItIs 2 none, Cond.fieldLink RX6 25 "ClappedWrongModel" "now" "[I", Cond.fieldLink RX6 19 "ClappedWrongModel" "sounds" "[I", Cond.fieldLink RX6 28 "ClappedWrongModel" "nowLong" "[I", Cond.fieldLink RX6 22 "ClappedWrongModel" "clapped" "[I", Cond.fieldLink RX6 90 "ClappedWrongModel" "armNow" "I", Cond.fieldLink RX6 124 "ClappedWrongModel" "nowArm" "I", Cond.methodLink RX6 167 yX6_passAll, Cond.instanceMethod yX6_passAll, Cond.selects RX6 yX6_passAll yX6_passAll, Cond.code yX6_passAll cX6_passAll 3 none, Cond.methodLink RX6 136 yX6_pass, Cond.instanceMethod yX6_pass, Cond.selects RX6 yX6_pass yX6_pass, Cond.code yX6_pass cX6_pass 2 none, Cond.fieldLink RX6 31 "ClappedWrongModel" "ahead" "[I", Cond.fieldLink RX6 84 "ClappedWrongModel" "many" "I", Cond.methodLink RX6 133 yX6_nextOf, Cond.instanceMethod yX6_nextOf, Cond.selects RX6 yX6_nextOf yX6_nextOf]
def wsX6_outcomeOf_r2 : List Cond := [Cond.code yX6_nextOf cX6_nextOf 4 (some .int), Cond.fieldLink RX6 16 "ClappedWrongModel" "rows" "[I", Cond.methodLink RX6 112 yX6_isTired, Cond.instanceMethod yX6_isTired, Cond.selects RX6 yX6_isTired yX6_isTired, Cond.code yX6_isTired cX6_isTired 3 (some .boolean), Cond.methodLink RX6 127 yX6_isStubborn, Cond.instanceMethod yX6_isStubborn, Cond.selects RX6 yX6_isStubborn yX6_isStubborn, Cond.code yX6_isStubborn cX6_isStubborn 2 (some .boolean), Cond.methodLink RX6 130 yX6_palmsBy, Cond.instanceMethod yX6_palmsBy, Cond.selects RX6 yX6_palmsBy yX6_palmsBy, Cond.code yX6_palmsBy cX6_palmsBy 5 (some .int), Cond.methodLink RX6 116 yX6_isRow, Cond.instanceMethod yX6_isRow, Cond.selects RX6 yX6_isRow yX6_isRow, Cond.code yX6_isRow cX6_isRow 2 (some .boolean), Cond.methodLink RX6 52 yX6_in, Cond.static yX6_in, Cond.code yX6_in cX6_in 6 (some .boolean), Cond.methodLink RX6 155 yX6_rightNow, Cond.instanceMethod yX6_rightNow, Cond.selects RX6 yX6_rightNow yX6_rightNow]
def wsX6_outcomeOf_r3 : List Cond := [Cond.code yX6_rightNow cX6_rightNow 3 (some .int)]
def wsX6_outcomeOf : List Cond := .code yX6_outcomeOf cX6_outcomeOf 2 (some .int) :: ((wsX6_outcomeOf_r1 ++ (wsX6_outcomeOf_r2 ++ wsX6_outcomeOf_r3)) ++ wsX60)
def wsX6_outcome_r1 : List Cond := [Cond.constantLong RX6 171 (30), Cond.methodLink RX6 52 yX6_in, Cond.static yX6_in, Cond.initialized RX6, Cond.code yX6_in cX6_in 6 (some .boolean), Cond.methodLink RX6 151 yX6_lacks, Cond.instanceMethod yX6_lacks, Cond.selects RX6 yX6_lacks yX6_lacks, Cond.code yX6_lacks cX6_lacks 1 (some .boolean), Cond.fieldLink RX6 84 "ClappedWrongModel" "many" "I", Cond.methodLink RX6 173 yX6_outcomeOf, Cond.instanceMethod yX6_outcomeOf, Cond.selects RX6 yX6_outcomeOf yX6_outcomeOf, Cond.code yX6_outcomeOf cX6_outcomeOf 2 (some .int), Cond.methodLink RX6 139 yX6_asItIs, Cond.instanceMethod yX6_asItIs, Cond.selects RX6 yX6_asItIs yX6_asItIs, Cond.code yX6_asItIs cX6_asItIs 2 none, Cond.fieldLink RX6 25 "ClappedWrongModel" "now" "[I", Cond.fieldLink RX6 19 "ClappedWrongModel" "sounds" "[I", Cond.fieldLink RX6 28 "ClappedWrongModel" "nowLong" "[I", Cond.fieldLink RX6 22 "ClappedWrongModel" "clapped" "[I", Cond.fieldLink RX6 90 "ClappedWrongModel" "armNow" "I", Cond.fieldLink RX6 124 "ClappedWrongModel" "nowArm" "I"]
def wsX6_outcome_r2 : List Cond := [Cond.methodLink RX6 167 yX6_passAll, Cond.instanceMethod yX6_passAll, Cond.selects RX6 yX6_passAll yX6_passAll, Cond.code yX6_passAll cX6_passAll 3 none, Cond.methodLink RX6 136 yX6_pass, Cond.instanceMethod yX6_pass, Cond.selects RX6 yX6_pass yX6_pass, Cond.code yX6_pass cX6_pass 2 none, Cond.fieldLink RX6 31 "ClappedWrongModel" "ahead" "[I", Cond.methodLink RX6 133 yX6_nextOf, Cond.instanceMethod yX6_nextOf, Cond.selects RX6 yX6_nextOf yX6_nextOf, Cond.code yX6_nextOf cX6_nextOf 4 (some .int), Cond.fieldLink RX6 16 "ClappedWrongModel" "rows" "[I", Cond.methodLink RX6 112 yX6_isTired, Cond.instanceMethod yX6_isTired, Cond.selects RX6 yX6_isTired yX6_isTired, Cond.code yX6_isTired cX6_isTired 3 (some .boolean), Cond.methodLink RX6 127 yX6_isStubborn, Cond.instanceMethod yX6_isStubborn, Cond.selects RX6 yX6_isStubborn yX6_isStubborn, Cond.code yX6_isStubborn cX6_isStubborn 2 (some .boolean), Cond.methodLink RX6 130 yX6_palmsBy, Cond.instanceMethod yX6_palmsBy]
def wsX6_outcome_r3 : List Cond := [Cond.selects RX6 yX6_palmsBy yX6_palmsBy, Cond.code yX6_palmsBy cX6_palmsBy 5 (some .int), Cond.methodLink RX6 116 yX6_isRow, Cond.instanceMethod yX6_isRow, Cond.selects RX6 yX6_isRow yX6_isRow, Cond.code yX6_isRow cX6_isRow 2 (some .boolean), Cond.methodLink RX6 155 yX6_rightNow, Cond.instanceMethod yX6_rightNow, Cond.selects RX6 yX6_rightNow yX6_rightNow, Cond.code yX6_rightNow cX6_rightNow 3 (some .int)]
def wsX6_outcome : List Cond := .code yX6_outcome cX6_outcome 2 (some .int) :: ((wsX6_outcome_r1 ++ (wsX6_outcome_r2 ++ wsX6_outcome_r3)) ++ wsX60)
def wsX6_trickOf_r1 : List Cond := [Cond.methodLink RX6 173 yX6_outcomeOf, Cond.instanceMethod yX6_outcomeOf, Cond.selects RX6 yX6_outcomeOf yX6_outcomeOf, Cond.initialized RX6, Cond.code yX6_outcomeOf cX6_outcomeOf 2 (some .int), Cond.methodLink RX6 139 yX6_asItIs, Cond.instanceMethod yX6_asItIs, Cond.selects RX6 yX6_asItIs yX6_asItIs, Cond.code yX6_asItIs cX6_asItIs 2 none, Cond.fieldLink RX6 25 "ClappedWrongModel" "now" "[I", Cond.fieldLink RX6 19 "ClappedWrongModel" "sounds" "[I", Cond.fieldLink RX6 28 "ClappedWrongModel" "nowLong" "[I", Cond.fieldLink RX6 22 "ClappedWrongModel" "clapped" "[I", Cond.fieldLink RX6 90 "ClappedWrongModel" "armNow" "I", Cond.fieldLink RX6 124 "ClappedWrongModel" "nowArm" "I", Cond.methodLink RX6 167 yX6_passAll, Cond.instanceMethod yX6_passAll, Cond.selects RX6 yX6_passAll yX6_passAll, Cond.code yX6_passAll cX6_passAll 3 none, Cond.methodLink RX6 136 yX6_pass, Cond.instanceMethod yX6_pass, Cond.selects RX6 yX6_pass yX6_pass, Cond.code yX6_pass cX6_pass 2 none, Cond.fieldLink RX6 31 "ClappedWrongModel" "ahead" "[I"]
def wsX6_trickOf_r2 : List Cond := [Cond.fieldLink RX6 84 "ClappedWrongModel" "many" "I", Cond.methodLink RX6 133 yX6_nextOf, Cond.instanceMethod yX6_nextOf, Cond.selects RX6 yX6_nextOf yX6_nextOf, Cond.code yX6_nextOf cX6_nextOf 4 (some .int), Cond.fieldLink RX6 16 "ClappedWrongModel" "rows" "[I", Cond.methodLink RX6 112 yX6_isTired, Cond.instanceMethod yX6_isTired, Cond.selects RX6 yX6_isTired yX6_isTired, Cond.code yX6_isTired cX6_isTired 3 (some .boolean), Cond.methodLink RX6 127 yX6_isStubborn, Cond.instanceMethod yX6_isStubborn, Cond.selects RX6 yX6_isStubborn yX6_isStubborn, Cond.code yX6_isStubborn cX6_isStubborn 2 (some .boolean), Cond.methodLink RX6 130 yX6_palmsBy, Cond.instanceMethod yX6_palmsBy, Cond.selects RX6 yX6_palmsBy yX6_palmsBy, Cond.code yX6_palmsBy cX6_palmsBy 5 (some .int), Cond.methodLink RX6 116 yX6_isRow, Cond.instanceMethod yX6_isRow, Cond.selects RX6 yX6_isRow yX6_isRow, Cond.code yX6_isRow cX6_isRow 2 (some .boolean), Cond.methodLink RX6 52 yX6_in, Cond.static yX6_in]
def wsX6_trickOf_r3 : List Cond := [Cond.code yX6_in cX6_in 6 (some .boolean), Cond.methodLink RX6 155 yX6_rightNow, Cond.instanceMethod yX6_rightNow, Cond.selects RX6 yX6_rightNow yX6_rightNow, Cond.code yX6_rightNow cX6_rightNow 3 (some .int), Cond.methodLink RX6 158 yX6_leaveOut, Cond.instanceMethod yX6_leaveOut, Cond.selects RX6 yX6_leaveOut yX6_leaveOut, Cond.code yX6_leaveOut cX6_leaveOut 2 none]
def wsX6_trickOf : List Cond := .code yX6_trickOf cX6_trickOf 7 (some .int) :: ((wsX6_trickOf_r1 ++ (wsX6_trickOf_r2 ++ wsX6_trickOf_r3)) ++ wsX60)
def wsX6_trick_r1 : List Cond := [Cond.constantLong RX6 176 (12), Cond.methodLink RX6 52 yX6_in, Cond.static yX6_in, Cond.initialized RX6, Cond.code yX6_in cX6_in 6 (some .boolean), Cond.methodLink RX6 151 yX6_lacks, Cond.instanceMethod yX6_lacks, Cond.selects RX6 yX6_lacks yX6_lacks, Cond.code yX6_lacks cX6_lacks 1 (some .boolean), Cond.fieldLink RX6 84 "ClappedWrongModel" "many" "I", Cond.methodLink RX6 178 yX6_trickOf, Cond.instanceMethod yX6_trickOf, Cond.selects RX6 yX6_trickOf yX6_trickOf, Cond.code yX6_trickOf cX6_trickOf 7 (some .int), Cond.methodLink RX6 173 yX6_outcomeOf, Cond.instanceMethod yX6_outcomeOf, Cond.selects RX6 yX6_outcomeOf yX6_outcomeOf, Cond.code yX6_outcomeOf cX6_outcomeOf 2 (some .int), Cond.methodLink RX6 139 yX6_asItIs, Cond.instanceMethod yX6_asItIs, Cond.selects RX6 yX6_asItIs yX6_asItIs, Cond.code yX6_asItIs cX6_asItIs 2 none, Cond.fieldLink RX6 25 "ClappedWrongModel" "now" "[I", Cond.fieldLink RX6 19 "ClappedWrongModel" "sounds" "[I"]
def wsX6_trick_r2 : List Cond := [Cond.fieldLink RX6 28 "ClappedWrongModel" "nowLong" "[I", Cond.fieldLink RX6 22 "ClappedWrongModel" "clapped" "[I", Cond.fieldLink RX6 90 "ClappedWrongModel" "armNow" "I", Cond.fieldLink RX6 124 "ClappedWrongModel" "nowArm" "I", Cond.methodLink RX6 167 yX6_passAll, Cond.instanceMethod yX6_passAll, Cond.selects RX6 yX6_passAll yX6_passAll, Cond.code yX6_passAll cX6_passAll 3 none, Cond.methodLink RX6 136 yX6_pass, Cond.instanceMethod yX6_pass, Cond.selects RX6 yX6_pass yX6_pass, Cond.code yX6_pass cX6_pass 2 none, Cond.fieldLink RX6 31 "ClappedWrongModel" "ahead" "[I", Cond.methodLink RX6 133 yX6_nextOf, Cond.instanceMethod yX6_nextOf, Cond.selects RX6 yX6_nextOf yX6_nextOf, Cond.code yX6_nextOf cX6_nextOf 4 (some .int), Cond.fieldLink RX6 16 "ClappedWrongModel" "rows" "[I", Cond.methodLink RX6 112 yX6_isTired, Cond.instanceMethod yX6_isTired, Cond.selects RX6 yX6_isTired yX6_isTired, Cond.code yX6_isTired cX6_isTired 3 (some .boolean), Cond.methodLink RX6 127 yX6_isStubborn, Cond.instanceMethod yX6_isStubborn]
def wsX6_trick_r3 : List Cond := [Cond.selects RX6 yX6_isStubborn yX6_isStubborn, Cond.code yX6_isStubborn cX6_isStubborn 2 (some .boolean), Cond.methodLink RX6 130 yX6_palmsBy, Cond.instanceMethod yX6_palmsBy, Cond.selects RX6 yX6_palmsBy yX6_palmsBy, Cond.code yX6_palmsBy cX6_palmsBy 5 (some .int), Cond.methodLink RX6 116 yX6_isRow, Cond.instanceMethod yX6_isRow, Cond.selects RX6 yX6_isRow yX6_isRow, Cond.code yX6_isRow cX6_isRow 2 (some .boolean), Cond.methodLink RX6 155 yX6_rightNow, Cond.instanceMethod yX6_rightNow, Cond.selects RX6 yX6_rightNow yX6_rightNow, Cond.code yX6_rightNow cX6_rightNow 3 (some .int), Cond.methodLink RX6 158 yX6_leaveOut, Cond.instanceMethod yX6_leaveOut, Cond.selects RX6 yX6_leaveOut yX6_leaveOut, Cond.code yX6_leaveOut cX6_leaveOut 2 none]
def wsX6_trick : List Cond := .code yX6_trick cX6_trick 3 (some .int) :: ((wsX6_trick_r1 ++ (wsX6_trick_r2 ++ wsX6_trick_r3)) ++ wsX60)
def wsX6_isWonBy_r1 : List Cond := [Cond.fieldLink RX6 84 "ClappedWrongModel" "many" "I", Cond.fieldLink RX6 25 "ClappedWrongModel" "now" "[I", Cond.methodLink RX6 139 yX6_asItIs, Cond.instanceMethod yX6_asItIs, Cond.selects RX6 yX6_asItIs yX6_asItIs, Cond.initialized RX6, Cond.code yX6_asItIs cX6_asItIs 2 none, Cond.fieldLink RX6 19 "ClappedWrongModel" "sounds" "[I", Cond.fieldLink RX6 28 "ClappedWrongModel" "nowLong" "[I", Cond.fieldLink RX6 22 "ClappedWrongModel" "clapped" "[I", Cond.fieldLink RX6 90 "ClappedWrongModel" "armNow" "I", Cond.fieldLink RX6 124 "ClappedWrongModel" "nowArm" "I", Cond.methodLink RX6 142 yX6_makes, Cond.instanceMethod yX6_makes, Cond.selects RX6 yX6_makes yX6_makes, Cond.code yX6_makes cX6_makes 3 none, Cond.methodLink RX6 167 yX6_passAll, Cond.instanceMethod yX6_passAll, Cond.selects RX6 yX6_passAll yX6_passAll, Cond.code yX6_passAll cX6_passAll 3 none, Cond.methodLink RX6 136 yX6_pass, Cond.instanceMethod yX6_pass, Cond.selects RX6 yX6_pass yX6_pass, Cond.code yX6_pass cX6_pass 2 none]
def wsX6_isWonBy_r2 : List Cond := [Cond.fieldLink RX6 31 "ClappedWrongModel" "ahead" "[I", Cond.methodLink RX6 133 yX6_nextOf, Cond.instanceMethod yX6_nextOf, Cond.selects RX6 yX6_nextOf yX6_nextOf, Cond.code yX6_nextOf cX6_nextOf 4 (some .int), Cond.fieldLink RX6 16 "ClappedWrongModel" "rows" "[I", Cond.methodLink RX6 112 yX6_isTired, Cond.instanceMethod yX6_isTired, Cond.selects RX6 yX6_isTired yX6_isTired, Cond.code yX6_isTired cX6_isTired 3 (some .boolean), Cond.methodLink RX6 127 yX6_isStubborn, Cond.instanceMethod yX6_isStubborn, Cond.selects RX6 yX6_isStubborn yX6_isStubborn, Cond.code yX6_isStubborn cX6_isStubborn 2 (some .boolean), Cond.methodLink RX6 130 yX6_palmsBy, Cond.instanceMethod yX6_palmsBy, Cond.selects RX6 yX6_palmsBy yX6_palmsBy, Cond.code yX6_palmsBy cX6_palmsBy 5 (some .int), Cond.methodLink RX6 116 yX6_isRow, Cond.instanceMethod yX6_isRow, Cond.selects RX6 yX6_isRow yX6_isRow, Cond.code yX6_isRow cX6_isRow 2 (some .boolean), Cond.methodLink RX6 52 yX6_in, Cond.static yX6_in]
def wsX6_isWonBy_r3 : List Cond := [Cond.code yX6_in cX6_in 6 (some .boolean)]
def wsX6_isWonBy : List Cond := .code yX6_isWonBy cX6_isWonBy 5 (some .boolean) :: ((wsX6_isWonBy_r1 ++ (wsX6_isWonBy_r2 ++ wsX6_isWonBy_r3)) ++ wsX60)
def wsX6_ones : List Cond := .code yX6_ones cX6_ones 3 (some .int) :: ([])
def wsX6_turned_r1 : List Cond := [Cond.constantLong RX6 176 (12), Cond.fieldLink RX6 181 "ClappedWrongModel" "turnedMany" "I", Cond.fieldLink RX6 84 "ClappedWrongModel" "many" "I", Cond.methodLink RX6 52 yX6_in, Cond.static yX6_in, Cond.initialized RX6, Cond.code yX6_in cX6_in 6 (some .boolean), Cond.methodLink RX6 151 yX6_lacks, Cond.instanceMethod yX6_lacks, Cond.selects RX6 yX6_lacks yX6_lacks, Cond.code yX6_lacks cX6_lacks 1 (some .boolean), Cond.methodLink RX6 184 yX6_ones, Cond.static yX6_ones, Cond.code yX6_ones cX6_ones 3 (some .int), Cond.methodLink RX6 187 yX6_isWonBy, Cond.instanceMethod yX6_isWonBy, Cond.selects RX6 yX6_isWonBy yX6_isWonBy, Cond.code yX6_isWonBy cX6_isWonBy 5 (some .boolean), Cond.fieldLink RX6 25 "ClappedWrongModel" "now" "[I", Cond.methodLink RX6 139 yX6_asItIs, Cond.instanceMethod yX6_asItIs, Cond.selects RX6 yX6_asItIs yX6_asItIs, Cond.code yX6_asItIs cX6_asItIs 2 none, Cond.fieldLink RX6 19 "ClappedWrongModel" "sounds" "[I"]
def wsX6_turned_r2 : List Cond := [Cond.fieldLink RX6 28 "ClappedWrongModel" "nowLong" "[I", Cond.fieldLink RX6 22 "ClappedWrongModel" "clapped" "[I", Cond.fieldLink RX6 90 "ClappedWrongModel" "armNow" "I", Cond.fieldLink RX6 124 "ClappedWrongModel" "nowArm" "I", Cond.methodLink RX6 142 yX6_makes, Cond.instanceMethod yX6_makes, Cond.selects RX6 yX6_makes yX6_makes, Cond.code yX6_makes cX6_makes 3 none, Cond.methodLink RX6 167 yX6_passAll, Cond.instanceMethod yX6_passAll, Cond.selects RX6 yX6_passAll yX6_passAll, Cond.code yX6_passAll cX6_passAll 3 none, Cond.methodLink RX6 136 yX6_pass, Cond.instanceMethod yX6_pass, Cond.selects RX6 yX6_pass yX6_pass, Cond.code yX6_pass cX6_pass 2 none, Cond.fieldLink RX6 31 "ClappedWrongModel" "ahead" "[I", Cond.methodLink RX6 133 yX6_nextOf, Cond.instanceMethod yX6_nextOf, Cond.selects RX6 yX6_nextOf yX6_nextOf, Cond.code yX6_nextOf cX6_nextOf 4 (some .int), Cond.fieldLink RX6 16 "ClappedWrongModel" "rows" "[I", Cond.methodLink RX6 112 yX6_isTired, Cond.instanceMethod yX6_isTired]
def wsX6_turned_r3 : List Cond := [Cond.selects RX6 yX6_isTired yX6_isTired, Cond.code yX6_isTired cX6_isTired 3 (some .boolean), Cond.methodLink RX6 127 yX6_isStubborn, Cond.instanceMethod yX6_isStubborn, Cond.selects RX6 yX6_isStubborn yX6_isStubborn, Cond.code yX6_isStubborn cX6_isStubborn 2 (some .boolean), Cond.methodLink RX6 130 yX6_palmsBy, Cond.instanceMethod yX6_palmsBy, Cond.selects RX6 yX6_palmsBy yX6_palmsBy, Cond.code yX6_palmsBy cX6_palmsBy 5 (some .int), Cond.methodLink RX6 116 yX6_isRow, Cond.instanceMethod yX6_isRow, Cond.selects RX6 yX6_isRow yX6_isRow, Cond.code yX6_isRow cX6_isRow 2 (some .boolean)]
def wsX6_turned : List Cond := .code yX6_turned cX6_turned 6 (some .int) :: ((wsX6_turned_r1 ++ (wsX6_turned_r2 ++ wsX6_turned_r3)) ++ wsX60)
def wsX6_record : List Cond := .code yX6_record cX6_record 2 (some .int) :: ([.constantLong RX6 191 (72), .fieldLink RX6 99 "ClappedWrongModel" "recordMany" "I", .fieldLink RX6 34 "ClappedWrongModel" "records" "[I", .methodLink RX6 52 yX6_in, .static yX6_in, .initialized RX6, .code yX6_in cX6_in 6 (some .boolean)] ++ wsX60)
def wsX6_forget : List Cond := .code yX6_forget cX6_forget 2 (some .int) :: ([.fieldLink RX6 99 "ClappedWrongModel" "recordMany" "I"] ++ wsX60)
def wsX6_isRecordedBy_r1 : List Cond := [Cond.fieldLink RX6 25 "ClappedWrongModel" "now" "[I", Cond.fieldLink RX6 28 "ClappedWrongModel" "nowLong" "[I", Cond.fieldLink RX6 90 "ClappedWrongModel" "armNow" "I", Cond.fieldLink RX6 124 "ClappedWrongModel" "nowArm" "I", Cond.fieldLink RX6 99 "ClappedWrongModel" "recordMany" "I", Cond.fieldLink RX6 34 "ClappedWrongModel" "records" "[I", Cond.methodLink RX6 136 yX6_pass, Cond.instanceMethod yX6_pass, Cond.selects RX6 yX6_pass yX6_pass, Cond.initialized RX6, Cond.code yX6_pass cX6_pass 2 none, Cond.fieldLink RX6 31 "ClappedWrongModel" "ahead" "[I", Cond.fieldLink RX6 84 "ClappedWrongModel" "many" "I", Cond.methodLink RX6 133 yX6_nextOf, Cond.instanceMethod yX6_nextOf, Cond.selects RX6 yX6_nextOf yX6_nextOf, Cond.code yX6_nextOf cX6_nextOf 4 (some .int), Cond.fieldLink RX6 16 "ClappedWrongModel" "rows" "[I", Cond.methodLink RX6 112 yX6_isTired, Cond.instanceMethod yX6_isTired, Cond.selects RX6 yX6_isTired yX6_isTired, Cond.code yX6_isTired cX6_isTired 3 (some .boolean), Cond.methodLink RX6 127 yX6_isStubborn, Cond.instanceMethod yX6_isStubborn]
def wsX6_isRecordedBy_r2 : List Cond := [Cond.selects RX6 yX6_isStubborn yX6_isStubborn, Cond.code yX6_isStubborn cX6_isStubborn 2 (some .boolean), Cond.methodLink RX6 130 yX6_palmsBy, Cond.instanceMethod yX6_palmsBy, Cond.selects RX6 yX6_palmsBy yX6_palmsBy, Cond.code yX6_palmsBy cX6_palmsBy 5 (some .int), Cond.methodLink RX6 116 yX6_isRow, Cond.instanceMethod yX6_isRow, Cond.selects RX6 yX6_isRow yX6_isRow, Cond.code yX6_isRow cX6_isRow 2 (some .boolean), Cond.methodLink RX6 52 yX6_in, Cond.static yX6_in, Cond.code yX6_in cX6_in 6 (some .boolean), Cond.methodLink RX6 155 yX6_rightNow, Cond.instanceMethod yX6_rightNow, Cond.selects RX6 yX6_rightNow yX6_rightNow, Cond.code yX6_rightNow cX6_rightNow 3 (some .int)]
def wsX6_isRecordedBy : List Cond := .code yX6_isRecordedBy cX6_isRecordedBy 6 (some .boolean) :: ((wsX6_isRecordedBy_r1 ++ wsX6_isRecordedBy_r2) ++ wsX60)
def wsX6_began_r1 : List Cond := [Cond.fieldLink RX6 193 "ClappedWrongModel" "beganMany" "I", Cond.fieldLink RX6 84 "ClappedWrongModel" "many" "I", Cond.methodLink RX6 52 yX6_in, Cond.static yX6_in, Cond.initialized RX6, Cond.code yX6_in cX6_in 6 (some .boolean), Cond.methodLink RX6 151 yX6_lacks, Cond.instanceMethod yX6_lacks, Cond.selects RX6 yX6_lacks yX6_lacks, Cond.code yX6_lacks cX6_lacks 1 (some .boolean), Cond.methodLink RX6 196 yX6_isRecordedBy, Cond.instanceMethod yX6_isRecordedBy, Cond.selects RX6 yX6_isRecordedBy yX6_isRecordedBy, Cond.code yX6_isRecordedBy cX6_isRecordedBy 6 (some .boolean), Cond.fieldLink RX6 25 "ClappedWrongModel" "now" "[I", Cond.fieldLink RX6 28 "ClappedWrongModel" "nowLong" "[I", Cond.fieldLink RX6 90 "ClappedWrongModel" "armNow" "I", Cond.fieldLink RX6 124 "ClappedWrongModel" "nowArm" "I", Cond.fieldLink RX6 99 "ClappedWrongModel" "recordMany" "I", Cond.fieldLink RX6 34 "ClappedWrongModel" "records" "[I", Cond.methodLink RX6 136 yX6_pass, Cond.instanceMethod yX6_pass, Cond.selects RX6 yX6_pass yX6_pass, Cond.code yX6_pass cX6_pass 2 none]
def wsX6_began_r2 : List Cond := [Cond.fieldLink RX6 31 "ClappedWrongModel" "ahead" "[I", Cond.methodLink RX6 133 yX6_nextOf, Cond.instanceMethod yX6_nextOf, Cond.selects RX6 yX6_nextOf yX6_nextOf, Cond.code yX6_nextOf cX6_nextOf 4 (some .int), Cond.fieldLink RX6 16 "ClappedWrongModel" "rows" "[I", Cond.methodLink RX6 112 yX6_isTired, Cond.instanceMethod yX6_isTired, Cond.selects RX6 yX6_isTired yX6_isTired, Cond.code yX6_isTired cX6_isTired 3 (some .boolean), Cond.methodLink RX6 127 yX6_isStubborn, Cond.instanceMethod yX6_isStubborn, Cond.selects RX6 yX6_isStubborn yX6_isStubborn, Cond.code yX6_isStubborn cX6_isStubborn 2 (some .boolean), Cond.methodLink RX6 130 yX6_palmsBy, Cond.instanceMethod yX6_palmsBy, Cond.selects RX6 yX6_palmsBy yX6_palmsBy, Cond.code yX6_palmsBy cX6_palmsBy 5 (some .int), Cond.methodLink RX6 116 yX6_isRow, Cond.instanceMethod yX6_isRow, Cond.selects RX6 yX6_isRow yX6_isRow, Cond.code yX6_isRow cX6_isRow 2 (some .boolean), Cond.methodLink RX6 155 yX6_rightNow, Cond.instanceMethod yX6_rightNow]
def wsX6_began_r3 : List Cond := [Cond.selects RX6 yX6_rightNow yX6_rightNow, Cond.code yX6_rightNow cX6_rightNow 3 (some .int)]
def wsX6_began : List Cond := .code yX6_began cX6_began 8 (some .int) :: ((wsX6_began_r1 ++ (wsX6_began_r2 ++ wsX6_began_r3)) ++ wsX60)
def wsX6_draw : List Cond := .code yX6_draw cX6_draw 2 (some .int) :: ([.constantLong RX6 200 (1103515245), .fieldLink RX6 202 "ClappedWrongModel" "seedNow" "I", .constantLong RX6 205 (12345), .constantLong RX6 207 (2147483647), .constant RX6 209 (65536)] ++ wsX60)
def wsX6_palmsAll : List Cond := .code yX6_palmsAll cX6_palmsAll 3 (some .int) :: ([.fieldLink RX6 84 "ClappedWrongModel" "many" "I", .fieldLink RX6 16 "ClappedWrongModel" "rows" "[I"] ++ wsX60)
def wsX6_nights_r1 : List Cond := [Cond.constantLong RX6 210 (60), Cond.constantLong RX6 212 (2), Cond.fieldLink RX6 202 "ClappedWrongModel" "seedNow" "I", Cond.fieldLink RX6 84 "ClappedWrongModel" "many" "I", Cond.fieldLink RX6 124 "ClappedWrongModel" "nowArm" "I", Cond.methodLink RX6 52 yX6_in, Cond.static yX6_in, Cond.initialized RX6, Cond.code yX6_in cX6_in 6 (some .boolean), Cond.methodLink RX6 151 yX6_lacks, Cond.instanceMethod yX6_lacks, Cond.selects RX6 yX6_lacks yX6_lacks, Cond.code yX6_lacks cX6_lacks 1 (some .boolean), Cond.methodLink RX6 139 yX6_asItIs, Cond.instanceMethod yX6_asItIs, Cond.selects RX6 yX6_asItIs yX6_asItIs, Cond.code yX6_asItIs cX6_asItIs 2 none, Cond.fieldLink RX6 25 "ClappedWrongModel" "now" "[I", Cond.fieldLink RX6 19 "ClappedWrongModel" "sounds" "[I", Cond.fieldLink RX6 28 "ClappedWrongModel" "nowLong" "[I", Cond.fieldLink RX6 22 "ClappedWrongModel" "clapped" "[I", Cond.fieldLink RX6 90 "ClappedWrongModel" "armNow" "I", Cond.methodLink RX6 214 yX6_draw, Cond.instanceMethod yX6_draw]
end
section
def wsX6_nights_r2 : List Cond := [Cond.selects RX6 yX6_draw yX6_draw, Cond.code yX6_draw cX6_draw 2 (some .int), Cond.constantLong RX6 200 (1103515245), Cond.constantLong RX6 205 (12345), Cond.constantLong RX6 207 (2147483647), Cond.constant RX6 209 (65536), Cond.methodLink RX6 158 yX6_leaveOut, Cond.instanceMethod yX6_leaveOut, Cond.selects RX6 yX6_leaveOut yX6_leaveOut, Cond.code yX6_leaveOut cX6_leaveOut 2 none, Cond.fieldLink RX6 16 "ClappedWrongModel" "rows" "[I", Cond.methodLink RX6 142 yX6_makes, Cond.instanceMethod yX6_makes, Cond.selects RX6 yX6_makes yX6_makes, Cond.code yX6_makes cX6_makes 3 none, Cond.methodLink RX6 136 yX6_pass, Cond.instanceMethod yX6_pass, Cond.selects RX6 yX6_pass yX6_pass, Cond.code yX6_pass cX6_pass 2 none, Cond.fieldLink RX6 31 "ClappedWrongModel" "ahead" "[I", Cond.methodLink RX6 133 yX6_nextOf, Cond.instanceMethod yX6_nextOf, Cond.selects RX6 yX6_nextOf yX6_nextOf, Cond.code yX6_nextOf cX6_nextOf 4 (some .int)]
def wsX6_nights_r3 : List Cond := [Cond.methodLink RX6 112 yX6_isTired, Cond.instanceMethod yX6_isTired, Cond.selects RX6 yX6_isTired yX6_isTired, Cond.code yX6_isTired cX6_isTired 3 (some .boolean), Cond.methodLink RX6 127 yX6_isStubborn, Cond.instanceMethod yX6_isStubborn, Cond.selects RX6 yX6_isStubborn yX6_isStubborn, Cond.code yX6_isStubborn cX6_isStubborn 2 (some .boolean), Cond.methodLink RX6 130 yX6_palmsBy, Cond.instanceMethod yX6_palmsBy, Cond.selects RX6 yX6_palmsBy yX6_palmsBy, Cond.code yX6_palmsBy cX6_palmsBy 5 (some .int), Cond.methodLink RX6 116 yX6_isRow, Cond.instanceMethod yX6_isRow, Cond.selects RX6 yX6_isRow yX6_isRow, Cond.code yX6_isRow cX6_isRow 2 (some .boolean), Cond.methodLink RX6 155 yX6_rightNow, Cond.instanceMethod yX6_rightNow, Cond.selects RX6 yX6_rightNow yX6_rightNow, Cond.code yX6_rightNow cX6_rightNow 3 (some .int), Cond.methodLink RX6 217 yX6_palmsAll, Cond.instanceMethod yX6_palmsAll, Cond.selects RX6 yX6_palmsAll yX6_palmsAll, Cond.code yX6_palmsAll cX6_palmsAll 3 (some .int)]
def wsX6_nights : List Cond := .code yX6_nights cX6_nights 7 (some .int) :: ((wsX6_nights_r1 ++ (wsX6_nights_r2 ++ wsX6_nights_r3)) ++ wsX60)
def wsX6_copy : List Cond := .code yX6_copy cX6_copy 3 none :: ([])
def wsX6_image_r1 : List Cond := [Cond.fieldLink RX6 19 "ClappedWrongModel" "sounds" "[I", Cond.fieldLink RX6 37 "ClappedWrongModel" "keptSounds" "[I", Cond.fieldLink RX6 22 "ClappedWrongModel" "clapped" "[I", Cond.fieldLink RX6 40 "ClappedWrongModel" "keptClapped" "[I", Cond.fieldLink RX6 34 "ClappedWrongModel" "records" "[I", Cond.fieldLink RX6 43 "ClappedWrongModel" "keptRecords" "[I", Cond.fieldLink RX6 90 "ClappedWrongModel" "armNow" "I", Cond.fieldLink RX6 224 "ClappedWrongModel" "keptArm" "I", Cond.fieldLink RX6 93 "ClappedWrongModel" "barNow" "I", Cond.fieldLink RX6 227 "ClappedWrongModel" "keptBar" "I", Cond.fieldLink RX6 96 "ClappedWrongModel" "skips" "I", Cond.fieldLink RX6 230 "ClappedWrongModel" "keptSkips" "I", Cond.fieldLink RX6 99 "ClappedWrongModel" "recordMany" "I", Cond.fieldLink RX6 233 "ClappedWrongModel" "keptRecordMany" "I", Cond.fieldLink RX6 102 "ClappedWrongModel" "hallsRead" "I", Cond.fieldLink RX6 46 "ClappedWrongModel" "keptHall" "I", Cond.methodLink RX6 151 yX6_lacks, Cond.instanceMethod yX6_lacks, Cond.selects RX6 yX6_lacks yX6_lacks, Cond.initialized RX6, Cond.code yX6_lacks cX6_lacks 1 (some .boolean), Cond.fieldLink RX6 84 "ClappedWrongModel" "many" "I", Cond.methodLink RX6 220 yX6_copy, Cond.static yX6_copy]
def wsX6_image_r2 : List Cond := [Cond.code yX6_copy cX6_copy 3 none]
def wsX6_image : List Cond := .code yX6_image cX6_image 1 (some .int) :: ((wsX6_image_r1 ++ wsX6_image_r2) ++ wsX60)
def wsX6_restore : List Cond := .code yX6_restore cX6_restore 1 (some .int) :: ([.fieldLink RX6 46 "ClappedWrongModel" "keptHall" "I", .fieldLink RX6 102 "ClappedWrongModel" "hallsRead" "I", .fieldLink RX6 37 "ClappedWrongModel" "keptSounds" "[I", .fieldLink RX6 19 "ClappedWrongModel" "sounds" "[I", .fieldLink RX6 40 "ClappedWrongModel" "keptClapped" "[I", .fieldLink RX6 22 "ClappedWrongModel" "clapped" "[I", .fieldLink RX6 43 "ClappedWrongModel" "keptRecords" "[I", .fieldLink RX6 34 "ClappedWrongModel" "records" "[I", .fieldLink RX6 224 "ClappedWrongModel" "keptArm" "I", .fieldLink RX6 90 "ClappedWrongModel" "armNow" "I", .fieldLink RX6 227 "ClappedWrongModel" "keptBar" "I", .fieldLink RX6 93 "ClappedWrongModel" "barNow" "I", .fieldLink RX6 230 "ClappedWrongModel" "keptSkips" "I", .fieldLink RX6 96 "ClappedWrongModel" "skips" "I", .fieldLink RX6 233 "ClappedWrongModel" "keptRecordMany" "I", .fieldLink RX6 99 "ClappedWrongModel" "recordMany" "I", .methodLink RX6 220 yX6_copy, .static yX6_copy, .initialized RX6, .code yX6_copy cX6_copy 3 none] ++ wsX60)
def wsX6_countOf_r1 : List Cond := [Cond.fieldLink RX6 84 "ClappedWrongModel" "many" "I", Cond.fieldLink RX6 87 "ClappedWrongModel" "late" "I", Cond.fieldLink RX6 90 "ClappedWrongModel" "armNow" "I", Cond.fieldLink RX6 93 "ClappedWrongModel" "barNow" "I", Cond.fieldLink RX6 96 "ClappedWrongModel" "skips" "I", Cond.fieldLink RX6 99 "ClappedWrongModel" "recordMany" "I", Cond.fieldLink RX6 56 "ClappedWrongModel" "pageMany" "I", Cond.fieldLink RX6 102 "ClappedWrongModel" "hallsRead" "I", Cond.fieldLink RX6 181 "ClappedWrongModel" "turnedMany" "I", Cond.fieldLink RX6 193 "ClappedWrongModel" "beganMany" "I", Cond.methodLink RX6 217 yX6_palmsAll, Cond.instanceMethod yX6_palmsAll, Cond.selects RX6 yX6_palmsAll yX6_palmsAll, Cond.initialized RX6, Cond.code yX6_palmsAll cX6_palmsAll 3 (some .int), Cond.fieldLink RX6 16 "ClappedWrongModel" "rows" "[I", Cond.methodLink RX6 139 yX6_asItIs, Cond.instanceMethod yX6_asItIs, Cond.selects RX6 yX6_asItIs yX6_asItIs, Cond.code yX6_asItIs cX6_asItIs 2 none, Cond.fieldLink RX6 25 "ClappedWrongModel" "now" "[I", Cond.fieldLink RX6 19 "ClappedWrongModel" "sounds" "[I", Cond.fieldLink RX6 28 "ClappedWrongModel" "nowLong" "[I", Cond.fieldLink RX6 22 "ClappedWrongModel" "clapped" "[I"]
def wsX6_countOf_r2 : List Cond := [Cond.fieldLink RX6 124 "ClappedWrongModel" "nowArm" "I", Cond.methodLink RX6 155 yX6_rightNow, Cond.instanceMethod yX6_rightNow, Cond.selects RX6 yX6_rightNow yX6_rightNow, Cond.code yX6_rightNow cX6_rightNow 3 (some .int)]
def wsX6_countOf : List Cond := .code yX6_countOf cX6_countOf 2 (some .int) :: ((wsX6_countOf_r1 ++ wsX6_countOf_r2) ++ wsX60)
def wsX6_count_r1 : List Cond := [Cond.methodLink RX6 236 yX6_countOf, Cond.instanceMethod yX6_countOf, Cond.selects RX6 yX6_countOf yX6_countOf, Cond.initialized RX6, Cond.code yX6_countOf cX6_countOf 2 (some .int), Cond.fieldLink RX6 84 "ClappedWrongModel" "many" "I", Cond.fieldLink RX6 87 "ClappedWrongModel" "late" "I", Cond.fieldLink RX6 90 "ClappedWrongModel" "armNow" "I", Cond.fieldLink RX6 93 "ClappedWrongModel" "barNow" "I", Cond.fieldLink RX6 96 "ClappedWrongModel" "skips" "I", Cond.fieldLink RX6 99 "ClappedWrongModel" "recordMany" "I", Cond.fieldLink RX6 56 "ClappedWrongModel" "pageMany" "I", Cond.fieldLink RX6 102 "ClappedWrongModel" "hallsRead" "I", Cond.fieldLink RX6 181 "ClappedWrongModel" "turnedMany" "I", Cond.fieldLink RX6 193 "ClappedWrongModel" "beganMany" "I", Cond.methodLink RX6 217 yX6_palmsAll, Cond.instanceMethod yX6_palmsAll, Cond.selects RX6 yX6_palmsAll yX6_palmsAll, Cond.code yX6_palmsAll cX6_palmsAll 3 (some .int), Cond.fieldLink RX6 16 "ClappedWrongModel" "rows" "[I", Cond.methodLink RX6 139 yX6_asItIs, Cond.instanceMethod yX6_asItIs, Cond.selects RX6 yX6_asItIs yX6_asItIs, Cond.code yX6_asItIs cX6_asItIs 2 none]
def wsX6_count_r2 : List Cond := [Cond.fieldLink RX6 25 "ClappedWrongModel" "now" "[I", Cond.fieldLink RX6 19 "ClappedWrongModel" "sounds" "[I", Cond.fieldLink RX6 28 "ClappedWrongModel" "nowLong" "[I", Cond.fieldLink RX6 22 "ClappedWrongModel" "clapped" "[I", Cond.fieldLink RX6 124 "ClappedWrongModel" "nowArm" "I", Cond.methodLink RX6 155 yX6_rightNow, Cond.instanceMethod yX6_rightNow, Cond.selects RX6 yX6_rightNow yX6_rightNow, Cond.code yX6_rightNow cX6_rightNow 3 (some .int)]
def wsX6_count : List Cond := .code yX6_count cX6_count 2 (some .int) :: ((wsX6_count_r1 ++ wsX6_count_r2) ++ wsX60)
def wsX6_say : List Cond := .code yX6_say cX6_say 3 none :: ([.constantLong RX6 239 (31), .fieldLink RX6 241 "ClappedWrongModel" "hash" "J"] ++ wsX60)
def wsX6_digest_r1 : List Cond := [Cond.constantLong RX6 245 (773), Cond.fieldLink RX6 241 "ClappedWrongModel" "hash" "J", Cond.fieldLink RX6 84 "ClappedWrongModel" "many" "I", Cond.fieldLink RX6 56 "ClappedWrongModel" "pageMany" "I", Cond.fieldLink RX6 7 "ClappedWrongModel" "page" "[I", Cond.methodLink RX6 119 yX6_tell, Cond.instanceMethod yX6_tell, Cond.selects RX6 yX6_tell yX6_tell, Cond.initialized RX6, Cond.code yX6_tell cX6_tell 3 (some .int), Cond.fieldLink RX6 16 "ClappedWrongModel" "rows" "[I", Cond.fieldLink RX6 19 "ClappedWrongModel" "sounds" "[I", Cond.fieldLink RX6 22 "ClappedWrongModel" "clapped" "[I", Cond.fieldLink RX6 90 "ClappedWrongModel" "armNow" "I", Cond.methodLink RX6 105 yX6_lagOf, Cond.instanceMethod yX6_lagOf, Cond.selects RX6 yX6_lagOf yX6_lagOf, Cond.code yX6_lagOf cX6_lagOf 2 (some .int), Cond.fieldLink RX6 87 "ClappedWrongModel" "late" "I", Cond.methodLink RX6 108 yX6_byLag, Cond.instanceMethod yX6_byLag, Cond.selects RX6 yX6_byLag yX6_byLag, Cond.code yX6_byLag cX6_byLag 4 (some .int), Cond.methodLink RX6 112 yX6_isTired]
def wsX6_digest_r2 : List Cond := [Cond.instanceMethod yX6_isTired, Cond.selects RX6 yX6_isTired yX6_isTired, Cond.code yX6_isTired cX6_isTired 3 (some .boolean), Cond.methodLink RX6 247 yX6_say, Cond.instanceMethod yX6_say, Cond.selects RX6 yX6_say yX6_say, Cond.code yX6_say cX6_say 3 none, Cond.constantLong RX6 239 (31), Cond.methodLink RX6 161 yX6_loudOf, Cond.instanceMethod yX6_loudOf, Cond.selects RX6 yX6_loudOf yX6_loudOf, Cond.code yX6_loudOf cX6_loudOf 7 (some .int), Cond.methodLink RX6 116 yX6_isRow, Cond.instanceMethod yX6_isRow, Cond.selects RX6 yX6_isRow yX6_isRow, Cond.code yX6_isRow cX6_isRow 2 (some .boolean), Cond.methodLink RX6 52 yX6_in, Cond.static yX6_in, Cond.code yX6_in cX6_in 6 (some .boolean), Cond.methodLink RX6 151 yX6_lacks, Cond.instanceMethod yX6_lacks, Cond.selects RX6 yX6_lacks yX6_lacks, Cond.code yX6_lacks cX6_lacks 1 (some .boolean), Cond.methodLink RX6 164 yX6_restOf]
def wsX6_digest_r3 : List Cond := [Cond.instanceMethod yX6_restOf, Cond.selects RX6 yX6_restOf yX6_restOf, Cond.code yX6_restOf cX6_restOf 4 (some .int), Cond.fieldLink RX6 25 "ClappedWrongModel" "now" "[I", Cond.fieldLink RX6 31 "ClappedWrongModel" "ahead" "[I", Cond.methodLink RX6 139 yX6_asItIs, Cond.instanceMethod yX6_asItIs, Cond.selects RX6 yX6_asItIs yX6_asItIs, Cond.code yX6_asItIs cX6_asItIs 2 none, Cond.fieldLink RX6 28 "ClappedWrongModel" "nowLong" "[I", Cond.fieldLink RX6 124 "ClappedWrongModel" "nowArm" "I", Cond.methodLink RX6 136 yX6_pass, Cond.instanceMethod yX6_pass, Cond.selects RX6 yX6_pass yX6_pass, Cond.code yX6_pass cX6_pass 2 none, Cond.methodLink RX6 133 yX6_nextOf, Cond.instanceMethod yX6_nextOf, Cond.selects RX6 yX6_nextOf yX6_nextOf, Cond.code yX6_nextOf cX6_nextOf 4 (some .int), Cond.methodLink RX6 127 yX6_isStubborn, Cond.instanceMethod yX6_isStubborn, Cond.selects RX6 yX6_isStubborn yX6_isStubborn, Cond.code yX6_isStubborn cX6_isStubborn 2 (some .boolean), Cond.methodLink RX6 130 yX6_palmsBy]
def wsX6_digest_r4 : List Cond := [Cond.instanceMethod yX6_palmsBy, Cond.selects RX6 yX6_palmsBy yX6_palmsBy, Cond.code yX6_palmsBy cX6_palmsBy 5 (some .int), Cond.methodLink RX6 173 yX6_outcomeOf, Cond.instanceMethod yX6_outcomeOf, Cond.selects RX6 yX6_outcomeOf yX6_outcomeOf, Cond.code yX6_outcomeOf cX6_outcomeOf 2 (some .int), Cond.methodLink RX6 167 yX6_passAll, Cond.instanceMethod yX6_passAll, Cond.selects RX6 yX6_passAll yX6_passAll, Cond.code yX6_passAll cX6_passAll 3 none, Cond.methodLink RX6 155 yX6_rightNow, Cond.instanceMethod yX6_rightNow, Cond.selects RX6 yX6_rightNow yX6_rightNow, Cond.code yX6_rightNow cX6_rightNow 3 (some .int), Cond.methodLink RX6 178 yX6_trickOf, Cond.instanceMethod yX6_trickOf, Cond.selects RX6 yX6_trickOf yX6_trickOf, Cond.code yX6_trickOf cX6_trickOf 7 (some .int), Cond.methodLink RX6 158 yX6_leaveOut, Cond.instanceMethod yX6_leaveOut, Cond.selects RX6 yX6_leaveOut yX6_leaveOut, Cond.code yX6_leaveOut cX6_leaveOut 2 none, Cond.methodLink RX6 236 yX6_countOf]
def wsX6_digest_r5 : List Cond := [Cond.instanceMethod yX6_countOf, Cond.selects RX6 yX6_countOf yX6_countOf, Cond.code yX6_countOf cX6_countOf 2 (some .int), Cond.fieldLink RX6 93 "ClappedWrongModel" "barNow" "I", Cond.fieldLink RX6 96 "ClappedWrongModel" "skips" "I", Cond.fieldLink RX6 99 "ClappedWrongModel" "recordMany" "I", Cond.fieldLink RX6 102 "ClappedWrongModel" "hallsRead" "I", Cond.fieldLink RX6 181 "ClappedWrongModel" "turnedMany" "I", Cond.fieldLink RX6 193 "ClappedWrongModel" "beganMany" "I", Cond.methodLink RX6 217 yX6_palmsAll, Cond.instanceMethod yX6_palmsAll, Cond.selects RX6 yX6_palmsAll yX6_palmsAll, Cond.code yX6_palmsAll cX6_palmsAll 3 (some .int)]
def wsX6_digest : List Cond := .code yX6_digest cX6_digest 3 (some .long) :: ((wsX6_digest_r1 ++ (wsX6_digest_r2 ++ (wsX6_digest_r3 ++ (wsX6_digest_r4 ++ wsX6_digest_r5)))) ++ wsX60)
def wsJ9_max_7cf53 : List Cond := .code yJ9_max_7cf53 cJ9_max_7cf53 2 (some .int) :: ([])
def wsJ9_min_7cf53 : List Cond := .code yJ9_min_7cf53 cJ9_min_7cf53 2 (some .int) :: ([])
theorem dX0_init_0 : decode cX0_init 0 = .ok (.aload_n 0, 1) := by decide +kernel
theorem dX0_init_1 : decode cX0_init 1 = .ok (.invokespecial 3, 3) := by decide +kernel
theorem dX0_init_4 : decode cX0_init 4 = .ok (.aload_n 0, 1) := by decide +kernel
theorem dX0_init_5 : decode cX0_init 5 = .ok (.bipush 8, 2) := by decide +kernel
theorem dX0_init_7 : decode cX0_init 7 = .ok (.newarray .int, 2) := by decide +kernel
theorem dX0_init_9 : decode cX0_init 9 = .ok (.putfield 9, 3) := by decide +kernel
theorem dX0_init_12 : decode cX0_init 12 = .ok (.aload_n 0, 1) := by decide +kernel
theorem dX0_init_13 : decode cX0_init 13 = .ok (.bipush 8, 2) := by decide +kernel
theorem dX0_init_15 : decode cX0_init 15 = .ok (.newarray .int, 2) := by decide +kernel
theorem dX0_init_17 : decode cX0_init 17 = .ok (.putfield 15, 3) := by decide +kernel
theorem dX0_init_20 : decode cX0_init 20 = .ok (.aload_n 0, 1) := by decide +kernel
theorem dX0_init_21 : decode cX0_init 21 = .ok (.bipush 8, 2) := by decide +kernel
theorem dX0_init_23 : decode cX0_init 23 = .ok (.newarray .int, 2) := by decide +kernel
theorem dX0_init_25 : decode cX0_init 25 = .ok (.putfield 18, 3) := by decide +kernel
theorem dX0_init_28 : decode cX0_init 28 = .ok (.aload_n 0, 1) := by decide +kernel
theorem dX0_init_29 : decode cX0_init 29 = .ok (.iconst 0, 1) := by decide +kernel
theorem dX0_init_30 : decode cX0_init 30 = .ok (.putfield 21, 3) := by decide +kernel
theorem dX0_init_33 : decode cX0_init 33 = .ok (.return_, 1) := by decide +kernel
theorem dX0_takeFrom_0 : decode cX0_takeFrom 0 = .ok (.iconst 0, 1) := by decide +kernel
theorem dX0_takeFrom_1 : decode cX0_takeFrom 1 = .ok (.istore_n 2, 1) := by decide +kernel
theorem dX0_takeFrom_2 : decode cX0_takeFrom 2 = .ok (.iload_n 2, 1) := by decide +kernel
theorem dX0_takeFrom_3 : decode cX0_takeFrom 3 = .ok (.bipush 8, 2) := by decide +kernel
theorem dX0_takeFrom_5 : decode cX0_takeFrom 5 = .ok (.if_icmp .ge 33, 3) := by decide +kernel
theorem dX0_takeFrom_8 : decode cX0_takeFrom 8 = .ok (.aload_n 0, 1) := by decide +kernel
theorem dX0_takeFrom_9 : decode cX0_takeFrom 9 = .ok (.getfield 9, 3) := by decide +kernel
theorem dX0_takeFrom_12 : decode cX0_takeFrom 12 = .ok (.iload_n 2, 1) := by decide +kernel
theorem dX0_takeFrom_13 : decode cX0_takeFrom 13 = .ok (.aload_n 1, 1) := by decide +kernel
theorem dX0_takeFrom_14 : decode cX0_takeFrom 14 = .ok (.getfield 9, 3) := by decide +kernel
theorem dX0_takeFrom_17 : decode cX0_takeFrom 17 = .ok (.iload_n 2, 1) := by decide +kernel
theorem dX0_takeFrom_18 : decode cX0_takeFrom 18 = .ok (.iaload, 1) := by decide +kernel
theorem dX0_takeFrom_19 : decode cX0_takeFrom 19 = .ok (.iastore, 1) := by decide +kernel
theorem dX0_takeFrom_20 : decode cX0_takeFrom 20 = .ok (.aload_n 0, 1) := by decide +kernel
theorem dX0_takeFrom_21 : decode cX0_takeFrom 21 = .ok (.getfield 15, 3) := by decide +kernel
theorem dX0_takeFrom_24 : decode cX0_takeFrom 24 = .ok (.iload_n 2, 1) := by decide +kernel
theorem dX0_takeFrom_25 : decode cX0_takeFrom 25 = .ok (.aload_n 1, 1) := by decide +kernel
theorem dX0_takeFrom_26 : decode cX0_takeFrom 26 = .ok (.getfield 15, 3) := by decide +kernel
theorem dX0_takeFrom_29 : decode cX0_takeFrom 29 = .ok (.iload_n 2, 1) := by decide +kernel
theorem dX0_takeFrom_30 : decode cX0_takeFrom 30 = .ok (.iaload, 1) := by decide +kernel
theorem dX0_takeFrom_31 : decode cX0_takeFrom 31 = .ok (.iastore, 1) := by decide +kernel
theorem dX0_takeFrom_32 : decode cX0_takeFrom 32 = .ok (.iinc 2 1, 3) := by decide +kernel
theorem dX0_takeFrom_35 : decode cX0_takeFrom 35 = .ok (.goto (-33), 3) := by decide +kernel
theorem dX0_takeFrom_38 : decode cX0_takeFrom 38 = .ok (.aload_n 0, 1) := by decide +kernel
theorem dX0_takeFrom_39 : decode cX0_takeFrom 39 = .ok (.aload_n 1, 1) := by decide +kernel
theorem dX0_takeFrom_40 : decode cX0_takeFrom 40 = .ok (.getfield 21, 3) := by decide +kernel
theorem dX0_takeFrom_43 : decode cX0_takeFrom 43 = .ok (.putfield 21, 3) := by decide +kernel
theorem dX0_takeFrom_46 : decode cX0_takeFrom 46 = .ok (.return_, 1) := by decide +kernel
theorem dX0_beginWith_0 : decode cX0_beginWith 0 = .ok (.iconst 0, 1) := by decide +kernel
theorem dX0_beginWith_1 : decode cX0_beginWith 1 = .ok (.istore_n 3, 1) := by decide +kernel
theorem dX0_beginWith_2 : decode cX0_beginWith 2 = .ok (.iload_n 3, 1) := by decide +kernel
theorem dX0_beginWith_3 : decode cX0_beginWith 3 = .ok (.bipush 8, 2) := by decide +kernel
theorem dX0_beginWith_5 : decode cX0_beginWith 5 = .ok (.if_icmp .ge 32, 3) := by decide +kernel
theorem dX0_beginWith_8 : decode cX0_beginWith 8 = .ok (.aload_n 0, 1) := by decide +kernel
theorem dX0_beginWith_9 : decode cX0_beginWith 9 = .ok (.getfield 9, 3) := by decide +kernel
theorem dX0_beginWith_12 : decode cX0_beginWith 12 = .ok (.iload_n 3, 1) := by decide +kernel
theorem dX0_beginWith_13 : decode cX0_beginWith 13 = .ok (.iload_n 3, 1) := by decide +kernel
theorem dX0_beginWith_14 : decode cX0_beginWith 14 = .ok (.iload_n 1, 1) := by decide +kernel
theorem dX0_beginWith_15 : decode cX0_beginWith 15 = .ok (.if_icmp .ge 7, 3) := by decide +kernel
theorem dX0_beginWith_18 : decode cX0_beginWith 18 = .ok (.iconst 3, 1) := by decide +kernel
theorem dX0_beginWith_19 : decode cX0_beginWith 19 = .ok (.goto 4, 3) := by decide +kernel
theorem dX0_beginWith_22 : decode cX0_beginWith 22 = .ok (.iconst 0, 1) := by decide +kernel
theorem dX0_beginWith_23 : decode cX0_beginWith 23 = .ok (.iastore, 1) := by decide +kernel
theorem dX0_beginWith_24 : decode cX0_beginWith 24 = .ok (.aload_n 0, 1) := by decide +kernel
theorem dX0_beginWith_25 : decode cX0_beginWith 25 = .ok (.getfield 15, 3) := by decide +kernel
theorem dX0_beginWith_28 : decode cX0_beginWith 28 = .ok (.iload_n 3, 1) := by decide +kernel
theorem dX0_beginWith_29 : decode cX0_beginWith 29 = .ok (.iconst 0, 1) := by decide +kernel
theorem dX0_beginWith_30 : decode cX0_beginWith 30 = .ok (.iastore, 1) := by decide +kernel
theorem dX0_beginWith_31 : decode cX0_beginWith 31 = .ok (.iinc 3 1, 3) := by decide +kernel
theorem dX0_beginWith_34 : decode cX0_beginWith 34 = .ok (.goto (-32), 3) := by decide +kernel
theorem dX0_beginWith_37 : decode cX0_beginWith 37 = .ok (.aload_n 0, 1) := by decide +kernel
theorem dX0_beginWith_38 : decode cX0_beginWith 38 = .ok (.iload_n 2, 1) := by decide +kernel
theorem dX0_beginWith_39 : decode cX0_beginWith 39 = .ok (.putfield 21, 3) := by decide +kernel
theorem dX0_beginWith_42 : decode cX0_beginWith 42 = .ok (.return_, 1) := by decide +kernel
theorem dX0_soundOf_0 : decode cX0_soundOf 0 = .ok (.iload_n 1, 1) := by decide +kernel
theorem dX0_soundOf_1 : decode cX0_soundOf 1 = .ok (.ifCond .lt 18, 3) := by decide +kernel
theorem dX0_soundOf_4 : decode cX0_soundOf 4 = .ok (.iload_n 1, 1) := by decide +kernel
theorem dX0_soundOf_5 : decode cX0_soundOf 5 = .ok (.bipush 8, 2) := by decide +kernel
theorem dX0_soundOf_7 : decode cX0_soundOf 7 = .ok (.if_icmp .ge 12, 3) := by decide +kernel
theorem dX0_soundOf_10 : decode cX0_soundOf 10 = .ok (.aload_n 0, 1) := by decide +kernel
theorem dX0_soundOf_11 : decode cX0_soundOf 11 = .ok (.getfield 9, 3) := by decide +kernel
theorem dX0_soundOf_14 : decode cX0_soundOf 14 = .ok (.iload_n 1, 1) := by decide +kernel
theorem dX0_soundOf_15 : decode cX0_soundOf 15 = .ok (.iaload, 1) := by decide +kernel
theorem dX0_soundOf_16 : decode cX0_soundOf 16 = .ok (.goto 4, 3) := by decide +kernel
theorem dX0_soundOf_19 : decode cX0_soundOf 19 = .ok (.iconst 0, 1) := by decide +kernel
theorem dX0_soundOf_20 : decode cX0_soundOf 20 = .ok (.ireturn, 1) := by decide +kernel
theorem dX0_clappedOf_0 : decode cX0_clappedOf 0 = .ok (.iload_n 1, 1) := by decide +kernel
theorem dX0_clappedOf_1 : decode cX0_clappedOf 1 = .ok (.ifCond .lt 18, 3) := by decide +kernel
theorem dX0_clappedOf_4 : decode cX0_clappedOf 4 = .ok (.iload_n 1, 1) := by decide +kernel
theorem dX0_clappedOf_5 : decode cX0_clappedOf 5 = .ok (.bipush 8, 2) := by decide +kernel
theorem dX0_clappedOf_7 : decode cX0_clappedOf 7 = .ok (.if_icmp .ge 12, 3) := by decide +kernel
theorem dX0_clappedOf_10 : decode cX0_clappedOf 10 = .ok (.aload_n 0, 1) := by decide +kernel
theorem dX0_clappedOf_11 : decode cX0_clappedOf 11 = .ok (.getfield 15, 3) := by decide +kernel
theorem dX0_clappedOf_14 : decode cX0_clappedOf 14 = .ok (.iload_n 1, 1) := by decide +kernel
theorem dX0_clappedOf_15 : decode cX0_clappedOf 15 = .ok (.iaload, 1) := by decide +kernel
theorem dX0_clappedOf_16 : decode cX0_clappedOf 16 = .ok (.goto 4, 3) := by decide +kernel
theorem dX0_clappedOf_19 : decode cX0_clappedOf 19 = .ok (.iconst 0, 1) := by decide +kernel
theorem dX0_clappedOf_20 : decode cX0_clappedOf 20 = .ok (.ireturn, 1) := by decide +kernel
theorem dX0_let_0 : decode cX0_let 0 = .ok (.iload_n 1, 1) := by decide +kernel
theorem dX0_let_1 : decode cX0_let 1 = .ok (.ifCond .lt 9, 3) := by decide +kernel
theorem dX0_let_4 : decode cX0_let 4 = .ok (.iload_n 1, 1) := by decide +kernel
theorem dX0_let_5 : decode cX0_let 5 = .ok (.bipush 8, 2) := by decide +kernel
theorem dX0_let_7 : decode cX0_let 7 = .ok (.if_icmp .lt 4, 3) := by decide +kernel
theorem dX0_let_10 : decode cX0_let 10 = .ok (.return_, 1) := by decide +kernel
theorem dX0_let_11 : decode cX0_let 11 = .ok (.aload_n 0, 1) := by decide +kernel
theorem dX0_let_12 : decode cX0_let 12 = .ok (.getfield 9, 3) := by decide +kernel
theorem dX0_let_15 : decode cX0_let 15 = .ok (.iload_n 1, 1) := by decide +kernel
theorem dX0_let_16 : decode cX0_let 16 = .ok (.iload_n 2, 1) := by decide +kernel
theorem dX0_let_17 : decode cX0_let 17 = .ok (.iastore, 1) := by decide +kernel
theorem dX0_let_18 : decode cX0_let 18 = .ok (.iload_n 2, 1) := by decide +kernel
theorem dX0_let_19 : decode cX0_let 19 = .ok (.ifCond .ne 10, 3) := by decide +kernel
theorem dX0_let_22 : decode cX0_let 22 = .ok (.aload_n 0, 1) := by decide +kernel
theorem dX0_let_23 : decode cX0_let 23 = .ok (.getfield 15, 3) := by decide +kernel
theorem dX0_let_26 : decode cX0_let 26 = .ok (.iload_n 1, 1) := by decide +kernel
theorem dX0_let_27 : decode cX0_let 27 = .ok (.iconst 0, 1) := by decide +kernel
theorem dX0_let_28 : decode cX0_let 28 = .ok (.iastore, 1) := by decide +kernel
theorem dX0_let_29 : decode cX0_let 29 = .ok (.return_, 1) := by decide +kernel
set_option maxRecDepth 20000 in
theorem ggX0_isTired_X2_strengthOf : GoodIn wsX0_isTired wsX2_strengthOf := goodIn_r _ [5, 6, 7, 14, 15, 16, 17, 18] (by decide +kernel) (by decide +kernel)
set_option maxRecDepth 20000 in
theorem gX0_isTired_X2_strengthOf : GoodIn wsX0_isTired (wsV RX0 25 RX2 yX2_strengthOf wsX2_strengthOf) := goodIn_app (goodIn_of _ (by decide +kernel)) ggX0_isTired_X2_strengthOf
set_option maxRecDepth 20000 in
theorem ggX0_isTired_X0_clappedOf : GoodIn wsX0_isTired wsX0_clappedOf := goodIn_r _ [12, 13, 19, 20, 21, 22] (by decide +kernel) (by decide +kernel)
set_option maxRecDepth 20000 in
theorem gX0_isTired_X0_clappedOf : GoodIn wsX0_isTired (wsV RX0 31 RX0 yX0_clappedOf wsX0_clappedOf) := goodIn_app (goodIn_of _ (by decide +kernel)) ggX0_isTired_X0_clappedOf
theorem dX0_isTired_0 : decode cX0_isTired 0 = .ok (.aload_n 1, 1) := by decide +kernel
theorem dX0_isTired_1 : decode cX0_isTired 1 = .ok (.iload_n 2, 1) := by decide +kernel
theorem dX0_isTired_2 : decode cX0_isTired 2 = .ok (.invokevirtual 25, 3) := by decide +kernel
theorem dX0_isTired_5 : decode cX0_isTired 5 = .ok (.istore_n 3, 1) := by decide +kernel
theorem dX0_isTired_6 : decode cX0_isTired 6 = .ok (.iload_n 3, 1) := by decide +kernel
theorem dX0_isTired_7 : decode cX0_isTired 7 = .ok (.ifCond .le 16, 3) := by decide +kernel
theorem dX0_isTired_10 : decode cX0_isTired 10 = .ok (.aload_n 0, 1) := by decide +kernel
theorem dX0_isTired_11 : decode cX0_isTired 11 = .ok (.iload_n 2, 1) := by decide +kernel
theorem dX0_isTired_12 : decode cX0_isTired 12 = .ok (.invokevirtual 31, 3) := by decide +kernel
theorem dX0_isTired_15 : decode cX0_isTired 15 = .ok (.iload_n 3, 1) := by decide +kernel
theorem dX0_isTired_16 : decode cX0_isTired 16 = .ok (.if_icmp .lt 7, 3) := by decide +kernel
theorem dX0_isTired_19 : decode cX0_isTired 19 = .ok (.iconst 1, 1) := by decide +kernel
theorem dX0_isTired_20 : decode cX0_isTired 20 = .ok (.goto 4, 3) := by decide +kernel
theorem dX0_isTired_23 : decode cX0_isTired 23 = .ok (.iconst 0, 1) := by decide +kernel
theorem dX0_isTired_24 : decode cX0_isTired 24 = .ok (.ireturn, 1) := by decide +kernel
theorem dX0_seesArm_0 : decode cX0_seesArm 0 = .ok (.iload_n 1, 1) := by decide +kernel
theorem dX0_seesArm_1 : decode cX0_seesArm 1 = .ok (.aload_n 0, 1) := by decide +kernel
theorem dX0_seesArm_2 : decode cX0_seesArm 2 = .ok (.getfield 21, 3) := by decide +kernel
theorem dX0_seesArm_5 : decode cX0_seesArm 5 = .ok (.if_icmp .ge 7, 3) := by decide +kernel
theorem dX0_seesArm_8 : decode cX0_seesArm 8 = .ok (.iconst 1, 1) := by decide +kernel
theorem dX0_seesArm_9 : decode cX0_seesArm 9 = .ok (.goto 4, 3) := by decide +kernel
theorem dX0_seesArm_12 : decode cX0_seesArm 12 = .ok (.iconst 0, 1) := by decide +kernel
theorem dX0_seesArm_13 : decode cX0_seesArm 13 = .ok (.ireturn, 1) := by decide +kernel
set_option maxRecDepth 20000 in
theorem ggX0_goOn_X0_soundNext : GoodIn wsX0_goOn wsX0_soundNext := goodIn_r _ [8, 9, 10, 11, 7, 12, 13, 14, 15, 16, 17, 18, 19, 20, 21, 22, 23, 3, 24, 25, 26, 27, 2, 28, 29, 30, 31, 32, 33, 34, 35, 36, 37, 38, 39, 40, 41, 42, 43, 44, 45, 46, 47, 48, 49, 50, 58, 59, 60, 61, 62, 63, 64, 65, 66] (by decide +kernel) (by decide +kernel)
set_option maxRecDepth 20000 in
theorem gX0_goOn_X0_soundNext : GoodIn wsX0_goOn (wsV RX0 37 RX0 yX0_soundNext wsX0_soundNext) := goodIn_app (goodIn_of _ (by decide +kernel)) ggX0_goOn_X0_soundNext
set_option maxRecDepth 20000 in
theorem ggX0_goOn_X0_let : GoodIn wsX0_goOn wsX0_let := goodIn_r _ [54, 2, 3, 63, 64, 65, 66] (by decide +kernel) (by decide +kernel)
set_option maxRecDepth 20000 in
theorem gX0_goOn_X0_let : GoodIn wsX0_goOn (wsV RX0 41 RX0 yX0_let wsX0_let) := goodIn_app (goodIn_of _ (by decide +kernel)) ggX0_goOn_X0_let
set_option maxRecDepth 20000 in
theorem ggX0_goOn_X5_oneIf : GoodIn wsX0_goOn wsX5_oneIf := goodIn_r _ [57] (by decide +kernel) (by decide +kernel)
set_option maxRecDepth 20000 in
theorem gX0_goOn_X5_oneIf_n45 : GoodIn wsX0_goOn (wsX5_oneIf) := ggX0_goOn_X5_oneIf
theorem dX0_goOn_0 : decode cX0_goOn 0 = .ok (.iconst 0, 1) := by decide +kernel
theorem dX0_goOn_1 : decode cX0_goOn 1 = .ok (.istore_n 2, 1) := by decide +kernel
theorem dX0_goOn_2 : decode cX0_goOn 2 = .ok (.iload_n 2, 1) := by decide +kernel
theorem dX0_goOn_3 : decode cX0_goOn 3 = .ok (.aload_n 1, 1) := by decide +kernel
theorem dX0_goOn_4 : decode cX0_goOn 4 = .ok (.getfield 34, 3) := by decide +kernel
theorem dX0_goOn_7 : decode cX0_goOn 7 = .ok (.if_icmp .ge 21, 3) := by decide +kernel
theorem dX0_goOn_10 : decode cX0_goOn 10 = .ok (.aload_n 0, 1) := by decide +kernel
theorem dX0_goOn_11 : decode cX0_goOn 11 = .ok (.getfield 18, 3) := by decide +kernel
theorem dX0_goOn_14 : decode cX0_goOn 14 = .ok (.iload_n 2, 1) := by decide +kernel
theorem dX0_goOn_15 : decode cX0_goOn 15 = .ok (.aload_n 0, 1) := by decide +kernel
theorem dX0_goOn_16 : decode cX0_goOn 16 = .ok (.aload_n 1, 1) := by decide +kernel
theorem dX0_goOn_17 : decode cX0_goOn 17 = .ok (.iload_n 2, 1) := by decide +kernel
theorem dX0_goOn_18 : decode cX0_goOn 18 = .ok (.invokevirtual 37, 3) := by decide +kernel
theorem dX0_goOn_21 : decode cX0_goOn 21 = .ok (.iastore, 1) := by decide +kernel
theorem dX0_goOn_22 : decode cX0_goOn 22 = .ok (.iinc 2 1, 3) := by decide +kernel
theorem dX0_goOn_25 : decode cX0_goOn 25 = .ok (.goto (-23), 3) := by decide +kernel
theorem dX0_goOn_28 : decode cX0_goOn 28 = .ok (.iconst 0, 1) := by decide +kernel
theorem dX0_goOn_29 : decode cX0_goOn 29 = .ok (.istore_n 2, 1) := by decide +kernel
theorem dX0_goOn_30 : decode cX0_goOn 30 = .ok (.iconst 0, 1) := by decide +kernel
theorem dX0_goOn_31 : decode cX0_goOn 31 = .ok (.istore_n 3, 1) := by decide +kernel
theorem dX0_goOn_32 : decode cX0_goOn 32 = .ok (.iload_n 3, 1) := by decide +kernel
theorem dX0_goOn_33 : decode cX0_goOn 33 = .ok (.aload_n 1, 1) := by decide +kernel
theorem dX0_goOn_34 : decode cX0_goOn 34 = .ok (.getfield 34, 3) := by decide +kernel
theorem dX0_goOn_37 : decode cX0_goOn 37 = .ok (.if_icmp .ge 71, 3) := by decide +kernel
theorem dX0_goOn_40 : decode cX0_goOn 40 = .ok (.iload_n 2, 1) := by decide +kernel
theorem dX0_goOn_41 : decode cX0_goOn 41 = .ok (.ifCond .ne 18, 3) := by decide +kernel
theorem dX0_goOn_44 : decode cX0_goOn 44 = .ok (.aload_n 0, 1) := by decide +kernel
theorem dX0_goOn_45 : decode cX0_goOn 45 = .ok (.getfield 18, 3) := by decide +kernel
theorem dX0_goOn_48 : decode cX0_goOn 48 = .ok (.iload_n 3, 1) := by decide +kernel
theorem dX0_goOn_49 : decode cX0_goOn 49 = .ok (.iaload, 1) := by decide +kernel
theorem dX0_goOn_50 : decode cX0_goOn 50 = .ok (.aload_n 0, 1) := by decide +kernel
theorem dX0_goOn_51 : decode cX0_goOn 51 = .ok (.getfield 9, 3) := by decide +kernel
theorem dX0_goOn_54 : decode cX0_goOn 54 = .ok (.iload_n 3, 1) := by decide +kernel
theorem dX0_goOn_55 : decode cX0_goOn 55 = .ok (.iaload, 1) := by decide +kernel
theorem dX0_goOn_56 : decode cX0_goOn 56 = .ok (.if_icmp .eq 7, 3) := by decide +kernel
theorem dX0_goOn_59 : decode cX0_goOn 59 = .ok (.iconst 1, 1) := by decide +kernel
theorem dX0_goOn_60 : decode cX0_goOn 60 = .ok (.goto 4, 3) := by decide +kernel
theorem dX0_goOn_63 : decode cX0_goOn 63 = .ok (.iconst 0, 1) := by decide +kernel
theorem dX0_goOn_64 : decode cX0_goOn 64 = .ok (.istore_n 2, 1) := by decide +kernel
theorem dX0_goOn_65 : decode cX0_goOn 65 = .ok (.aload_n 0, 1) := by decide +kernel
theorem dX0_goOn_66 : decode cX0_goOn 66 = .ok (.iload_n 3, 1) := by decide +kernel
theorem dX0_goOn_67 : decode cX0_goOn 67 = .ok (.aload_n 0, 1) := by decide +kernel
theorem dX0_goOn_68 : decode cX0_goOn 68 = .ok (.getfield 18, 3) := by decide +kernel
theorem dX0_goOn_71 : decode cX0_goOn 71 = .ok (.iload_n 3, 1) := by decide +kernel
theorem dX0_goOn_72 : decode cX0_goOn 72 = .ok (.iaload, 1) := by decide +kernel
theorem dX0_goOn_73 : decode cX0_goOn 73 = .ok (.invokevirtual 41, 3) := by decide +kernel
theorem dX0_goOn_76 : decode cX0_goOn 76 = .ok (.aload_n 0, 1) := by decide +kernel
theorem dX0_goOn_77 : decode cX0_goOn 77 = .ok (.getfield 15, 3) := by decide +kernel
theorem dX0_goOn_80 : decode cX0_goOn 80 = .ok (.iload_n 3, 1) := by decide +kernel
theorem dX0_goOn_81 : decode cX0_goOn 81 = .ok (.dup2, 1) := by decide +kernel
theorem dX0_goOn_82 : decode cX0_goOn 82 = .ok (.iaload, 1) := by decide +kernel
theorem dX0_goOn_83 : decode cX0_goOn 83 = .ok (.aload_n 0, 1) := by decide +kernel
theorem dX0_goOn_84 : decode cX0_goOn 84 = .ok (.getfield 18, 3) := by decide +kernel
theorem dX0_goOn_87 : decode cX0_goOn 87 = .ok (.iload_n 3, 1) := by decide +kernel
theorem dX0_goOn_88 : decode cX0_goOn 88 = .ok (.iaload, 1) := by decide +kernel
theorem dX0_goOn_89 : decode cX0_goOn 89 = .ok (.ifCond .eq 7, 3) := by decide +kernel
theorem dX0_goOn_92 : decode cX0_goOn 92 = .ok (.iconst 1, 1) := by decide +kernel
theorem dX0_goOn_93 : decode cX0_goOn 93 = .ok (.goto 4, 3) := by decide +kernel
theorem dX0_goOn_96 : decode cX0_goOn 96 = .ok (.iconst 0, 1) := by decide +kernel
theorem dX0_goOn_97 : decode cX0_goOn 97 = .ok (.invokestatic 45, 3) := by decide +kernel
theorem dX0_goOn_100 : decode cX0_goOn 100 = .ok (.iadd, 1) := by decide +kernel
theorem dX0_goOn_101 : decode cX0_goOn 101 = .ok (.iastore, 1) := by decide +kernel
theorem dX0_goOn_102 : decode cX0_goOn 102 = .ok (.iinc 3 1, 3) := by decide +kernel
theorem dX0_goOn_105 : decode cX0_goOn 105 = .ok (.goto (-73), 3) := by decide +kernel
theorem dX0_goOn_108 : decode cX0_goOn 108 = .ok (.iload_n 2, 1) := by decide +kernel
theorem dX0_goOn_109 : decode cX0_goOn 109 = .ok (.ireturn, 1) := by decide +kernel
set_option maxRecDepth 20000 in
theorem ggX0_soundNext_X0_isTired : GoodIn wsX0_soundNext wsX0_isTired := goodIn_r _ [5, 6, 7, 8, 9, 10, 11, 12, 13, 14, 15, 4, 16, 17, 46, 47, 48, 49, 50, 51, 52, 53, 54] (by decide +kernel) (by decide +kernel)
set_option maxRecDepth 20000 in
theorem gX0_soundNext_X0_isTired : GoodIn wsX0_soundNext (wsV RX0 49 RX0 yX0_isTired wsX0_isTired) := goodIn_app (goodIn_of _ (by decide +kernel)) ggX0_soundNext_X0_isTired
set_option maxRecDepth 20000 in
theorem ggX0_soundNext_X0_soundOf : GoodIn wsX0_soundNext wsX0_soundOf := goodIn_r _ [21, 22, 51, 52, 53, 54] (by decide +kernel) (by decide +kernel)
set_option maxRecDepth 20000 in
theorem gX0_soundNext_X0_soundOf : GoodIn wsX0_soundNext (wsV RX0 53 RX0 yX0_soundOf wsX0_soundOf) := goodIn_app (goodIn_of _ (by decide +kernel)) ggX0_soundNext_X0_soundOf
set_option maxRecDepth 20000 in
theorem ggX0_soundNext_X2_isOf : GoodIn wsX0_soundNext wsX2_isOf := goodIn_r _ [26, 27, 28, 29, 9, 30, 11, 31, 46, 47, 48, 49, 50] (by decide +kernel) (by decide +kernel)
set_option maxRecDepth 20000 in
theorem gX0_soundNext_X2_isOf : GoodIn wsX0_soundNext (wsV RX0 56 RX2 yX2_isOf wsX2_isOf) := goodIn_app (goodIn_of _ (by decide +kernel)) ggX0_soundNext_X2_isOf
set_option maxRecDepth 20000 in
theorem ggX0_soundNext_X2_kindOf : GoodIn wsX0_soundNext wsX2_kindOf := goodIn_r _ [30, 11, 31, 46, 47, 48, 49, 50] (by decide +kernel) (by decide +kernel)
set_option maxRecDepth 20000 in
theorem gX0_soundNext_X2_kindOf : GoodIn wsX0_soundNext (wsV RX0 60 RX2 yX2_kindOf wsX2_kindOf) := goodIn_app (goodIn_of _ (by decide +kernel)) ggX0_soundNext_X2_kindOf
set_option maxRecDepth 20000 in
theorem ggX0_soundNext_X0_seesArm : GoodIn wsX0_soundNext wsX0_seesArm := goodIn_r _ [36, 37, 51, 52, 53, 54] (by decide +kernel) (by decide +kernel)
set_option maxRecDepth 20000 in
theorem gX0_soundNext_X0_seesArm : GoodIn wsX0_soundNext (wsV RX0 63 RX0 yX0_seesArm wsX0_seesArm) := goodIn_app (goodIn_of _ (by decide +kernel)) ggX0_soundNext_X0_seesArm
set_option maxRecDepth 20000 in
theorem ggX0_soundNext_X0_soundOfMore : GoodIn wsX0_soundNext wsX0_soundOfMore := goodIn_r _ [41, 42, 43, 44, 4, 45, 22, 32, 28, 29, 9, 30, 11, 31, 18, 19, 20, 21, 46, 47, 48, 49, 50, 51, 52, 53, 54] (by decide +kernel) (by decide +kernel)
set_option maxRecDepth 20000 in
theorem gX0_soundNext_X0_soundOfMore : GoodIn wsX0_soundNext (wsV RX0 67 RX0 yX0_soundOfMore wsX0_soundOfMore) := goodIn_app (goodIn_of _ (by decide +kernel)) ggX0_soundNext_X0_soundOfMore
theorem dX0_soundNext_0 : decode cX0_soundNext 0 = .ok (.aload_n 0, 1) := by decide +kernel
theorem dX0_soundNext_1 : decode cX0_soundNext 1 = .ok (.aload_n 1, 1) := by decide +kernel
theorem dX0_soundNext_2 : decode cX0_soundNext 2 = .ok (.iload_n 2, 1) := by decide +kernel
theorem dX0_soundNext_3 : decode cX0_soundNext 3 = .ok (.invokevirtual 49, 3) := by decide +kernel
theorem dX0_soundNext_6 : decode cX0_soundNext 6 = .ok (.ifCond .eq 5, 3) := by decide +kernel
theorem dX0_soundNext_9 : decode cX0_soundNext 9 = .ok (.iconst 0, 1) := by decide +kernel
theorem dX0_soundNext_10 : decode cX0_soundNext 10 = .ok (.ireturn, 1) := by decide +kernel
theorem dX0_soundNext_11 : decode cX0_soundNext 11 = .ok (.aload_n 0, 1) := by decide +kernel
theorem dX0_soundNext_12 : decode cX0_soundNext 12 = .ok (.iload_n 2, 1) := by decide +kernel
theorem dX0_soundNext_13 : decode cX0_soundNext 13 = .ok (.invokevirtual 53, 3) := by decide +kernel
theorem dX0_soundNext_16 : decode cX0_soundNext 16 = .ok (.istore_n 3, 1) := by decide +kernel
theorem dX0_soundNext_17 : decode cX0_soundNext 17 = .ok (.iload_n 3, 1) := by decide +kernel
theorem dX0_soundNext_18 : decode cX0_soundNext 18 = .ok (.ifCond .ne 5, 3) := by decide +kernel
theorem dX0_soundNext_21 : decode cX0_soundNext 21 = .ok (.iconst 3, 1) := by decide +kernel
theorem dX0_soundNext_22 : decode cX0_soundNext 22 = .ok (.ireturn, 1) := by decide +kernel
theorem dX0_soundNext_23 : decode cX0_soundNext 23 = .ok (.aload_n 1, 1) := by decide +kernel
theorem dX0_soundNext_24 : decode cX0_soundNext 24 = .ok (.iload_n 2, 1) := by decide +kernel
theorem dX0_soundNext_25 : decode cX0_soundNext 25 = .ok (.iconst 1, 1) := by decide +kernel
theorem dX0_soundNext_26 : decode cX0_soundNext 26 = .ok (.invokevirtual 56, 3) := by decide +kernel
theorem dX0_soundNext_29 : decode cX0_soundNext 29 = .ok (.ifCond .eq 5, 3) := by decide +kernel
theorem dX0_soundNext_32 : decode cX0_soundNext 32 = .ok (.iload_n 3, 1) := by decide +kernel
theorem dX0_soundNext_33 : decode cX0_soundNext 33 = .ok (.ireturn, 1) := by decide +kernel
theorem dX0_soundNext_34 : decode cX0_soundNext 34 = .ok (.aload_n 1, 1) := by decide +kernel
theorem dX0_soundNext_35 : decode cX0_soundNext 35 = .ok (.iload_n 2, 1) := by decide +kernel
theorem dX0_soundNext_36 : decode cX0_soundNext 36 = .ok (.invokevirtual 60, 3) := by decide +kernel
theorem dX0_soundNext_39 : decode cX0_soundNext 39 = .ok (.iconst 2, 1) := by decide +kernel
theorem dX0_soundNext_40 : decode cX0_soundNext 40 = .ok (.if_icmp .ne 13, 3) := by decide +kernel
theorem dX0_soundNext_43 : decode cX0_soundNext 43 = .ok (.aload_n 0, 1) := by decide +kernel
theorem dX0_soundNext_44 : decode cX0_soundNext 44 = .ok (.iload_n 2, 1) := by decide +kernel
theorem dX0_soundNext_45 : decode cX0_soundNext 45 = .ok (.invokevirtual 63, 3) := by decide +kernel
theorem dX0_soundNext_48 : decode cX0_soundNext 48 = .ok (.ifCond .eq 5, 3) := by decide +kernel
theorem dX0_soundNext_51 : decode cX0_soundNext 51 = .ok (.iconst 2, 1) := by decide +kernel
theorem dX0_soundNext_52 : decode cX0_soundNext 52 = .ok (.ireturn, 1) := by decide +kernel
theorem dX0_soundNext_53 : decode cX0_soundNext 53 = .ok (.aload_n 0, 1) := by decide +kernel
theorem dX0_soundNext_54 : decode cX0_soundNext 54 = .ok (.aload_n 1, 1) := by decide +kernel
theorem dX0_soundNext_55 : decode cX0_soundNext 55 = .ok (.iload_n 2, 1) := by decide +kernel
theorem dX0_soundNext_56 : decode cX0_soundNext 56 = .ok (.invokevirtual 67, 3) := by decide +kernel
theorem dX0_soundNext_59 : decode cX0_soundNext 59 = .ok (.ireturn, 1) := by decide +kernel
set_option maxRecDepth 20000 in
theorem ggX0_soundOfMore_X0_palmsThatSound : GoodIn wsX0_soundOfMore wsX0_palmsThatSound := goodIn_r _ [5, 6, 18, 19, 20, 21, 22, 23, 24, 25, 26] (by decide +kernel) (by decide +kernel)
set_option maxRecDepth 20000 in
theorem gX0_soundOfMore_X0_palmsThatSound : GoodIn wsX0_soundOfMore (wsV RX0 70 RX0 yX0_palmsThatSound wsX0_palmsThatSound) := goodIn_app (goodIn_of _ (by decide +kernel)) ggX0_soundOfMore_X0_palmsThatSound
set_option maxRecDepth 20000 in
theorem ggX0_soundOfMore_X2_kindOf : GoodIn wsX0_soundOfMore wsX2_kindOf := goodIn_r _ [11, 12, 13, 18, 19, 20, 21, 22] (by decide +kernel) (by decide +kernel)
set_option maxRecDepth 20000 in
theorem gX0_soundOfMore_X2_kindOf : GoodIn wsX0_soundOfMore (wsV RX0 60 RX2 yX2_kindOf wsX2_kindOf) := goodIn_app (goodIn_of _ (by decide +kernel)) ggX0_soundOfMore_X2_kindOf
set_option maxRecDepth 20000 in
theorem ggX0_soundOfMore_X0_soundOf : GoodIn wsX0_soundOfMore wsX0_soundOf := goodIn_r _ [17, 6, 23, 24, 25, 26] (by decide +kernel) (by decide +kernel)
set_option maxRecDepth 20000 in
theorem gX0_soundOfMore_X0_soundOf : GoodIn wsX0_soundOfMore (wsV RX0 53 RX0 yX0_soundOf wsX0_soundOf) := goodIn_app (goodIn_of _ (by decide +kernel)) ggX0_soundOfMore_X0_soundOf
theorem dX0_soundOfMore_0 : decode cX0_soundOfMore 0 = .ok (.iconst 0, 1) := by decide +kernel
theorem dX0_soundOfMore_1 : decode cX0_soundOfMore 1 = .ok (.istore_n 3, 1) := by decide +kernel
theorem dX0_soundOfMore_2 : decode cX0_soundOfMore 2 = .ok (.iconst 0, 1) := by decide +kernel
theorem dX0_soundOfMore_3 : decode cX0_soundOfMore 3 = .ok (.istore 4, 2) := by decide +kernel
theorem dX0_soundOfMore_5 : decode cX0_soundOfMore 5 = .ok (.iload_n 2, 1) := by decide +kernel
theorem dX0_soundOfMore_6 : decode cX0_soundOfMore 6 = .ok (.iconst 1, 1) := by decide +kernel
theorem dX0_soundOfMore_7 : decode cX0_soundOfMore 7 = .ok (.isub, 1) := by decide +kernel
theorem dX0_soundOfMore_8 : decode cX0_soundOfMore 8 = .ok (.istore 5, 2) := by decide +kernel
theorem dX0_soundOfMore_10 : decode cX0_soundOfMore 10 = .ok (.iload 5, 2) := by decide +kernel
theorem dX0_soundOfMore_12 : decode cX0_soundOfMore 12 = .ok (.iload_n 2, 1) := by decide +kernel
theorem dX0_soundOfMore_13 : decode cX0_soundOfMore 13 = .ok (.iconst 1, 1) := by decide +kernel
theorem dX0_soundOfMore_14 : decode cX0_soundOfMore 14 = .ok (.iadd, 1) := by decide +kernel
theorem dX0_soundOfMore_15 : decode cX0_soundOfMore 15 = .ok (.if_icmp .gt 33, 3) := by decide +kernel
theorem dX0_soundOfMore_18 : decode cX0_soundOfMore 18 = .ok (.iload_n 3, 1) := by decide +kernel
theorem dX0_soundOfMore_19 : decode cX0_soundOfMore 19 = .ok (.aload_n 0, 1) := by decide +kernel
theorem dX0_soundOfMore_20 : decode cX0_soundOfMore 20 = .ok (.aload_n 1, 1) := by decide +kernel
theorem dX0_soundOfMore_21 : decode cX0_soundOfMore 21 = .ok (.iload 5, 2) := by decide +kernel
theorem dX0_soundOfMore_23 : decode cX0_soundOfMore 23 = .ok (.iconst 1, 1) := by decide +kernel
theorem dX0_soundOfMore_24 : decode cX0_soundOfMore 24 = .ok (.invokevirtual 70, 3) := by decide +kernel
theorem dX0_soundOfMore_27 : decode cX0_soundOfMore 27 = .ok (.iadd, 1) := by decide +kernel
theorem dX0_soundOfMore_28 : decode cX0_soundOfMore 28 = .ok (.istore_n 3, 1) := by decide +kernel
theorem dX0_soundOfMore_29 : decode cX0_soundOfMore 29 = .ok (.iload 4, 2) := by decide +kernel
theorem dX0_soundOfMore_31 : decode cX0_soundOfMore 31 = .ok (.aload_n 0, 1) := by decide +kernel
theorem dX0_soundOfMore_32 : decode cX0_soundOfMore 32 = .ok (.aload_n 1, 1) := by decide +kernel
theorem dX0_soundOfMore_33 : decode cX0_soundOfMore 33 = .ok (.iload 5, 2) := by decide +kernel
theorem dX0_soundOfMore_35 : decode cX0_soundOfMore 35 = .ok (.iconst 2, 1) := by decide +kernel
theorem dX0_soundOfMore_36 : decode cX0_soundOfMore 36 = .ok (.invokevirtual 70, 3) := by decide +kernel
theorem dX0_soundOfMore_39 : decode cX0_soundOfMore 39 = .ok (.iadd, 1) := by decide +kernel
theorem dX0_soundOfMore_40 : decode cX0_soundOfMore 40 = .ok (.istore 4, 2) := by decide +kernel
theorem dX0_soundOfMore_42 : decode cX0_soundOfMore 42 = .ok (.iinc 5 1, 3) := by decide +kernel
theorem dX0_soundOfMore_45 : decode cX0_soundOfMore 45 = .ok (.goto (-35), 3) := by decide +kernel
theorem dX0_soundOfMore_48 : decode cX0_soundOfMore 48 = .ok (.iload_n 3, 1) := by decide +kernel
theorem dX0_soundOfMore_49 : decode cX0_soundOfMore 49 = .ok (.iload 4, 2) := by decide +kernel
theorem dX0_soundOfMore_51 : decode cX0_soundOfMore 51 = .ok (.if_icmp .eq 15, 3) := by decide +kernel
theorem dX0_soundOfMore_54 : decode cX0_soundOfMore 54 = .ok (.iload_n 3, 1) := by decide +kernel
theorem dX0_soundOfMore_55 : decode cX0_soundOfMore 55 = .ok (.iload 4, 2) := by decide +kernel
theorem dX0_soundOfMore_57 : decode cX0_soundOfMore 57 = .ok (.if_icmp .le 7, 3) := by decide +kernel
theorem dX0_soundOfMore_60 : decode cX0_soundOfMore 60 = .ok (.iconst 1, 1) := by decide +kernel
theorem dX0_soundOfMore_61 : decode cX0_soundOfMore 61 = .ok (.goto 4, 3) := by decide +kernel
theorem dX0_soundOfMore_64 : decode cX0_soundOfMore 64 = .ok (.iconst 2, 1) := by decide +kernel
theorem dX0_soundOfMore_65 : decode cX0_soundOfMore 65 = .ok (.ireturn, 1) := by decide +kernel
theorem dX0_soundOfMore_66 : decode cX0_soundOfMore 66 = .ok (.aload_n 1, 1) := by decide +kernel
theorem dX0_soundOfMore_67 : decode cX0_soundOfMore 67 = .ok (.iload_n 2, 1) := by decide +kernel
theorem dX0_soundOfMore_68 : decode cX0_soundOfMore 68 = .ok (.invokevirtual 60, 3) := by decide +kernel
theorem dX0_soundOfMore_71 : decode cX0_soundOfMore 71 = .ok (.iconst 3, 1) := by decide +kernel
theorem dX0_soundOfMore_72 : decode cX0_soundOfMore 72 = .ok (.if_icmp .ne 7, 3) := by decide +kernel
theorem dX0_soundOfMore_75 : decode cX0_soundOfMore 75 = .ok (.iconst 3, 1) := by decide +kernel
theorem dX0_soundOfMore_76 : decode cX0_soundOfMore 76 = .ok (.goto 8, 3) := by decide +kernel
theorem dX0_soundOfMore_79 : decode cX0_soundOfMore 79 = .ok (.aload_n 0, 1) := by decide +kernel
theorem dX0_soundOfMore_80 : decode cX0_soundOfMore 80 = .ok (.iload_n 2, 1) := by decide +kernel
theorem dX0_soundOfMore_81 : decode cX0_soundOfMore 81 = .ok (.invokevirtual 53, 3) := by decide +kernel
theorem dX0_soundOfMore_84 : decode cX0_soundOfMore 84 = .ok (.ireturn, 1) := by decide +kernel
theorem dX0_palmsThatSound_0 : decode cX0_palmsThatSound 0 = .ok (.iload_n 2, 1) := by decide +kernel
theorem dX0_palmsThatSound_1 : decode cX0_palmsThatSound 1 = .ok (.ifCond .lt 11, 3) := by decide +kernel
theorem dX0_palmsThatSound_4 : decode cX0_palmsThatSound 4 = .ok (.iload_n 2, 1) := by decide +kernel
theorem dX0_palmsThatSound_5 : decode cX0_palmsThatSound 5 = .ok (.aload_n 1, 1) := by decide +kernel
theorem dX0_palmsThatSound_6 : decode cX0_palmsThatSound 6 = .ok (.getfield 34, 3) := by decide +kernel
theorem dX0_palmsThatSound_9 : decode cX0_palmsThatSound 9 = .ok (.if_icmp .lt 5, 3) := by decide +kernel
theorem dX0_palmsThatSound_12 : decode cX0_palmsThatSound 12 = .ok (.iconst 0, 1) := by decide +kernel
theorem dX0_palmsThatSound_13 : decode cX0_palmsThatSound 13 = .ok (.ireturn, 1) := by decide +kernel
theorem dX0_palmsThatSound_14 : decode cX0_palmsThatSound 14 = .ok (.aload_n 0, 1) := by decide +kernel
theorem dX0_palmsThatSound_15 : decode cX0_palmsThatSound 15 = .ok (.getfield 9, 3) := by decide +kernel
theorem dX0_palmsThatSound_18 : decode cX0_palmsThatSound 18 = .ok (.iload_n 2, 1) := by decide +kernel
theorem dX0_palmsThatSound_19 : decode cX0_palmsThatSound 19 = .ok (.iaload, 1) := by decide +kernel
theorem dX0_palmsThatSound_20 : decode cX0_palmsThatSound 20 = .ok (.iload_n 3, 1) := by decide +kernel
theorem dX0_palmsThatSound_21 : decode cX0_palmsThatSound 21 = .ok (.iand, 1) := by decide +kernel
theorem dX0_palmsThatSound_22 : decode cX0_palmsThatSound 22 = .ok (.ifCond .eq 12, 3) := by decide +kernel
theorem dX0_palmsThatSound_25 : decode cX0_palmsThatSound 25 = .ok (.aload_n 1, 1) := by decide +kernel
theorem dX0_palmsThatSound_26 : decode cX0_palmsThatSound 26 = .ok (.getfield 74, 3) := by decide +kernel
theorem dX0_palmsThatSound_29 : decode cX0_palmsThatSound 29 = .ok (.iload_n 2, 1) := by decide +kernel
theorem dX0_palmsThatSound_30 : decode cX0_palmsThatSound 30 = .ok (.iaload, 1) := by decide +kernel
theorem dX0_palmsThatSound_31 : decode cX0_palmsThatSound 31 = .ok (.goto 4, 3) := by decide +kernel
theorem dX0_palmsThatSound_34 : decode cX0_palmsThatSound 34 = .ok (.iconst 0, 1) := by decide +kernel
theorem dX0_palmsThatSound_35 : decode cX0_palmsThatSound 35 = .ok (.ireturn, 1) := by decide +kernel
set_option maxRecDepth 20000 in
theorem ggX0_leaveBeatOut_X2_kindOf : GoodIn wsX0_leaveBeatOut wsX2_kindOf := goodIn_r _ [6, 7, 8, 12, 13, 14, 15, 16] (by decide +kernel) (by decide +kernel)
set_option maxRecDepth 20000 in
theorem gX0_leaveBeatOut_X2_kindOf : GoodIn wsX0_leaveBeatOut (wsV RX0 60 RX2 yX2_kindOf wsX2_kindOf) := goodIn_app (goodIn_of _ (by decide +kernel)) ggX0_leaveBeatOut_X2_kindOf
set_option maxRecDepth 20000 in
theorem ggX0_leaveBeatOut_X5_swapped : GoodIn wsX0_leaveBeatOut wsX5_swapped := goodIn_r _ [11] (by decide +kernel) (by decide +kernel)
set_option maxRecDepth 20000 in
theorem gX0_leaveBeatOut_X5_swapped_n77 : GoodIn wsX0_leaveBeatOut (wsX5_swapped) := ggX0_leaveBeatOut_X5_swapped
theorem dX0_leaveBeatOut_0 : decode cX0_leaveBeatOut 0 = .ok (.iconst 0, 1) := by decide +kernel
theorem dX0_leaveBeatOut_1 : decode cX0_leaveBeatOut 1 = .ok (.istore_n 2, 1) := by decide +kernel
theorem dX0_leaveBeatOut_2 : decode cX0_leaveBeatOut 2 = .ok (.iload_n 2, 1) := by decide +kernel
theorem dX0_leaveBeatOut_3 : decode cX0_leaveBeatOut 3 = .ok (.aload_n 1, 1) := by decide +kernel
theorem dX0_leaveBeatOut_4 : decode cX0_leaveBeatOut 4 = .ok (.getfield 34, 3) := by decide +kernel
theorem dX0_leaveBeatOut_7 : decode cX0_leaveBeatOut 7 = .ok (.if_icmp .ge 33, 3) := by decide +kernel
theorem dX0_leaveBeatOut_10 : decode cX0_leaveBeatOut 10 = .ok (.aload_n 1, 1) := by decide +kernel
theorem dX0_leaveBeatOut_11 : decode cX0_leaveBeatOut 11 = .ok (.iload_n 2, 1) := by decide +kernel
theorem dX0_leaveBeatOut_12 : decode cX0_leaveBeatOut 12 = .ok (.invokevirtual 60, 3) := by decide +kernel
theorem dX0_leaveBeatOut_15 : decode cX0_leaveBeatOut 15 = .ok (.iconst 1, 1) := by decide +kernel
theorem dX0_leaveBeatOut_16 : decode cX0_leaveBeatOut 16 = .ok (.if_icmp .eq 18, 3) := by decide +kernel
theorem dX0_leaveBeatOut_19 : decode cX0_leaveBeatOut 19 = .ok (.aload_n 0, 1) := by decide +kernel
theorem dX0_leaveBeatOut_20 : decode cX0_leaveBeatOut 20 = .ok (.getfield 9, 3) := by decide +kernel
theorem dX0_leaveBeatOut_23 : decode cX0_leaveBeatOut 23 = .ok (.iload_n 2, 1) := by decide +kernel
theorem dX0_leaveBeatOut_24 : decode cX0_leaveBeatOut 24 = .ok (.aload_n 0, 1) := by decide +kernel
theorem dX0_leaveBeatOut_25 : decode cX0_leaveBeatOut 25 = .ok (.getfield 9, 3) := by decide +kernel
theorem dX0_leaveBeatOut_28 : decode cX0_leaveBeatOut 28 = .ok (.iload_n 2, 1) := by decide +kernel
theorem dX0_leaveBeatOut_29 : decode cX0_leaveBeatOut 29 = .ok (.iaload, 1) := by decide +kernel
theorem dX0_leaveBeatOut_30 : decode cX0_leaveBeatOut 30 = .ok (.invokestatic 77, 3) := by decide +kernel
theorem dX0_leaveBeatOut_33 : decode cX0_leaveBeatOut 33 = .ok (.iastore, 1) := by decide +kernel
theorem dX0_leaveBeatOut_34 : decode cX0_leaveBeatOut 34 = .ok (.iinc 2 1, 3) := by decide +kernel
theorem dX0_leaveBeatOut_37 : decode cX0_leaveBeatOut 37 = .ok (.goto (-35), 3) := by decide +kernel
theorem dX0_leaveBeatOut_40 : decode cX0_leaveBeatOut 40 = .ok (.return_, 1) := by decide +kernel
set_option maxRecDepth 20000 in
theorem ggX0_palmsRight_X2_palmsOf : GoodIn wsX0_palmsRight wsX2_palmsOf := goodIn_r _ [6, 7, 8, 9, 10, 11, 12, 13] (by decide +kernel) (by decide +kernel)
set_option maxRecDepth 20000 in
theorem gX0_palmsRight_X2_palmsOf : GoodIn wsX0_palmsRight (wsV RX0 80 RX2 yX2_palmsOf wsX2_palmsOf) := goodIn_app (goodIn_of _ (by decide +kernel)) ggX0_palmsRight_X2_palmsOf
theorem dX0_palmsRight_0 : decode cX0_palmsRight 0 = .ok (.iconst 0, 1) := by decide +kernel
theorem dX0_palmsRight_1 : decode cX0_palmsRight 1 = .ok (.istore_n 2, 1) := by decide +kernel
theorem dX0_palmsRight_2 : decode cX0_palmsRight 2 = .ok (.iconst 0, 1) := by decide +kernel
theorem dX0_palmsRight_3 : decode cX0_palmsRight 3 = .ok (.istore_n 3, 1) := by decide +kernel
theorem dX0_palmsRight_4 : decode cX0_palmsRight 4 = .ok (.iload_n 3, 1) := by decide +kernel
theorem dX0_palmsRight_5 : decode cX0_palmsRight 5 = .ok (.aload_n 1, 1) := by decide +kernel
theorem dX0_palmsRight_6 : decode cX0_palmsRight 6 = .ok (.getfield 34, 3) := by decide +kernel
theorem dX0_palmsRight_9 : decode cX0_palmsRight 9 = .ok (.if_icmp .ge 27, 3) := by decide +kernel
theorem dX0_palmsRight_12 : decode cX0_palmsRight 12 = .ok (.aload_n 0, 1) := by decide +kernel
theorem dX0_palmsRight_13 : decode cX0_palmsRight 13 = .ok (.getfield 9, 3) := by decide +kernel
theorem dX0_palmsRight_16 : decode cX0_palmsRight 16 = .ok (.iload_n 3, 1) := by decide +kernel
theorem dX0_palmsRight_17 : decode cX0_palmsRight 17 = .ok (.iaload, 1) := by decide +kernel
theorem dX0_palmsRight_18 : decode cX0_palmsRight 18 = .ok (.iconst 2, 1) := by decide +kernel
theorem dX0_palmsRight_19 : decode cX0_palmsRight 19 = .ok (.if_icmp .ne 11, 3) := by decide +kernel
theorem dX0_palmsRight_22 : decode cX0_palmsRight 22 = .ok (.iload_n 2, 1) := by decide +kernel
theorem dX0_palmsRight_23 : decode cX0_palmsRight 23 = .ok (.aload_n 1, 1) := by decide +kernel
theorem dX0_palmsRight_24 : decode cX0_palmsRight 24 = .ok (.iload_n 3, 1) := by decide +kernel
theorem dX0_palmsRight_25 : decode cX0_palmsRight 25 = .ok (.invokevirtual 80, 3) := by decide +kernel
theorem dX0_palmsRight_28 : decode cX0_palmsRight 28 = .ok (.iadd, 1) := by decide +kernel
theorem dX0_palmsRight_29 : decode cX0_palmsRight 29 = .ok (.istore_n 2, 1) := by decide +kernel
theorem dX0_palmsRight_30 : decode cX0_palmsRight 30 = .ok (.iinc 3 1, 3) := by decide +kernel
theorem dX0_palmsRight_33 : decode cX0_palmsRight 33 = .ok (.goto (-29), 3) := by decide +kernel
theorem dX0_palmsRight_36 : decode cX0_palmsRight 36 = .ok (.iload_n 2, 1) := by decide +kernel
theorem dX0_palmsRight_37 : decode cX0_palmsRight 37 = .ok (.ireturn, 1) := by decide +kernel
set_option maxRecDepth 20000 in
theorem ggX0_areWillingRight_X2_isOf : GoodIn wsX0_areWillingRight wsX2_isOf := goodIn_r _ [6, 7, 8, 9, 5, 10, 11, 12, 13, 14, 15, 16, 17] (by decide +kernel) (by decide +kernel)
set_option maxRecDepth 20000 in
theorem gX0_areWillingRight_X2_isOf : GoodIn wsX0_areWillingRight (wsV RX0 56 RX2 yX2_isOf wsX2_isOf) := goodIn_app (goodIn_of _ (by decide +kernel)) ggX0_areWillingRight_X2_isOf
theorem dX0_areWillingRight_0 : decode cX0_areWillingRight 0 = .ok (.iconst 0, 1) := by decide +kernel
theorem dX0_areWillingRight_1 : decode cX0_areWillingRight 1 = .ok (.istore_n 2, 1) := by decide +kernel
theorem dX0_areWillingRight_2 : decode cX0_areWillingRight 2 = .ok (.iload_n 2, 1) := by decide +kernel
theorem dX0_areWillingRight_3 : decode cX0_areWillingRight 3 = .ok (.aload_n 1, 1) := by decide +kernel
theorem dX0_areWillingRight_4 : decode cX0_areWillingRight 4 = .ok (.getfield 34, 3) := by decide +kernel
theorem dX0_areWillingRight_7 : decode cX0_areWillingRight 7 = .ok (.if_icmp .ge 30, 3) := by decide +kernel
theorem dX0_areWillingRight_10 : decode cX0_areWillingRight 10 = .ok (.aload_n 0, 1) := by decide +kernel
theorem dX0_areWillingRight_11 : decode cX0_areWillingRight 11 = .ok (.getfield 9, 3) := by decide +kernel
theorem dX0_areWillingRight_14 : decode cX0_areWillingRight 14 = .ok (.iload_n 2, 1) := by decide +kernel
theorem dX0_areWillingRight_15 : decode cX0_areWillingRight 15 = .ok (.iaload, 1) := by decide +kernel
theorem dX0_areWillingRight_16 : decode cX0_areWillingRight 16 = .ok (.iconst 2, 1) := by decide +kernel
theorem dX0_areWillingRight_17 : decode cX0_areWillingRight 17 = .ok (.if_icmp .eq 14, 3) := by decide +kernel
theorem dX0_areWillingRight_20 : decode cX0_areWillingRight 20 = .ok (.aload_n 1, 1) := by decide +kernel
theorem dX0_areWillingRight_21 : decode cX0_areWillingRight 21 = .ok (.iload_n 2, 1) := by decide +kernel
theorem dX0_areWillingRight_22 : decode cX0_areWillingRight 22 = .ok (.iconst 1, 1) := by decide +kernel
theorem dX0_areWillingRight_23 : decode cX0_areWillingRight 23 = .ok (.invokevirtual 56, 3) := by decide +kernel
theorem dX0_areWillingRight_26 : decode cX0_areWillingRight 26 = .ok (.ifCond .ne 5, 3) := by decide +kernel
theorem dX0_areWillingRight_29 : decode cX0_areWillingRight 29 = .ok (.iconst 0, 1) := by decide +kernel
theorem dX0_areWillingRight_30 : decode cX0_areWillingRight 30 = .ok (.ireturn, 1) := by decide +kernel
theorem dX0_areWillingRight_31 : decode cX0_areWillingRight 31 = .ok (.iinc 2 1, 3) := by decide +kernel
theorem dX0_areWillingRight_34 : decode cX0_areWillingRight 34 = .ok (.goto (-32), 3) := by decide +kernel
theorem dX0_areWillingRight_37 : decode cX0_areWillingRight 37 = .ok (.iconst 1, 1) := by decide +kernel
theorem dX0_areWillingRight_38 : decode cX0_areWillingRight 38 = .ok (.ireturn, 1) := by decide +kernel
set_option maxRecDepth 20000 in
theorem ggX0_loudness_X0_palmsThatSound : GoodIn wsX0_loudness wsX0_palmsThatSound := goodIn_r _ [5, 6, 7, 8, 9, 10, 11, 12, 13, 14, 15] (by decide +kernel) (by decide +kernel)
set_option maxRecDepth 20000 in
theorem gX0_loudness_X0_palmsThatSound : GoodIn wsX0_loudness (wsV RX0 70 RX0 yX0_palmsThatSound wsX0_palmsThatSound) := goodIn_app (goodIn_of _ (by decide +kernel)) ggX0_loudness_X0_palmsThatSound
theorem dX0_loudness_0 : decode cX0_loudness 0 = .ok (.iload_n 3, 1) := by decide +kernel
theorem dX0_loudness_1 : decode cX0_loudness 1 = .ok (.iconst 2, 1) := by decide +kernel
theorem dX0_loudness_2 : decode cX0_loudness 2 = .ok (.irem, 1) := by decide +kernel
theorem dX0_loudness_3 : decode cX0_loudness 3 = .ok (.ifCond .ne 7, 3) := by decide +kernel
theorem dX0_loudness_6 : decode cX0_loudness 6 = .ok (.iconst 1, 1) := by decide +kernel
theorem dX0_loudness_7 : decode cX0_loudness 7 = .ok (.goto 4, 3) := by decide +kernel
theorem dX0_loudness_10 : decode cX0_loudness 10 = .ok (.iconst 2, 1) := by decide +kernel
theorem dX0_loudness_11 : decode cX0_loudness 11 = .ok (.istore 4, 2) := by decide +kernel
theorem dX0_loudness_13 : decode cX0_loudness 13 = .ok (.iconst 0, 1) := by decide +kernel
theorem dX0_loudness_14 : decode cX0_loudness 14 = .ok (.istore 5, 2) := by decide +kernel
theorem dX0_loudness_16 : decode cX0_loudness 16 = .ok (.iload_n 2, 1) := by decide +kernel
theorem dX0_loudness_17 : decode cX0_loudness 17 = .ok (.iconst 1, 1) := by decide +kernel
theorem dX0_loudness_18 : decode cX0_loudness 18 = .ok (.isub, 1) := by decide +kernel
theorem dX0_loudness_19 : decode cX0_loudness 19 = .ok (.istore 6, 2) := by decide +kernel
theorem dX0_loudness_21 : decode cX0_loudness 21 = .ok (.iload 6, 2) := by decide +kernel
theorem dX0_loudness_23 : decode cX0_loudness 23 = .ok (.iload_n 2, 1) := by decide +kernel
theorem dX0_loudness_24 : decode cX0_loudness 24 = .ok (.iconst 1, 1) := by decide +kernel
theorem dX0_loudness_25 : decode cX0_loudness 25 = .ok (.iadd, 1) := by decide +kernel
theorem dX0_loudness_26 : decode cX0_loudness 26 = .ok (.if_icmp .gt 23, 3) := by decide +kernel
theorem dX0_loudness_29 : decode cX0_loudness 29 = .ok (.iload 5, 2) := by decide +kernel
theorem dX0_loudness_31 : decode cX0_loudness 31 = .ok (.aload_n 0, 1) := by decide +kernel
theorem dX0_loudness_32 : decode cX0_loudness 32 = .ok (.aload_n 1, 1) := by decide +kernel
theorem dX0_loudness_33 : decode cX0_loudness 33 = .ok (.iload 6, 2) := by decide +kernel
theorem dX0_loudness_35 : decode cX0_loudness 35 = .ok (.iload 4, 2) := by decide +kernel
theorem dX0_loudness_37 : decode cX0_loudness 37 = .ok (.invokevirtual 70, 3) := by decide +kernel
theorem dX0_loudness_40 : decode cX0_loudness 40 = .ok (.iadd, 1) := by decide +kernel
theorem dX0_loudness_41 : decode cX0_loudness 41 = .ok (.istore 5, 2) := by decide +kernel
theorem dX0_loudness_43 : decode cX0_loudness 43 = .ok (.iinc 6 1, 3) := by decide +kernel
theorem dX0_loudness_46 : decode cX0_loudness 46 = .ok (.goto (-25), 3) := by decide +kernel
theorem dX0_loudness_49 : decode cX0_loudness 49 = .ok (.iload 5, 2) := by decide +kernel
theorem dX0_loudness_51 : decode cX0_loudness 51 = .ok (.aload_n 0, 1) := by decide +kernel
theorem dX0_loudness_52 : decode cX0_loudness 52 = .ok (.aload_n 1, 1) := by decide +kernel
theorem dX0_loudness_53 : decode cX0_loudness 53 = .ok (.iload_n 2, 1) := by decide +kernel
theorem dX0_loudness_54 : decode cX0_loudness 54 = .ok (.iconst 2, 1) := by decide +kernel
theorem dX0_loudness_55 : decode cX0_loudness 55 = .ok (.isub, 1) := by decide +kernel
theorem dX0_loudness_56 : decode cX0_loudness 56 = .ok (.iload 4, 2) := by decide +kernel
theorem dX0_loudness_58 : decode cX0_loudness 58 = .ok (.invokevirtual 70, 3) := by decide +kernel
theorem dX0_loudness_61 : decode cX0_loudness 61 = .ok (.iconst 2, 1) := by decide +kernel
theorem dX0_loudness_62 : decode cX0_loudness 62 = .ok (.idiv, 1) := by decide +kernel
theorem dX0_loudness_63 : decode cX0_loudness 63 = .ok (.iadd, 1) := by decide +kernel
theorem dX0_loudness_64 : decode cX0_loudness 64 = .ok (.aload_n 0, 1) := by decide +kernel
theorem dX0_loudness_65 : decode cX0_loudness 65 = .ok (.aload_n 1, 1) := by decide +kernel
theorem dX0_loudness_66 : decode cX0_loudness 66 = .ok (.iload_n 2, 1) := by decide +kernel
theorem dX0_loudness_67 : decode cX0_loudness 67 = .ok (.iconst 2, 1) := by decide +kernel
theorem dX0_loudness_68 : decode cX0_loudness 68 = .ok (.iadd, 1) := by decide +kernel
theorem dX0_loudness_69 : decode cX0_loudness 69 = .ok (.iload 4, 2) := by decide +kernel
theorem dX0_loudness_71 : decode cX0_loudness 71 = .ok (.invokevirtual 70, 3) := by decide +kernel
theorem dX0_loudness_74 : decode cX0_loudness 74 = .ok (.iconst 2, 1) := by decide +kernel
theorem dX0_loudness_75 : decode cX0_loudness 75 = .ok (.idiv, 1) := by decide +kernel
theorem dX0_loudness_76 : decode cX0_loudness 76 = .ok (.iadd, 1) := by decide +kernel
theorem dX0_loudness_77 : decode cX0_loudness 77 = .ok (.ireturn, 1) := by decide +kernel
theorem dX1_init_0 : decode cX1_init 0 = .ok (.aload_n 0, 1) := by decide +kernel
theorem dX1_init_1 : decode cX1_init 1 = .ok (.invokespecial 1, 3) := by decide +kernel
theorem dX1_init_4 : decode cX1_init 4 = .ok (.aload_n 0, 1) := by decide +kernel
theorem dX1_init_5 : decode cX1_init 5 = .ok (.iload_n 1, 1) := by decide +kernel
theorem dX1_init_6 : decode cX1_init 6 = .ok (.putfield 7, 3) := by decide +kernel
theorem dX1_init_9 : decode cX1_init 9 = .ok (.return_, 1) := by decide +kernel
theorem dX1_next_0 : decode cX1_next 0 = .ok (.aload_n 0, 1) := by decide +kernel
theorem dX1_next_1 : decode cX1_next 1 = .ok (.ldc2_w 13, 3) := by decide +kernel
theorem dX1_next_4 : decode cX1_next 4 = .ok (.aload_n 0, 1) := by decide +kernel
theorem dX1_next_5 : decode cX1_next 5 = .ok (.getfield 7, 3) := by decide +kernel
theorem dX1_next_8 : decode cX1_next 8 = .ok (.i2l, 1) := by decide +kernel
theorem dX1_next_9 : decode cX1_next 9 = .ok (.lmul, 1) := by decide +kernel
theorem dX1_next_10 : decode cX1_next 10 = .ok (.ldc2_w 15, 3) := by decide +kernel
theorem dX1_next_13 : decode cX1_next 13 = .ok (.ladd, 1) := by decide +kernel
theorem dX1_next_14 : decode cX1_next 14 = .ok (.ldc2_w 17, 3) := by decide +kernel
theorem dX1_next_17 : decode cX1_next 17 = .ok (.lrem, 1) := by decide +kernel
theorem dX1_next_18 : decode cX1_next 18 = .ok (.l2i, 1) := by decide +kernel
theorem dX1_next_19 : decode cX1_next 19 = .ok (.putfield 7, 3) := by decide +kernel
theorem dX1_next_22 : decode cX1_next 22 = .ok (.iload_n 1, 1) := by decide +kernel
theorem dX1_next_23 : decode cX1_next 23 = .ok (.ifCond .le 15, 3) := by decide +kernel
theorem dX1_next_26 : decode cX1_next 26 = .ok (.aload_n 0, 1) := by decide +kernel
theorem dX1_next_27 : decode cX1_next 27 = .ok (.getfield 7, 3) := by decide +kernel
theorem dX1_next_30 : decode cX1_next 30 = .ok (.ldc 19, 2) := by decide +kernel
theorem dX1_next_32 : decode cX1_next 32 = .ok (.idiv, 1) := by decide +kernel
theorem dX1_next_33 : decode cX1_next 33 = .ok (.iload_n 1, 1) := by decide +kernel
theorem dX1_next_34 : decode cX1_next 34 = .ok (.irem, 1) := by decide +kernel
theorem dX1_next_35 : decode cX1_next 35 = .ok (.goto 4, 3) := by decide +kernel
theorem dX1_next_38 : decode cX1_next 38 = .ok (.iconst 0, 1) := by decide +kernel
theorem dX1_next_39 : decode cX1_next 39 = .ok (.ireturn, 1) := by decide +kernel
theorem dX2_init_0 : decode cX2_init 0 = .ok (.aload_n 0, 1) := by decide +kernel
theorem dX2_init_1 : decode cX2_init 1 = .ok (.invokespecial 3, 3) := by decide +kernel
theorem dX2_init_4 : decode cX2_init 4 = .ok (.aload_n 0, 1) := by decide +kernel
theorem dX2_init_5 : decode cX2_init 5 = .ok (.bipush 8, 2) := by decide +kernel
theorem dX2_init_7 : decode cX2_init 7 = .ok (.newarray .int, 2) := by decide +kernel
theorem dX2_init_9 : decode cX2_init 9 = .ok (.putfield 9, 3) := by decide +kernel
theorem dX2_init_12 : decode cX2_init 12 = .ok (.aload_n 0, 1) := by decide +kernel
theorem dX2_init_13 : decode cX2_init 13 = .ok (.bipush 8, 2) := by decide +kernel
theorem dX2_init_15 : decode cX2_init 15 = .ok (.newarray .int, 2) := by decide +kernel
theorem dX2_init_17 : decode cX2_init 17 = .ok (.putfield 15, 3) := by decide +kernel
theorem dX2_init_20 : decode cX2_init 20 = .ok (.aload_n 0, 1) := by decide +kernel
theorem dX2_init_21 : decode cX2_init 21 = .ok (.bipush 8, 2) := by decide +kernel
theorem dX2_init_23 : decode cX2_init 23 = .ok (.newarray .int, 2) := by decide +kernel
theorem dX2_init_25 : decode cX2_init 25 = .ok (.putfield 18, 3) := by decide +kernel
theorem dX2_init_28 : decode cX2_init 28 = .ok (.aload_n 0, 1) := by decide +kernel
theorem dX2_init_29 : decode cX2_init 29 = .ok (.iconst 0, 1) := by decide +kernel
theorem dX2_init_30 : decode cX2_init 30 = .ok (.putfield 21, 3) := by decide +kernel
theorem dX2_init_33 : decode cX2_init 33 = .ok (.aload_n 0, 1) := by decide +kernel
theorem dX2_init_34 : decode cX2_init 34 = .ok (.iconst 0, 1) := by decide +kernel
theorem dX2_init_35 : decode cX2_init 35 = .ok (.putfield 25, 3) := by decide +kernel
theorem dX2_init_38 : decode cX2_init 38 = .ok (.return_, 1) := by decide +kernel
set_option maxRecDepth 20000 in
theorem ggX2_read_X4_codeAt : GoodIn wsX2_read wsX4_codeAt := goodIn_r _ [14, 15, 16, 17, 18, 108, 109] (by decide +kernel) (by decide +kernel)
set_option maxRecDepth 20000 in
theorem gX2_read_X4_codeAt : GoodIn wsX2_read (wsV RX2 39 RX4 yX4_codeAt wsX4_codeAt) := goodIn_app (goodIn_of _ (by decide +kernel)) ggX2_read_X4_codeAt
set_option maxRecDepth 20000 in
theorem ggX2_read_X4_kindBy : GoodIn wsX2_read wsX4_kindBy := goodIn_r _ [21, 22, 23, 24, 25, 26, 27, 28, 29, 30, 31, 32, 33, 34, 35, 36, 37, 38, 39, 40, 41, 42, 43, 44, 45, 46, 47, 48, 49, 50, 51, 3, 52, 53, 2, 4, 54, 55, 56, 57, 58, 59, 60, 61, 62, 63, 64, 65, 66, 67, 68, 69, 70, 71, 72, 73, 74, 75, 76, 77, 78, 79, 80, 81, 82, 83, 84, 85, 86, 87, 88, 89, 90, 91, 92, 93, 94, 95, 96, 97, 98, 99, 100, 101, 102, 103, 104, 105, 106, 107] (by decide +kernel) (by decide +kernel)
set_option maxRecDepth 20000 in
theorem gX2_read_X4_kindBy : GoodIn wsX2_read (va_wsS RX2 43 yX4_kindBy wsX4_kindBy) := goodIn_app (goodIn_of _ (by decide +kernel)) ggX2_read_X4_kindBy
theorem dX2_read_0 : decode cX2_read 0 = .ok (.aload_n 0, 1) := by decide +kernel
theorem dX2_read_1 : decode cX2_read 1 = .ok (.aload_n 1, 1) := by decide +kernel
theorem dX2_read_2 : decode cX2_read 2 = .ok (.getfield 28, 3) := by decide +kernel
theorem dX2_read_5 : decode cX2_read 5 = .ok (.iconst 4, 1) := by decide +kernel
theorem dX2_read_6 : decode cX2_read 6 = .ok (.idiv, 1) := by decide +kernel
theorem dX2_read_7 : decode cX2_read 7 = .ok (.bipush 8, 2) := by decide +kernel
theorem dX2_read_9 : decode cX2_read 9 = .ok (.invokestatic 33, 3) := by decide +kernel
theorem dX2_read_12 : decode cX2_read 12 = .ok (.putfield 21, 3) := by decide +kernel
theorem dX2_read_15 : decode cX2_read 15 = .ok (.iconst 0, 1) := by decide +kernel
theorem dX2_read_16 : decode cX2_read 16 = .ok (.istore_n 2, 1) := by decide +kernel
theorem dX2_read_17 : decode cX2_read 17 = .ok (.iload_n 2, 1) := by decide +kernel
theorem dX2_read_18 : decode cX2_read 18 = .ok (.aload_n 0, 1) := by decide +kernel
theorem dX2_read_19 : decode cX2_read 19 = .ok (.getfield 21, 3) := by decide +kernel
theorem dX2_read_22 : decode cX2_read 22 = .ok (.if_icmp .ge 61, 3) := by decide +kernel
theorem dX2_read_25 : decode cX2_read 25 = .ok (.aload_n 0, 1) := by decide +kernel
theorem dX2_read_26 : decode cX2_read 26 = .ok (.getfield 9, 3) := by decide +kernel
theorem dX2_read_29 : decode cX2_read 29 = .ok (.iload_n 2, 1) := by decide +kernel
theorem dX2_read_30 : decode cX2_read 30 = .ok (.aload_n 1, 1) := by decide +kernel
theorem dX2_read_31 : decode cX2_read 31 = .ok (.iconst 4, 1) := by decide +kernel
theorem dX2_read_32 : decode cX2_read 32 = .ok (.iload_n 2, 1) := by decide +kernel
theorem dX2_read_33 : decode cX2_read 33 = .ok (.imul, 1) := by decide +kernel
theorem dX2_read_34 : decode cX2_read 34 = .ok (.invokevirtual 39, 3) := by decide +kernel
theorem dX2_read_37 : decode cX2_read 37 = .ok (.invokestatic 43, 3) := by decide +kernel
theorem dX2_read_40 : decode cX2_read 40 = .ok (.iastore, 1) := by decide +kernel
theorem dX2_read_41 : decode cX2_read 41 = .ok (.aload_n 0, 1) := by decide +kernel
theorem dX2_read_42 : decode cX2_read 42 = .ok (.getfield 15, 3) := by decide +kernel
theorem dX2_read_45 : decode cX2_read 45 = .ok (.iload_n 2, 1) := by decide +kernel
theorem dX2_read_46 : decode cX2_read 46 = .ok (.aload_n 1, 1) := by decide +kernel
theorem dX2_read_47 : decode cX2_read 47 = .ok (.iconst 4, 1) := by decide +kernel
theorem dX2_read_48 : decode cX2_read 48 = .ok (.iload_n 2, 1) := by decide +kernel
theorem dX2_read_49 : decode cX2_read 49 = .ok (.imul, 1) := by decide +kernel
theorem dX2_read_50 : decode cX2_read 50 = .ok (.iconst 1, 1) := by decide +kernel
theorem dX2_read_51 : decode cX2_read 51 = .ok (.iadd, 1) := by decide +kernel
theorem dX2_read_52 : decode cX2_read 52 = .ok (.invokevirtual 39, 3) := by decide +kernel
theorem dX2_read_55 : decode cX2_read 55 = .ok (.bipush 48, 2) := by decide +kernel
theorem dX2_read_57 : decode cX2_read 57 = .ok (.isub, 1) := by decide +kernel
theorem dX2_read_58 : decode cX2_read 58 = .ok (.iastore, 1) := by decide +kernel
theorem dX2_read_59 : decode cX2_read 59 = .ok (.aload_n 0, 1) := by decide +kernel
theorem dX2_read_60 : decode cX2_read 60 = .ok (.getfield 18, 3) := by decide +kernel
theorem dX2_read_63 : decode cX2_read 63 = .ok (.iload_n 2, 1) := by decide +kernel
theorem dX2_read_64 : decode cX2_read 64 = .ok (.aload_n 1, 1) := by decide +kernel
theorem dX2_read_65 : decode cX2_read 65 = .ok (.iconst 4, 1) := by decide +kernel
theorem dX2_read_66 : decode cX2_read 66 = .ok (.iload_n 2, 1) := by decide +kernel
theorem dX2_read_67 : decode cX2_read 67 = .ok (.imul, 1) := by decide +kernel
theorem dX2_read_68 : decode cX2_read 68 = .ok (.iconst 2, 1) := by decide +kernel
theorem dX2_read_69 : decode cX2_read 69 = .ok (.iadd, 1) := by decide +kernel
theorem dX2_read_70 : decode cX2_read 70 = .ok (.invokevirtual 39, 3) := by decide +kernel
theorem dX2_read_73 : decode cX2_read 73 = .ok (.bipush 48, 2) := by decide +kernel
theorem dX2_read_75 : decode cX2_read 75 = .ok (.isub, 1) := by decide +kernel
theorem dX2_read_76 : decode cX2_read 76 = .ok (.iastore, 1) := by decide +kernel
theorem dX2_read_77 : decode cX2_read 77 = .ok (.iinc 2 1, 3) := by decide +kernel
theorem dX2_read_80 : decode cX2_read 80 = .ok (.goto (-63), 3) := by decide +kernel
theorem dX2_read_83 : decode cX2_read 83 = .ok (.aload_n 0, 1) := by decide +kernel
theorem dX2_read_84 : decode cX2_read 84 = .ok (.aload_n 1, 1) := by decide +kernel
theorem dX2_read_85 : decode cX2_read 85 = .ok (.iconst 4, 1) := by decide +kernel
theorem dX2_read_86 : decode cX2_read 86 = .ok (.aload_n 0, 1) := by decide +kernel
theorem dX2_read_87 : decode cX2_read 87 = .ok (.getfield 21, 3) := by decide +kernel
theorem dX2_read_90 : decode cX2_read 90 = .ok (.imul, 1) := by decide +kernel
theorem dX2_read_91 : decode cX2_read 91 = .ok (.invokevirtual 39, 3) := by decide +kernel
theorem dX2_read_94 : decode cX2_read 94 = .ok (.bipush 48, 2) := by decide +kernel
theorem dX2_read_96 : decode cX2_read 96 = .ok (.isub, 1) := by decide +kernel
theorem dX2_read_97 : decode cX2_read 97 = .ok (.putfield 25, 3) := by decide +kernel
theorem dX2_read_100 : decode cX2_read 100 = .ok (.return_, 1) := by decide +kernel
theorem dX2_isThere_0 : decode cX2_isThere 0 = .ok (.aload_n 0, 1) := by decide +kernel
theorem dX2_isThere_1 : decode cX2_isThere 1 = .ok (.getfield 21, 3) := by decide +kernel
theorem dX2_isThere_4 : decode cX2_isThere 4 = .ok (.ifCond .le 7, 3) := by decide +kernel
theorem dX2_isThere_7 : decode cX2_isThere 7 = .ok (.iconst 1, 1) := by decide +kernel
theorem dX2_isThere_8 : decode cX2_isThere 8 = .ok (.goto 4, 3) := by decide +kernel
theorem dX2_isThere_11 : decode cX2_isThere 11 = .ok (.iconst 0, 1) := by decide +kernel
theorem dX2_isThere_12 : decode cX2_isThere 12 = .ok (.ireturn, 1) := by decide +kernel
theorem dX2_has_0 : decode cX2_has 0 = .ok (.iload_n 1, 1) := by decide +kernel
theorem dX2_has_1 : decode cX2_has 1 = .ok (.ifCond .lt 15, 3) := by decide +kernel
theorem dX2_has_4 : decode cX2_has 4 = .ok (.iload_n 1, 1) := by decide +kernel
theorem dX2_has_5 : decode cX2_has 5 = .ok (.aload_n 0, 1) := by decide +kernel
theorem dX2_has_6 : decode cX2_has 6 = .ok (.getfield 21, 3) := by decide +kernel
theorem dX2_has_9 : decode cX2_has 9 = .ok (.if_icmp .ge 7, 3) := by decide +kernel
theorem dX2_has_12 : decode cX2_has 12 = .ok (.iconst 1, 1) := by decide +kernel
theorem dX2_has_13 : decode cX2_has 13 = .ok (.goto 4, 3) := by decide +kernel
theorem dX2_has_16 : decode cX2_has 16 = .ok (.iconst 0, 1) := by decide +kernel
theorem dX2_has_17 : decode cX2_has 17 = .ok (.ireturn, 1) := by decide +kernel
theorem dX2_kindOf_0 : decode cX2_kindOf 0 = .ok (.iload_n 1, 1) := by decide +kernel
theorem dX2_kindOf_1 : decode cX2_kindOf 1 = .ok (.ifCond .lt 20, 3) := by decide +kernel
theorem dX2_kindOf_4 : decode cX2_kindOf 4 = .ok (.iload_n 1, 1) := by decide +kernel
theorem dX2_kindOf_5 : decode cX2_kindOf 5 = .ok (.aload_n 0, 1) := by decide +kernel
theorem dX2_kindOf_6 : decode cX2_kindOf 6 = .ok (.getfield 21, 3) := by decide +kernel
theorem dX2_kindOf_9 : decode cX2_kindOf 9 = .ok (.if_icmp .ge 12, 3) := by decide +kernel
theorem dX2_kindOf_12 : decode cX2_kindOf 12 = .ok (.aload_n 0, 1) := by decide +kernel
theorem dX2_kindOf_13 : decode cX2_kindOf 13 = .ok (.getfield 9, 3) := by decide +kernel
theorem dX2_kindOf_16 : decode cX2_kindOf 16 = .ok (.iload_n 1, 1) := by decide +kernel
theorem dX2_kindOf_17 : decode cX2_kindOf 17 = .ok (.iaload, 1) := by decide +kernel
theorem dX2_kindOf_18 : decode cX2_kindOf 18 = .ok (.goto 4, 3) := by decide +kernel
theorem dX2_kindOf_21 : decode cX2_kindOf 21 = .ok (.iconst (-1), 1) := by decide +kernel
theorem dX2_kindOf_22 : decode cX2_kindOf 22 = .ok (.ireturn, 1) := by decide +kernel
theorem dX2_palmsOf_0 : decode cX2_palmsOf 0 = .ok (.iload_n 1, 1) := by decide +kernel
theorem dX2_palmsOf_1 : decode cX2_palmsOf 1 = .ok (.ifCond .lt 20, 3) := by decide +kernel
theorem dX2_palmsOf_4 : decode cX2_palmsOf 4 = .ok (.iload_n 1, 1) := by decide +kernel
theorem dX2_palmsOf_5 : decode cX2_palmsOf 5 = .ok (.aload_n 0, 1) := by decide +kernel
theorem dX2_palmsOf_6 : decode cX2_palmsOf 6 = .ok (.getfield 21, 3) := by decide +kernel
theorem dX2_palmsOf_9 : decode cX2_palmsOf 9 = .ok (.if_icmp .ge 12, 3) := by decide +kernel
theorem dX2_palmsOf_12 : decode cX2_palmsOf 12 = .ok (.aload_n 0, 1) := by decide +kernel
theorem dX2_palmsOf_13 : decode cX2_palmsOf 13 = .ok (.getfield 15, 3) := by decide +kernel
theorem dX2_palmsOf_16 : decode cX2_palmsOf 16 = .ok (.iload_n 1, 1) := by decide +kernel
theorem dX2_palmsOf_17 : decode cX2_palmsOf 17 = .ok (.iaload, 1) := by decide +kernel
theorem dX2_palmsOf_18 : decode cX2_palmsOf 18 = .ok (.goto 4, 3) := by decide +kernel
theorem dX2_palmsOf_21 : decode cX2_palmsOf 21 = .ok (.iconst 0, 1) := by decide +kernel
theorem dX2_palmsOf_22 : decode cX2_palmsOf 22 = .ok (.ireturn, 1) := by decide +kernel
theorem dX2_strengthOf_0 : decode cX2_strengthOf 0 = .ok (.iload_n 1, 1) := by decide +kernel
theorem dX2_strengthOf_1 : decode cX2_strengthOf 1 = .ok (.ifCond .lt 20, 3) := by decide +kernel
theorem dX2_strengthOf_4 : decode cX2_strengthOf 4 = .ok (.iload_n 1, 1) := by decide +kernel
theorem dX2_strengthOf_5 : decode cX2_strengthOf 5 = .ok (.aload_n 0, 1) := by decide +kernel
theorem dX2_strengthOf_6 : decode cX2_strengthOf 6 = .ok (.getfield 21, 3) := by decide +kernel
theorem dX2_strengthOf_9 : decode cX2_strengthOf 9 = .ok (.if_icmp .ge 12, 3) := by decide +kernel
theorem dX2_strengthOf_12 : decode cX2_strengthOf 12 = .ok (.aload_n 0, 1) := by decide +kernel
theorem dX2_strengthOf_13 : decode cX2_strengthOf 13 = .ok (.getfield 18, 3) := by decide +kernel
theorem dX2_strengthOf_16 : decode cX2_strengthOf 16 = .ok (.iload_n 1, 1) := by decide +kernel
theorem dX2_strengthOf_17 : decode cX2_strengthOf 17 = .ok (.iaload, 1) := by decide +kernel
theorem dX2_strengthOf_18 : decode cX2_strengthOf 18 = .ok (.goto 4, 3) := by decide +kernel
theorem dX2_strengthOf_21 : decode cX2_strengthOf 21 = .ok (.iconst 0, 1) := by decide +kernel
theorem dX2_strengthOf_22 : decode cX2_strengthOf 22 = .ok (.ireturn, 1) := by decide +kernel
theorem dX2_lag_0 : decode cX2_lag 0 = .ok (.aload_n 0, 1) := by decide +kernel
theorem dX2_lag_1 : decode cX2_lag 1 = .ok (.getfield 25, 3) := by decide +kernel
theorem dX2_lag_4 : decode cX2_lag 4 = .ok (.ifCond .le 12, 3) := by decide +kernel
theorem dX2_lag_7 : decode cX2_lag 7 = .ok (.iload_n 1, 1) := by decide +kernel
theorem dX2_lag_8 : decode cX2_lag 8 = .ok (.aload_n 0, 1) := by decide +kernel
theorem dX2_lag_9 : decode cX2_lag 9 = .ok (.getfield 25, 3) := by decide +kernel
theorem dX2_lag_12 : decode cX2_lag 12 = .ok (.idiv, 1) := by decide +kernel
theorem dX2_lag_13 : decode cX2_lag 13 = .ok (.goto 4, 3) := by decide +kernel
theorem dX2_lag_16 : decode cX2_lag 16 = .ok (.iconst 0, 1) := by decide +kernel
theorem dX2_lag_17 : decode cX2_lag 17 = .ok (.ireturn, 1) := by decide +kernel
set_option maxRecDepth 20000 in
theorem ggX2_isOf_X2_kindOf : GoodIn wsX2_isOf wsX2_kindOf := goodIn_r _ [5, 6, 7, 8, 9, 10, 11, 12] (by decide +kernel) (by decide +kernel)
set_option maxRecDepth 20000 in
theorem gX2_isOf_X2_kindOf : GoodIn wsX2_isOf (wsV RX2 46 RX2 yX2_kindOf wsX2_kindOf) := goodIn_app (goodIn_of _ (by decide +kernel)) ggX2_isOf_X2_kindOf
theorem dX2_isOf_0 : decode cX2_isOf 0 = .ok (.aload_n 0, 1) := by decide +kernel
theorem dX2_isOf_1 : decode cX2_isOf 1 = .ok (.iload_n 1, 1) := by decide +kernel
theorem dX2_isOf_2 : decode cX2_isOf 2 = .ok (.invokevirtual 46, 3) := by decide +kernel
theorem dX2_isOf_5 : decode cX2_isOf 5 = .ok (.istore_n 3, 1) := by decide +kernel
theorem dX2_isOf_6 : decode cX2_isOf 6 = .ok (.iload_n 2, 1) := by decide +kernel
theorem dX2_isOf_7 : decode cX2_isOf 7 = .ok (.ifCond .eq 18, 3) := by decide +kernel
theorem dX2_isOf_10 : decode cX2_isOf 10 = .ok (.iload_n 2, 1) := by decide +kernel
theorem dX2_isOf_11 : decode cX2_isOf 11 = .ok (.iload_n 3, 1) := by decide +kernel
theorem dX2_isOf_12 : decode cX2_isOf 12 = .ok (.if_icmp .eq 13, 3) := by decide +kernel
theorem dX2_isOf_15 : decode cX2_isOf 15 = .ok (.iload_n 2, 1) := by decide +kernel
theorem dX2_isOf_16 : decode cX2_isOf 16 = .ok (.iconst 1, 1) := by decide +kernel
theorem dX2_isOf_17 : decode cX2_isOf 17 = .ok (.if_icmp .ne 12, 3) := by decide +kernel
theorem dX2_isOf_20 : decode cX2_isOf 20 = .ok (.iload_n 3, 1) := by decide +kernel
theorem dX2_isOf_21 : decode cX2_isOf 21 = .ok (.iconst 4, 1) := by decide +kernel
theorem dX2_isOf_22 : decode cX2_isOf 22 = .ok (.if_icmp .ne 7, 3) := by decide +kernel
theorem dX2_isOf_25 : decode cX2_isOf 25 = .ok (.iconst 1, 1) := by decide +kernel
theorem dX2_isOf_26 : decode cX2_isOf 26 = .ok (.goto 4, 3) := by decide +kernel
theorem dX2_isOf_29 : decode cX2_isOf 29 = .ok (.iconst 0, 1) := by decide +kernel
theorem dX2_isOf_30 : decode cX2_isOf 30 = .ok (.ireturn, 1) := by decide +kernel
theorem dX2_allPalms_0 : decode cX2_allPalms 0 = .ok (.iconst 0, 1) := by decide +kernel
theorem dX2_allPalms_1 : decode cX2_allPalms 1 = .ok (.istore_n 1, 1) := by decide +kernel
theorem dX2_allPalms_2 : decode cX2_allPalms 2 = .ok (.iconst 0, 1) := by decide +kernel
theorem dX2_allPalms_3 : decode cX2_allPalms 3 = .ok (.istore_n 2, 1) := by decide +kernel
theorem dX2_allPalms_4 : decode cX2_allPalms 4 = .ok (.iload_n 2, 1) := by decide +kernel
theorem dX2_allPalms_5 : decode cX2_allPalms 5 = .ok (.aload_n 0, 1) := by decide +kernel
theorem dX2_allPalms_6 : decode cX2_allPalms 6 = .ok (.getfield 21, 3) := by decide +kernel
theorem dX2_allPalms_9 : decode cX2_allPalms 9 = .ok (.if_icmp .ge 18, 3) := by decide +kernel
theorem dX2_allPalms_12 : decode cX2_allPalms 12 = .ok (.iload_n 1, 1) := by decide +kernel
theorem dX2_allPalms_13 : decode cX2_allPalms 13 = .ok (.aload_n 0, 1) := by decide +kernel
theorem dX2_allPalms_14 : decode cX2_allPalms 14 = .ok (.getfield 15, 3) := by decide +kernel
theorem dX2_allPalms_17 : decode cX2_allPalms 17 = .ok (.iload_n 2, 1) := by decide +kernel
theorem dX2_allPalms_18 : decode cX2_allPalms 18 = .ok (.iaload, 1) := by decide +kernel
theorem dX2_allPalms_19 : decode cX2_allPalms 19 = .ok (.iadd, 1) := by decide +kernel
theorem dX2_allPalms_20 : decode cX2_allPalms 20 = .ok (.istore_n 1, 1) := by decide +kernel
theorem dX2_allPalms_21 : decode cX2_allPalms 21 = .ok (.iinc 2 1, 3) := by decide +kernel
theorem dX2_allPalms_24 : decode cX2_allPalms 24 = .ok (.goto (-20), 3) := by decide +kernel
theorem dX2_allPalms_27 : decode cX2_allPalms 27 = .ok (.iload_n 1, 1) := by decide +kernel
theorem dX2_allPalms_28 : decode cX2_allPalms 28 = .ok (.ireturn, 1) := by decide +kernel
set_option maxRecDepth 20000 in
theorem ggX3_init_X0_init : GoodIn wsX3_init wsX0_init := goodIn_r _ [15, 16, 2, 3, 8, 17, 18, 19, 20, 21, 22, 23, 24] (by decide +kernel) (by decide +kernel)
set_option maxRecDepth 20000 in
theorem gX3_init_X0_init : GoodIn wsX3_init (wsX0_init) := ggX3_init_X0_init
theorem dX3_init_0 : decode cX3_init 0 = .ok (.aload_n 0, 1) := by decide +kernel
theorem dX3_init_1 : decode cX3_init 1 = .ok (.invokespecial 3, 3) := by decide +kernel
theorem dX3_init_4 : decode cX3_init 4 = .ok (.aload_n 0, 1) := by decide +kernel
theorem dX3_init_5 : decode cX3_init 5 = .ok (.new 9, 3) := by decide +kernel
theorem dX3_init_8 : decode cX3_init 8 = .ok (.dup, 1) := by decide +kernel
theorem dX3_init_9 : decode cX3_init 9 = .ok (.invokespecial 11, 3) := by decide +kernel
theorem dX3_init_12 : decode cX3_init 12 = .ok (.putfield 12, 3) := by decide +kernel
theorem dX3_init_15 : decode cX3_init 15 = .ok (.aload_n 0, 1) := by decide +kernel
theorem dX3_init_16 : decode cX3_init 16 = .ok (.bipush 8, 2) := by decide +kernel
theorem dX3_init_18 : decode cX3_init 18 = .ok (.newarray .int, 2) := by decide +kernel
theorem dX3_init_20 : decode cX3_init 20 = .ok (.putfield 18, 3) := by decide +kernel
theorem dX3_init_23 : decode cX3_init 23 = .ok (.aload_n 0, 1) := by decide +kernel
theorem dX3_init_24 : decode cX3_init 24 = .ok (.iconst 0, 1) := by decide +kernel
theorem dX3_init_25 : decode cX3_init 25 = .ok (.putfield 22, 3) := by decide +kernel
theorem dX3_init_28 : decode cX3_init 28 = .ok (.aload_n 0, 1) := by decide +kernel
theorem dX3_init_29 : decode cX3_init 29 = .ok (.iconst 0, 1) := by decide +kernel
theorem dX3_init_30 : decode cX3_init 30 = .ok (.putfield 26, 3) := by decide +kernel
theorem dX3_init_33 : decode cX3_init 33 = .ok (.aload_n 0, 1) := by decide +kernel
theorem dX3_init_34 : decode cX3_init 34 = .ok (.iconst 0, 1) := by decide +kernel
theorem dX3_init_35 : decode cX3_init 35 = .ok (.putfield 29, 3) := by decide +kernel
theorem dX3_init_38 : decode cX3_init 38 = .ok (.return_, 1) := by decide +kernel
set_option maxRecDepth 20000 in
theorem ggX3_startIn_X0_beginWith : GoodIn wsX3_startIn wsX0_beginWith := goodIn_r _ [9, 10, 11, 12, 23, 24, 25, 26] (by decide +kernel) (by decide +kernel)
set_option maxRecDepth 20000 in
theorem gX3_startIn_X0_beginWith : GoodIn wsX3_startIn (wsV RX3 37 RX0 yX0_beginWith wsX0_beginWith) := goodIn_app (goodIn_of _ (by decide +kernel)) ggX3_startIn_X0_beginWith
theorem dX3_startIn_0 : decode cX3_startIn 0 = .ok (.aload_n 0, 1) := by decide +kernel
theorem dX3_startIn_1 : decode cX3_startIn 1 = .ok (.getfield 12, 3) := by decide +kernel
theorem dX3_startIn_4 : decode cX3_startIn 4 = .ok (.aload_n 1, 1) := by decide +kernel
theorem dX3_startIn_5 : decode cX3_startIn 5 = .ok (.getfield 32, 3) := by decide +kernel
theorem dX3_startIn_8 : decode cX3_startIn 8 = .ok (.iconst 0, 1) := by decide +kernel
theorem dX3_startIn_9 : decode cX3_startIn 9 = .ok (.invokevirtual 37, 3) := by decide +kernel
theorem dX3_startIn_12 : decode cX3_startIn 12 = .ok (.aload_n 0, 1) := by decide +kernel
theorem dX3_startIn_13 : decode cX3_startIn 13 = .ok (.iconst 0, 1) := by decide +kernel
theorem dX3_startIn_14 : decode cX3_startIn 14 = .ok (.putfield 22, 3) := by decide +kernel
theorem dX3_startIn_17 : decode cX3_startIn 17 = .ok (.aload_n 0, 1) := by decide +kernel
theorem dX3_startIn_18 : decode cX3_startIn 18 = .ok (.iconst 0, 1) := by decide +kernel
theorem dX3_startIn_19 : decode cX3_startIn 19 = .ok (.putfield 26, 3) := by decide +kernel
theorem dX3_startIn_22 : decode cX3_startIn 22 = .ok (.aload_n 0, 1) := by decide +kernel
theorem dX3_startIn_23 : decode cX3_startIn 23 = .ok (.iconst 0, 1) := by decide +kernel
theorem dX3_startIn_24 : decode cX3_startIn 24 = .ok (.putfield 29, 3) := by decide +kernel
theorem dX3_startIn_27 : decode cX3_startIn 27 = .ok (.return_, 1) := by decide +kernel
set_option maxRecDepth 20000 in
theorem ggX3_takeFrom_X0_takeFrom : GoodIn wsX3_takeFrom wsX0_takeFrom := goodIn_r _ [10, 11, 12, 13, 19, 20, 21, 22] (by decide +kernel) (by decide +kernel)
set_option maxRecDepth 20000 in
theorem gX3_takeFrom_X0_takeFrom : GoodIn wsX3_takeFrom (wsV RX3 41 RX0 yX0_takeFrom wsX0_takeFrom) := goodIn_app (goodIn_of _ (by decide +kernel)) ggX3_takeFrom_X0_takeFrom
theorem dX3_takeFrom_0 : decode cX3_takeFrom 0 = .ok (.aload_n 0, 1) := by decide +kernel
theorem dX3_takeFrom_1 : decode cX3_takeFrom 1 = .ok (.getfield 12, 3) := by decide +kernel
theorem dX3_takeFrom_4 : decode cX3_takeFrom 4 = .ok (.aload_n 1, 1) := by decide +kernel
theorem dX3_takeFrom_5 : decode cX3_takeFrom 5 = .ok (.getfield 12, 3) := by decide +kernel
theorem dX3_takeFrom_8 : decode cX3_takeFrom 8 = .ok (.invokevirtual 41, 3) := by decide +kernel
theorem dX3_takeFrom_11 : decode cX3_takeFrom 11 = .ok (.iconst 0, 1) := by decide +kernel
theorem dX3_takeFrom_12 : decode cX3_takeFrom 12 = .ok (.istore_n 2, 1) := by decide +kernel
theorem dX3_takeFrom_13 : decode cX3_takeFrom 13 = .ok (.iload_n 2, 1) := by decide +kernel
theorem dX3_takeFrom_14 : decode cX3_takeFrom 14 = .ok (.bipush 8, 2) := by decide +kernel
theorem dX3_takeFrom_16 : decode cX3_takeFrom 16 = .ok (.if_icmp .ge 21, 3) := by decide +kernel
theorem dX3_takeFrom_19 : decode cX3_takeFrom 19 = .ok (.aload_n 0, 1) := by decide +kernel
theorem dX3_takeFrom_20 : decode cX3_takeFrom 20 = .ok (.getfield 18, 3) := by decide +kernel
theorem dX3_takeFrom_23 : decode cX3_takeFrom 23 = .ok (.iload_n 2, 1) := by decide +kernel
theorem dX3_takeFrom_24 : decode cX3_takeFrom 24 = .ok (.aload_n 1, 1) := by decide +kernel
theorem dX3_takeFrom_25 : decode cX3_takeFrom 25 = .ok (.getfield 18, 3) := by decide +kernel
theorem dX3_takeFrom_28 : decode cX3_takeFrom 28 = .ok (.iload_n 2, 1) := by decide +kernel
theorem dX3_takeFrom_29 : decode cX3_takeFrom 29 = .ok (.iaload, 1) := by decide +kernel
theorem dX3_takeFrom_30 : decode cX3_takeFrom 30 = .ok (.iastore, 1) := by decide +kernel
theorem dX3_takeFrom_31 : decode cX3_takeFrom 31 = .ok (.iinc 2 1, 3) := by decide +kernel
theorem dX3_takeFrom_34 : decode cX3_takeFrom 34 = .ok (.goto (-21), 3) := by decide +kernel
theorem dX3_takeFrom_37 : decode cX3_takeFrom 37 = .ok (.aload_n 0, 1) := by decide +kernel
theorem dX3_takeFrom_38 : decode cX3_takeFrom 38 = .ok (.aload_n 1, 1) := by decide +kernel
theorem dX3_takeFrom_39 : decode cX3_takeFrom 39 = .ok (.getfield 22, 3) := by decide +kernel
theorem dX3_takeFrom_42 : decode cX3_takeFrom 42 = .ok (.putfield 22, 3) := by decide +kernel
theorem dX3_takeFrom_45 : decode cX3_takeFrom 45 = .ok (.aload_n 0, 1) := by decide +kernel
theorem dX3_takeFrom_46 : decode cX3_takeFrom 46 = .ok (.aload_n 1, 1) := by decide +kernel
theorem dX3_takeFrom_47 : decode cX3_takeFrom 47 = .ok (.getfield 26, 3) := by decide +kernel
theorem dX3_takeFrom_50 : decode cX3_takeFrom 50 = .ok (.putfield 26, 3) := by decide +kernel
theorem dX3_takeFrom_53 : decode cX3_takeFrom 53 = .ok (.aload_n 0, 1) := by decide +kernel
theorem dX3_takeFrom_54 : decode cX3_takeFrom 54 = .ok (.aload_n 1, 1) := by decide +kernel
theorem dX3_takeFrom_55 : decode cX3_takeFrom 55 = .ok (.getfield 29, 3) := by decide +kernel
theorem dX3_takeFrom_58 : decode cX3_takeFrom 58 = .ok (.putfield 29, 3) := by decide +kernel
theorem dX3_takeFrom_61 : decode cX3_takeFrom 61 = .ok (.return_, 1) := by decide +kernel
set_option maxRecDepth 20000 in
theorem ggX3_noteDown_X5_within : GoodIn wsX3_noteDown wsX5_within := goodIn_r _ [5] (by decide +kernel) (by decide +kernel)
set_option maxRecDepth 20000 in
theorem gX3_noteDown_X5_within_n45 : GoodIn wsX3_noteDown (wsX5_within) := ggX3_noteDown_X5_within
theorem dX3_noteDown_0 : decode cX3_noteDown 0 = .ok (.aload_n 0, 1) := by decide +kernel
theorem dX3_noteDown_1 : decode cX3_noteDown 1 = .ok (.getfield 22, 3) := by decide +kernel
theorem dX3_noteDown_4 : decode cX3_noteDown 4 = .ok (.iconst 0, 1) := by decide +kernel
theorem dX3_noteDown_5 : decode cX3_noteDown 5 = .ok (.bipush 7, 2) := by decide +kernel
theorem dX3_noteDown_7 : decode cX3_noteDown 7 = .ok (.invokestatic 45, 3) := by decide +kernel
theorem dX3_noteDown_10 : decode cX3_noteDown 10 = .ok (.ifCond .ne 5, 3) := by decide +kernel
theorem dX3_noteDown_13 : decode cX3_noteDown 13 = .ok (.iconst 0, 1) := by decide +kernel
theorem dX3_noteDown_14 : decode cX3_noteDown 14 = .ok (.ireturn, 1) := by decide +kernel
theorem dX3_noteDown_15 : decode cX3_noteDown 15 = .ok (.aload_n 0, 1) := by decide +kernel
theorem dX3_noteDown_16 : decode cX3_noteDown 16 = .ok (.getfield 18, 3) := by decide +kernel
theorem dX3_noteDown_19 : decode cX3_noteDown 19 = .ok (.aload_n 0, 1) := by decide +kernel
theorem dX3_noteDown_20 : decode cX3_noteDown 20 = .ok (.getfield 22, 3) := by decide +kernel
theorem dX3_noteDown_23 : decode cX3_noteDown 23 = .ok (.iload_n 1, 1) := by decide +kernel
theorem dX3_noteDown_24 : decode cX3_noteDown 24 = .ok (.iastore, 1) := by decide +kernel
theorem dX3_noteDown_25 : decode cX3_noteDown 25 = .ok (.aload_n 0, 1) := by decide +kernel
theorem dX3_noteDown_26 : decode cX3_noteDown 26 = .ok (.dup, 1) := by decide +kernel
theorem dX3_noteDown_27 : decode cX3_noteDown 27 = .ok (.getfield 22, 3) := by decide +kernel
theorem dX3_noteDown_30 : decode cX3_noteDown 30 = .ok (.iconst 1, 1) := by decide +kernel
theorem dX3_noteDown_31 : decode cX3_noteDown 31 = .ok (.iadd, 1) := by decide +kernel
theorem dX3_noteDown_32 : decode cX3_noteDown 32 = .ok (.putfield 22, 3) := by decide +kernel
theorem dX3_noteDown_35 : decode cX3_noteDown 35 = .ok (.iconst 1, 1) := by decide +kernel
theorem dX3_noteDown_36 : decode cX3_noteDown 36 = .ok (.ireturn, 1) := by decide +kernel
set_option maxRecDepth 20000 in
theorem ggX3_recordedAt_X5_within : GoodIn wsX3_recordedAt wsX5_within := goodIn_r _ [4] (by decide +kernel) (by decide +kernel)
set_option maxRecDepth 20000 in
theorem gX3_recordedAt_X5_within_n45 : GoodIn wsX3_recordedAt (wsX5_within) := ggX3_recordedAt_X5_within
theorem dX3_recordedAt_0 : decode cX3_recordedAt 0 = .ok (.iload_n 1, 1) := by decide +kernel
theorem dX3_recordedAt_1 : decode cX3_recordedAt 1 = .ok (.iconst 0, 1) := by decide +kernel
theorem dX3_recordedAt_2 : decode cX3_recordedAt 2 = .ok (.bipush 7, 2) := by decide +kernel
theorem dX3_recordedAt_4 : decode cX3_recordedAt 4 = .ok (.invokestatic 45, 3) := by decide +kernel
theorem dX3_recordedAt_7 : decode cX3_recordedAt 7 = .ok (.ifCond .eq 12, 3) := by decide +kernel
theorem dX3_recordedAt_10 : decode cX3_recordedAt 10 = .ok (.aload_n 0, 1) := by decide +kernel
theorem dX3_recordedAt_11 : decode cX3_recordedAt 11 = .ok (.getfield 18, 3) := by decide +kernel
theorem dX3_recordedAt_14 : decode cX3_recordedAt 14 = .ok (.iload_n 1, 1) := by decide +kernel
theorem dX3_recordedAt_15 : decode cX3_recordedAt 15 = .ok (.iaload, 1) := by decide +kernel
theorem dX3_recordedAt_16 : decode cX3_recordedAt 16 = .ok (.goto 4, 3) := by decide +kernel
theorem dX3_recordedAt_19 : decode cX3_recordedAt 19 = .ok (.iconst 0, 1) := by decide +kernel
theorem dX3_recordedAt_20 : decode cX3_recordedAt 20 = .ok (.ireturn, 1) := by decide +kernel
theorem dX4_init_0 : decode cX4_init 0 = .ok (.aload_n 0, 1) := by decide +kernel
theorem dX4_init_1 : decode cX4_init 1 = .ok (.invokespecial 3, 3) := by decide +kernel
theorem dX4_init_4 : decode cX4_init 4 = .ok (.aload_n 0, 1) := by decide +kernel
theorem dX4_init_5 : decode cX4_init 5 = .ok (.bipush 36, 2) := by decide +kernel
theorem dX4_init_7 : decode cX4_init 7 = .ok (.newarray .int, 2) := by decide +kernel
theorem dX4_init_9 : decode cX4_init 9 = .ok (.putfield 9, 3) := by decide +kernel
theorem dX4_init_12 : decode cX4_init 12 = .ok (.aload_n 0, 1) := by decide +kernel
theorem dX4_init_13 : decode cX4_init 13 = .ok (.iconst 0, 1) := by decide +kernel
theorem dX4_init_14 : decode cX4_init 14 = .ok (.putfield 15, 3) := by decide +kernel
theorem dX4_init_17 : decode cX4_init 17 = .ok (.return_, 1) := by decide +kernel
theorem dX4_write_0 : decode cX4_write 0 = .ok (.aload_n 0, 1) := by decide +kernel
end
section
theorem dX4_write_1 : decode cX4_write 1 = .ok (.getfield 15, 3) := by decide +kernel
theorem dX4_write_4 : decode cX4_write 4 = .ok (.ifCond .lt 15, 3) := by decide +kernel
theorem dX4_write_7 : decode cX4_write 7 = .ok (.aload_n 0, 1) := by decide +kernel
theorem dX4_write_8 : decode cX4_write 8 = .ok (.getfield 15, 3) := by decide +kernel
theorem dX4_write_11 : decode cX4_write 11 = .ok (.aload_n 0, 1) := by decide +kernel
theorem dX4_write_12 : decode cX4_write 12 = .ok (.getfield 9, 3) := by decide +kernel
theorem dX4_write_15 : decode cX4_write 15 = .ok (.arraylength, 1) := by decide +kernel
theorem dX4_write_16 : decode cX4_write 16 = .ok (.if_icmp .lt 5, 3) := by decide +kernel
theorem dX4_write_19 : decode cX4_write 19 = .ok (.iconst 0, 1) := by decide +kernel
theorem dX4_write_20 : decode cX4_write 20 = .ok (.ireturn, 1) := by decide +kernel
theorem dX4_write_21 : decode cX4_write 21 = .ok (.aload_n 0, 1) := by decide +kernel
theorem dX4_write_22 : decode cX4_write 22 = .ok (.getfield 9, 3) := by decide +kernel
theorem dX4_write_25 : decode cX4_write 25 = .ok (.aload_n 0, 1) := by decide +kernel
theorem dX4_write_26 : decode cX4_write 26 = .ok (.getfield 15, 3) := by decide +kernel
theorem dX4_write_29 : decode cX4_write 29 = .ok (.iload_n 1, 1) := by decide +kernel
theorem dX4_write_30 : decode cX4_write 30 = .ok (.iastore, 1) := by decide +kernel
theorem dX4_write_31 : decode cX4_write 31 = .ok (.aload_n 0, 1) := by decide +kernel
theorem dX4_write_32 : decode cX4_write 32 = .ok (.dup, 1) := by decide +kernel
theorem dX4_write_33 : decode cX4_write 33 = .ok (.getfield 15, 3) := by decide +kernel
theorem dX4_write_36 : decode cX4_write 36 = .ok (.iconst 1, 1) := by decide +kernel
theorem dX4_write_37 : decode cX4_write 37 = .ok (.iadd, 1) := by decide +kernel
theorem dX4_write_38 : decode cX4_write 38 = .ok (.putfield 15, 3) := by decide +kernel
theorem dX4_write_41 : decode cX4_write 41 = .ok (.iconst 1, 1) := by decide +kernel
theorem dX4_write_42 : decode cX4_write 42 = .ok (.ireturn, 1) := by decide +kernel
theorem dX4_wipe_0 : decode cX4_wipe 0 = .ok (.aload_n 0, 1) := by decide +kernel
theorem dX4_wipe_1 : decode cX4_wipe 1 = .ok (.iconst 0, 1) := by decide +kernel
theorem dX4_wipe_2 : decode cX4_wipe 2 = .ok (.putfield 15, 3) := by decide +kernel
theorem dX4_wipe_5 : decode cX4_wipe 5 = .ok (.return_, 1) := by decide +kernel
set_option maxRecDepth 20000 in
theorem ggX4_codeAt_X5_within : GoodIn wsX4_codeAt wsX5_within := goodIn_r _ [4] (by decide +kernel) (by decide +kernel)
set_option maxRecDepth 20000 in
theorem gX4_codeAt_X5_within_n19 : GoodIn wsX4_codeAt (wsX5_within) := ggX4_codeAt_X5_within
theorem dX4_codeAt_0 : decode cX4_codeAt 0 = .ok (.iload_n 1, 1) := by decide +kernel
theorem dX4_codeAt_1 : decode cX4_codeAt 1 = .ok (.iconst 0, 1) := by decide +kernel
theorem dX4_codeAt_2 : decode cX4_codeAt 2 = .ok (.aload_n 0, 1) := by decide +kernel
theorem dX4_codeAt_3 : decode cX4_codeAt 3 = .ok (.getfield 9, 3) := by decide +kernel
theorem dX4_codeAt_6 : decode cX4_codeAt 6 = .ok (.arraylength, 1) := by decide +kernel
theorem dX4_codeAt_7 : decode cX4_codeAt 7 = .ok (.iconst 1, 1) := by decide +kernel
theorem dX4_codeAt_8 : decode cX4_codeAt 8 = .ok (.isub, 1) := by decide +kernel
theorem dX4_codeAt_9 : decode cX4_codeAt 9 = .ok (.invokestatic 19, 3) := by decide +kernel
theorem dX4_codeAt_12 : decode cX4_codeAt 12 = .ok (.ifCond .eq 12, 3) := by decide +kernel
theorem dX4_codeAt_15 : decode cX4_codeAt 15 = .ok (.aload_n 0, 1) := by decide +kernel
theorem dX4_codeAt_16 : decode cX4_codeAt 16 = .ok (.getfield 9, 3) := by decide +kernel
theorem dX4_codeAt_19 : decode cX4_codeAt 19 = .ok (.iload_n 1, 1) := by decide +kernel
theorem dX4_codeAt_20 : decode cX4_codeAt 20 = .ok (.iaload, 1) := by decide +kernel
theorem dX4_codeAt_21 : decode cX4_codeAt 21 = .ok (.goto 4, 3) := by decide +kernel
theorem dX4_codeAt_24 : decode cX4_codeAt 24 = .ok (.iconst 0, 1) := by decide +kernel
theorem dX4_codeAt_25 : decode cX4_codeAt 25 = .ok (.ireturn, 1) := by decide +kernel
set_option maxRecDepth 20000 in
theorem ggX4_firstFault_X4_fits : GoodIn wsX4_firstFault wsX4_fits := goodIn_r _ [6, 7, 8, 9, 5, 10, 11, 12, 13, 14, 15, 16, 17, 18, 19, 20, 21, 22, 23, 24, 25, 26, 27, 28, 29, 30, 31, 32, 33, 34, 35, 36, 37, 38, 39, 40, 41, 42, 43, 44, 45, 46, 47, 48, 49, 50, 51, 52, 53, 54, 55, 56, 57, 58, 59, 60, 61, 62, 63, 64, 65, 66, 67, 68, 69, 70, 71, 72, 73, 74, 75, 76, 77, 78, 79, 80, 81, 82, 83, 84, 85, 86, 87, 88, 89, 90, 91, 92, 93, 94, 95, 96, 97, 98, 99, 100, 101, 102, 103, 104, 105, 106, 107, 108, 109, 110, 111] (by decide +kernel) (by decide +kernel)
set_option maxRecDepth 20000 in
theorem gX4_firstFault_X4_fits : GoodIn wsX4_firstFault (wsV RX4 23 RX4 yX4_fits wsX4_fits) := goodIn_app (goodIn_of _ (by decide +kernel)) ggX4_firstFault_X4_fits
set_option maxRecDepth 20000 in
theorem ggX4_firstFault_X4_codeAt : GoodIn wsX4_firstFault wsX4_codeAt := goodIn_r _ [10, 11, 12, 13, 14, 110, 111] (by decide +kernel) (by decide +kernel)
set_option maxRecDepth 20000 in
theorem gX4_firstFault_X4_codeAt : GoodIn wsX4_firstFault (wsV RX4 27 RX4 yX4_codeAt wsX4_codeAt) := goodIn_app (goodIn_of _ (by decide +kernel)) ggX4_firstFault_X4_codeAt
theorem dX4_firstFault_0 : decode cX4_firstFault 0 = .ok (.iconst (-1), 1) := by decide +kernel
theorem dX4_firstFault_1 : decode cX4_firstFault 1 = .ok (.istore_n 1, 1) := by decide +kernel
theorem dX4_firstFault_2 : decode cX4_firstFault 2 = .ok (.iconst 0, 1) := by decide +kernel
theorem dX4_firstFault_3 : decode cX4_firstFault 3 = .ok (.istore_n 2, 1) := by decide +kernel
theorem dX4_firstFault_4 : decode cX4_firstFault 4 = .ok (.iload_n 2, 1) := by decide +kernel
theorem dX4_firstFault_5 : decode cX4_firstFault 5 = .ok (.aload_n 0, 1) := by decide +kernel
theorem dX4_firstFault_6 : decode cX4_firstFault 6 = .ok (.getfield 15, 3) := by decide +kernel
theorem dX4_firstFault_9 : decode cX4_firstFault 9 = .ok (.if_icmp .ge 32, 3) := by decide +kernel
theorem dX4_firstFault_12 : decode cX4_firstFault 12 = .ok (.aload_n 0, 1) := by decide +kernel
theorem dX4_firstFault_13 : decode cX4_firstFault 13 = .ok (.iload_n 2, 1) := by decide +kernel
theorem dX4_firstFault_14 : decode cX4_firstFault 14 = .ok (.iload_n 1, 1) := by decide +kernel
theorem dX4_firstFault_15 : decode cX4_firstFault 15 = .ok (.invokevirtual 23, 3) := by decide +kernel
theorem dX4_firstFault_18 : decode cX4_firstFault 18 = .ok (.ifCond .ne 5, 3) := by decide +kernel
theorem dX4_firstFault_21 : decode cX4_firstFault 21 = .ok (.iload_n 2, 1) := by decide +kernel
theorem dX4_firstFault_22 : decode cX4_firstFault 22 = .ok (.ireturn, 1) := by decide +kernel
theorem dX4_firstFault_23 : decode cX4_firstFault 23 = .ok (.aload_n 0, 1) := by decide +kernel
theorem dX4_firstFault_24 : decode cX4_firstFault 24 = .ok (.iload_n 2, 1) := by decide +kernel
theorem dX4_firstFault_25 : decode cX4_firstFault 25 = .ok (.invokevirtual 27, 3) := by decide +kernel
theorem dX4_firstFault_28 : decode cX4_firstFault 28 = .ok (.bipush 59, 2) := by decide +kernel
theorem dX4_firstFault_30 : decode cX4_firstFault 30 = .ok (.if_icmp .ne 5, 3) := by decide +kernel
theorem dX4_firstFault_33 : decode cX4_firstFault 33 = .ok (.iload_n 2, 1) := by decide +kernel
theorem dX4_firstFault_34 : decode cX4_firstFault 34 = .ok (.istore_n 1, 1) := by decide +kernel
theorem dX4_firstFault_35 : decode cX4_firstFault 35 = .ok (.iinc 2 1, 3) := by decide +kernel
theorem dX4_firstFault_38 : decode cX4_firstFault 38 = .ok (.goto (-34), 3) := by decide +kernel
theorem dX4_firstFault_41 : decode cX4_firstFault 41 = .ok (.aload_n 0, 1) := by decide +kernel
theorem dX4_firstFault_42 : decode cX4_firstFault 42 = .ok (.getfield 15, 3) := by decide +kernel
theorem dX4_firstFault_45 : decode cX4_firstFault 45 = .ok (.ireturn, 1) := by decide +kernel
set_option maxRecDepth 20000 in
theorem ggX4_isWhole_X4_firstFault : GoodIn wsX4_isWhole wsX4_firstFault := goodIn_r _ [6, 1, 7, 8, 9, 5, 10, 11, 12, 13, 14, 15, 16, 17, 18, 19, 20, 21, 22, 23, 24, 25, 26, 27, 28, 29, 30, 31, 32, 33, 34, 35, 36, 37, 38, 39, 40, 41, 42, 43, 44, 45, 46, 47, 48, 49, 50, 51, 52, 53, 54, 55, 56, 57, 58, 59, 60, 61, 62, 63, 64, 65, 66, 67, 68, 69, 70, 71, 72, 73, 74, 75, 76, 77, 78, 79, 80, 81, 82, 83, 84, 85, 86, 87, 88, 89, 90, 91, 92, 93, 94, 95, 96, 97, 98, 99, 100, 101, 102, 103, 104, 105, 106, 107, 108, 109, 110, 111, 112, 113, 114, 115] (by decide +kernel) (by decide +kernel)
set_option maxRecDepth 20000 in
theorem gX4_isWhole_X4_firstFault : GoodIn wsX4_isWhole (wsV RX4 31 RX4 yX4_firstFault wsX4_firstFault) := goodIn_app (goodIn_of _ (by decide +kernel)) ggX4_isWhole_X4_firstFault
set_option maxRecDepth 20000 in
theorem ggX4_isWhole_X4_codeAt : GoodIn wsX4_isWhole wsX4_codeAt := goodIn_r _ [14, 15, 16, 17, 18, 114, 115] (by decide +kernel) (by decide +kernel)
set_option maxRecDepth 20000 in
theorem gX4_isWhole_X4_codeAt : GoodIn wsX4_isWhole (wsV RX4 27 RX4 yX4_codeAt wsX4_codeAt) := goodIn_app (goodIn_of _ (by decide +kernel)) ggX4_isWhole_X4_codeAt
theorem dX4_isWhole_0 : decode cX4_isWhole 0 = .ok (.aload_n 0, 1) := by decide +kernel
theorem dX4_isWhole_1 : decode cX4_isWhole 1 = .ok (.getfield 15, 3) := by decide +kernel
theorem dX4_isWhole_4 : decode cX4_isWhole 4 = .ok (.iconst 1, 1) := by decide +kernel
theorem dX4_isWhole_5 : decode cX4_isWhole 5 = .ok (.if_icmp .le 33, 3) := by decide +kernel
theorem dX4_isWhole_8 : decode cX4_isWhole 8 = .ok (.aload_n 0, 1) := by decide +kernel
theorem dX4_isWhole_9 : decode cX4_isWhole 9 = .ok (.invokevirtual 31, 3) := by decide +kernel
theorem dX4_isWhole_12 : decode cX4_isWhole 12 = .ok (.aload_n 0, 1) := by decide +kernel
theorem dX4_isWhole_13 : decode cX4_isWhole 13 = .ok (.getfield 15, 3) := by decide +kernel
theorem dX4_isWhole_16 : decode cX4_isWhole 16 = .ok (.if_icmp .ne 22, 3) := by decide +kernel
theorem dX4_isWhole_19 : decode cX4_isWhole 19 = .ok (.aload_n 0, 1) := by decide +kernel
theorem dX4_isWhole_20 : decode cX4_isWhole 20 = .ok (.aload_n 0, 1) := by decide +kernel
theorem dX4_isWhole_21 : decode cX4_isWhole 21 = .ok (.getfield 15, 3) := by decide +kernel
theorem dX4_isWhole_24 : decode cX4_isWhole 24 = .ok (.iconst 2, 1) := by decide +kernel
theorem dX4_isWhole_25 : decode cX4_isWhole 25 = .ok (.isub, 1) := by decide +kernel
theorem dX4_isWhole_26 : decode cX4_isWhole 26 = .ok (.invokevirtual 27, 3) := by decide +kernel
theorem dX4_isWhole_29 : decode cX4_isWhole 29 = .ok (.bipush 59, 2) := by decide +kernel
theorem dX4_isWhole_31 : decode cX4_isWhole 31 = .ok (.if_icmp .ne 7, 3) := by decide +kernel
theorem dX4_isWhole_34 : decode cX4_isWhole 34 = .ok (.iconst 1, 1) := by decide +kernel
theorem dX4_isWhole_35 : decode cX4_isWhole 35 = .ok (.goto 4, 3) := by decide +kernel
theorem dX4_isWhole_38 : decode cX4_isWhole 38 = .ok (.iconst 0, 1) := by decide +kernel
theorem dX4_isWhole_39 : decode cX4_isWhole 39 = .ok (.ireturn, 1) := by decide +kernel
set_option maxRecDepth 20000 in
theorem ggX4_fits_X4_codeAt : GoodIn wsX4_fits wsX4_codeAt := goodIn_r _ [5, 6, 7, 8, 9, 105, 106] (by decide +kernel) (by decide +kernel)
set_option maxRecDepth 20000 in
theorem gX4_fits_X4_codeAt : GoodIn wsX4_fits (wsV RX4 27 RX4 yX4_codeAt wsX4_codeAt) := goodIn_app (goodIn_of _ (by decide +kernel)) ggX4_fits_X4_codeAt
set_option maxRecDepth 20000 in
theorem ggX4_fits_X5_within : GoodIn wsX4_fits wsX5_within := goodIn_r _ [9] (by decide +kernel) (by decide +kernel)
set_option maxRecDepth 20000 in
theorem gX4_fits_X5_within_n19 : GoodIn wsX4_fits (wsX5_within) := ggX4_fits_X5_within
set_option maxRecDepth 20000 in
theorem ggX4_fits_X4_kindBy : GoodIn wsX4_fits wsX4_kindBy := goodIn_r _ [12, 13, 14, 15, 16, 17, 18, 19, 20, 21, 22, 23, 24, 25, 26, 27, 28, 29, 30, 31, 32, 33, 34, 35, 36, 37, 38, 39, 40, 41, 42, 43, 44, 45, 46, 47, 48, 49, 50, 51, 52, 53, 54, 55, 56, 57, 58, 59, 60, 61, 62, 63, 64, 65, 66, 67, 68, 69, 70, 71, 72, 73, 74, 75, 76, 77, 78, 79, 80, 81, 82, 83, 84, 85, 86, 87, 88, 89, 90, 91, 92, 93, 94, 95, 96, 97, 98, 99, 100, 101] (by decide +kernel) (by decide +kernel)
set_option maxRecDepth 20000 in
theorem gX4_fits_X4_kindBy : GoodIn wsX4_fits (va_wsS RX4 35 yX4_kindBy wsX4_kindBy) := goodIn_app (goodIn_of _ (by decide +kernel)) ggX4_fits_X4_kindBy
set_option maxRecDepth 20000 in
theorem ggX4_fits_X4_followsRow : GoodIn wsX4_fits wsX4_followsRow := goodIn_r _ [104] (by decide +kernel) (by decide +kernel)
set_option maxRecDepth 20000 in
theorem gX4_fits_X4_followsRow : GoodIn wsX4_fits (va_wsS RX4 38 yX4_followsRow wsX4_followsRow) := goodIn_app (goodIn_of _ (by decide +kernel)) ggX4_fits_X4_followsRow
theorem dX4_fits_0 : decode cX4_fits 0 = .ok (.aload_n 0, 1) := by decide +kernel
theorem dX4_fits_1 : decode cX4_fits 1 = .ok (.iload_n 1, 1) := by decide +kernel
theorem dX4_fits_2 : decode cX4_fits 2 = .ok (.invokevirtual 27, 3) := by decide +kernel
theorem dX4_fits_5 : decode cX4_fits 5 = .ok (.istore_n 3, 1) := by decide +kernel
theorem dX4_fits_6 : decode cX4_fits 6 = .ok (.iload_n 2, 1) := by decide +kernel
theorem dX4_fits_7 : decode cX4_fits 7 = .ok (.iconst (-1), 1) := by decide +kernel
theorem dX4_fits_8 : decode cX4_fits 8 = .ok (.if_icmp .eq 27, 3) := by decide +kernel
theorem dX4_fits_11 : decode cX4_fits 11 = .ok (.iload_n 1, 1) := by decide +kernel
theorem dX4_fits_12 : decode cX4_fits 12 = .ok (.iload_n 2, 1) := by decide +kernel
theorem dX4_fits_13 : decode cX4_fits 13 = .ok (.iconst 1, 1) := by decide +kernel
theorem dX4_fits_14 : decode cX4_fits 14 = .ok (.iadd, 1) := by decide +kernel
theorem dX4_fits_15 : decode cX4_fits 15 = .ok (.if_icmp .ne 18, 3) := by decide +kernel
theorem dX4_fits_18 : decode cX4_fits 18 = .ok (.iload_n 3, 1) := by decide +kernel
theorem dX4_fits_19 : decode cX4_fits 19 = .ok (.bipush 48, 2) := by decide +kernel
theorem dX4_fits_21 : decode cX4_fits 21 = .ok (.bipush 51, 2) := by decide +kernel
theorem dX4_fits_23 : decode cX4_fits 23 = .ok (.invokestatic 19, 3) := by decide +kernel
theorem dX4_fits_26 : decode cX4_fits 26 = .ok (.ifCond .eq 7, 3) := by decide +kernel
theorem dX4_fits_29 : decode cX4_fits 29 = .ok (.iconst 1, 1) := by decide +kernel
theorem dX4_fits_30 : decode cX4_fits 30 = .ok (.goto 4, 3) := by decide +kernel
theorem dX4_fits_33 : decode cX4_fits 33 = .ok (.iconst 0, 1) := by decide +kernel
theorem dX4_fits_34 : decode cX4_fits 34 = .ok (.ireturn, 1) := by decide +kernel
theorem dX4_fits_35 : decode cX4_fits 35 = .ok (.iload_n 1, 1) := by decide +kernel
theorem dX4_fits_36 : decode cX4_fits 36 = .ok (.iconst 4, 1) := by decide +kernel
theorem dX4_fits_37 : decode cX4_fits 37 = .ok (.irem, 1) := by decide +kernel
theorem dX4_fits_38 : decode cX4_fits 38 = .ok (.tableswitch 58 0 2 #[26, 40, 49], 26) := by decide +kernel
theorem dX4_fits_64 : decode cX4_fits 64 = .ok (.iload_n 3, 1) := by decide +kernel
theorem dX4_fits_65 : decode cX4_fits 65 = .ok (.invokestatic 35, 3) := by decide +kernel
theorem dX4_fits_68 : decode cX4_fits 68 = .ok (.iconst (-1), 1) := by decide +kernel
theorem dX4_fits_69 : decode cX4_fits 69 = .ok (.if_icmp .eq 7, 3) := by decide +kernel
theorem dX4_fits_72 : decode cX4_fits 72 = .ok (.iconst 1, 1) := by decide +kernel
theorem dX4_fits_73 : decode cX4_fits 73 = .ok (.goto 4, 3) := by decide +kernel
theorem dX4_fits_76 : decode cX4_fits 76 = .ok (.iconst 0, 1) := by decide +kernel
theorem dX4_fits_77 : decode cX4_fits 77 = .ok (.ireturn, 1) := by decide +kernel
theorem dX4_fits_78 : decode cX4_fits 78 = .ok (.iload_n 3, 1) := by decide +kernel
theorem dX4_fits_79 : decode cX4_fits 79 = .ok (.bipush 49, 2) := by decide +kernel
theorem dX4_fits_81 : decode cX4_fits 81 = .ok (.bipush 57, 2) := by decide +kernel
theorem dX4_fits_83 : decode cX4_fits 83 = .ok (.invokestatic 19, 3) := by decide +kernel
theorem dX4_fits_86 : decode cX4_fits 86 = .ok (.ireturn, 1) := by decide +kernel
theorem dX4_fits_87 : decode cX4_fits 87 = .ok (.iload_n 3, 1) := by decide +kernel
theorem dX4_fits_88 : decode cX4_fits 88 = .ok (.bipush 48, 2) := by decide +kernel
theorem dX4_fits_90 : decode cX4_fits 90 = .ok (.bipush 57, 2) := by decide +kernel
theorem dX4_fits_92 : decode cX4_fits 92 = .ok (.invokestatic 19, 3) := by decide +kernel
theorem dX4_fits_95 : decode cX4_fits 95 = .ok (.ireturn, 1) := by decide +kernel
theorem dX4_fits_96 : decode cX4_fits 96 = .ok (.iload_n 3, 1) := by decide +kernel
theorem dX4_fits_97 : decode cX4_fits 97 = .ok (.iload_n 1, 1) := by decide +kernel
theorem dX4_fits_98 : decode cX4_fits 98 = .ok (.iconst 4, 1) := by decide +kernel
theorem dX4_fits_99 : decode cX4_fits 99 = .ok (.idiv, 1) := by decide +kernel
theorem dX4_fits_100 : decode cX4_fits 100 = .ok (.iconst 1, 1) := by decide +kernel
theorem dX4_fits_101 : decode cX4_fits 101 = .ok (.iadd, 1) := by decide +kernel
theorem dX4_fits_102 : decode cX4_fits 102 = .ok (.invokestatic 38, 3) := by decide +kernel
theorem dX4_fits_105 : decode cX4_fits 105 = .ok (.ireturn, 1) := by decide +kernel
theorem dX4_followsRow_0 : decode cX4_followsRow 0 = .ok (.iload_n 0, 1) := by decide +kernel
theorem dX4_followsRow_1 : decode cX4_followsRow 1 = .ok (.bipush 44, 2) := by decide +kernel
theorem dX4_followsRow_3 : decode cX4_followsRow 3 = .ok (.if_icmp .ne 15, 3) := by decide +kernel
theorem dX4_followsRow_6 : decode cX4_followsRow 6 = .ok (.iload_n 1, 1) := by decide +kernel
theorem dX4_followsRow_7 : decode cX4_followsRow 7 = .ok (.bipush 8, 2) := by decide +kernel
theorem dX4_followsRow_9 : decode cX4_followsRow 9 = .ok (.if_icmp .ge 7, 3) := by decide +kernel
theorem dX4_followsRow_12 : decode cX4_followsRow 12 = .ok (.iconst 1, 1) := by decide +kernel
theorem dX4_followsRow_13 : decode cX4_followsRow 13 = .ok (.goto 4, 3) := by decide +kernel
theorem dX4_followsRow_16 : decode cX4_followsRow 16 = .ok (.iconst 0, 1) := by decide +kernel
theorem dX4_followsRow_17 : decode cX4_followsRow 17 = .ok (.ireturn, 1) := by decide +kernel
theorem dX4_followsRow_18 : decode cX4_followsRow 18 = .ok (.iload_n 0, 1) := by decide +kernel
theorem dX4_followsRow_19 : decode cX4_followsRow 19 = .ok (.bipush 59, 2) := by decide +kernel
theorem dX4_followsRow_21 : decode cX4_followsRow 21 = .ok (.if_icmp .ne 12, 3) := by decide +kernel
theorem dX4_followsRow_24 : decode cX4_followsRow 24 = .ok (.iload_n 1, 1) := by decide +kernel
theorem dX4_followsRow_25 : decode cX4_followsRow 25 = .ok (.iconst 3, 1) := by decide +kernel
theorem dX4_followsRow_26 : decode cX4_followsRow 26 = .ok (.if_icmp .lt 7, 3) := by decide +kernel
theorem dX4_followsRow_29 : decode cX4_followsRow 29 = .ok (.iconst 1, 1) := by decide +kernel
theorem dX4_followsRow_30 : decode cX4_followsRow 30 = .ok (.goto 4, 3) := by decide +kernel
theorem dX4_followsRow_33 : decode cX4_followsRow 33 = .ok (.iconst 0, 1) := by decide +kernel
theorem dX4_followsRow_34 : decode cX4_followsRow 34 = .ok (.ireturn, 1) := by decide +kernel
set_option maxRecDepth 20000 in
theorem ggX4_kindBy_J0_indexOf_0f7a4 : GoodIn wsX4_kindBy wsJ0_indexOf_0f7a4 := goodIn_r _ [5, 6, 7, 8, 4, 9, 10, 11, 12, 13, 14, 15, 16, 17, 18, 19, 20, 21, 22, 23, 24, 25, 26, 27, 28, 29, 30, 31, 32, 33, 34, 35, 36, 37, 38, 39, 40, 41, 42, 43, 44, 45, 46, 47, 48, 49, 50, 51, 52, 53, 54, 55, 56, 57, 58, 59, 60, 61, 62, 63, 64, 65, 66, 67, 68, 69, 70, 71, 72, 73, 74, 75, 76, 77, 78, 79, 80, 81, 82, 83, 84, 85, 86, 87, 88, 89] (by decide +kernel) (by decide +kernel)
set_option maxRecDepth 20000 in
theorem gX4_kindBy_J0_indexOf_0f7a4 : GoodIn wsX4_kindBy (wsV RX4 43 RJ0 yJ0_indexOf_0f7a4 wsJ0_indexOf_0f7a4) := goodIn_app (goodIn_of _ (by decide +kernel)) ggX4_kindBy_J0_indexOf_0f7a4
theorem dX4_kindBy_0 : decode cX4_kindBy 0 = .ok (.ldc 41, 2) := by decide +kernel
theorem dX4_kindBy_2 : decode cX4_kindBy 2 = .ok (.iload_n 0, 1) := by decide +kernel
theorem dX4_kindBy_3 : decode cX4_kindBy 3 = .ok (.i2c, 1) := by decide +kernel
theorem dX4_kindBy_4 : decode cX4_kindBy 4 = .ok (.invokevirtual 43, 3) := by decide +kernel
theorem dX4_kindBy_7 : decode cX4_kindBy 7 = .ok (.ireturn, 1) := by decide +kernel
set_option maxRecDepth 20000 in
theorem ggX5_init_X4_init : GoodIn wsX5_init wsX4_init := goodIn_r _ [27, 28, 2, 3, 29, 30, 31, 60, 61] (by decide +kernel) (by decide +kernel)
set_option maxRecDepth 20000 in
theorem gX5_init_X4_init : GoodIn wsX5_init (wsX4_init) := ggX5_init_X4_init
set_option maxRecDepth 20000 in
theorem ggX5_init_X2_init : GoodIn wsX5_init wsX2_init := goodIn_r _ [34, 35, 2, 3, 29, 36, 37, 38, 39, 40, 71, 72, 73, 74, 75] (by decide +kernel) (by decide +kernel)
set_option maxRecDepth 20000 in
theorem gX5_init_X2_init : GoodIn wsX5_init (wsX2_init) := ggX5_init_X2_init
set_option maxRecDepth 20000 in
theorem ggX5_init_X3_init : GoodIn wsX5_init wsX3_init := goodIn_r _ [43, 44, 2, 3, 45, 18, 19, 46, 29, 47, 48, 49, 50, 51, 52, 53, 54, 55, 56, 57, 58, 81, 82, 83, 84, 76, 77, 78, 79, 80] (by decide +kernel) (by decide +kernel)
set_option maxRecDepth 20000 in
theorem gX5_init_X3_init : GoodIn wsX5_init (wsX3_init) := ggX5_init_X3_init
set_option maxRecDepth 20000 in
theorem ggX5_init_X0_init : GoodIn wsX5_init wsX0_init := goodIn_r _ [53, 54, 2, 3, 29, 55, 56, 57, 58, 81, 82, 83, 84] (by decide +kernel) (by decide +kernel)
set_option maxRecDepth 20000 in
theorem gX5_init_X0_init : GoodIn wsX5_init (wsX0_init) := ggX5_init_X0_init
theorem dX5_init_0 : decode cX5_init 0 = .ok (.aload_n 0, 1) := by decide +kernel
theorem dX5_init_1 : decode cX5_init 1 = .ok (.invokespecial 1, 3) := by decide +kernel
theorem dX5_init_4 : decode cX5_init 4 = .ok (.aload_n 0, 1) := by decide +kernel
theorem dX5_init_5 : decode cX5_init 5 = .ok (.new 7, 3) := by decide +kernel
theorem dX5_init_8 : decode cX5_init 8 = .ok (.dup, 1) := by decide +kernel
theorem dX5_init_9 : decode cX5_init 9 = .ok (.invokespecial 9, 3) := by decide +kernel
theorem dX5_init_12 : decode cX5_init 12 = .ok (.putfield 10, 3) := by decide +kernel
theorem dX5_init_15 : decode cX5_init 15 = .ok (.aload_n 0, 1) := by decide +kernel
theorem dX5_init_16 : decode cX5_init 16 = .ok (.new 16, 3) := by decide +kernel
theorem dX5_init_19 : decode cX5_init 19 = .ok (.dup, 1) := by decide +kernel
theorem dX5_init_20 : decode cX5_init 20 = .ok (.invokespecial 18, 3) := by decide +kernel
theorem dX5_init_23 : decode cX5_init 23 = .ok (.putfield 19, 3) := by decide +kernel
theorem dX5_init_26 : decode cX5_init 26 = .ok (.aload_n 0, 1) := by decide +kernel
theorem dX5_init_27 : decode cX5_init 27 = .ok (.new 23, 3) := by decide +kernel
theorem dX5_init_30 : decode cX5_init 30 = .ok (.dup, 1) := by decide +kernel
theorem dX5_init_31 : decode cX5_init 31 = .ok (.invokespecial 25, 3) := by decide +kernel
theorem dX5_init_34 : decode cX5_init 34 = .ok (.putfield 26, 3) := by decide +kernel
theorem dX5_init_37 : decode cX5_init 37 = .ok (.aload_n 0, 1) := by decide +kernel
theorem dX5_init_38 : decode cX5_init 38 = .ok (.new 23, 3) := by decide +kernel
theorem dX5_init_41 : decode cX5_init 41 = .ok (.dup, 1) := by decide +kernel
theorem dX5_init_42 : decode cX5_init 42 = .ok (.invokespecial 25, 3) := by decide +kernel
theorem dX5_init_45 : decode cX5_init 45 = .ok (.putfield 30, 3) := by decide +kernel
theorem dX5_init_48 : decode cX5_init 48 = .ok (.aload_n 0, 1) := by decide +kernel
theorem dX5_init_49 : decode cX5_init 49 = .ok (.new 33, 3) := by decide +kernel
theorem dX5_init_52 : decode cX5_init 52 = .ok (.dup, 1) := by decide +kernel
theorem dX5_init_53 : decode cX5_init 53 = .ok (.invokespecial 35, 3) := by decide +kernel
theorem dX5_init_56 : decode cX5_init 56 = .ok (.putfield 36, 3) := by decide +kernel
theorem dX5_init_59 : decode cX5_init 59 = .ok (.aload_n 0, 1) := by decide +kernel
theorem dX5_init_60 : decode cX5_init 60 = .ok (.iconst 0, 1) := by decide +kernel
theorem dX5_init_61 : decode cX5_init 61 = .ok (.putfield 40, 3) := by decide +kernel
theorem dX5_init_64 : decode cX5_init 64 = .ok (.aload_n 0, 1) := by decide +kernel
theorem dX5_init_65 : decode cX5_init 65 = .ok (.iconst 0, 1) := by decide +kernel
theorem dX5_init_66 : decode cX5_init 66 = .ok (.putfield 44, 3) := by decide +kernel
theorem dX5_init_69 : decode cX5_init 69 = .ok (.aload_n 0, 1) := by decide +kernel
theorem dX5_init_70 : decode cX5_init 70 = .ok (.iconst 0, 1) := by decide +kernel
theorem dX5_init_71 : decode cX5_init 71 = .ok (.putfield 48, 3) := by decide +kernel
theorem dX5_init_74 : decode cX5_init 74 = .ok (.aload_n 0, 1) := by decide +kernel
theorem dX5_init_75 : decode cX5_init 75 = .ok (.iconst 0, 1) := by decide +kernel
theorem dX5_init_76 : decode cX5_init 76 = .ok (.putfield 51, 3) := by decide +kernel
theorem dX5_init_79 : decode cX5_init 79 = .ok (.return_, 1) := by decide +kernel
set_option maxRecDepth 20000 in
theorem ggX5_letter_X5_within : GoodIn wsX5_letter wsX5_within := goodIn_r _ [5] (by decide +kernel) (by decide +kernel)
set_option maxRecDepth 20000 in
theorem gX5_letter_X5_within : GoodIn wsX5_letter (va_wsS RX5 54 yX5_within wsX5_within) := goodIn_app (goodIn_of _ (by decide +kernel)) ggX5_letter_X5_within
set_option maxRecDepth 20000 in
theorem ggX5_letter_X4_write : GoodIn wsX5_letter wsX4_write := goodIn_r _ [10, 11, 12, 22, 23] (by decide +kernel) (by decide +kernel)
set_option maxRecDepth 20000 in
theorem gX5_letter_X4_write : GoodIn wsX5_letter (wsV RX5 58 RX4 yX4_write wsX4_write) := goodIn_app (goodIn_of _ (by decide +kernel)) ggX5_letter_X4_write
theorem dX5_letter_0 : decode cX5_letter 0 = .ok (.iload_n 1, 1) := by decide +kernel
theorem dX5_letter_1 : decode cX5_letter 1 = .ok (.iconst 1, 1) := by decide +kernel
theorem dX5_letter_2 : decode cX5_letter 2 = .ok (.bipush 126, 2) := by decide +kernel
theorem dX5_letter_4 : decode cX5_letter 4 = .ok (.invokestatic 54, 3) := by decide +kernel
theorem dX5_letter_7 : decode cX5_letter 7 = .ok (.ifCond .ne 6, 3) := by decide +kernel
theorem dX5_letter_10 : decode cX5_letter 10 = .ok (.bipush (-102), 2) := by decide +kernel
theorem dX5_letter_12 : decode cX5_letter 12 = .ok (.ireturn, 1) := by decide +kernel
theorem dX5_letter_13 : decode cX5_letter 13 = .ok (.aload_n 0, 1) := by decide +kernel
theorem dX5_letter_14 : decode cX5_letter 14 = .ok (.getfield 10, 3) := by decide +kernel
theorem dX5_letter_17 : decode cX5_letter 17 = .ok (.iload_n 1, 1) := by decide +kernel
theorem dX5_letter_18 : decode cX5_letter 18 = .ok (.invokevirtual 58, 3) := by decide +kernel
theorem dX5_letter_21 : decode cX5_letter 21 = .ok (.ifCond .eq 13, 3) := by decide +kernel
theorem dX5_letter_24 : decode cX5_letter 24 = .ok (.aload_n 0, 1) := by decide +kernel
theorem dX5_letter_25 : decode cX5_letter 25 = .ok (.getfield 10, 3) := by decide +kernel
theorem dX5_letter_28 : decode cX5_letter 28 = .ok (.getfield 62, 3) := by decide +kernel
theorem dX5_letter_31 : decode cX5_letter 31 = .ok (.goto 5, 3) := by decide +kernel
theorem dX5_letter_34 : decode cX5_letter 34 = .ok (.bipush (-104), 2) := by decide +kernel
theorem dX5_letter_36 : decode cX5_letter 36 = .ok (.ireturn, 1) := by decide +kernel
set_option maxRecDepth 20000 in
theorem ggX5_blank_X4_wipe : GoodIn wsX5_blank wsX4_wipe := goodIn_r _ [6, 7, 17, 18] (by decide +kernel) (by decide +kernel)
set_option maxRecDepth 20000 in
theorem gX5_blank_X4_wipe : GoodIn wsX5_blank (wsV RX5 65 RX4 yX4_wipe wsX4_wipe) := goodIn_app (goodIn_of _ (by decide +kernel)) ggX5_blank_X4_wipe
theorem dX5_blank_0 : decode cX5_blank 0 = .ok (.aload_n 0, 1) := by decide +kernel
theorem dX5_blank_1 : decode cX5_blank 1 = .ok (.getfield 10, 3) := by decide +kernel
theorem dX5_blank_4 : decode cX5_blank 4 = .ok (.getfield 62, 3) := by decide +kernel
theorem dX5_blank_7 : decode cX5_blank 7 = .ok (.istore_n 1, 1) := by decide +kernel
theorem dX5_blank_8 : decode cX5_blank 8 = .ok (.aload_n 0, 1) := by decide +kernel
theorem dX5_blank_9 : decode cX5_blank 9 = .ok (.getfield 10, 3) := by decide +kernel
theorem dX5_blank_12 : decode cX5_blank 12 = .ok (.invokevirtual 65, 3) := by decide +kernel
theorem dX5_blank_15 : decode cX5_blank 15 = .ok (.iload_n 1, 1) := by decide +kernel
theorem dX5_blank_16 : decode cX5_blank 16 = .ok (.ireturn, 1) := by decide +kernel
set_option maxRecDepth 20000 in
theorem ggX5_fault_X4_firstFault : GoodIn wsX5_fault wsX4_firstFault := goodIn_r _ [6, 7, 8, 9, 10, 5, 11, 12, 13, 14, 15, 16, 17, 18, 19, 20, 21, 22, 23, 24, 25, 26, 27, 28, 29, 30, 31, 32, 33, 34, 35, 36, 37, 38, 39, 40, 41, 42, 43, 44, 45, 46, 47, 48, 49, 50, 51, 52, 53, 54, 55, 56, 57, 58, 59, 60, 61, 62, 63, 64, 65, 66, 67, 68, 69, 70, 71, 72, 73, 74, 75, 76, 77, 78, 79, 80, 81, 82, 83, 84, 85, 86, 87, 88, 89, 90, 91, 92, 93, 94, 95, 96, 97, 98, 99, 100, 101, 102, 103, 104, 105, 106, 107, 108, 109, 110, 111, 112, 113, 114, 124, 125] (by decide +kernel) (by decide +kernel)
set_option maxRecDepth 20000 in
theorem gX5_fault_X4_firstFault : GoodIn wsX5_fault (wsV RX5 68 RX4 yX4_firstFault wsX4_firstFault) := goodIn_app (goodIn_of _ (by decide +kernel)) ggX5_fault_X4_firstFault
theorem dX5_fault_0 : decode cX5_fault 0 = .ok (.aload_n 0, 1) := by decide +kernel
theorem dX5_fault_1 : decode cX5_fault 1 = .ok (.getfield 10, 3) := by decide +kernel
theorem dX5_fault_4 : decode cX5_fault 4 = .ok (.invokevirtual 68, 3) := by decide +kernel
theorem dX5_fault_7 : decode cX5_fault 7 = .ok (.ireturn, 1) := by decide +kernel
set_option maxRecDepth 20000 in
theorem ggX5_hall_X4_isWhole : GoodIn wsX5_hall wsX4_isWhole := goodIn_r _ [10, 11, 12, 13, 14, 9, 15, 16, 17, 18, 19, 20, 21, 22, 23, 24, 25, 26, 27, 28, 29, 30, 31, 32, 33, 34, 35, 36, 37, 38, 39, 40, 41, 42, 43, 44, 45, 46, 47, 48, 49, 50, 51, 52, 53, 54, 55, 56, 57, 58, 59, 60, 61, 62, 63, 64, 65, 66, 67, 68, 69, 70, 71, 72, 73, 74, 75, 76, 77, 78, 79, 80, 81, 82, 83, 84, 85, 86, 87, 88, 89, 90, 91, 92, 93, 94, 95, 96, 97, 98, 99, 100, 101, 102, 103, 104, 105, 106, 107, 108, 109, 110, 111, 112, 113, 114, 115, 116, 117, 118, 119, 120, 121, 122, 171, 172] (by decide +kernel) (by decide +kernel)
set_option maxRecDepth 20000 in
theorem gX5_hall_X4_isWhole : GoodIn wsX5_hall (wsV RX5 72 RX4 yX4_isWhole wsX4_isWhole) := goodIn_app (goodIn_of _ (by decide +kernel)) ggX5_hall_X4_isWhole
set_option maxRecDepth 20000 in
theorem ggX5_hall_X2_read : GoodIn wsX5_hall wsX2_read := goodIn_r _ [127, 128, 64, 61, 65, 129, 130, 131, 132, 133, 134, 21, 22, 9, 23, 24, 25, 26, 27, 135, 29, 30, 31, 32, 33, 34, 35, 36, 37, 38, 39, 40, 41, 42, 43, 44, 45, 46, 47, 48, 49, 50, 51, 52, 53, 54, 55, 56, 57, 58, 59, 60, 62, 63, 66, 67, 68, 69, 70, 71, 72, 73, 74, 75, 76, 77, 78, 79, 80, 81, 82, 83, 84, 85, 86, 87, 88, 89, 90, 91, 92, 93, 94, 95, 96, 97, 98, 99, 100, 101, 102, 103, 104, 105, 106, 107, 108, 109, 110, 111, 112, 113, 114, 115, 116, 117, 118, 119, 171, 172, 166, 167, 168, 169, 170] (by decide +kernel) (by decide +kernel)
set_option maxRecDepth 20000 in
theorem gX5_hall_X2_read : GoodIn wsX5_hall (wsV RX5 76 RX2 yX2_read wsX2_read) := goodIn_app (goodIn_of _ (by decide +kernel)) ggX5_hall_X2_read
set_option maxRecDepth 20000 in
theorem ggX5_hall_X4_wipe : GoodIn wsX5_hall wsX4_wipe := goodIn_r _ [139, 11, 171, 172] (by decide +kernel) (by decide +kernel)
set_option maxRecDepth 20000 in
theorem gX5_hall_X4_wipe : GoodIn wsX5_hall (wsV RX5 65 RX4 yX4_wipe wsX4_wipe) := goodIn_app (goodIn_of _ (by decide +kernel)) ggX5_hall_X4_wipe
set_option maxRecDepth 20000 in
theorem ggX5_hall_X3_startIn : GoodIn wsX5_hall wsX3_startIn := goodIn_r _ [144, 145, 146, 147, 148, 149, 150, 151, 152, 153, 154, 155, 156, 173, 174, 175, 176, 177, 166, 167, 168, 169, 170, 178, 179, 180, 181] (by decide +kernel) (by decide +kernel)
set_option maxRecDepth 20000 in
theorem gX5_hall_X3_startIn : GoodIn wsX5_hall (wsV RX5 80 RX3 yX3_startIn wsX3_startIn) := goodIn_app (goodIn_of _ (by decide +kernel)) ggX5_hall_X3_startIn
theorem dX5_hall_0 : decode cX5_hall 0 = .ok (.aload_n 0, 1) := by decide +kernel
theorem dX5_hall_1 : decode cX5_hall 1 = .ok (.getfield 10, 3) := by decide +kernel
theorem dX5_hall_4 : decode cX5_hall 4 = .ok (.invokevirtual 72, 3) := by decide +kernel
theorem dX5_hall_7 : decode cX5_hall 7 = .ok (.ifCond .ne 6, 3) := by decide +kernel
theorem dX5_hall_10 : decode cX5_hall 10 = .ok (.bipush (-103), 2) := by decide +kernel
theorem dX5_hall_12 : decode cX5_hall 12 = .ok (.ireturn, 1) := by decide +kernel
theorem dX5_hall_13 : decode cX5_hall 13 = .ok (.aload_n 0, 1) := by decide +kernel
theorem dX5_hall_14 : decode cX5_hall 14 = .ok (.getfield 19, 3) := by decide +kernel
theorem dX5_hall_17 : decode cX5_hall 17 = .ok (.aload_n 0, 1) := by decide +kernel
theorem dX5_hall_18 : decode cX5_hall 18 = .ok (.getfield 10, 3) := by decide +kernel
theorem dX5_hall_21 : decode cX5_hall 21 = .ok (.invokevirtual 76, 3) := by decide +kernel
theorem dX5_hall_24 : decode cX5_hall 24 = .ok (.aload_n 0, 1) := by decide +kernel
theorem dX5_hall_25 : decode cX5_hall 25 = .ok (.getfield 10, 3) := by decide +kernel
theorem dX5_hall_28 : decode cX5_hall 28 = .ok (.invokevirtual 65, 3) := by decide +kernel
theorem dX5_hall_31 : decode cX5_hall 31 = .ok (.aload_n 0, 1) := by decide +kernel
theorem dX5_hall_32 : decode cX5_hall 32 = .ok (.getfield 26, 3) := by decide +kernel
theorem dX5_hall_35 : decode cX5_hall 35 = .ok (.aload_n 0, 1) := by decide +kernel
theorem dX5_hall_36 : decode cX5_hall 36 = .ok (.getfield 19, 3) := by decide +kernel
theorem dX5_hall_39 : decode cX5_hall 39 = .ok (.invokevirtual 80, 3) := by decide +kernel
theorem dX5_hall_42 : decode cX5_hall 42 = .ok (.aload_n 0, 1) := by decide +kernel
theorem dX5_hall_43 : decode cX5_hall 43 = .ok (.iconst 0, 1) := by decide +kernel
theorem dX5_hall_44 : decode cX5_hall 44 = .ok (.putfield 40, 3) := by decide +kernel
theorem dX5_hall_47 : decode cX5_hall 47 = .ok (.aload_n 0, 1) := by decide +kernel
theorem dX5_hall_48 : decode cX5_hall 48 = .ok (.dup, 1) := by decide +kernel
theorem dX5_hall_49 : decode cX5_hall 49 = .ok (.getfield 44, 3) := by decide +kernel
theorem dX5_hall_52 : decode cX5_hall 52 = .ok (.iconst 1, 1) := by decide +kernel
theorem dX5_hall_53 : decode cX5_hall 53 = .ok (.iadd, 1) := by decide +kernel
theorem dX5_hall_54 : decode cX5_hall 54 = .ok (.putfield 44, 3) := by decide +kernel
theorem dX5_hall_57 : decode cX5_hall 57 = .ok (.aload_n 0, 1) := by decide +kernel
theorem dX5_hall_58 : decode cX5_hall 58 = .ok (.getfield 19, 3) := by decide +kernel
theorem dX5_hall_61 : decode cX5_hall 61 = .ok (.getfield 84, 3) := by decide +kernel
theorem dX5_hall_64 : decode cX5_hall 64 = .ok (.ireturn, 1) := by decide +kernel
set_option maxRecDepth 20000 in
theorem ggX5_about_X2_has : GoodIn wsX5_about wsX2_has := goodIn_r _ [6, 7, 78, 79, 80, 81, 82] (by decide +kernel) (by decide +kernel)
set_option maxRecDepth 20000 in
theorem gX5_about_X2_has : GoodIn wsX5_about (wsV RX5 87 RX2 yX2_has wsX2_has) := goodIn_app (goodIn_of _ (by decide +kernel)) ggX5_about_X2_has
set_option maxRecDepth 20000 in
theorem ggX5_about_X5_within : GoodIn wsX5_about wsX5_within := goodIn_r _ [11] (by decide +kernel) (by decide +kernel)
set_option maxRecDepth 20000 in
theorem gX5_about_X5_within : GoodIn wsX5_about (va_wsS RX5 54 yX5_within wsX5_within) := goodIn_app (goodIn_of _ (by decide +kernel)) ggX5_about_X5_within
set_option maxRecDepth 20000 in
theorem ggX5_about_X5_aboutRow : GoodIn wsX5_about wsX5_aboutRow := goodIn_r _ [15, 16, 1, 17, 18, 19, 5, 20, 7, 21, 22, 23, 24, 25, 26, 27, 28, 29, 30, 31, 32, 33, 34, 35, 36, 37, 38, 39, 40, 41, 42, 43, 44, 45, 10, 46, 47, 48, 49, 50, 51, 52, 53, 54, 55, 56, 57, 58, 59, 60, 61, 62, 63, 64, 65, 66, 67, 68, 69, 70, 71, 72, 73, 74, 75, 76, 77, 83, 84, 85, 86, 87, 78, 79, 80, 81, 82, 88, 89, 90, 91] (by decide +kernel) (by decide +kernel)
set_option maxRecDepth 20000 in
theorem gX5_about_X5_aboutRow : GoodIn wsX5_about (wsV RX5 90 RX5 yX5_aboutRow wsX5_aboutRow) := goodIn_app (goodIn_of _ (by decide +kernel)) ggX5_about_X5_aboutRow
theorem dX5_about_0 : decode cX5_about 0 = .ok (.aload_n 0, 1) := by decide +kernel
theorem dX5_about_1 : decode cX5_about 1 = .ok (.getfield 19, 3) := by decide +kernel
theorem dX5_about_4 : decode cX5_about 4 = .ok (.iload_n 1, 1) := by decide +kernel
theorem dX5_about_5 : decode cX5_about 5 = .ok (.invokevirtual 87, 3) := by decide +kernel
theorem dX5_about_8 : decode cX5_about 8 = .ok (.ifCond .ne 6, 3) := by decide +kernel
theorem dX5_about_11 : decode cX5_about 11 = .ok (.bipush (-101), 2) := by decide +kernel
theorem dX5_about_13 : decode cX5_about 13 = .ok (.ireturn, 1) := by decide +kernel
theorem dX5_about_14 : decode cX5_about 14 = .ok (.iload_n 2, 1) := by decide +kernel
theorem dX5_about_15 : decode cX5_about 15 = .ok (.iconst 0, 1) := by decide +kernel
theorem dX5_about_16 : decode cX5_about 16 = .ok (.bipush 8, 2) := by decide +kernel
theorem dX5_about_18 : decode cX5_about 18 = .ok (.invokestatic 54, 3) := by decide +kernel
theorem dX5_about_21 : decode cX5_about 21 = .ok (.ifCond .eq 12, 3) := by decide +kernel
theorem dX5_about_24 : decode cX5_about 24 = .ok (.aload_n 0, 1) := by decide +kernel
theorem dX5_about_25 : decode cX5_about 25 = .ok (.iload_n 1, 1) := by decide +kernel
theorem dX5_about_26 : decode cX5_about 26 = .ok (.iload_n 2, 1) := by decide +kernel
theorem dX5_about_27 : decode cX5_about 27 = .ok (.invokevirtual 90, 3) := by decide +kernel
theorem dX5_about_30 : decode cX5_about 30 = .ok (.goto 5, 3) := by decide +kernel
theorem dX5_about_33 : decode cX5_about 33 = .ok (.bipush (-102), 2) := by decide +kernel
theorem dX5_about_35 : decode cX5_about 35 = .ok (.ireturn, 1) := by decide +kernel
set_option maxRecDepth 20000 in
theorem ggX5_as_X2_has : GoodIn wsX5_as wsX2_has := goodIn_r _ [6, 7, 30, 31, 32, 33, 34] (by decide +kernel) (by decide +kernel)
set_option maxRecDepth 20000 in
theorem gX5_as_X2_has : GoodIn wsX5_as (wsV RX5 87 RX2 yX2_has wsX2_has) := goodIn_app (goodIn_of _ (by decide +kernel)) ggX5_as_X2_has
set_option maxRecDepth 20000 in
theorem ggX5_as_X5_within : GoodIn wsX5_as wsX5_within := goodIn_r _ [11] (by decide +kernel) (by decide +kernel)
set_option maxRecDepth 20000 in
theorem gX5_as_X5_within : GoodIn wsX5_as (va_wsS RX5 54 yX5_within wsX5_within) := goodIn_app (goodIn_of _ (by decide +kernel)) ggX5_as_X5_within
set_option maxRecDepth 20000 in
theorem ggX5_as_X2_isOf : GoodIn wsX5_as wsX2_isOf := goodIn_r _ [15, 16, 17, 18, 5, 19, 7, 20, 30, 31, 32, 33, 34] (by decide +kernel) (by decide +kernel)
set_option maxRecDepth 20000 in
theorem gX5_as_X2_isOf : GoodIn wsX5_as (wsV RX5 94 RX2 yX2_isOf wsX2_isOf) := goodIn_app (goodIn_of _ (by decide +kernel)) ggX5_as_X2_isOf
theorem dX5_as_0 : decode cX5_as 0 = .ok (.aload_n 0, 1) := by decide +kernel
theorem dX5_as_1 : decode cX5_as 1 = .ok (.getfield 19, 3) := by decide +kernel
theorem dX5_as_4 : decode cX5_as 4 = .ok (.iload_n 1, 1) := by decide +kernel
theorem dX5_as_5 : decode cX5_as 5 = .ok (.invokevirtual 87, 3) := by decide +kernel
theorem dX5_as_8 : decode cX5_as 8 = .ok (.ifCond .ne 6, 3) := by decide +kernel
theorem dX5_as_11 : decode cX5_as 11 = .ok (.bipush (-101), 2) := by decide +kernel
theorem dX5_as_13 : decode cX5_as 13 = .ok (.ireturn, 1) := by decide +kernel
theorem dX5_as_14 : decode cX5_as 14 = .ok (.iload_n 2, 1) := by decide +kernel
theorem dX5_as_15 : decode cX5_as 15 = .ok (.iconst 0, 1) := by decide +kernel
theorem dX5_as_16 : decode cX5_as 16 = .ok (.iconst 4, 1) := by decide +kernel
theorem dX5_as_17 : decode cX5_as 17 = .ok (.invokestatic 54, 3) := by decide +kernel
theorem dX5_as_20 : decode cX5_as 20 = .ok (.ifCond .ne 6, 3) := by decide +kernel
theorem dX5_as_23 : decode cX5_as 23 = .ok (.bipush (-102), 2) := by decide +kernel
theorem dX5_as_25 : decode cX5_as 25 = .ok (.ireturn, 1) := by decide +kernel
theorem dX5_as_26 : decode cX5_as 26 = .ok (.aload_n 0, 1) := by decide +kernel
theorem dX5_as_27 : decode cX5_as 27 = .ok (.getfield 19, 3) := by decide +kernel
theorem dX5_as_30 : decode cX5_as 30 = .ok (.iload_n 1, 1) := by decide +kernel
theorem dX5_as_31 : decode cX5_as 31 = .ok (.iload_n 2, 1) := by decide +kernel
theorem dX5_as_32 : decode cX5_as 32 = .ok (.invokevirtual 94, 3) := by decide +kernel
theorem dX5_as_35 : decode cX5_as 35 = .ok (.ifCond .eq 7, 3) := by decide +kernel
theorem dX5_as_38 : decode cX5_as 38 = .ok (.iload_n 1, 1) := by decide +kernel
theorem dX5_as_39 : decode cX5_as 39 = .ok (.goto 4, 3) := by decide +kernel
theorem dX5_as_42 : decode cX5_as 42 = .ok (.iconst (-1), 1) := by decide +kernel
theorem dX5_as_43 : decode cX5_as 43 = .ok (.ireturn, 1) := by decide +kernel
set_option maxRecDepth 20000 in
theorem ggX5_clap_X2_has : GoodIn wsX5_clap wsX2_has := goodIn_r _ [7, 8, 50, 51, 52, 53, 54] (by decide +kernel) (by decide +kernel)
set_option maxRecDepth 20000 in
theorem gX5_clap_X2_has : GoodIn wsX5_clap (wsV RX5 87 RX2 yX2_has wsX2_has) := goodIn_app (goodIn_of _ (by decide +kernel)) ggX5_clap_X2_has
set_option maxRecDepth 20000 in
theorem ggX5_clap_X5_within : GoodIn wsX5_clap wsX5_within := goodIn_r _ [12] (by decide +kernel) (by decide +kernel)
set_option maxRecDepth 20000 in
theorem gX5_clap_X5_within : GoodIn wsX5_clap (va_wsS RX5 54 yX5_within wsX5_within) := goodIn_app (goodIn_of _ (by decide +kernel)) ggX5_clap_X5_within
set_option maxRecDepth 20000 in
theorem ggX5_clap_X0_soundOf : GoodIn wsX5_clap wsX0_soundOf := goodIn_r _ [17, 18, 55, 56, 57, 58] (by decide +kernel) (by decide +kernel)
set_option maxRecDepth 20000 in
theorem gX5_clap_X0_soundOf : GoodIn wsX5_clap (wsV RX5 101 RX0 yX0_soundOf wsX0_soundOf) := goodIn_app (goodIn_of _ (by decide +kernel)) ggX5_clap_X0_soundOf
set_option maxRecDepth 20000 in
theorem ggX5_clap_X5_heard : GoodIn wsX5_clap wsX5_heard := goodIn_r _ [22, 1, 23, 24, 25, 6, 26, 27, 28, 29, 11, 30, 36, 37, 38, 39, 40, 41, 42, 43, 44, 50, 51, 52, 53, 54] (by decide +kernel) (by decide +kernel)
set_option maxRecDepth 20000 in
theorem gX5_clap_X5_heard : GoodIn wsX5_clap (wsV RX5 105 RX5 yX5_heard wsX5_heard) := goodIn_app (goodIn_of _ (by decide +kernel)) ggX5_clap_X5_heard
set_option maxRecDepth 20000 in
theorem ggX5_clap_X0_let : GoodIn wsX5_clap wsX0_let := goodIn_r _ [34, 18, 35, 55, 56, 57, 58] (by decide +kernel) (by decide +kernel)
set_option maxRecDepth 20000 in
theorem gX5_clap_X0_let : GoodIn wsX5_clap (wsV RX5 108 RX0 yX0_let wsX0_let) := goodIn_app (goodIn_of _ (by decide +kernel)) ggX5_clap_X0_let
theorem dX5_clap_0 : decode cX5_clap 0 = .ok (.aload_n 0, 1) := by decide +kernel
theorem dX5_clap_1 : decode cX5_clap 1 = .ok (.getfield 19, 3) := by decide +kernel
theorem dX5_clap_4 : decode cX5_clap 4 = .ok (.iload_n 1, 1) := by decide +kernel
theorem dX5_clap_5 : decode cX5_clap 5 = .ok (.invokevirtual 87, 3) := by decide +kernel
theorem dX5_clap_8 : decode cX5_clap 8 = .ok (.ifCond .ne 6, 3) := by decide +kernel
theorem dX5_clap_11 : decode cX5_clap 11 = .ok (.bipush (-101), 2) := by decide +kernel
theorem dX5_clap_13 : decode cX5_clap 13 = .ok (.ireturn, 1) := by decide +kernel
theorem dX5_clap_14 : decode cX5_clap 14 = .ok (.iload_n 2, 1) := by decide +kernel
theorem dX5_clap_15 : decode cX5_clap 15 = .ok (.iconst 0, 1) := by decide +kernel
theorem dX5_clap_16 : decode cX5_clap 16 = .ok (.iconst 3, 1) := by decide +kernel
theorem dX5_clap_17 : decode cX5_clap 17 = .ok (.invokestatic 54, 3) := by decide +kernel
theorem dX5_clap_20 : decode cX5_clap 20 = .ok (.ifCond .ne 6, 3) := by decide +kernel
theorem dX5_clap_23 : decode cX5_clap 23 = .ok (.bipush (-102), 2) := by decide +kernel
theorem dX5_clap_25 : decode cX5_clap 25 = .ok (.ireturn, 1) := by decide +kernel
theorem dX5_clap_26 : decode cX5_clap 26 = .ok (.aload_n 0, 1) := by decide +kernel
theorem dX5_clap_27 : decode cX5_clap 27 = .ok (.iload_n 1, 1) := by decide +kernel
theorem dX5_clap_28 : decode cX5_clap 28 = .ok (.aload_n 0, 1) := by decide +kernel
theorem dX5_clap_29 : decode cX5_clap 29 = .ok (.getfield 26, 3) := by decide +kernel
theorem dX5_clap_32 : decode cX5_clap 32 = .ok (.getfield 98, 3) := by decide +kernel
theorem dX5_clap_35 : decode cX5_clap 35 = .ok (.iload_n 1, 1) := by decide +kernel
theorem dX5_clap_36 : decode cX5_clap 36 = .ok (.invokevirtual 101, 3) := by decide +kernel
theorem dX5_clap_39 : decode cX5_clap 39 = .ok (.invokevirtual 105, 3) := by decide +kernel
theorem dX5_clap_42 : decode cX5_clap 42 = .ok (.istore_n 3, 1) := by decide +kernel
theorem dX5_clap_43 : decode cX5_clap 43 = .ok (.aload_n 0, 1) := by decide +kernel
theorem dX5_clap_44 : decode cX5_clap 44 = .ok (.getfield 26, 3) := by decide +kernel
theorem dX5_clap_47 : decode cX5_clap 47 = .ok (.getfield 98, 3) := by decide +kernel
theorem dX5_clap_50 : decode cX5_clap 50 = .ok (.iload_n 1, 1) := by decide +kernel
theorem dX5_clap_51 : decode cX5_clap 51 = .ok (.aload_n 0, 1) := by decide +kernel
theorem dX5_clap_52 : decode cX5_clap 52 = .ok (.iload_n 1, 1) := by decide +kernel
theorem dX5_clap_53 : decode cX5_clap 53 = .ok (.iload_n 2, 1) := by decide +kernel
theorem dX5_clap_54 : decode cX5_clap 54 = .ok (.invokevirtual 105, 3) := by decide +kernel
theorem dX5_clap_57 : decode cX5_clap 57 = .ok (.invokevirtual 108, 3) := by decide +kernel
theorem dX5_clap_60 : decode cX5_clap 60 = .ok (.iload_n 3, 1) := by decide +kernel
theorem dX5_clap_61 : decode cX5_clap 61 = .ok (.ireturn, 1) := by decide +kernel
set_option maxRecDepth 20000 in
theorem ggX5_arm_X5_within : GoodIn wsX5_arm wsX5_within := goodIn_r _ [6] (by decide +kernel) (by decide +kernel)
set_option maxRecDepth 20000 in
theorem gX5_arm_X5_within : GoodIn wsX5_arm (va_wsS RX5 54 yX5_within wsX5_within) := goodIn_app (goodIn_of _ (by decide +kernel)) ggX5_arm_X5_within
set_option maxRecDepth 20000 in
theorem ggX5_arm_X2_isThere : GoodIn wsX5_arm wsX2_isThere := goodIn_r _ [11, 12, 31, 32, 33, 34, 35] (by decide +kernel) (by decide +kernel)
set_option maxRecDepth 20000 in
theorem gX5_arm_X2_isThere : GoodIn wsX5_arm (wsV RX5 112 RX2 yX2_isThere wsX2_isThere) := goodIn_app (goodIn_of _ (by decide +kernel)) ggX5_arm_X2_isThere
theorem dX5_arm_0 : decode cX5_arm 0 = .ok (.iload_n 1, 1) := by decide +kernel
theorem dX5_arm_1 : decode cX5_arm 1 = .ok (.iconst 0, 1) := by decide +kernel
theorem dX5_arm_2 : decode cX5_arm 2 = .ok (.bipush 8, 2) := by decide +kernel
theorem dX5_arm_4 : decode cX5_arm 4 = .ok (.invokestatic 54, 3) := by decide +kernel
theorem dX5_arm_7 : decode cX5_arm 7 = .ok (.ifCond .ne 6, 3) := by decide +kernel
theorem dX5_arm_10 : decode cX5_arm 10 = .ok (.bipush (-102), 2) := by decide +kernel
theorem dX5_arm_12 : decode cX5_arm 12 = .ok (.ireturn, 1) := by decide +kernel
theorem dX5_arm_13 : decode cX5_arm 13 = .ok (.aload_n 0, 1) := by decide +kernel
theorem dX5_arm_14 : decode cX5_arm 14 = .ok (.getfield 19, 3) := by decide +kernel
theorem dX5_arm_17 : decode cX5_arm 17 = .ok (.invokevirtual 112, 3) := by decide +kernel
theorem dX5_arm_20 : decode cX5_arm 20 = .ok (.ifCond .ne 6, 3) := by decide +kernel
theorem dX5_arm_23 : decode cX5_arm 23 = .ok (.bipush (-103), 2) := by decide +kernel
theorem dX5_arm_25 : decode cX5_arm 25 = .ok (.ireturn, 1) := by decide +kernel
theorem dX5_arm_26 : decode cX5_arm 26 = .ok (.aload_n 0, 1) := by decide +kernel
theorem dX5_arm_27 : decode cX5_arm 27 = .ok (.getfield 26, 3) := by decide +kernel
theorem dX5_arm_30 : decode cX5_arm 30 = .ok (.getfield 98, 3) := by decide +kernel
theorem dX5_arm_33 : decode cX5_arm 33 = .ok (.getfield 115, 3) := by decide +kernel
theorem dX5_arm_36 : decode cX5_arm 36 = .ok (.istore_n 2, 1) := by decide +kernel
theorem dX5_arm_37 : decode cX5_arm 37 = .ok (.aload_n 0, 1) := by decide +kernel
theorem dX5_arm_38 : decode cX5_arm 38 = .ok (.getfield 26, 3) := by decide +kernel
theorem dX5_arm_41 : decode cX5_arm 41 = .ok (.getfield 98, 3) := by decide +kernel
theorem dX5_arm_44 : decode cX5_arm 44 = .ok (.iload_n 1, 1) := by decide +kernel
theorem dX5_arm_45 : decode cX5_arm 45 = .ok (.putfield 115, 3) := by decide +kernel
theorem dX5_arm_48 : decode cX5_arm 48 = .ok (.iload_n 2, 1) := by decide +kernel
theorem dX5_arm_49 : decode cX5_arm 49 = .ok (.ireturn, 1) := by decide +kernel
set_option maxRecDepth 20000 in
theorem ggX5_bar_X2_isThere : GoodIn wsX5_bar wsX2_isThere := goodIn_r _ [7, 8, 91, 92, 93, 94, 95] (by decide +kernel) (by decide +kernel)
set_option maxRecDepth 20000 in
theorem gX5_bar_X2_isThere : GoodIn wsX5_bar (wsV RX5 112 RX2 yX2_isThere wsX2_isThere) := goodIn_app (goodIn_of _ (by decide +kernel)) ggX5_bar_X2_isThere
set_option maxRecDepth 20000 in
theorem ggX5_bar_X0_goOn : GoodIn wsX5_bar wsX0_goOn := goodIn_r _ [13, 14, 15, 16, 17, 18, 19, 12, 20, 21, 22, 23, 24, 25, 26, 27, 6, 28, 8, 29, 30, 31, 32, 33, 34, 35, 36, 37, 38, 39, 40, 41, 42, 43, 44, 45, 46, 47, 48, 49, 50, 51, 52, 53, 54, 55, 56, 57, 58, 59, 60, 61, 62, 63, 64, 65, 66, 67, 91, 92, 93, 94, 95, 96, 97, 98, 99] (by decide +kernel) (by decide +kernel)
set_option maxRecDepth 20000 in
theorem gX5_bar_X0_goOn : GoodIn wsX5_bar (wsV RX5 118 RX0 yX0_goOn wsX0_goOn) := goodIn_app (goodIn_of _ (by decide +kernel)) ggX5_bar_X0_goOn
set_option maxRecDepth 20000 in
theorem ggX5_bar_X0_palmsRight : GoodIn wsX5_bar wsX0_palmsRight := goodIn_r _ [71, 15, 72, 73, 74, 6, 75, 8, 76, 91, 92, 93, 94, 95, 96, 97, 98, 99] (by decide +kernel) (by decide +kernel)
set_option maxRecDepth 20000 in
theorem gX5_bar_X0_palmsRight : GoodIn wsX5_bar (wsV RX5 125 RX0 yX0_palmsRight wsX0_palmsRight) := goodIn_app (goodIn_of _ (by decide +kernel)) ggX5_bar_X0_palmsRight
theorem dX5_bar_0 : decode cX5_bar 0 = .ok (.aload_n 0, 1) := by decide +kernel
theorem dX5_bar_1 : decode cX5_bar 1 = .ok (.getfield 19, 3) := by decide +kernel
theorem dX5_bar_4 : decode cX5_bar 4 = .ok (.invokevirtual 112, 3) := by decide +kernel
theorem dX5_bar_7 : decode cX5_bar 7 = .ok (.ifCond .ne 6, 3) := by decide +kernel
theorem dX5_bar_10 : decode cX5_bar 10 = .ok (.bipush (-103), 2) := by decide +kernel
theorem dX5_bar_12 : decode cX5_bar 12 = .ok (.ireturn, 1) := by decide +kernel
theorem dX5_bar_13 : decode cX5_bar 13 = .ok (.aload_n 0, 1) := by decide +kernel
theorem dX5_bar_14 : decode cX5_bar 14 = .ok (.getfield 26, 3) := by decide +kernel
theorem dX5_bar_17 : decode cX5_bar 17 = .ok (.getfield 98, 3) := by decide +kernel
theorem dX5_bar_20 : decode cX5_bar 20 = .ok (.aload_n 0, 1) := by decide +kernel
theorem dX5_bar_21 : decode cX5_bar 21 = .ok (.getfield 19, 3) := by decide +kernel
theorem dX5_bar_24 : decode cX5_bar 24 = .ok (.invokevirtual 118, 3) := by decide +kernel
theorem dX5_bar_27 : decode cX5_bar 27 = .ok (.pop, 1) := by decide +kernel
theorem dX5_bar_28 : decode cX5_bar 28 = .ok (.aload_n 0, 1) := by decide +kernel
theorem dX5_bar_29 : decode cX5_bar 29 = .ok (.getfield 26, 3) := by decide +kernel
theorem dX5_bar_32 : decode cX5_bar 32 = .ok (.dup, 1) := by decide +kernel
theorem dX5_bar_33 : decode cX5_bar 33 = .ok (.getfield 122, 3) := by decide +kernel
theorem dX5_bar_36 : decode cX5_bar 36 = .ok (.iconst 1, 1) := by decide +kernel
theorem dX5_bar_37 : decode cX5_bar 37 = .ok (.iadd, 1) := by decide +kernel
theorem dX5_bar_38 : decode cX5_bar 38 = .ok (.putfield 122, 3) := by decide +kernel
theorem dX5_bar_41 : decode cX5_bar 41 = .ok (.aload_n 0, 1) := by decide +kernel
theorem dX5_bar_42 : decode cX5_bar 42 = .ok (.getfield 26, 3) := by decide +kernel
theorem dX5_bar_45 : decode cX5_bar 45 = .ok (.getfield 98, 3) := by decide +kernel
theorem dX5_bar_48 : decode cX5_bar 48 = .ok (.aload_n 0, 1) := by decide +kernel
theorem dX5_bar_49 : decode cX5_bar 49 = .ok (.getfield 19, 3) := by decide +kernel
theorem dX5_bar_52 : decode cX5_bar 52 = .ok (.invokevirtual 125, 3) := by decide +kernel
theorem dX5_bar_55 : decode cX5_bar 55 = .ok (.ireturn, 1) := by decide +kernel
set_option maxRecDepth 20000 in
theorem ggX5_skip_X2_isThere : GoodIn wsX5_skip wsX2_isThere := goodIn_r _ [7, 8, 46, 47, 48, 49, 50] (by decide +kernel) (by decide +kernel)
set_option maxRecDepth 20000 in
theorem gX5_skip_X2_isThere : GoodIn wsX5_skip (wsV RX5 112 RX2 yX2_isThere wsX2_isThere) := goodIn_app (goodIn_of _ (by decide +kernel)) ggX5_skip_X2_isThere
set_option maxRecDepth 20000 in
theorem ggX5_skip_X0_leaveBeatOut : GoodIn wsX5_skip wsX0_leaveBeatOut := goodIn_r _ [13, 14, 15, 16, 17, 6, 18, 8, 19, 20, 21, 22, 46, 47, 48, 49, 50, 51, 52, 53, 54] (by decide +kernel) (by decide +kernel)
set_option maxRecDepth 20000 in
theorem gX5_skip_X0_leaveBeatOut : GoodIn wsX5_skip (wsV RX5 129 RX0 yX0_leaveBeatOut wsX0_leaveBeatOut) := goodIn_app (goodIn_of _ (by decide +kernel)) ggX5_skip_X0_leaveBeatOut
set_option maxRecDepth 20000 in
theorem ggX5_skip_X0_palmsRight : GoodIn wsX5_skip wsX0_palmsRight := goodIn_r _ [26, 14, 27, 28, 29, 6, 30, 8, 31, 46, 47, 48, 49, 50, 51, 52, 53, 54] (by decide +kernel) (by decide +kernel)
set_option maxRecDepth 20000 in
theorem gX5_skip_X0_palmsRight : GoodIn wsX5_skip (wsV RX5 125 RX0 yX0_palmsRight wsX0_palmsRight) := goodIn_app (goodIn_of _ (by decide +kernel)) ggX5_skip_X0_palmsRight
theorem dX5_skip_0 : decode cX5_skip 0 = .ok (.aload_n 0, 1) := by decide +kernel
theorem dX5_skip_1 : decode cX5_skip 1 = .ok (.getfield 19, 3) := by decide +kernel
theorem dX5_skip_4 : decode cX5_skip 4 = .ok (.invokevirtual 112, 3) := by decide +kernel
theorem dX5_skip_7 : decode cX5_skip 7 = .ok (.ifCond .ne 6, 3) := by decide +kernel
theorem dX5_skip_10 : decode cX5_skip 10 = .ok (.bipush (-103), 2) := by decide +kernel
theorem dX5_skip_12 : decode cX5_skip 12 = .ok (.ireturn, 1) := by decide +kernel
theorem dX5_skip_13 : decode cX5_skip 13 = .ok (.aload_n 0, 1) := by decide +kernel
theorem dX5_skip_14 : decode cX5_skip 14 = .ok (.getfield 26, 3) := by decide +kernel
theorem dX5_skip_17 : decode cX5_skip 17 = .ok (.getfield 98, 3) := by decide +kernel
theorem dX5_skip_20 : decode cX5_skip 20 = .ok (.aload_n 0, 1) := by decide +kernel
theorem dX5_skip_21 : decode cX5_skip 21 = .ok (.getfield 19, 3) := by decide +kernel
theorem dX5_skip_24 : decode cX5_skip 24 = .ok (.invokevirtual 129, 3) := by decide +kernel
theorem dX5_skip_27 : decode cX5_skip 27 = .ok (.aload_n 0, 1) := by decide +kernel
theorem dX5_skip_28 : decode cX5_skip 28 = .ok (.getfield 26, 3) := by decide +kernel
theorem dX5_skip_31 : decode cX5_skip 31 = .ok (.dup, 1) := by decide +kernel
theorem dX5_skip_32 : decode cX5_skip 32 = .ok (.getfield 132, 3) := by decide +kernel
theorem dX5_skip_35 : decode cX5_skip 35 = .ok (.iconst 1, 1) := by decide +kernel
theorem dX5_skip_36 : decode cX5_skip 36 = .ok (.iadd, 1) := by decide +kernel
theorem dX5_skip_37 : decode cX5_skip 37 = .ok (.putfield 132, 3) := by decide +kernel
theorem dX5_skip_40 : decode cX5_skip 40 = .ok (.aload_n 0, 1) := by decide +kernel
theorem dX5_skip_41 : decode cX5_skip 41 = .ok (.getfield 26, 3) := by decide +kernel
theorem dX5_skip_44 : decode cX5_skip 44 = .ok (.getfield 98, 3) := by decide +kernel
theorem dX5_skip_47 : decode cX5_skip 47 = .ok (.aload_n 0, 1) := by decide +kernel
theorem dX5_skip_48 : decode cX5_skip 48 = .ok (.getfield 19, 3) := by decide +kernel
theorem dX5_skip_51 : decode cX5_skip 51 = .ok (.invokevirtual 125, 3) := by decide +kernel
theorem dX5_skip_54 : decode cX5_skip 54 = .ok (.ireturn, 1) := by decide +kernel
set_option maxRecDepth 20000 in
theorem ggX5_loud_X2_has : GoodIn wsX5_loud wsX2_has := goodIn_r _ [7, 8, 37, 38, 39, 40, 41] (by decide +kernel) (by decide +kernel)
set_option maxRecDepth 20000 in
theorem gX5_loud_X2_has : GoodIn wsX5_loud (wsV RX5 87 RX2 yX2_has wsX2_has) := goodIn_app (goodIn_of _ (by decide +kernel)) ggX5_loud_X2_has
set_option maxRecDepth 20000 in
theorem ggX5_loud_X5_within : GoodIn wsX5_loud wsX5_within := goodIn_r _ [12] (by decide +kernel) (by decide +kernel)
set_option maxRecDepth 20000 in
theorem gX5_loud_X5_within : GoodIn wsX5_loud (va_wsS RX5 54 yX5_within wsX5_within) := goodIn_app (goodIn_of _ (by decide +kernel)) ggX5_loud_X5_within
set_option maxRecDepth 20000 in
theorem ggX5_loud_X0_loudness : GoodIn wsX5_loud wsX0_loudness := goodIn_r _ [17, 18, 19, 20, 16, 21, 22, 37, 38, 39, 40, 41, 42, 43, 44, 45] (by decide +kernel) (by decide +kernel)
set_option maxRecDepth 20000 in
theorem gX5_loud_X0_loudness : GoodIn wsX5_loud (wsV RX5 135 RX0 yX0_loudness wsX0_loudness) := goodIn_app (goodIn_of _ (by decide +kernel)) ggX5_loud_X0_loudness
theorem dX5_loud_0 : decode cX5_loud 0 = .ok (.aload_n 0, 1) := by decide +kernel
theorem dX5_loud_1 : decode cX5_loud 1 = .ok (.getfield 19, 3) := by decide +kernel
theorem dX5_loud_4 : decode cX5_loud 4 = .ok (.iload_n 1, 1) := by decide +kernel
theorem dX5_loud_5 : decode cX5_loud 5 = .ok (.invokevirtual 87, 3) := by decide +kernel
theorem dX5_loud_8 : decode cX5_loud 8 = .ok (.ifCond .ne 6, 3) := by decide +kernel
theorem dX5_loud_11 : decode cX5_loud 11 = .ok (.bipush (-101), 2) := by decide +kernel
theorem dX5_loud_13 : decode cX5_loud 13 = .ok (.ireturn, 1) := by decide +kernel
theorem dX5_loud_14 : decode cX5_loud 14 = .ok (.iload_n 2, 1) := by decide +kernel
theorem dX5_loud_15 : decode cX5_loud 15 = .ok (.iconst 0, 1) := by decide +kernel
theorem dX5_loud_16 : decode cX5_loud 16 = .ok (.iconst 3, 1) := by decide +kernel
theorem dX5_loud_17 : decode cX5_loud 17 = .ok (.invokestatic 54, 3) := by decide +kernel
theorem dX5_loud_20 : decode cX5_loud 20 = .ok (.ifCond .eq 22, 3) := by decide +kernel
theorem dX5_loud_23 : decode cX5_loud 23 = .ok (.aload_n 0, 1) := by decide +kernel
theorem dX5_loud_24 : decode cX5_loud 24 = .ok (.getfield 26, 3) := by decide +kernel
theorem dX5_loud_27 : decode cX5_loud 27 = .ok (.getfield 98, 3) := by decide +kernel
theorem dX5_loud_30 : decode cX5_loud 30 = .ok (.aload_n 0, 1) := by decide +kernel
theorem dX5_loud_31 : decode cX5_loud 31 = .ok (.getfield 19, 3) := by decide +kernel
theorem dX5_loud_34 : decode cX5_loud 34 = .ok (.iload_n 1, 1) := by decide +kernel
theorem dX5_loud_35 : decode cX5_loud 35 = .ok (.iload_n 2, 1) := by decide +kernel
theorem dX5_loud_36 : decode cX5_loud 36 = .ok (.invokevirtual 135, 3) := by decide +kernel
theorem dX5_loud_39 : decode cX5_loud 39 = .ok (.goto 5, 3) := by decide +kernel
theorem dX5_loud_42 : decode cX5_loud 42 = .ok (.bipush (-102), 2) := by decide +kernel
theorem dX5_loud_44 : decode cX5_loud 44 = .ok (.ireturn, 1) := by decide +kernel
set_option maxRecDepth 20000 in
theorem ggX5_rest_X2_isThere : GoodIn wsX5_rest wsX2_isThere := goodIn_r _ [6, 7, 86, 87, 88, 89, 90] (by decide +kernel) (by decide +kernel)
set_option maxRecDepth 20000 in
theorem gX5_rest_X2_isThere : GoodIn wsX5_rest (wsV RX5 112 RX2 yX2_isThere wsX2_isThere) := goodIn_app (goodIn_of _ (by decide +kernel)) ggX5_rest_X2_isThere
set_option maxRecDepth 20000 in
theorem ggX5_rest_X5_barsToRest : GoodIn wsX5_rest wsX5_barsToRest := goodIn_r _ [12, 13, 14, 1, 15, 16, 17, 18, 19, 20, 21, 22, 23, 24, 25, 26, 27, 28, 29, 30, 31, 32, 33, 34, 35, 36, 37, 38, 5, 39, 7, 40, 41, 42, 43, 44, 45, 46, 47, 48, 49, 50, 51, 52, 53, 54, 55, 56, 57, 58, 59, 60, 61, 62, 63, 64, 65, 66, 67, 68, 69, 70, 71, 72, 73, 74, 75, 11, 76, 77, 78, 79, 80, 81, 82, 83, 84, 85, 91, 92, 93, 94, 95, 96, 97, 98, 99, 86, 87, 88, 89, 90] (by decide +kernel) (by decide +kernel)
set_option maxRecDepth 20000 in
theorem gX5_rest_X5_barsToRest : GoodIn wsX5_rest (wsV RX5 139 RX5 yX5_barsToRest wsX5_barsToRest) := goodIn_app (goodIn_of _ (by decide +kernel)) ggX5_rest_X5_barsToRest
theorem dX5_rest_0 : decode cX5_rest 0 = .ok (.aload_n 0, 1) := by decide +kernel
theorem dX5_rest_1 : decode cX5_rest 1 = .ok (.getfield 19, 3) := by decide +kernel
theorem dX5_rest_4 : decode cX5_rest 4 = .ok (.invokevirtual 112, 3) := by decide +kernel
theorem dX5_rest_7 : decode cX5_rest 7 = .ok (.ifCond .eq 10, 3) := by decide +kernel
theorem dX5_rest_10 : decode cX5_rest 10 = .ok (.aload_n 0, 1) := by decide +kernel
theorem dX5_rest_11 : decode cX5_rest 11 = .ok (.invokevirtual 139, 3) := by decide +kernel
theorem dX5_rest_14 : decode cX5_rest 14 = .ok (.goto 5, 3) := by decide +kernel
theorem dX5_rest_17 : decode cX5_rest 17 = .ok (.bipush (-103), 2) := by decide +kernel
theorem dX5_rest_19 : decode cX5_rest 19 = .ok (.ireturn, 1) := by decide +kernel
set_option maxRecDepth 20000 in
theorem ggX5_outcome_X5_within : GoodIn wsX5_outcome wsX5_within := goodIn_r _ [5] (by decide +kernel) (by decide +kernel)
set_option maxRecDepth 20000 in
theorem gX5_outcome_X5_within : GoodIn wsX5_outcome (va_wsS RX5 54 yX5_within wsX5_within) := goodIn_app (goodIn_of _ (by decide +kernel)) ggX5_outcome_X5_within
set_option maxRecDepth 20000 in
theorem ggX5_outcome_X2_isThere : GoodIn wsX5_outcome wsX2_isThere := goodIn_r _ [10, 11, 104, 105, 106, 107, 108] (by decide +kernel) (by decide +kernel)
set_option maxRecDepth 20000 in
theorem gX5_outcome_X2_isThere : GoodIn wsX5_outcome (wsV RX5 112 RX2 yX2_isThere wsX2_isThere) := goodIn_app (goodIn_of _ (by decide +kernel)) ggX5_outcome_X2_isThere
set_option maxRecDepth 20000 in
theorem ggX5_outcome_X5_rightBehind : GoodIn wsX5_outcome wsX5_rightBehind := goodIn_r _ [15, 16, 17, 1, 18, 19, 20, 21, 22, 23, 24, 25, 26, 27, 28, 29, 30, 31, 32, 9, 33, 11, 34, 35, 4, 36, 37, 38, 39, 40, 41, 42, 43, 44, 45, 46, 47, 48, 49, 50, 51, 52, 53, 54, 55, 56, 57, 58, 59, 60, 61, 62, 63, 64, 65, 66, 67, 68, 69, 70, 71, 72, 73, 74, 75, 76, 77, 78, 79, 80, 81, 82, 83, 84, 85, 86, 87, 88, 89, 90, 91, 92, 93, 94, 95, 96, 97, 98, 99, 100, 101, 102, 103, 109, 110, 111, 112, 113, 114, 115, 116, 117, 104, 105, 106, 107, 108] (by decide +kernel) (by decide +kernel)
set_option maxRecDepth 20000 in
theorem gX5_outcome_X5_rightBehind : GoodIn wsX5_outcome (wsV RX5 142 RX5 yX5_rightBehind wsX5_rightBehind) := goodIn_app (goodIn_of _ (by decide +kernel)) ggX5_outcome_X5_rightBehind
theorem dX5_outcome_0 : decode cX5_outcome 0 = .ok (.iload_n 1, 1) := by decide +kernel
theorem dX5_outcome_1 : decode cX5_outcome 1 = .ok (.iconst 0, 1) := by decide +kernel
theorem dX5_outcome_2 : decode cX5_outcome 2 = .ok (.bipush 30, 2) := by decide +kernel
theorem dX5_outcome_4 : decode cX5_outcome 4 = .ok (.invokestatic 54, 3) := by decide +kernel
theorem dX5_outcome_7 : decode cX5_outcome 7 = .ok (.ifCond .ne 6, 3) := by decide +kernel
theorem dX5_outcome_10 : decode cX5_outcome 10 = .ok (.bipush (-102), 2) := by decide +kernel
theorem dX5_outcome_12 : decode cX5_outcome 12 = .ok (.ireturn, 1) := by decide +kernel
theorem dX5_outcome_13 : decode cX5_outcome 13 = .ok (.aload_n 0, 1) := by decide +kernel
theorem dX5_outcome_14 : decode cX5_outcome 14 = .ok (.getfield 19, 3) := by decide +kernel
theorem dX5_outcome_17 : decode cX5_outcome 17 = .ok (.invokevirtual 112, 3) := by decide +kernel
theorem dX5_outcome_20 : decode cX5_outcome 20 = .ok (.ifCond .eq 12, 3) := by decide +kernel
theorem dX5_outcome_23 : decode cX5_outcome 23 = .ok (.aload_n 0, 1) := by decide +kernel
theorem dX5_outcome_24 : decode cX5_outcome 24 = .ok (.iload_n 1, 1) := by decide +kernel
theorem dX5_outcome_25 : decode cX5_outcome 25 = .ok (.iconst (-1), 1) := by decide +kernel
theorem dX5_outcome_26 : decode cX5_outcome 26 = .ok (.invokevirtual 142, 3) := by decide +kernel
theorem dX5_outcome_29 : decode cX5_outcome 29 = .ok (.goto 5, 3) := by decide +kernel
theorem dX5_outcome_32 : decode cX5_outcome 32 = .ok (.bipush (-103), 2) := by decide +kernel
theorem dX5_outcome_34 : decode cX5_outcome 34 = .ok (.ireturn, 1) := by decide +kernel
set_option maxRecDepth 20000 in
theorem ggX5_trick_X5_within : GoodIn wsX5_trick wsX5_within := goodIn_r _ [5] (by decide +kernel) (by decide +kernel)
set_option maxRecDepth 20000 in
theorem gX5_trick_X5_within : GoodIn wsX5_trick (va_wsS RX5 54 yX5_within wsX5_within) := goodIn_app (goodIn_of _ (by decide +kernel)) ggX5_trick_X5_within
set_option maxRecDepth 20000 in
theorem ggX5_trick_X2_isThere : GoodIn wsX5_trick wsX2_isThere := goodIn_r _ [10, 11, 108, 109, 110, 111, 112] (by decide +kernel) (by decide +kernel)
set_option maxRecDepth 20000 in
theorem gX5_trick_X2_isThere : GoodIn wsX5_trick (wsV RX5 112 RX2 yX2_isThere wsX2_isThere) := goodIn_app (goodIn_of _ (by decide +kernel)) ggX5_trick_X2_isThere
set_option maxRecDepth 20000 in
theorem ggX5_trick_X5_trickTold : GoodIn wsX5_trick wsX5_trickTold := goodIn_r _ [15, 16, 17, 18, 4, 19, 20, 21, 1, 22, 23, 24, 25, 26, 27, 28, 29, 30, 31, 32, 33, 34, 35, 36, 9, 37, 11, 38, 39, 40, 41, 42, 43, 44, 45, 46, 47, 48, 49, 50, 51, 52, 53, 54, 55, 56, 57, 58, 59, 60, 61, 62, 63, 64, 65, 66, 67, 68, 69, 70, 71, 72, 73, 74, 75, 76, 77, 78, 79, 80, 81, 82, 83, 84, 85, 86, 87, 88, 89, 90, 91, 92, 93, 94, 95, 96, 97, 98, 99, 100, 101, 102, 103, 104, 105, 106, 107, 113, 114, 115, 116, 117, 118, 119, 120, 121, 108, 109, 110, 111, 112] (by decide +kernel) (by decide +kernel)
set_option maxRecDepth 20000 in
theorem gX5_trick_X5_trickTold : GoodIn wsX5_trick (wsV RX5 145 RX5 yX5_trickTold wsX5_trickTold) := goodIn_app (goodIn_of _ (by decide +kernel)) ggX5_trick_X5_trickTold
theorem dX5_trick_0 : decode cX5_trick 0 = .ok (.iload_n 1, 1) := by decide +kernel
theorem dX5_trick_1 : decode cX5_trick 1 = .ok (.iconst 1, 1) := by decide +kernel
theorem dX5_trick_2 : decode cX5_trick 2 = .ok (.bipush 12, 2) := by decide +kernel
theorem dX5_trick_4 : decode cX5_trick 4 = .ok (.invokestatic 54, 3) := by decide +kernel
theorem dX5_trick_7 : decode cX5_trick 7 = .ok (.ifCond .eq 12, 3) := by decide +kernel
theorem dX5_trick_10 : decode cX5_trick 10 = .ok (.iload_n 2, 1) := by decide +kernel
theorem dX5_trick_11 : decode cX5_trick 11 = .ok (.iconst 0, 1) := by decide +kernel
theorem dX5_trick_12 : decode cX5_trick 12 = .ok (.iconst 1, 1) := by decide +kernel
theorem dX5_trick_13 : decode cX5_trick 13 = .ok (.invokestatic 54, 3) := by decide +kernel
theorem dX5_trick_16 : decode cX5_trick 16 = .ok (.ifCond .ne 6, 3) := by decide +kernel
theorem dX5_trick_19 : decode cX5_trick 19 = .ok (.bipush (-102), 2) := by decide +kernel
theorem dX5_trick_21 : decode cX5_trick 21 = .ok (.ireturn, 1) := by decide +kernel
theorem dX5_trick_22 : decode cX5_trick 22 = .ok (.aload_n 0, 1) := by decide +kernel
theorem dX5_trick_23 : decode cX5_trick 23 = .ok (.getfield 19, 3) := by decide +kernel
theorem dX5_trick_26 : decode cX5_trick 26 = .ok (.invokevirtual 112, 3) := by decide +kernel
theorem dX5_trick_29 : decode cX5_trick 29 = .ok (.ifCond .eq 12, 3) := by decide +kernel
theorem dX5_trick_32 : decode cX5_trick 32 = .ok (.aload_n 0, 1) := by decide +kernel
theorem dX5_trick_33 : decode cX5_trick 33 = .ok (.iload_n 1, 1) := by decide +kernel
theorem dX5_trick_34 : decode cX5_trick 34 = .ok (.iload_n 2, 1) := by decide +kernel
theorem dX5_trick_35 : decode cX5_trick 35 = .ok (.invokevirtual 145, 3) := by decide +kernel
theorem dX5_trick_38 : decode cX5_trick 38 = .ok (.goto 5, 3) := by decide +kernel
theorem dX5_trick_41 : decode cX5_trick 41 = .ok (.bipush (-103), 2) := by decide +kernel
theorem dX5_trick_43 : decode cX5_trick 43 = .ok (.ireturn, 1) := by decide +kernel
set_option maxRecDepth 20000 in
theorem ggX5_turned_X5_within : GoodIn wsX5_turned wsX5_within := goodIn_r _ [6] (by decide +kernel) (by decide +kernel)
set_option maxRecDepth 20000 in
theorem gX5_turned_X5_within : GoodIn wsX5_turned (va_wsS RX5 54 yX5_within wsX5_within) := goodIn_app (goodIn_of _ (by decide +kernel)) ggX5_turned_X5_within
set_option maxRecDepth 20000 in
theorem ggX5_turned_X2_isThere : GoodIn wsX5_turned wsX2_isThere := goodIn_r _ [11, 12, 106, 107, 108, 109, 110] (by decide +kernel) (by decide +kernel)
set_option maxRecDepth 20000 in
theorem gX5_turned_X2_isThere : GoodIn wsX5_turned (wsV RX5 112 RX2 yX2_isThere wsX2_isThere) := goodIn_app (goodIn_of _ (by decide +kernel)) ggX5_turned_X2_isThere
set_option maxRecDepth 20000 in
theorem ggX5_turned_X5_fewestTurned : GoodIn wsX5_turned wsX5_fewestTurned := goodIn_r _ [16, 1, 17, 18, 19, 20, 21, 22, 23, 24, 25, 26, 5, 27, 28, 29, 30, 31, 32, 33, 34, 35, 36, 37, 38, 39, 40, 41, 42, 43, 44, 45, 46, 47, 48, 49, 50, 51, 52, 53, 54, 55, 56, 57, 10, 58, 12, 59, 60, 61, 62, 63, 64, 65, 66, 67, 68, 69, 70, 71, 72, 73, 74, 75, 76, 77, 78, 79, 80, 81, 82, 83, 84, 85, 86, 87, 88, 89, 90, 91, 92, 93, 94, 95, 96, 97, 98, 99, 100, 101, 102, 103, 104, 105, 106, 107, 108, 109, 110, 111, 112, 113, 114, 115, 116, 117, 118, 119] (by decide +kernel) (by decide +kernel)
set_option maxRecDepth 20000 in
theorem gX5_turned_X5_fewestTurned : GoodIn wsX5_turned (wsV RX5 148 RX5 yX5_fewestTurned wsX5_fewestTurned) := goodIn_app (goodIn_of _ (by decide +kernel)) ggX5_turned_X5_fewestTurned
set_option maxRecDepth 20000 in
theorem ggX5_turned_J6_bitCount_0f7a4 : GoodIn wsX5_turned wsJ6_bitCount_0f7a4 := goodIn_r _ [20, 21, 22, 23] (by decide +kernel) (by decide +kernel)
set_option maxRecDepth 20000 in
theorem gX5_turned_J6_bitCount_0f7a4 : GoodIn wsX5_turned (va_wsS RX5 151 yJ6_bitCount_0f7a4 wsJ6_bitCount_0f7a4) := goodIn_app (goodIn_of _ (by decide +kernel)) ggX5_turned_J6_bitCount_0f7a4
theorem dX5_turned_0 : decode cX5_turned 0 = .ok (.iload_n 1, 1) := by decide +kernel
theorem dX5_turned_1 : decode cX5_turned 1 = .ok (.iconst 0, 1) := by decide +kernel
theorem dX5_turned_2 : decode cX5_turned 2 = .ok (.bipush 12, 2) := by decide +kernel
theorem dX5_turned_4 : decode cX5_turned 4 = .ok (.invokestatic 54, 3) := by decide +kernel
theorem dX5_turned_7 : decode cX5_turned 7 = .ok (.ifCond .eq 12, 3) := by decide +kernel
theorem dX5_turned_10 : decode cX5_turned 10 = .ok (.iload_n 2, 1) := by decide +kernel
theorem dX5_turned_11 : decode cX5_turned 11 = .ok (.iconst 0, 1) := by decide +kernel
theorem dX5_turned_12 : decode cX5_turned 12 = .ok (.iconst 1, 1) := by decide +kernel
theorem dX5_turned_13 : decode cX5_turned 13 = .ok (.invokestatic 54, 3) := by decide +kernel
theorem dX5_turned_16 : decode cX5_turned 16 = .ok (.ifCond .ne 6, 3) := by decide +kernel
theorem dX5_turned_19 : decode cX5_turned 19 = .ok (.bipush (-102), 2) := by decide +kernel
theorem dX5_turned_21 : decode cX5_turned 21 = .ok (.ireturn, 1) := by decide +kernel
theorem dX5_turned_22 : decode cX5_turned 22 = .ok (.aload_n 0, 1) := by decide +kernel
theorem dX5_turned_23 : decode cX5_turned 23 = .ok (.getfield 19, 3) := by decide +kernel
theorem dX5_turned_26 : decode cX5_turned 26 = .ok (.invokevirtual 112, 3) := by decide +kernel
theorem dX5_turned_29 : decode cX5_turned 29 = .ok (.ifCond .eq 12, 3) := by decide +kernel
theorem dX5_turned_32 : decode cX5_turned 32 = .ok (.aload_n 0, 1) := by decide +kernel
theorem dX5_turned_33 : decode cX5_turned 33 = .ok (.getfield 48, 3) := by decide +kernel
theorem dX5_turned_36 : decode cX5_turned 36 = .ok (.bipush 30, 2) := by decide +kernel
theorem dX5_turned_38 : decode cX5_turned 38 = .ok (.if_icmp .lt 6, 3) := by decide +kernel
theorem dX5_turned_41 : decode cX5_turned 41 = .ok (.bipush (-103), 2) := by decide +kernel
theorem dX5_turned_43 : decode cX5_turned 43 = .ok (.ireturn, 1) := by decide +kernel
theorem dX5_turned_44 : decode cX5_turned 44 = .ok (.aload_n 0, 1) := by decide +kernel
theorem dX5_turned_45 : decode cX5_turned 45 = .ok (.dup, 1) := by decide +kernel
theorem dX5_turned_46 : decode cX5_turned 46 = .ok (.getfield 48, 3) := by decide +kernel
theorem dX5_turned_49 : decode cX5_turned 49 = .ok (.iconst 1, 1) := by decide +kernel
theorem dX5_turned_50 : decode cX5_turned 50 = .ok (.iadd, 1) := by decide +kernel
theorem dX5_turned_51 : decode cX5_turned 51 = .ok (.putfield 48, 3) := by decide +kernel
theorem dX5_turned_54 : decode cX5_turned 54 = .ok (.aload_n 0, 1) := by decide +kernel
theorem dX5_turned_55 : decode cX5_turned 55 = .ok (.iload_n 1, 1) := by decide +kernel
theorem dX5_turned_56 : decode cX5_turned 56 = .ok (.invokevirtual 148, 3) := by decide +kernel
theorem dX5_turned_59 : decode cX5_turned 59 = .ok (.istore_n 3, 1) := by decide +kernel
theorem dX5_turned_60 : decode cX5_turned 60 = .ok (.iload_n 3, 1) := by decide +kernel
theorem dX5_turned_61 : decode cX5_turned 61 = .ok (.iconst (-1), 1) := by decide +kernel
theorem dX5_turned_62 : decode cX5_turned 62 = .ok (.if_icmp .ne 5, 3) := by decide +kernel
theorem dX5_turned_65 : decode cX5_turned 65 = .ok (.iconst (-1), 1) := by decide +kernel
theorem dX5_turned_66 : decode cX5_turned 66 = .ok (.ireturn, 1) := by decide +kernel
theorem dX5_turned_67 : decode cX5_turned 67 = .ok (.iload_n 2, 1) := by decide +kernel
theorem dX5_turned_68 : decode cX5_turned 68 = .ok (.ifCond .ne 10, 3) := by decide +kernel
theorem dX5_turned_71 : decode cX5_turned 71 = .ok (.iload_n 3, 1) := by decide +kernel
theorem dX5_turned_72 : decode cX5_turned 72 = .ok (.invokestatic 151, 3) := by decide +kernel
theorem dX5_turned_75 : decode cX5_turned 75 = .ok (.goto 4, 3) := by decide +kernel
theorem dX5_turned_78 : decode cX5_turned 78 = .ok (.iload_n 3, 1) := by decide +kernel
theorem dX5_turned_79 : decode cX5_turned 79 = .ok (.ireturn, 1) := by decide +kernel
set_option maxRecDepth 20000 in
theorem ggX5_record_X5_within : GoodIn wsX5_record wsX5_within := goodIn_r _ [5] (by decide +kernel) (by decide +kernel)
set_option maxRecDepth 20000 in
theorem gX5_record_X5_within : GoodIn wsX5_record (va_wsS RX5 54 yX5_within wsX5_within) := goodIn_app (goodIn_of _ (by decide +kernel)) ggX5_record_X5_within
set_option maxRecDepth 20000 in
theorem ggX5_record_X3_noteDown : GoodIn wsX5_record wsX3_noteDown := goodIn_r _ [10, 11, 12, 3, 4, 5, 22, 23, 24, 25, 26] (by decide +kernel) (by decide +kernel)
set_option maxRecDepth 20000 in
theorem gX5_record_X3_noteDown : GoodIn wsX5_record (wsV RX5 156 RX3 yX3_noteDown wsX3_noteDown) := goodIn_app (goodIn_of _ (by decide +kernel)) ggX5_record_X3_noteDown
theorem dX5_record_0 : decode cX5_record 0 = .ok (.iload_n 1, 1) := by decide +kernel
theorem dX5_record_1 : decode cX5_record 1 = .ok (.iconst 0, 1) := by decide +kernel
theorem dX5_record_2 : decode cX5_record 2 = .ok (.bipush 72, 2) := by decide +kernel
theorem dX5_record_4 : decode cX5_record 4 = .ok (.invokestatic 54, 3) := by decide +kernel
theorem dX5_record_7 : decode cX5_record 7 = .ok (.ifCond .ne 6, 3) := by decide +kernel
theorem dX5_record_10 : decode cX5_record 10 = .ok (.bipush (-102), 2) := by decide +kernel
theorem dX5_record_12 : decode cX5_record 12 = .ok (.ireturn, 1) := by decide +kernel
theorem dX5_record_13 : decode cX5_record 13 = .ok (.aload_n 0, 1) := by decide +kernel
theorem dX5_record_14 : decode cX5_record 14 = .ok (.getfield 26, 3) := by decide +kernel
theorem dX5_record_17 : decode cX5_record 17 = .ok (.iload_n 1, 1) := by decide +kernel
theorem dX5_record_18 : decode cX5_record 18 = .ok (.invokevirtual 156, 3) := by decide +kernel
theorem dX5_record_21 : decode cX5_record 21 = .ok (.ifCond .eq 13, 3) := by decide +kernel
theorem dX5_record_24 : decode cX5_record 24 = .ok (.aload_n 0, 1) := by decide +kernel
theorem dX5_record_25 : decode cX5_record 25 = .ok (.getfield 26, 3) := by decide +kernel
theorem dX5_record_28 : decode cX5_record 28 = .ok (.getfield 159, 3) := by decide +kernel
theorem dX5_record_31 : decode cX5_record 31 = .ok (.goto 5, 3) := by decide +kernel
theorem dX5_record_34 : decode cX5_record 34 = .ok (.bipush (-104), 2) := by decide +kernel
theorem dX5_record_36 : decode cX5_record 36 = .ok (.ireturn, 1) := by decide +kernel
theorem dX5_forget_0 : decode cX5_forget 0 = .ok (.aload_n 0, 1) := by decide +kernel
theorem dX5_forget_1 : decode cX5_forget 1 = .ok (.getfield 26, 3) := by decide +kernel
theorem dX5_forget_4 : decode cX5_forget 4 = .ok (.getfield 159, 3) := by decide +kernel
theorem dX5_forget_7 : decode cX5_forget 7 = .ok (.istore_n 1, 1) := by decide +kernel
theorem dX5_forget_8 : decode cX5_forget 8 = .ok (.aload_n 0, 1) := by decide +kernel
theorem dX5_forget_9 : decode cX5_forget 9 = .ok (.getfield 26, 3) := by decide +kernel
theorem dX5_forget_12 : decode cX5_forget 12 = .ok (.iconst 0, 1) := by decide +kernel
theorem dX5_forget_13 : decode cX5_forget 13 = .ok (.putfield 159, 3) := by decide +kernel
theorem dX5_forget_16 : decode cX5_forget 16 = .ok (.iload_n 1, 1) := by decide +kernel
theorem dX5_forget_17 : decode cX5_forget 17 = .ok (.ireturn, 1) := by decide +kernel
set_option maxRecDepth 20000 in
theorem ggX5_began_X5_within : GoodIn wsX5_began wsX5_within := goodIn_r _ [6] (by decide +kernel) (by decide +kernel)
set_option maxRecDepth 20000 in
theorem gX5_began_X5_within : GoodIn wsX5_began (va_wsS RX5 54 yX5_within wsX5_within) := goodIn_app (goodIn_of _ (by decide +kernel)) ggX5_began_X5_within
set_option maxRecDepth 20000 in
theorem ggX5_began_X2_isThere : GoodIn wsX5_began wsX2_isThere := goodIn_r _ [11, 12, 119, 120, 121, 122, 123] (by decide +kernel) (by decide +kernel)
set_option maxRecDepth 20000 in
theorem gX5_began_X2_isThere : GoodIn wsX5_began (wsV RX5 112 RX2 yX2_isThere wsX2_isThere) := goodIn_app (goodIn_of _ (by decide +kernel)) ggX5_began_X2_isThere
set_option maxRecDepth 20000 in
theorem ggX5_began_X5_waysBegun : GoodIn wsX5_began wsX5_waysBegun := goodIn_r _ [16, 17, 18, 19, 5, 20, 1, 21, 22, 23, 24, 25, 10, 26, 12, 27, 28, 29, 30, 31, 32, 33, 34, 35, 36, 37, 38, 39, 40, 41, 42, 43, 44, 45, 46, 47, 48, 49, 50, 51, 52, 53, 54, 55, 56, 57, 58, 59, 60, 61, 62, 63, 64, 65, 66, 67, 68, 69, 70, 71, 72, 73, 74, 75, 76, 77, 78, 79, 80, 81, 82, 83, 84, 85, 86, 87, 88, 89, 90, 91, 92, 93, 94, 95, 96, 97, 98, 99, 100, 101, 102, 103, 104, 4, 6, 105, 110, 111, 112, 113, 114, 115, 116, 117, 118, 119, 120, 121, 122, 123, 124, 125, 126, 127, 128, 129, 130, 131, 132] (by decide +kernel) (by decide +kernel)
set_option maxRecDepth 20000 in
theorem gX5_began_X5_waysBegun : GoodIn wsX5_began (wsV RX5 162 RX5 yX5_waysBegun wsX5_waysBegun) := goodIn_app (goodIn_of _ (by decide +kernel)) ggX5_began_X5_waysBegun
set_option maxRecDepth 20000 in
theorem ggX5_began_X5_leastBegun : GoodIn wsX5_began wsX5_leastBegun := goodIn_r _ [109, 17, 18, 19, 5, 20, 1, 21, 22, 23, 24, 25, 10, 26, 12, 27, 28, 29, 30, 31, 32, 33, 34, 35, 36, 37, 38, 39, 40, 41, 42, 43, 44, 45, 46, 47, 48, 49, 50, 51, 52, 53, 54, 55, 56, 57, 58, 59, 60, 61, 62, 63, 64, 65, 66, 67, 68, 69, 70, 71, 72, 73, 74, 75, 76, 77, 78, 79, 80, 81, 82, 83, 84, 85, 86, 87, 88, 89, 90, 91, 92, 93, 94, 95, 96, 97, 98, 99, 100, 101, 102, 103, 104, 4, 6, 110, 111, 112, 113, 114, 115, 116, 117, 118, 119, 120, 121, 122, 123, 124, 125, 126, 127, 128, 129, 130, 131, 132] (by decide +kernel) (by decide +kernel)
set_option maxRecDepth 20000 in
theorem gX5_began_X5_leastBegun : GoodIn wsX5_began (wsV RX5 165 RX5 yX5_leastBegun wsX5_leastBegun) := goodIn_app (goodIn_of _ (by decide +kernel)) ggX5_began_X5_leastBegun
theorem dX5_began_0 : decode cX5_began 0 = .ok (.iload_n 1, 1) := by decide +kernel
theorem dX5_began_1 : decode cX5_began 1 = .ok (.iconst 0, 1) := by decide +kernel
theorem dX5_began_2 : decode cX5_began 2 = .ok (.iconst 1, 1) := by decide +kernel
theorem dX5_began_3 : decode cX5_began 3 = .ok (.invokestatic 54, 3) := by decide +kernel
theorem dX5_began_6 : decode cX5_began 6 = .ok (.ifCond .ne 6, 3) := by decide +kernel
theorem dX5_began_9 : decode cX5_began 9 = .ok (.bipush (-102), 2) := by decide +kernel
theorem dX5_began_11 : decode cX5_began 11 = .ok (.ireturn, 1) := by decide +kernel
theorem dX5_began_12 : decode cX5_began 12 = .ok (.aload_n 0, 1) := by decide +kernel
theorem dX5_began_13 : decode cX5_began 13 = .ok (.getfield 19, 3) := by decide +kernel
theorem dX5_began_16 : decode cX5_began 16 = .ok (.invokevirtual 112, 3) := by decide +kernel
theorem dX5_began_19 : decode cX5_began 19 = .ok (.ifCond .eq 12, 3) := by decide +kernel
theorem dX5_began_22 : decode cX5_began 22 = .ok (.aload_n 0, 1) := by decide +kernel
theorem dX5_began_23 : decode cX5_began 23 = .ok (.getfield 51, 3) := by decide +kernel
theorem dX5_began_26 : decode cX5_began 26 = .ok (.bipush 30, 2) := by decide +kernel
theorem dX5_began_28 : decode cX5_began 28 = .ok (.if_icmp .lt 6, 3) := by decide +kernel
theorem dX5_began_31 : decode cX5_began 31 = .ok (.bipush (-103), 2) := by decide +kernel
theorem dX5_began_33 : decode cX5_began 33 = .ok (.ireturn, 1) := by decide +kernel
theorem dX5_began_34 : decode cX5_began 34 = .ok (.aload_n 0, 1) := by decide +kernel
theorem dX5_began_35 : decode cX5_began 35 = .ok (.dup, 1) := by decide +kernel
theorem dX5_began_36 : decode cX5_began 36 = .ok (.getfield 51, 3) := by decide +kernel
theorem dX5_began_39 : decode cX5_began 39 = .ok (.iconst 1, 1) := by decide +kernel
theorem dX5_began_40 : decode cX5_began 40 = .ok (.iadd, 1) := by decide +kernel
theorem dX5_began_41 : decode cX5_began 41 = .ok (.putfield 51, 3) := by decide +kernel
theorem dX5_began_44 : decode cX5_began 44 = .ok (.iload_n 1, 1) := by decide +kernel
theorem dX5_began_45 : decode cX5_began 45 = .ok (.ifCond .ne 10, 3) := by decide +kernel
theorem dX5_began_48 : decode cX5_began 48 = .ok (.aload_n 0, 1) := by decide +kernel
theorem dX5_began_49 : decode cX5_began 49 = .ok (.invokevirtual 162, 3) := by decide +kernel
theorem dX5_began_52 : decode cX5_began 52 = .ok (.goto 7, 3) := by decide +kernel
theorem dX5_began_55 : decode cX5_began 55 = .ok (.aload_n 0, 1) := by decide +kernel
theorem dX5_began_56 : decode cX5_began 56 = .ok (.invokevirtual 165, 3) := by decide +kernel
theorem dX5_began_59 : decode cX5_began 59 = .ok (.ireturn, 1) := by decide +kernel
set_option maxRecDepth 20000 in
theorem ggX5_nights_X5_within : GoodIn wsX5_nights wsX5_within := goodIn_r _ [5] (by decide +kernel) (by decide +kernel)
set_option maxRecDepth 20000 in
theorem gX5_nights_X5_within : GoodIn wsX5_nights (va_wsS RX5 54 yX5_within wsX5_within) := goodIn_app (goodIn_of _ (by decide +kernel)) ggX5_nights_X5_within
set_option maxRecDepth 20000 in
theorem ggX5_nights_X2_isThere : GoodIn wsX5_nights wsX2_isThere := goodIn_r _ [10, 11, 132, 133, 134, 135, 136] (by decide +kernel) (by decide +kernel)
set_option maxRecDepth 20000 in
theorem gX5_nights_X2_isThere : GoodIn wsX5_nights (wsV RX5 112 RX2 yX2_isThere wsX2_isThere) := goodIn_app (goodIn_of _ (by decide +kernel)) ggX5_nights_X2_isThere
set_option maxRecDepth 20000 in
theorem ggX5_nights_X5_nightsTold : GoodIn wsX5_nights wsX5_nightsTold := goodIn_r _ [15, 16, 17, 18, 19, 20, 1, 21, 22, 23, 24, 25, 26, 27, 28, 29, 30, 31, 32, 33, 34, 35, 36, 37, 38, 4, 39, 40, 41, 42, 43, 44, 45, 46, 47, 48, 49, 50, 51, 52, 53, 54, 9, 55, 11, 56, 57, 58, 59, 60, 61, 62, 63, 64, 65, 66, 67, 68, 69, 70, 71, 72, 73, 74, 75, 76, 77, 78, 79, 80, 81, 82, 83, 84, 85, 86, 87, 88, 89, 90, 91, 92, 93, 94, 95, 96, 97, 98, 99, 100, 101, 102, 103, 104, 105, 106, 107, 108, 109, 110, 111, 112, 113, 114, 115, 116, 117, 118, 119, 120, 121, 122, 137, 123, 124, 125, 126, 127, 128, 129, 130, 131, 138, 139, 140, 141, 142, 143, 144, 145, 146, 132, 133, 134, 135, 136] (by decide +kernel) (by decide +kernel)
set_option maxRecDepth 20000 in
theorem gX5_nights_X5_nightsTold : GoodIn wsX5_nights (wsV RX5 168 RX5 yX5_nightsTold wsX5_nightsTold) := goodIn_app (goodIn_of _ (by decide +kernel)) ggX5_nights_X5_nightsTold
theorem dX5_nights_0 : decode cX5_nights 0 = .ok (.iload_n 1, 1) := by decide +kernel
theorem dX5_nights_1 : decode cX5_nights 1 = .ok (.iconst 1, 1) := by decide +kernel
theorem dX5_nights_2 : decode cX5_nights 2 = .ok (.bipush 60, 2) := by decide +kernel
theorem dX5_nights_4 : decode cX5_nights 4 = .ok (.invokestatic 54, 3) := by decide +kernel
theorem dX5_nights_7 : decode cX5_nights 7 = .ok (.ifCond .eq 16, 3) := by decide +kernel
theorem dX5_nights_10 : decode cX5_nights 10 = .ok (.iload_n 2, 1) := by decide +kernel
theorem dX5_nights_11 : decode cX5_nights 11 = .ok (.ifCond .lt 12, 3) := by decide +kernel
theorem dX5_nights_14 : decode cX5_nights 14 = .ok (.iload_n 3, 1) := by decide +kernel
theorem dX5_nights_15 : decode cX5_nights 15 = .ok (.iconst 0, 1) := by decide +kernel
theorem dX5_nights_16 : decode cX5_nights 16 = .ok (.iconst 2, 1) := by decide +kernel
theorem dX5_nights_17 : decode cX5_nights 17 = .ok (.invokestatic 54, 3) := by decide +kernel
theorem dX5_nights_20 : decode cX5_nights 20 = .ok (.ifCond .ne 6, 3) := by decide +kernel
theorem dX5_nights_23 : decode cX5_nights 23 = .ok (.bipush (-102), 2) := by decide +kernel
theorem dX5_nights_25 : decode cX5_nights 25 = .ok (.ireturn, 1) := by decide +kernel
theorem dX5_nights_26 : decode cX5_nights 26 = .ok (.aload_n 0, 1) := by decide +kernel
theorem dX5_nights_27 : decode cX5_nights 27 = .ok (.getfield 19, 3) := by decide +kernel
theorem dX5_nights_30 : decode cX5_nights 30 = .ok (.invokevirtual 112, 3) := by decide +kernel
theorem dX5_nights_33 : decode cX5_nights 33 = .ok (.ifCond .eq 13, 3) := by decide +kernel
theorem dX5_nights_36 : decode cX5_nights 36 = .ok (.aload_n 0, 1) := by decide +kernel
theorem dX5_nights_37 : decode cX5_nights 37 = .ok (.iload_n 1, 1) := by decide +kernel
theorem dX5_nights_38 : decode cX5_nights 38 = .ok (.iload_n 2, 1) := by decide +kernel
theorem dX5_nights_39 : decode cX5_nights 39 = .ok (.iload_n 3, 1) := by decide +kernel
theorem dX5_nights_40 : decode cX5_nights 40 = .ok (.invokevirtual 168, 3) := by decide +kernel
theorem dX5_nights_43 : decode cX5_nights 43 = .ok (.goto 5, 3) := by decide +kernel
theorem dX5_nights_46 : decode cX5_nights 46 = .ok (.bipush (-103), 2) := by decide +kernel
theorem dX5_nights_48 : decode cX5_nights 48 = .ok (.ireturn, 1) := by decide +kernel
set_option maxRecDepth 20000 in
theorem ggX5_image_X2_isThere : GoodIn wsX5_image wsX2_isThere := goodIn_r _ [9, 10, 43, 44, 45, 46, 47] (by decide +kernel) (by decide +kernel)
set_option maxRecDepth 20000 in
theorem gX5_image_X2_isThere : GoodIn wsX5_image (wsV RX5 112 RX2 yX2_isThere wsX2_isThere) := goodIn_app (goodIn_of _ (by decide +kernel)) ggX5_image_X2_isThere
set_option maxRecDepth 20000 in
theorem ggX5_image_X3_takeFrom : GoodIn wsX5_image wsX3_takeFrom := goodIn_r _ [15, 16, 17, 18, 19, 20, 21, 22, 23, 24, 25, 26, 27, 28, 38, 39, 40, 41, 42, 48, 49, 50, 51] (by decide +kernel) (by decide +kernel)
set_option maxRecDepth 20000 in
theorem gX5_image_X3_takeFrom : GoodIn wsX5_image (wsV RX5 172 RX3 yX3_takeFrom wsX3_takeFrom) := goodIn_app (goodIn_of _ (by decide +kernel)) ggX5_image_X3_takeFrom
theorem dX5_image_0 : decode cX5_image 0 = .ok (.aload_n 0, 1) := by decide +kernel
theorem dX5_image_1 : decode cX5_image 1 = .ok (.getfield 19, 3) := by decide +kernel
theorem dX5_image_4 : decode cX5_image 4 = .ok (.invokevirtual 112, 3) := by decide +kernel
theorem dX5_image_7 : decode cX5_image 7 = .ok (.ifCond .ne 6, 3) := by decide +kernel
end
section
theorem dX5_image_10 : decode cX5_image 10 = .ok (.bipush (-103), 2) := by decide +kernel
theorem dX5_image_12 : decode cX5_image 12 = .ok (.ireturn, 1) := by decide +kernel
theorem dX5_image_13 : decode cX5_image 13 = .ok (.aload_n 0, 1) := by decide +kernel
theorem dX5_image_14 : decode cX5_image 14 = .ok (.getfield 30, 3) := by decide +kernel
theorem dX5_image_17 : decode cX5_image 17 = .ok (.aload_n 0, 1) := by decide +kernel
theorem dX5_image_18 : decode cX5_image 18 = .ok (.getfield 26, 3) := by decide +kernel
theorem dX5_image_21 : decode cX5_image 21 = .ok (.invokevirtual 172, 3) := by decide +kernel
theorem dX5_image_24 : decode cX5_image 24 = .ok (.aload_n 0, 1) := by decide +kernel
theorem dX5_image_25 : decode cX5_image 25 = .ok (.iconst 1, 1) := by decide +kernel
theorem dX5_image_26 : decode cX5_image 26 = .ok (.putfield 40, 3) := by decide +kernel
theorem dX5_image_29 : decode cX5_image 29 = .ok (.aload_n 0, 1) := by decide +kernel
theorem dX5_image_30 : decode cX5_image 30 = .ok (.getfield 30, 3) := by decide +kernel
theorem dX5_image_33 : decode cX5_image 33 = .ok (.getfield 122, 3) := by decide +kernel
theorem dX5_image_36 : decode cX5_image 36 = .ok (.ireturn, 1) := by decide +kernel
set_option maxRecDepth 20000 in
theorem ggX5_restore_X3_takeFrom : GoodIn wsX5_restore wsX3_takeFrom := goodIn_r _ [8, 9, 10, 11, 12, 13, 14, 15, 16, 17, 18, 19, 20, 21, 31, 32, 33, 34, 35, 36, 37, 38, 39] (by decide +kernel) (by decide +kernel)
set_option maxRecDepth 20000 in
theorem gX5_restore_X3_takeFrom : GoodIn wsX5_restore (wsV RX5 172 RX3 yX3_takeFrom wsX3_takeFrom) := goodIn_app (goodIn_of _ (by decide +kernel)) ggX5_restore_X3_takeFrom
theorem dX5_restore_0 : decode cX5_restore 0 = .ok (.aload_n 0, 1) := by decide +kernel
theorem dX5_restore_1 : decode cX5_restore 1 = .ok (.getfield 40, 3) := by decide +kernel
theorem dX5_restore_4 : decode cX5_restore 4 = .ok (.ifCond .ne 6, 3) := by decide +kernel
theorem dX5_restore_7 : decode cX5_restore 7 = .ok (.bipush (-103), 2) := by decide +kernel
theorem dX5_restore_9 : decode cX5_restore 9 = .ok (.ireturn, 1) := by decide +kernel
theorem dX5_restore_10 : decode cX5_restore 10 = .ok (.aload_n 0, 1) := by decide +kernel
theorem dX5_restore_11 : decode cX5_restore 11 = .ok (.getfield 26, 3) := by decide +kernel
theorem dX5_restore_14 : decode cX5_restore 14 = .ok (.aload_n 0, 1) := by decide +kernel
theorem dX5_restore_15 : decode cX5_restore 15 = .ok (.getfield 30, 3) := by decide +kernel
theorem dX5_restore_18 : decode cX5_restore 18 = .ok (.invokevirtual 172, 3) := by decide +kernel
theorem dX5_restore_21 : decode cX5_restore 21 = .ok (.aload_n 0, 1) := by decide +kernel
theorem dX5_restore_22 : decode cX5_restore 22 = .ok (.getfield 26, 3) := by decide +kernel
theorem dX5_restore_25 : decode cX5_restore 25 = .ok (.getfield 122, 3) := by decide +kernel
theorem dX5_restore_28 : decode cX5_restore 28 = .ok (.ireturn, 1) := by decide +kernel
set_option maxRecDepth 20000 in
theorem ggX5_count_X2_allPalms : GoodIn wsX5_count wsX2_allPalms := goodIn_r _ [11, 12, 13, 33, 34, 35, 36, 37] (by decide +kernel) (by decide +kernel)
set_option maxRecDepth 20000 in
theorem gX5_count_X2_allPalms : GoodIn wsX5_count (wsV RX5 179 RX2 yX2_allPalms wsX2_allPalms) := goodIn_app (goodIn_of _ (by decide +kernel)) ggX5_count_X2_allPalms
set_option maxRecDepth 20000 in
theorem ggX5_count_X0_palmsRight : GoodIn wsX5_count wsX0_palmsRight := goodIn_r _ [18, 19, 20, 21, 22, 10, 23, 12, 13, 33, 34, 35, 36, 37, 43, 44, 45, 46] (by decide +kernel) (by decide +kernel)
set_option maxRecDepth 20000 in
theorem gX5_count_X0_palmsRight : GoodIn wsX5_count (wsV RX5 125 RX0 yX0_palmsRight wsX0_palmsRight) := goodIn_app (goodIn_of _ (by decide +kernel)) ggX5_count_X0_palmsRight
theorem dX5_count_0 : decode cX5_count 0 = .ok (.iload_n 1, 1) := by decide +kernel
theorem dX5_count_1 : decode cX5_count 1 = .ok (.tableswitch 160 0 11 #[63, 71, 79, 87, 102, 113, 121, 129, 137, 145, 150, 155], 63) := by decide +kernel
theorem dX5_count_64 : decode cX5_count 64 = .ok (.aload_n 0, 1) := by decide +kernel
theorem dX5_count_65 : decode cX5_count 65 = .ok (.getfield 19, 3) := by decide +kernel
theorem dX5_count_68 : decode cX5_count 68 = .ok (.getfield 84, 3) := by decide +kernel
theorem dX5_count_71 : decode cX5_count 71 = .ok (.ireturn, 1) := by decide +kernel
theorem dX5_count_72 : decode cX5_count 72 = .ok (.aload_n 0, 1) := by decide +kernel
theorem dX5_count_73 : decode cX5_count 73 = .ok (.getfield 19, 3) := by decide +kernel
theorem dX5_count_76 : decode cX5_count 76 = .ok (.getfield 176, 3) := by decide +kernel
theorem dX5_count_79 : decode cX5_count 79 = .ok (.ireturn, 1) := by decide +kernel
theorem dX5_count_80 : decode cX5_count 80 = .ok (.aload_n 0, 1) := by decide +kernel
theorem dX5_count_81 : decode cX5_count 81 = .ok (.getfield 19, 3) := by decide +kernel
theorem dX5_count_84 : decode cX5_count 84 = .ok (.invokevirtual 179, 3) := by decide +kernel
theorem dX5_count_87 : decode cX5_count 87 = .ok (.ireturn, 1) := by decide +kernel
theorem dX5_count_88 : decode cX5_count 88 = .ok (.aload_n 0, 1) := by decide +kernel
theorem dX5_count_89 : decode cX5_count 89 = .ok (.getfield 26, 3) := by decide +kernel
theorem dX5_count_92 : decode cX5_count 92 = .ok (.getfield 98, 3) := by decide +kernel
theorem dX5_count_95 : decode cX5_count 95 = .ok (.aload_n 0, 1) := by decide +kernel
theorem dX5_count_96 : decode cX5_count 96 = .ok (.getfield 19, 3) := by decide +kernel
theorem dX5_count_99 : decode cX5_count 99 = .ok (.invokevirtual 125, 3) := by decide +kernel
theorem dX5_count_102 : decode cX5_count 102 = .ok (.ireturn, 1) := by decide +kernel
theorem dX5_count_103 : decode cX5_count 103 = .ok (.aload_n 0, 1) := by decide +kernel
theorem dX5_count_104 : decode cX5_count 104 = .ok (.getfield 26, 3) := by decide +kernel
theorem dX5_count_107 : decode cX5_count 107 = .ok (.getfield 98, 3) := by decide +kernel
theorem dX5_count_110 : decode cX5_count 110 = .ok (.getfield 115, 3) := by decide +kernel
theorem dX5_count_113 : decode cX5_count 113 = .ok (.ireturn, 1) := by decide +kernel
theorem dX5_count_114 : decode cX5_count 114 = .ok (.aload_n 0, 1) := by decide +kernel
theorem dX5_count_115 : decode cX5_count 115 = .ok (.getfield 26, 3) := by decide +kernel
theorem dX5_count_118 : decode cX5_count 118 = .ok (.getfield 122, 3) := by decide +kernel
theorem dX5_count_121 : decode cX5_count 121 = .ok (.ireturn, 1) := by decide +kernel
theorem dX5_count_122 : decode cX5_count 122 = .ok (.aload_n 0, 1) := by decide +kernel
theorem dX5_count_123 : decode cX5_count 123 = .ok (.getfield 26, 3) := by decide +kernel
theorem dX5_count_126 : decode cX5_count 126 = .ok (.getfield 132, 3) := by decide +kernel
theorem dX5_count_129 : decode cX5_count 129 = .ok (.ireturn, 1) := by decide +kernel
theorem dX5_count_130 : decode cX5_count 130 = .ok (.aload_n 0, 1) := by decide +kernel
theorem dX5_count_131 : decode cX5_count 131 = .ok (.getfield 26, 3) := by decide +kernel
theorem dX5_count_134 : decode cX5_count 134 = .ok (.getfield 159, 3) := by decide +kernel
theorem dX5_count_137 : decode cX5_count 137 = .ok (.ireturn, 1) := by decide +kernel
theorem dX5_count_138 : decode cX5_count 138 = .ok (.aload_n 0, 1) := by decide +kernel
theorem dX5_count_139 : decode cX5_count 139 = .ok (.getfield 10, 3) := by decide +kernel
theorem dX5_count_142 : decode cX5_count 142 = .ok (.getfield 62, 3) := by decide +kernel
theorem dX5_count_145 : decode cX5_count 145 = .ok (.ireturn, 1) := by decide +kernel
theorem dX5_count_146 : decode cX5_count 146 = .ok (.aload_n 0, 1) := by decide +kernel
theorem dX5_count_147 : decode cX5_count 147 = .ok (.getfield 44, 3) := by decide +kernel
theorem dX5_count_150 : decode cX5_count 150 = .ok (.ireturn, 1) := by decide +kernel
theorem dX5_count_151 : decode cX5_count 151 = .ok (.aload_n 0, 1) := by decide +kernel
theorem dX5_count_152 : decode cX5_count 152 = .ok (.getfield 48, 3) := by decide +kernel
theorem dX5_count_155 : decode cX5_count 155 = .ok (.ireturn, 1) := by decide +kernel
theorem dX5_count_156 : decode cX5_count 156 = .ok (.aload_n 0, 1) := by decide +kernel
theorem dX5_count_157 : decode cX5_count 157 = .ok (.getfield 51, 3) := by decide +kernel
theorem dX5_count_160 : decode cX5_count 160 = .ok (.ireturn, 1) := by decide +kernel
theorem dX5_count_161 : decode cX5_count 161 = .ok (.bipush (-102), 2) := by decide +kernel
theorem dX5_count_163 : decode cX5_count 163 = .ok (.ireturn, 1) := by decide +kernel
set_option maxRecDepth 20000 in
theorem ggX5_digest_X5_aboutRow : GoodIn wsX5_digest wsX5_aboutRow := goodIn_r _ [9, 3, 2, 10, 11, 12, 13, 14, 15, 16, 17, 18, 19, 20, 21, 22, 23, 24, 25, 26, 27, 28, 29, 30, 31, 32, 33, 34, 35, 36, 37, 38, 39, 40, 8, 41, 42, 43, 44, 45, 46, 47, 48, 49, 50, 51, 52, 53, 54, 55, 56, 57, 58, 59, 60, 61, 62, 63, 151, 152, 153, 154, 155, 156, 157, 158, 159, 165, 166, 167, 168, 169, 160, 161, 162, 163, 164, 172, 173, 174, 175] (by decide +kernel) (by decide +kernel)
set_option maxRecDepth 20000 in
theorem gX5_digest_X5_aboutRow : GoodIn wsX5_digest (wsV RX5 90 RX5 yX5_aboutRow wsX5_aboutRow) := goodIn_app (goodIn_of _ (by decide +kernel)) ggX5_digest_X5_aboutRow
set_option maxRecDepth 20000 in
theorem ggX5_digest_X5_mixed : GoodIn wsX5_digest wsX5_mixed := goodIn_r _ [66, 67] (by decide +kernel) (by decide +kernel)
set_option maxRecDepth 20000 in
theorem gX5_digest_X5_mixed : GoodIn wsX5_digest (va_wsS RX5 184 yX5_mixed wsX5_mixed) := goodIn_app (goodIn_of _ (by decide +kernel)) ggX5_digest_X5_mixed
set_option maxRecDepth 20000 in
theorem ggX5_digest_X0_loudness : GoodIn wsX5_digest wsX0_loudness := goodIn_r _ [71, 72, 73, 74, 35, 75, 37, 160, 161, 162, 163, 164, 172, 173, 174, 175] (by decide +kernel) (by decide +kernel)
set_option maxRecDepth 20000 in
theorem gX5_digest_X0_loudness : GoodIn wsX5_digest (wsV RX5 135 RX0 yX0_loudness wsX0_loudness) := goodIn_app (goodIn_of _ (by decide +kernel)) ggX5_digest_X0_loudness
set_option maxRecDepth 20000 in
theorem ggX5_digest_X2_isThere : GoodIn wsX5_digest wsX2_isThere := goodIn_r _ [79, 15, 160, 161, 162, 163, 164] (by decide +kernel) (by decide +kernel)
set_option maxRecDepth 20000 in
theorem gX5_digest_X2_isThere : GoodIn wsX5_digest (wsV RX5 112 RX2 yX2_isThere wsX2_isThere) := goodIn_app (goodIn_of _ (by decide +kernel)) ggX5_digest_X2_isThere
set_option maxRecDepth 20000 in
theorem ggX5_digest_X5_barsToRest : GoodIn wsX5_digest wsX5_barsToRest := goodIn_r _ [83, 84, 3, 2, 85, 86, 87, 35, 88, 37, 49, 63, 89, 90, 91, 92, 93, 94, 95, 96, 97, 98, 51, 52, 53, 54, 23, 24, 13, 25, 15, 26, 55, 46, 47, 48, 99, 33, 34, 36, 100, 101, 102, 103, 104, 11, 12, 14, 16, 105, 106, 60, 61, 62, 107, 108, 109, 110, 72, 73, 74, 75, 111, 112, 113, 114, 57, 8, 58, 151, 152, 153, 154, 155, 156, 157, 158, 159, 165, 166, 167, 168, 169, 172, 173, 174, 175, 160, 161, 162, 163, 164] (by decide +kernel) (by decide +kernel)
set_option maxRecDepth 20000 in
theorem gX5_digest_X5_barsToRest : GoodIn wsX5_digest (wsV RX5 139 RX5 yX5_barsToRest wsX5_barsToRest) := goodIn_app (goodIn_of _ (by decide +kernel)) ggX5_digest_X5_barsToRest
set_option maxRecDepth 20000 in
theorem ggX5_digest_X5_rightBehind : GoodIn wsX5_digest wsX5_rightBehind := goodIn_r _ [118, 84, 3, 2, 85, 86, 87, 35, 88, 37, 49, 63, 119, 120, 121, 122, 105, 11, 12, 13, 14, 15, 16, 43, 8, 44, 89, 90, 91, 92, 93, 94, 95, 96, 97, 98, 51, 52, 53, 54, 23, 24, 25, 26, 55, 46, 47, 48, 99, 33, 34, 36, 100, 101, 102, 103, 104, 106, 60, 61, 62, 107, 108, 109, 110, 72, 73, 74, 75, 111, 112, 113, 114, 57, 58, 123, 124, 125, 126, 127, 18, 19, 20, 21, 151, 152, 153, 154, 155, 156, 157, 158, 159, 165, 166, 167, 168, 169, 172, 173, 174, 175, 160, 161, 162, 163, 164] (by decide +kernel) (by decide +kernel)
set_option maxRecDepth 20000 in
theorem gX5_digest_X5_rightBehind : GoodIn wsX5_digest (wsV RX5 142 RX5 yX5_rightBehind wsX5_rightBehind) := goodIn_app (goodIn_of _ (by decide +kernel)) ggX5_digest_X5_rightBehind
set_option maxRecDepth 20000 in
theorem ggX5_digest_X5_trickTold : GoodIn wsX5_digest wsX5_trickTold := goodIn_r _ [131, 115, 116, 117, 8, 118, 84, 3, 2, 85, 86, 87, 35, 88, 37, 49, 63, 119, 120, 121, 122, 105, 11, 12, 13, 14, 15, 16, 43, 44, 89, 90, 91, 92, 93, 94, 95, 96, 97, 98, 51, 52, 53, 54, 23, 24, 25, 26, 55, 46, 47, 48, 99, 33, 34, 36, 100, 101, 102, 103, 104, 106, 60, 61, 62, 107, 108, 109, 110, 72, 73, 74, 75, 111, 112, 113, 114, 57, 58, 123, 124, 125, 126, 127, 18, 19, 20, 21, 151, 152, 153, 154, 155, 156, 157, 158, 159, 165, 166, 167, 168, 169, 172, 173, 174, 175, 160, 161, 162, 163, 164] (by decide +kernel) (by decide +kernel)
set_option maxRecDepth 20000 in
theorem gX5_digest_X5_trickTold : GoodIn wsX5_digest (wsV RX5 145 RX5 yX5_trickTold wsX5_trickTold) := goodIn_app (goodIn_of _ (by decide +kernel)) ggX5_digest_X5_trickTold
set_option maxRecDepth 20000 in
theorem ggX5_digest_X4_codeAt : GoodIn wsX5_digest wsX4_codeAt := goodIn_r _ [136, 137, 138, 8, 139, 170, 171] (by decide +kernel) (by decide +kernel)
set_option maxRecDepth 20000 in
theorem gX5_digest_X4_codeAt : GoodIn wsX5_digest (wsV RX5 188 RX4 yX4_codeAt wsX4_codeAt) := goodIn_app (goodIn_of _ (by decide +kernel)) ggX5_digest_X4_codeAt
set_option maxRecDepth 20000 in
theorem ggX5_digest_X5_count : GoodIn wsX5_digest wsX5_count := goodIn_r _ [143, 2, 3, 4, 144, 145, 146, 147, 148, 149, 13, 150, 15, 21, 123, 124, 125, 35, 126, 37, 127, 18, 19, 20, 151, 152, 153, 154, 155, 156, 157, 158, 159, 160, 161, 162, 163, 164, 165, 166, 167, 168, 169, 172, 173, 174, 175, 170, 171] (by decide +kernel) (by decide +kernel)
set_option maxRecDepth 20000 in
theorem gX5_digest_X5_count : GoodIn wsX5_digest (wsV RX5 191 RX5 yX5_count wsX5_count) := goodIn_app (goodIn_of _ (by decide +kernel)) ggX5_digest_X5_count
theorem dX5_digest_0 : decode cX5_digest 0 = .ok (.ldc2_w 182, 3) := by decide +kernel
theorem dX5_digest_3 : decode cX5_digest 3 = .ok (.lstore_n 1, 1) := by decide +kernel
theorem dX5_digest_4 : decode cX5_digest 4 = .ok (.iconst 0, 1) := by decide +kernel
theorem dX5_digest_5 : decode cX5_digest 5 = .ok (.istore_n 3, 1) := by decide +kernel
theorem dX5_digest_6 : decode cX5_digest 6 = .ok (.iload_n 3, 1) := by decide +kernel
theorem dX5_digest_7 : decode cX5_digest 7 = .ok (.aload_n 0, 1) := by decide +kernel
theorem dX5_digest_8 : decode cX5_digest 8 = .ok (.getfield 19, 3) := by decide +kernel
theorem dX5_digest_11 : decode cX5_digest 11 = .ok (.getfield 84, 3) := by decide +kernel
theorem dX5_digest_14 : decode cX5_digest 14 = .ok (.if_icmp .ge 74, 3) := by decide +kernel
theorem dX5_digest_17 : decode cX5_digest 17 = .ok (.iconst 0, 1) := by decide +kernel
theorem dX5_digest_18 : decode cX5_digest 18 = .ok (.istore 4, 2) := by decide +kernel
theorem dX5_digest_20 : decode cX5_digest 20 = .ok (.iload 4, 2) := by decide +kernel
theorem dX5_digest_22 : decode cX5_digest 22 = .ok (.bipush 8, 2) := by decide +kernel
theorem dX5_digest_24 : decode cX5_digest 24 = .ok (.if_icmp .gt 21, 3) := by decide +kernel
theorem dX5_digest_27 : decode cX5_digest 27 = .ok (.lload_n 1, 1) := by decide +kernel
theorem dX5_digest_28 : decode cX5_digest 28 = .ok (.aload_n 0, 1) := by decide +kernel
theorem dX5_digest_29 : decode cX5_digest 29 = .ok (.iload_n 3, 1) := by decide +kernel
theorem dX5_digest_30 : decode cX5_digest 30 = .ok (.iload 4, 2) := by decide +kernel
theorem dX5_digest_32 : decode cX5_digest 32 = .ok (.invokevirtual 90, 3) := by decide +kernel
theorem dX5_digest_35 : decode cX5_digest 35 = .ok (.invokestatic 184, 3) := by decide +kernel
theorem dX5_digest_38 : decode cX5_digest 38 = .ok (.lstore_n 1, 1) := by decide +kernel
theorem dX5_digest_39 : decode cX5_digest 39 = .ok (.iinc 4 1, 3) := by decide +kernel
theorem dX5_digest_42 : decode cX5_digest 42 = .ok (.goto (-22), 3) := by decide +kernel
theorem dX5_digest_45 : decode cX5_digest 45 = .ok (.iconst 0, 1) := by decide +kernel
theorem dX5_digest_46 : decode cX5_digest 46 = .ok (.istore 4, 2) := by decide +kernel
theorem dX5_digest_48 : decode cX5_digest 48 = .ok (.iload 4, 2) := by decide +kernel
theorem dX5_digest_50 : decode cX5_digest 50 = .ok (.iconst 3, 1) := by decide +kernel
theorem dX5_digest_51 : decode cX5_digest 51 = .ok (.if_icmp .gt 31, 3) := by decide +kernel
theorem dX5_digest_54 : decode cX5_digest 54 = .ok (.lload_n 1, 1) := by decide +kernel
theorem dX5_digest_55 : decode cX5_digest 55 = .ok (.aload_n 0, 1) := by decide +kernel
theorem dX5_digest_56 : decode cX5_digest 56 = .ok (.getfield 26, 3) := by decide +kernel
theorem dX5_digest_59 : decode cX5_digest 59 = .ok (.getfield 98, 3) := by decide +kernel
theorem dX5_digest_62 : decode cX5_digest 62 = .ok (.aload_n 0, 1) := by decide +kernel
theorem dX5_digest_63 : decode cX5_digest 63 = .ok (.getfield 19, 3) := by decide +kernel
theorem dX5_digest_66 : decode cX5_digest 66 = .ok (.iload_n 3, 1) := by decide +kernel
theorem dX5_digest_67 : decode cX5_digest 67 = .ok (.iload 4, 2) := by decide +kernel
theorem dX5_digest_69 : decode cX5_digest 69 = .ok (.invokevirtual 135, 3) := by decide +kernel
theorem dX5_digest_72 : decode cX5_digest 72 = .ok (.invokestatic 184, 3) := by decide +kernel
theorem dX5_digest_75 : decode cX5_digest 75 = .ok (.lstore_n 1, 1) := by decide +kernel
theorem dX5_digest_76 : decode cX5_digest 76 = .ok (.iinc 4 1, 3) := by decide +kernel
theorem dX5_digest_79 : decode cX5_digest 79 = .ok (.goto (-31), 3) := by decide +kernel
theorem dX5_digest_82 : decode cX5_digest 82 = .ok (.iinc 3 1, 3) := by decide +kernel
theorem dX5_digest_85 : decode cX5_digest 85 = .ok (.goto (-79), 3) := by decide +kernel
theorem dX5_digest_88 : decode cX5_digest 88 = .ok (.aload_n 0, 1) := by decide +kernel
theorem dX5_digest_89 : decode cX5_digest 89 = .ok (.getfield 19, 3) := by decide +kernel
theorem dX5_digest_92 : decode cX5_digest 92 = .ok (.invokevirtual 112, 3) := by decide +kernel
theorem dX5_digest_95 : decode cX5_digest 95 = .ok (.ifCond .eq 45, 3) := by decide +kernel
theorem dX5_digest_98 : decode cX5_digest 98 = .ok (.lload_n 1, 1) := by decide +kernel
theorem dX5_digest_99 : decode cX5_digest 99 = .ok (.aload_n 0, 1) := by decide +kernel
theorem dX5_digest_100 : decode cX5_digest 100 = .ok (.invokevirtual 139, 3) := by decide +kernel
theorem dX5_digest_103 : decode cX5_digest 103 = .ok (.invokestatic 184, 3) := by decide +kernel
theorem dX5_digest_106 : decode cX5_digest 106 = .ok (.lstore_n 1, 1) := by decide +kernel
theorem dX5_digest_107 : decode cX5_digest 107 = .ok (.lload_n 1, 1) := by decide +kernel
theorem dX5_digest_108 : decode cX5_digest 108 = .ok (.aload_n 0, 1) := by decide +kernel
theorem dX5_digest_109 : decode cX5_digest 109 = .ok (.iconst 4, 1) := by decide +kernel
theorem dX5_digest_110 : decode cX5_digest 110 = .ok (.iconst (-1), 1) := by decide +kernel
theorem dX5_digest_111 : decode cX5_digest 111 = .ok (.invokevirtual 142, 3) := by decide +kernel
theorem dX5_digest_114 : decode cX5_digest 114 = .ok (.invokestatic 184, 3) := by decide +kernel
theorem dX5_digest_117 : decode cX5_digest 117 = .ok (.lstore_n 1, 1) := by decide +kernel
theorem dX5_digest_118 : decode cX5_digest 118 = .ok (.lload_n 1, 1) := by decide +kernel
theorem dX5_digest_119 : decode cX5_digest 119 = .ok (.aload_n 0, 1) := by decide +kernel
theorem dX5_digest_120 : decode cX5_digest 120 = .ok (.iconst 4, 1) := by decide +kernel
theorem dX5_digest_121 : decode cX5_digest 121 = .ok (.iconst 0, 1) := by decide +kernel
theorem dX5_digest_122 : decode cX5_digest 122 = .ok (.invokevirtual 145, 3) := by decide +kernel
theorem dX5_digest_125 : decode cX5_digest 125 = .ok (.invokestatic 184, 3) := by decide +kernel
theorem dX5_digest_128 : decode cX5_digest 128 = .ok (.lstore_n 1, 1) := by decide +kernel
theorem dX5_digest_129 : decode cX5_digest 129 = .ok (.lload_n 1, 1) := by decide +kernel
theorem dX5_digest_130 : decode cX5_digest 130 = .ok (.aload_n 0, 1) := by decide +kernel
theorem dX5_digest_131 : decode cX5_digest 131 = .ok (.iconst 4, 1) := by decide +kernel
theorem dX5_digest_132 : decode cX5_digest 132 = .ok (.iconst 1, 1) := by decide +kernel
theorem dX5_digest_133 : decode cX5_digest 133 = .ok (.invokevirtual 145, 3) := by decide +kernel
theorem dX5_digest_136 : decode cX5_digest 136 = .ok (.invokestatic 184, 3) := by decide +kernel
theorem dX5_digest_139 : decode cX5_digest 139 = .ok (.lstore_n 1, 1) := by decide +kernel
theorem dX5_digest_140 : decode cX5_digest 140 = .ok (.iconst 0, 1) := by decide +kernel
theorem dX5_digest_141 : decode cX5_digest 141 = .ok (.istore_n 3, 1) := by decide +kernel
theorem dX5_digest_142 : decode cX5_digest 142 = .ok (.iload_n 3, 1) := by decide +kernel
theorem dX5_digest_143 : decode cX5_digest 143 = .ok (.aload_n 0, 1) := by decide +kernel
theorem dX5_digest_144 : decode cX5_digest 144 = .ok (.getfield 10, 3) := by decide +kernel
theorem dX5_digest_147 : decode cX5_digest 147 = .ok (.getfield 62, 3) := by decide +kernel
theorem dX5_digest_150 : decode cX5_digest 150 = .ok (.if_icmp .ge 22, 3) := by decide +kernel
theorem dX5_digest_153 : decode cX5_digest 153 = .ok (.lload_n 1, 1) := by decide +kernel
theorem dX5_digest_154 : decode cX5_digest 154 = .ok (.aload_n 0, 1) := by decide +kernel
theorem dX5_digest_155 : decode cX5_digest 155 = .ok (.getfield 10, 3) := by decide +kernel
theorem dX5_digest_158 : decode cX5_digest 158 = .ok (.iload_n 3, 1) := by decide +kernel
theorem dX5_digest_159 : decode cX5_digest 159 = .ok (.invokevirtual 188, 3) := by decide +kernel
theorem dX5_digest_162 : decode cX5_digest 162 = .ok (.invokestatic 184, 3) := by decide +kernel
theorem dX5_digest_165 : decode cX5_digest 165 = .ok (.lstore_n 1, 1) := by decide +kernel
theorem dX5_digest_166 : decode cX5_digest 166 = .ok (.iinc 3 1, 3) := by decide +kernel
theorem dX5_digest_169 : decode cX5_digest 169 = .ok (.goto (-27), 3) := by decide +kernel
theorem dX5_digest_172 : decode cX5_digest 172 = .ok (.iconst 0, 1) := by decide +kernel
theorem dX5_digest_173 : decode cX5_digest 173 = .ok (.istore_n 3, 1) := by decide +kernel
theorem dX5_digest_174 : decode cX5_digest 174 = .ok (.iload_n 3, 1) := by decide +kernel
theorem dX5_digest_175 : decode cX5_digest 175 = .ok (.bipush 11, 2) := by decide +kernel
theorem dX5_digest_177 : decode cX5_digest 177 = .ok (.if_icmp .gt 19, 3) := by decide +kernel
theorem dX5_digest_180 : decode cX5_digest 180 = .ok (.lload_n 1, 1) := by decide +kernel
theorem dX5_digest_181 : decode cX5_digest 181 = .ok (.aload_n 0, 1) := by decide +kernel
theorem dX5_digest_182 : decode cX5_digest 182 = .ok (.iload_n 3, 1) := by decide +kernel
theorem dX5_digest_183 : decode cX5_digest 183 = .ok (.invokevirtual 191, 3) := by decide +kernel
theorem dX5_digest_186 : decode cX5_digest 186 = .ok (.invokestatic 184, 3) := by decide +kernel
theorem dX5_digest_189 : decode cX5_digest 189 = .ok (.lstore_n 1, 1) := by decide +kernel
theorem dX5_digest_190 : decode cX5_digest 190 = .ok (.iinc 3 1, 3) := by decide +kernel
theorem dX5_digest_193 : decode cX5_digest 193 = .ok (.goto (-19), 3) := by decide +kernel
theorem dX5_digest_196 : decode cX5_digest 196 = .ok (.lload_n 1, 1) := by decide +kernel
theorem dX5_digest_197 : decode cX5_digest 197 = .ok (.lreturn, 1) := by decide +kernel
theorem dX5_within_0 : decode cX5_within 0 = .ok (.iload_n 0, 1) := by decide +kernel
theorem dX5_within_1 : decode cX5_within 1 = .ok (.iload_n 1, 1) := by decide +kernel
theorem dX5_within_2 : decode cX5_within 2 = .ok (.if_icmp .lt 12, 3) := by decide +kernel
theorem dX5_within_5 : decode cX5_within 5 = .ok (.iload_n 0, 1) := by decide +kernel
theorem dX5_within_6 : decode cX5_within 6 = .ok (.iload_n 2, 1) := by decide +kernel
theorem dX5_within_7 : decode cX5_within 7 = .ok (.if_icmp .gt 7, 3) := by decide +kernel
theorem dX5_within_10 : decode cX5_within 10 = .ok (.iconst 1, 1) := by decide +kernel
theorem dX5_within_11 : decode cX5_within 11 = .ok (.goto 4, 3) := by decide +kernel
theorem dX5_within_14 : decode cX5_within 14 = .ok (.iconst 0, 1) := by decide +kernel
theorem dX5_within_15 : decode cX5_within 15 = .ok (.ireturn, 1) := by decide +kernel
theorem dX5_oneIf_0 : decode cX5_oneIf 0 = .ok (.iload_n 0, 1) := by decide +kernel
theorem dX5_oneIf_1 : decode cX5_oneIf 1 = .ok (.ifCond .eq 7, 3) := by decide +kernel
theorem dX5_oneIf_4 : decode cX5_oneIf 4 = .ok (.iconst 1, 1) := by decide +kernel
theorem dX5_oneIf_5 : decode cX5_oneIf 5 = .ok (.goto 4, 3) := by decide +kernel
theorem dX5_oneIf_8 : decode cX5_oneIf 8 = .ok (.iconst 0, 1) := by decide +kernel
theorem dX5_oneIf_9 : decode cX5_oneIf 9 = .ok (.ireturn, 1) := by decide +kernel
theorem dX5_swapped_0 : decode cX5_swapped 0 = .ok (.iload_n 0, 1) := by decide +kernel
theorem dX5_swapped_1 : decode cX5_swapped 1 = .ok (.iconst 1, 1) := by decide +kernel
theorem dX5_swapped_2 : decode cX5_swapped 2 = .ok (.if_icmp .ne 5, 3) := by decide +kernel
theorem dX5_swapped_5 : decode cX5_swapped 5 = .ok (.iconst 2, 1) := by decide +kernel
theorem dX5_swapped_6 : decode cX5_swapped 6 = .ok (.ireturn, 1) := by decide +kernel
theorem dX5_swapped_7 : decode cX5_swapped 7 = .ok (.iload_n 0, 1) := by decide +kernel
theorem dX5_swapped_8 : decode cX5_swapped 8 = .ok (.iconst 2, 1) := by decide +kernel
theorem dX5_swapped_9 : decode cX5_swapped 9 = .ok (.if_icmp .ne 7, 3) := by decide +kernel
theorem dX5_swapped_12 : decode cX5_swapped 12 = .ok (.iconst 1, 1) := by decide +kernel
theorem dX5_swapped_13 : decode cX5_swapped 13 = .ok (.goto 4, 3) := by decide +kernel
theorem dX5_swapped_16 : decode cX5_swapped 16 = .ok (.iload_n 0, 1) := by decide +kernel
theorem dX5_swapped_17 : decode cX5_swapped 17 = .ok (.ireturn, 1) := by decide +kernel
theorem dX5_mixed_0 : decode cX5_mixed 0 = .ok (.ldc2_w 194, 3) := by decide +kernel
theorem dX5_mixed_3 : decode cX5_mixed 3 = .ok (.lload_n 0, 1) := by decide +kernel
theorem dX5_mixed_4 : decode cX5_mixed 4 = .ok (.lmul, 1) := by decide +kernel
theorem dX5_mixed_5 : decode cX5_mixed 5 = .ok (.iload_n 2, 1) := by decide +kernel
theorem dX5_mixed_6 : decode cX5_mixed 6 = .ok (.i2l, 1) := by decide +kernel
theorem dX5_mixed_7 : decode cX5_mixed 7 = .ok (.ladd, 1) := by decide +kernel
theorem dX5_mixed_8 : decode cX5_mixed 8 = .ok (.lreturn, 1) := by decide +kernel
set_option maxRecDepth 20000 in
theorem ggX5_heard_X2_lag : GoodIn wsX5_heard wsX2_lag := goodIn_r _ [6, 7, 21, 22, 23, 24, 25] (by decide +kernel) (by decide +kernel)
set_option maxRecDepth 20000 in
theorem gX5_heard_X2_lag : GoodIn wsX5_heard (wsV RX5 196 RX2 yX2_lag wsX2_lag) := goodIn_app (goodIn_of _ (by decide +kernel)) ggX5_heard_X2_lag
set_option maxRecDepth 20000 in
theorem ggX5_heard_X5_swapped : GoodIn wsX5_heard wsX5_swapped := goodIn_r _ [11] (by decide +kernel) (by decide +kernel)
set_option maxRecDepth 20000 in
theorem gX5_heard_X5_swapped : GoodIn wsX5_heard (va_wsS RX5 199 yX5_swapped wsX5_swapped) := goodIn_app (goodIn_of _ (by decide +kernel)) ggX5_heard_X5_swapped
theorem dX5_heard_0 : decode cX5_heard 0 = .ok (.aload_n 0, 1) := by decide +kernel
theorem dX5_heard_1 : decode cX5_heard 1 = .ok (.getfield 19, 3) := by decide +kernel
theorem dX5_heard_4 : decode cX5_heard 4 = .ok (.iload_n 1, 1) := by decide +kernel
theorem dX5_heard_5 : decode cX5_heard 5 = .ok (.invokevirtual 196, 3) := by decide +kernel
theorem dX5_heard_8 : decode cX5_heard 8 = .ok (.iconst 2, 1) := by decide +kernel
theorem dX5_heard_9 : decode cX5_heard 9 = .ok (.irem, 1) := by decide +kernel
theorem dX5_heard_10 : decode cX5_heard 10 = .ok (.iconst 1, 1) := by decide +kernel
theorem dX5_heard_11 : decode cX5_heard 11 = .ok (.if_icmp .ne 10, 3) := by decide +kernel
theorem dX5_heard_14 : decode cX5_heard 14 = .ok (.iload_n 2, 1) := by decide +kernel
theorem dX5_heard_15 : decode cX5_heard 15 = .ok (.invokestatic 199, 3) := by decide +kernel
theorem dX5_heard_18 : decode cX5_heard 18 = .ok (.goto 4, 3) := by decide +kernel
theorem dX5_heard_21 : decode cX5_heard 21 = .ok (.iload_n 2, 1) := by decide +kernel
theorem dX5_heard_22 : decode cX5_heard 22 = .ok (.ireturn, 1) := by decide +kernel
set_option maxRecDepth 20000 in
theorem ggX5_aboutRow_X2_kindOf : GoodIn wsX5_aboutRow wsX2_kindOf := goodIn_r _ [7, 8, 9, 72, 73, 74, 75, 76] (by decide +kernel) (by decide +kernel)
set_option maxRecDepth 20000 in
theorem gX5_aboutRow_X2_kindOf : GoodIn wsX5_aboutRow (wsV RX5 202 RX2 yX2_kindOf wsX2_kindOf) := goodIn_app (goodIn_of _ (by decide +kernel)) ggX5_aboutRow_X2_kindOf
set_option maxRecDepth 20000 in
theorem ggX5_aboutRow_X2_palmsOf : GoodIn wsX5_aboutRow wsX2_palmsOf := goodIn_r _ [13, 8, 14, 72, 73, 74, 75, 76] (by decide +kernel) (by decide +kernel)
set_option maxRecDepth 20000 in
theorem gX5_aboutRow_X2_palmsOf : GoodIn wsX5_aboutRow (wsV RX5 205 RX2 yX2_palmsOf wsX2_palmsOf) := goodIn_app (goodIn_of _ (by decide +kernel)) ggX5_aboutRow_X2_palmsOf
set_option maxRecDepth 20000 in
theorem ggX5_aboutRow_X2_strengthOf : GoodIn wsX5_aboutRow wsX2_strengthOf := goodIn_r _ [18, 8, 19, 72, 73, 74, 75, 76] (by decide +kernel) (by decide +kernel)
set_option maxRecDepth 20000 in
theorem gX5_aboutRow_X2_strengthOf : GoodIn wsX5_aboutRow (wsV RX5 208 RX2 yX2_strengthOf wsX2_strengthOf) := goodIn_app (goodIn_of _ (by decide +kernel)) ggX5_aboutRow_X2_strengthOf
set_option maxRecDepth 20000 in
theorem ggX5_aboutRow_X2_lag : GoodIn wsX5_aboutRow wsX2_lag := goodIn_r _ [23, 24, 72, 73, 74, 75, 76] (by decide +kernel) (by decide +kernel)
set_option maxRecDepth 20000 in
theorem gX5_aboutRow_X2_lag : GoodIn wsX5_aboutRow (wsV RX5 196 RX2 yX2_lag wsX2_lag) := goodIn_app (goodIn_of _ (by decide +kernel)) ggX5_aboutRow_X2_lag
set_option maxRecDepth 20000 in
theorem ggX5_aboutRow_X0_soundOf : GoodIn wsX5_aboutRow wsX0_soundOf := goodIn_r _ [29, 30, 77, 78, 79, 80] (by decide +kernel) (by decide +kernel)
set_option maxRecDepth 20000 in
theorem gX5_aboutRow_X0_soundOf : GoodIn wsX5_aboutRow (wsV RX5 101 RX0 yX0_soundOf wsX0_soundOf) := goodIn_app (goodIn_of _ (by decide +kernel)) ggX5_aboutRow_X0_soundOf
set_option maxRecDepth 20000 in
theorem ggX5_aboutRow_X5_heard : GoodIn wsX5_aboutRow wsX5_heard := goodIn_r _ [35, 2, 20, 21, 22, 6, 23, 24, 36, 37, 34, 38, 58, 59, 60, 61, 62, 63, 64, 65, 66, 72, 73, 74, 75, 76] (by decide +kernel) (by decide +kernel)
set_option maxRecDepth 20000 in
theorem gX5_aboutRow_X5_heard : GoodIn wsX5_aboutRow (wsV RX5 105 RX5 yX5_heard wsX5_heard) := goodIn_app (goodIn_of _ (by decide +kernel)) ggX5_aboutRow_X5_heard
set_option maxRecDepth 20000 in
theorem ggX5_aboutRow_X0_clappedOf : GoodIn wsX5_aboutRow wsX0_clappedOf := goodIn_r _ [42, 43, 77, 78, 79, 80] (by decide +kernel) (by decide +kernel)
set_option maxRecDepth 20000 in
theorem gX5_aboutRow_X0_clappedOf : GoodIn wsX5_aboutRow (wsV RX5 211 RX0 yX0_clappedOf wsX0_clappedOf) := goodIn_app (goodIn_of _ (by decide +kernel)) ggX5_aboutRow_X0_clappedOf
set_option maxRecDepth 20000 in
theorem ggX5_aboutRow_X0_isTired : GoodIn wsX5_aboutRow wsX0_isTired := goodIn_r _ [47, 48, 16, 17, 6, 18, 8, 19, 49, 40, 41, 28, 42, 43, 72, 73, 74, 75, 76, 77, 78, 79, 80] (by decide +kernel) (by decide +kernel)
set_option maxRecDepth 20000 in
theorem gX5_aboutRow_X0_isTired : GoodIn wsX5_aboutRow (wsV RX5 214 RX0 yX0_isTired wsX0_isTired) := goodIn_app (goodIn_of _ (by decide +kernel)) ggX5_aboutRow_X0_isTired
set_option maxRecDepth 20000 in
theorem ggX5_aboutRow_X5_oneIf : GoodIn wsX5_aboutRow wsX5_oneIf := goodIn_r _ [52] (by decide +kernel) (by decide +kernel)
set_option maxRecDepth 20000 in
theorem gX5_aboutRow_X5_oneIf : GoodIn wsX5_aboutRow (va_wsS RX5 218 yX5_oneIf wsX5_oneIf) := goodIn_app (goodIn_of _ (by decide +kernel)) ggX5_aboutRow_X5_oneIf
set_option maxRecDepth 20000 in
theorem ggX5_aboutRow_X0_seesArm : GoodIn wsX5_aboutRow wsX0_seesArm := goodIn_r _ [56, 57, 77, 78, 79, 80] (by decide +kernel) (by decide +kernel)
set_option maxRecDepth 20000 in
theorem gX5_aboutRow_X0_seesArm : GoodIn wsX5_aboutRow (wsV RX5 222 RX0 yX0_seesArm wsX0_seesArm) := goodIn_app (goodIn_of _ (by decide +kernel)) ggX5_aboutRow_X0_seesArm
theorem dX5_aboutRow_0 : decode cX5_aboutRow 0 = .ok (.aload_n 0, 1) := by decide +kernel
theorem dX5_aboutRow_1 : decode cX5_aboutRow 1 = .ok (.getfield 26, 3) := by decide +kernel
theorem dX5_aboutRow_4 : decode cX5_aboutRow 4 = .ok (.getfield 98, 3) := by decide +kernel
theorem dX5_aboutRow_7 : decode cX5_aboutRow 7 = .ok (.astore_n 3, 1) := by decide +kernel
theorem dX5_aboutRow_8 : decode cX5_aboutRow 8 = .ok (.iload_n 2, 1) := by decide +kernel
theorem dX5_aboutRow_9 : decode cX5_aboutRow 9 = .ok (.tableswitch 119 0 7 #[47, 56, 65, 74, 83, 89, 100, 106], 47) := by decide +kernel
theorem dX5_aboutRow_56 : decode cX5_aboutRow 56 = .ok (.aload_n 0, 1) := by decide +kernel
theorem dX5_aboutRow_57 : decode cX5_aboutRow 57 = .ok (.getfield 19, 3) := by decide +kernel
theorem dX5_aboutRow_60 : decode cX5_aboutRow 60 = .ok (.iload_n 1, 1) := by decide +kernel
theorem dX5_aboutRow_61 : decode cX5_aboutRow 61 = .ok (.invokevirtual 202, 3) := by decide +kernel
theorem dX5_aboutRow_64 : decode cX5_aboutRow 64 = .ok (.ireturn, 1) := by decide +kernel
theorem dX5_aboutRow_65 : decode cX5_aboutRow 65 = .ok (.aload_n 0, 1) := by decide +kernel
theorem dX5_aboutRow_66 : decode cX5_aboutRow 66 = .ok (.getfield 19, 3) := by decide +kernel
theorem dX5_aboutRow_69 : decode cX5_aboutRow 69 = .ok (.iload_n 1, 1) := by decide +kernel
theorem dX5_aboutRow_70 : decode cX5_aboutRow 70 = .ok (.invokevirtual 205, 3) := by decide +kernel
theorem dX5_aboutRow_73 : decode cX5_aboutRow 73 = .ok (.ireturn, 1) := by decide +kernel
theorem dX5_aboutRow_74 : decode cX5_aboutRow 74 = .ok (.aload_n 0, 1) := by decide +kernel
theorem dX5_aboutRow_75 : decode cX5_aboutRow 75 = .ok (.getfield 19, 3) := by decide +kernel
theorem dX5_aboutRow_78 : decode cX5_aboutRow 78 = .ok (.iload_n 1, 1) := by decide +kernel
theorem dX5_aboutRow_79 : decode cX5_aboutRow 79 = .ok (.invokevirtual 208, 3) := by decide +kernel
theorem dX5_aboutRow_82 : decode cX5_aboutRow 82 = .ok (.ireturn, 1) := by decide +kernel
theorem dX5_aboutRow_83 : decode cX5_aboutRow 83 = .ok (.aload_n 0, 1) := by decide +kernel
theorem dX5_aboutRow_84 : decode cX5_aboutRow 84 = .ok (.getfield 19, 3) := by decide +kernel
theorem dX5_aboutRow_87 : decode cX5_aboutRow 87 = .ok (.iload_n 1, 1) := by decide +kernel
theorem dX5_aboutRow_88 : decode cX5_aboutRow 88 = .ok (.invokevirtual 196, 3) := by decide +kernel
theorem dX5_aboutRow_91 : decode cX5_aboutRow 91 = .ok (.ireturn, 1) := by decide +kernel
theorem dX5_aboutRow_92 : decode cX5_aboutRow 92 = .ok (.aload_n 3, 1) := by decide +kernel
theorem dX5_aboutRow_93 : decode cX5_aboutRow 93 = .ok (.iload_n 1, 1) := by decide +kernel
theorem dX5_aboutRow_94 : decode cX5_aboutRow 94 = .ok (.invokevirtual 101, 3) := by decide +kernel
theorem dX5_aboutRow_97 : decode cX5_aboutRow 97 = .ok (.ireturn, 1) := by decide +kernel
theorem dX5_aboutRow_98 : decode cX5_aboutRow 98 = .ok (.aload_n 0, 1) := by decide +kernel
theorem dX5_aboutRow_99 : decode cX5_aboutRow 99 = .ok (.iload_n 1, 1) := by decide +kernel
theorem dX5_aboutRow_100 : decode cX5_aboutRow 100 = .ok (.aload_n 3, 1) := by decide +kernel
theorem dX5_aboutRow_101 : decode cX5_aboutRow 101 = .ok (.iload_n 1, 1) := by decide +kernel
theorem dX5_aboutRow_102 : decode cX5_aboutRow 102 = .ok (.invokevirtual 101, 3) := by decide +kernel
theorem dX5_aboutRow_105 : decode cX5_aboutRow 105 = .ok (.invokevirtual 105, 3) := by decide +kernel
theorem dX5_aboutRow_108 : decode cX5_aboutRow 108 = .ok (.ireturn, 1) := by decide +kernel
theorem dX5_aboutRow_109 : decode cX5_aboutRow 109 = .ok (.aload_n 3, 1) := by decide +kernel
theorem dX5_aboutRow_110 : decode cX5_aboutRow 110 = .ok (.iload_n 1, 1) := by decide +kernel
theorem dX5_aboutRow_111 : decode cX5_aboutRow 111 = .ok (.invokevirtual 211, 3) := by decide +kernel
theorem dX5_aboutRow_114 : decode cX5_aboutRow 114 = .ok (.ireturn, 1) := by decide +kernel
theorem dX5_aboutRow_115 : decode cX5_aboutRow 115 = .ok (.aload_n 3, 1) := by decide +kernel
theorem dX5_aboutRow_116 : decode cX5_aboutRow 116 = .ok (.aload_n 0, 1) := by decide +kernel
theorem dX5_aboutRow_117 : decode cX5_aboutRow 117 = .ok (.getfield 19, 3) := by decide +kernel
theorem dX5_aboutRow_120 : decode cX5_aboutRow 120 = .ok (.iload_n 1, 1) := by decide +kernel
theorem dX5_aboutRow_121 : decode cX5_aboutRow 121 = .ok (.invokevirtual 214, 3) := by decide +kernel
theorem dX5_aboutRow_124 : decode cX5_aboutRow 124 = .ok (.invokestatic 218, 3) := by decide +kernel
theorem dX5_aboutRow_127 : decode cX5_aboutRow 127 = .ok (.ireturn, 1) := by decide +kernel
theorem dX5_aboutRow_128 : decode cX5_aboutRow 128 = .ok (.aload_n 3, 1) := by decide +kernel
theorem dX5_aboutRow_129 : decode cX5_aboutRow 129 = .ok (.iload_n 1, 1) := by decide +kernel
theorem dX5_aboutRow_130 : decode cX5_aboutRow 130 = .ok (.invokevirtual 222, 3) := by decide +kernel
theorem dX5_aboutRow_133 : decode cX5_aboutRow 133 = .ok (.invokestatic 218, 3) := by decide +kernel
theorem dX5_aboutRow_136 : decode cX5_aboutRow 136 = .ok (.ireturn, 1) := by decide +kernel
set_option maxRecDepth 20000 in
theorem ggX5_barsToRest_X0_takeFrom : GoodIn wsX5_barsToRest wsX0_takeFrom := goodIn_r _ [8, 9, 10, 11, 83, 84, 85, 86] (by decide +kernel) (by decide +kernel)
set_option maxRecDepth 20000 in
theorem gX5_barsToRest_X0_takeFrom : GoodIn wsX5_barsToRest (wsV RX5 225 RX0 yX0_takeFrom wsX0_takeFrom) := goodIn_app (goodIn_of _ (by decide +kernel)) ggX5_barsToRest_X0_takeFrom
set_option maxRecDepth 20000 in
theorem ggX5_barsToRest_X0_goOn : GoodIn wsX5_barsToRest wsX0_goOn := goodIn_r _ [15, 16, 9, 10, 17, 18, 19, 7, 20, 21, 22, 23, 24, 25, 26, 27, 28, 29, 30, 31, 32, 33, 34, 35, 36, 37, 38, 39, 40, 41, 42, 43, 44, 45, 46, 47, 48, 49, 50, 51, 52, 53, 11, 54, 55, 56, 57, 58, 59, 60, 61, 62, 63, 64, 65, 66, 67, 68, 87, 88, 89, 90, 91, 83, 84, 85, 86] (by decide +kernel) (by decide +kernel)
set_option maxRecDepth 20000 in
theorem gX5_barsToRest_X0_goOn : GoodIn wsX5_barsToRest (wsV RX5 118 RX0 yX0_goOn wsX0_goOn) := goodIn_app (goodIn_of _ (by decide +kernel)) ggX5_barsToRest_X0_goOn
theorem dX5_barsToRest_0 : decode cX5_barsToRest 0 = .ok (.aload_n 0, 1) := by decide +kernel
theorem dX5_barsToRest_1 : decode cX5_barsToRest 1 = .ok (.getfield 36, 3) := by decide +kernel
theorem dX5_barsToRest_4 : decode cX5_barsToRest 4 = .ok (.aload_n 0, 1) := by decide +kernel
theorem dX5_barsToRest_5 : decode cX5_barsToRest 5 = .ok (.getfield 26, 3) := by decide +kernel
theorem dX5_barsToRest_8 : decode cX5_barsToRest 8 = .ok (.getfield 98, 3) := by decide +kernel
theorem dX5_barsToRest_11 : decode cX5_barsToRest 11 = .ok (.invokevirtual 225, 3) := by decide +kernel
theorem dX5_barsToRest_14 : decode cX5_barsToRest 14 = .ok (.iconst 0, 1) := by decide +kernel
theorem dX5_barsToRest_15 : decode cX5_barsToRest 15 = .ok (.istore_n 1, 1) := by decide +kernel
theorem dX5_barsToRest_16 : decode cX5_barsToRest 16 = .ok (.iload_n 1, 1) := by decide +kernel
theorem dX5_barsToRest_17 : decode cX5_barsToRest 17 = .ok (.bipush 30, 2) := by decide +kernel
theorem dX5_barsToRest_19 : decode cX5_barsToRest 19 = .ok (.if_icmp .gt 25, 3) := by decide +kernel
theorem dX5_barsToRest_22 : decode cX5_barsToRest 22 = .ok (.aload_n 0, 1) := by decide +kernel
theorem dX5_barsToRest_23 : decode cX5_barsToRest 23 = .ok (.getfield 36, 3) := by decide +kernel
theorem dX5_barsToRest_26 : decode cX5_barsToRest 26 = .ok (.aload_n 0, 1) := by decide +kernel
theorem dX5_barsToRest_27 : decode cX5_barsToRest 27 = .ok (.getfield 19, 3) := by decide +kernel
theorem dX5_barsToRest_30 : decode cX5_barsToRest 30 = .ok (.invokevirtual 118, 3) := by decide +kernel
theorem dX5_barsToRest_33 : decode cX5_barsToRest 33 = .ok (.ifCond .ne 5, 3) := by decide +kernel
theorem dX5_barsToRest_36 : decode cX5_barsToRest 36 = .ok (.iload_n 1, 1) := by decide +kernel
theorem dX5_barsToRest_37 : decode cX5_barsToRest 37 = .ok (.ireturn, 1) := by decide +kernel
theorem dX5_barsToRest_38 : decode cX5_barsToRest 38 = .ok (.iinc 1 1, 3) := by decide +kernel
theorem dX5_barsToRest_41 : decode cX5_barsToRest 41 = .ok (.goto (-25), 3) := by decide +kernel
theorem dX5_barsToRest_44 : decode cX5_barsToRest 44 = .ok (.iconst (-1), 1) := by decide +kernel
theorem dX5_barsToRest_45 : decode cX5_barsToRest 45 = .ok (.ireturn, 1) := by decide +kernel
set_option maxRecDepth 20000 in
theorem ggX5_rightBehind_X0_takeFrom : GoodIn wsX5_rightBehind wsX0_takeFrom := goodIn_r _ [8, 9, 10, 11, 98, 99, 100, 101] (by decide +kernel) (by decide +kernel)
set_option maxRecDepth 20000 in
theorem gX5_rightBehind_X0_takeFrom : GoodIn wsX5_rightBehind (wsV RX5 225 RX0 yX0_takeFrom wsX0_takeFrom) := goodIn_app (goodIn_of _ (by decide +kernel)) ggX5_rightBehind_X0_takeFrom
set_option maxRecDepth 20000 in
theorem ggX5_rightBehind_X0_leaveBeatOut : GoodIn wsX5_rightBehind wsX0_leaveBeatOut := goodIn_r _ [15, 9, 16, 17, 18, 19, 20, 21, 22, 23, 24, 25, 102, 103, 104, 105, 106, 98, 99, 100, 101] (by decide +kernel) (by decide +kernel)
set_option maxRecDepth 20000 in
theorem gX5_rightBehind_X0_leaveBeatOut : GoodIn wsX5_rightBehind (wsV RX5 129 RX0 yX0_leaveBeatOut wsX0_leaveBeatOut) := goodIn_app (goodIn_of _ (by decide +kernel)) ggX5_rightBehind_X0_leaveBeatOut
set_option maxRecDepth 20000 in
theorem ggX5_rightBehind_X0_goOn : GoodIn wsX5_rightBehind wsX0_goOn := goodIn_r _ [29, 30, 9, 10, 31, 32, 33, 7, 34, 35, 36, 37, 38, 39, 40, 41, 19, 42, 21, 43, 44, 45, 46, 47, 48, 49, 50, 51, 52, 53, 54, 55, 56, 17, 18, 20, 22, 16, 57, 58, 59, 60, 11, 61, 62, 63, 64, 65, 66, 67, 68, 69, 70, 71, 72, 73, 24, 74, 102, 103, 104, 105, 106, 98, 99, 100, 101] (by decide +kernel) (by decide +kernel)
set_option maxRecDepth 20000 in
theorem gX5_rightBehind_X0_goOn : GoodIn wsX5_rightBehind (wsV RX5 118 RX0 yX0_goOn wsX0_goOn) := goodIn_app (goodIn_of _ (by decide +kernel)) ggX5_rightBehind_X0_goOn
set_option maxRecDepth 20000 in
theorem ggX5_rightBehind_X0_palmsRight : GoodIn wsX5_rightBehind wsX0_palmsRight := goodIn_r _ [78, 9, 79, 80, 81, 19, 82, 21, 83, 102, 103, 104, 105, 106, 98, 99, 100, 101] (by decide +kernel) (by decide +kernel)
set_option maxRecDepth 20000 in
theorem gX5_rightBehind_X0_palmsRight : GoodIn wsX5_rightBehind (wsV RX5 125 RX0 yX0_palmsRight wsX0_palmsRight) := goodIn_app (goodIn_of _ (by decide +kernel)) ggX5_rightBehind_X0_palmsRight
theorem dX5_rightBehind_0 : decode cX5_rightBehind 0 = .ok (.aload_n 0, 1) := by decide +kernel
theorem dX5_rightBehind_1 : decode cX5_rightBehind 1 = .ok (.getfield 36, 3) := by decide +kernel
theorem dX5_rightBehind_4 : decode cX5_rightBehind 4 = .ok (.aload_n 0, 1) := by decide +kernel
theorem dX5_rightBehind_5 : decode cX5_rightBehind 5 = .ok (.getfield 26, 3) := by decide +kernel
theorem dX5_rightBehind_8 : decode cX5_rightBehind 8 = .ok (.getfield 98, 3) := by decide +kernel
theorem dX5_rightBehind_11 : decode cX5_rightBehind 11 = .ok (.invokevirtual 225, 3) := by decide +kernel
theorem dX5_rightBehind_14 : decode cX5_rightBehind 14 = .ok (.iconst 0, 1) := by decide +kernel
theorem dX5_rightBehind_15 : decode cX5_rightBehind 15 = .ok (.istore_n 3, 1) := by decide +kernel
theorem dX5_rightBehind_16 : decode cX5_rightBehind 16 = .ok (.iload_n 3, 1) := by decide +kernel
theorem dX5_rightBehind_17 : decode cX5_rightBehind 17 = .ok (.iload_n 1, 1) := by decide +kernel
theorem dX5_rightBehind_18 : decode cX5_rightBehind 18 = .ok (.if_icmp .ge 37, 3) := by decide +kernel
theorem dX5_rightBehind_21 : decode cX5_rightBehind 21 = .ok (.iload_n 3, 1) := by decide +kernel
theorem dX5_rightBehind_22 : decode cX5_rightBehind 22 = .ok (.iload_n 2, 1) := by decide +kernel
theorem dX5_rightBehind_23 : decode cX5_rightBehind 23 = .ok (.if_icmp .ne 14, 3) := by decide +kernel
theorem dX5_rightBehind_26 : decode cX5_rightBehind 26 = .ok (.aload_n 0, 1) := by decide +kernel
theorem dX5_rightBehind_27 : decode cX5_rightBehind 27 = .ok (.getfield 36, 3) := by decide +kernel
theorem dX5_rightBehind_30 : decode cX5_rightBehind 30 = .ok (.aload_n 0, 1) := by decide +kernel
theorem dX5_rightBehind_31 : decode cX5_rightBehind 31 = .ok (.getfield 19, 3) := by decide +kernel
theorem dX5_rightBehind_34 : decode cX5_rightBehind 34 = .ok (.invokevirtual 129, 3) := by decide +kernel
theorem dX5_rightBehind_37 : decode cX5_rightBehind 37 = .ok (.aload_n 0, 1) := by decide +kernel
theorem dX5_rightBehind_38 : decode cX5_rightBehind 38 = .ok (.getfield 36, 3) := by decide +kernel
theorem dX5_rightBehind_41 : decode cX5_rightBehind 41 = .ok (.aload_n 0, 1) := by decide +kernel
theorem dX5_rightBehind_42 : decode cX5_rightBehind 42 = .ok (.getfield 19, 3) := by decide +kernel
theorem dX5_rightBehind_45 : decode cX5_rightBehind 45 = .ok (.invokevirtual 118, 3) := by decide +kernel
theorem dX5_rightBehind_48 : decode cX5_rightBehind 48 = .ok (.pop, 1) := by decide +kernel
theorem dX5_rightBehind_49 : decode cX5_rightBehind 49 = .ok (.iinc 3 1, 3) := by decide +kernel
theorem dX5_rightBehind_52 : decode cX5_rightBehind 52 = .ok (.goto (-36), 3) := by decide +kernel
theorem dX5_rightBehind_55 : decode cX5_rightBehind 55 = .ok (.aload_n 0, 1) := by decide +kernel
theorem dX5_rightBehind_56 : decode cX5_rightBehind 56 = .ok (.getfield 36, 3) := by decide +kernel
theorem dX5_rightBehind_59 : decode cX5_rightBehind 59 = .ok (.aload_n 0, 1) := by decide +kernel
theorem dX5_rightBehind_60 : decode cX5_rightBehind 60 = .ok (.getfield 19, 3) := by decide +kernel
theorem dX5_rightBehind_63 : decode cX5_rightBehind 63 = .ok (.invokevirtual 125, 3) := by decide +kernel
theorem dX5_rightBehind_66 : decode cX5_rightBehind 66 = .ok (.ireturn, 1) := by decide +kernel
set_option maxRecDepth 20000 in
theorem ggX5_trickTold_X5_rightBehind : GoodIn wsX5_trickTold wsX5_rightBehind := goodIn_r _ [5, 6, 7, 8, 9, 10, 11, 12, 13, 14, 15, 16, 17, 18, 19, 20, 21, 22, 23, 24, 25, 26, 27, 28, 4, 29, 30, 31, 32, 33, 34, 35, 36, 37, 38, 39, 40, 41, 42, 43, 44, 45, 46, 47, 48, 49, 50, 51, 52, 53, 54, 55, 56, 57, 58, 59, 60, 61, 62, 63, 64, 65, 66, 67, 68, 69, 70, 71, 72, 73, 74, 75, 76, 77, 78, 79, 80, 81, 82, 83, 84, 85, 86, 87, 88, 89, 90, 91, 92, 93, 94, 95, 96, 97, 98, 99, 100, 101, 102, 103, 104, 105, 106, 107, 108, 109, 110] (by decide +kernel) (by decide +kernel)
set_option maxRecDepth 20000 in
theorem gX5_trickTold_X5_rightBehind : GoodIn wsX5_trickTold (wsV RX5 142 RX5 yX5_rightBehind wsX5_rightBehind) := goodIn_app (goodIn_of _ (by decide +kernel)) ggX5_trickTold_X5_rightBehind
theorem dX5_trickTold_0 : decode cX5_trickTold 0 = .ok (.iconst (-1), 1) := by decide +kernel
theorem dX5_trickTold_1 : decode cX5_trickTold 1 = .ok (.istore_n 3, 1) := by decide +kernel
theorem dX5_trickTold_2 : decode cX5_trickTold 2 = .ok (.aload_n 0, 1) := by decide +kernel
theorem dX5_trickTold_3 : decode cX5_trickTold 3 = .ok (.iload_n 1, 1) := by decide +kernel
theorem dX5_trickTold_4 : decode cX5_trickTold 4 = .ok (.iconst (-1), 1) := by decide +kernel
theorem dX5_trickTold_5 : decode cX5_trickTold 5 = .ok (.invokevirtual 142, 3) := by decide +kernel
theorem dX5_trickTold_8 : decode cX5_trickTold 8 = .ok (.istore 4, 2) := by decide +kernel
theorem dX5_trickTold_10 : decode cX5_trickTold 10 = .ok (.iconst 0, 1) := by decide +kernel
theorem dX5_trickTold_11 : decode cX5_trickTold 11 = .ok (.istore 5, 2) := by decide +kernel
theorem dX5_trickTold_13 : decode cX5_trickTold 13 = .ok (.iload 5, 2) := by decide +kernel
theorem dX5_trickTold_15 : decode cX5_trickTold 15 = .ok (.iload_n 1, 1) := by decide +kernel
theorem dX5_trickTold_16 : decode cX5_trickTold 16 = .ok (.if_icmp .ge 32, 3) := by decide +kernel
theorem dX5_trickTold_19 : decode cX5_trickTold 19 = .ok (.aload_n 0, 1) := by decide +kernel
theorem dX5_trickTold_20 : decode cX5_trickTold 20 = .ok (.iload_n 1, 1) := by decide +kernel
theorem dX5_trickTold_21 : decode cX5_trickTold 21 = .ok (.iload 5, 2) := by decide +kernel
theorem dX5_trickTold_23 : decode cX5_trickTold 23 = .ok (.invokevirtual 142, 3) := by decide +kernel
theorem dX5_trickTold_26 : decode cX5_trickTold 26 = .ok (.istore 6, 2) := by decide +kernel
theorem dX5_trickTold_28 : decode cX5_trickTold 28 = .ok (.iload 6, 2) := by decide +kernel
theorem dX5_trickTold_30 : decode cX5_trickTold 30 = .ok (.iload 4, 2) := by decide +kernel
theorem dX5_trickTold_32 : decode cX5_trickTold 32 = .ok (.if_icmp .le 10, 3) := by decide +kernel
theorem dX5_trickTold_35 : decode cX5_trickTold 35 = .ok (.iload 5, 2) := by decide +kernel
theorem dX5_trickTold_37 : decode cX5_trickTold 37 = .ok (.istore_n 3, 1) := by decide +kernel
theorem dX5_trickTold_38 : decode cX5_trickTold 38 = .ok (.iload 6, 2) := by decide +kernel
theorem dX5_trickTold_40 : decode cX5_trickTold 40 = .ok (.istore 4, 2) := by decide +kernel
theorem dX5_trickTold_42 : decode cX5_trickTold 42 = .ok (.iinc 5 1, 3) := by decide +kernel
theorem dX5_trickTold_45 : decode cX5_trickTold 45 = .ok (.goto (-32), 3) := by decide +kernel
theorem dX5_trickTold_48 : decode cX5_trickTold 48 = .ok (.iload_n 2, 1) := by decide +kernel
theorem dX5_trickTold_49 : decode cX5_trickTold 49 = .ok (.ifCond .ne 7, 3) := by decide +kernel
theorem dX5_trickTold_52 : decode cX5_trickTold 52 = .ok (.iload_n 3, 1) := by decide +kernel
theorem dX5_trickTold_53 : decode cX5_trickTold 53 = .ok (.goto 5, 3) := by decide +kernel
theorem dX5_trickTold_56 : decode cX5_trickTold 56 = .ok (.iload 4, 2) := by decide +kernel
theorem dX5_trickTold_58 : decode cX5_trickTold 58 = .ok (.ireturn, 1) := by decide +kernel
set_option maxRecDepth 20000 in
theorem ggX5_fewestTurned_J6_bitCount_0f7a4 : GoodIn wsX5_fewestTurned wsJ6_bitCount_0f7a4 := goodIn_r _ [5, 6, 7, 8] (by decide +kernel) (by decide +kernel)
set_option maxRecDepth 20000 in
theorem gX5_fewestTurned_J6_bitCount_0f7a4 : GoodIn wsX5_fewestTurned (va_wsS RX5 151 yJ6_bitCount_0f7a4 wsJ6_bitCount_0f7a4) := goodIn_app (goodIn_of _ (by decide +kernel)) ggX5_fewestTurned_J6_bitCount_0f7a4
set_option maxRecDepth 20000 in
theorem ggX5_fewestTurned_X5_winsAll : GoodIn wsX5_fewestTurned wsX5_winsAll := goodIn_r _ [13, 14, 15, 1, 16, 17, 18, 19, 20, 21, 22, 23, 24, 25, 26, 27, 28, 29, 30, 31, 32, 33, 34, 35, 36, 37, 38, 39, 40, 41, 42, 43, 44, 45, 46, 47, 48, 49, 50, 51, 52, 53, 54, 55, 56, 57, 58, 59, 60, 61, 62, 63, 64, 65, 66, 67, 68, 69, 70, 71, 72, 73, 74, 75, 76, 77, 78, 79, 12, 80, 81, 82, 83, 84, 85, 86, 87, 88, 89, 90, 91, 92, 93, 99, 100, 101, 102, 103, 94, 95, 96, 97, 98, 104, 105, 106, 107] (by decide +kernel) (by decide +kernel)
set_option maxRecDepth 20000 in
theorem gX5_fewestTurned_X5_winsAll : GoodIn wsX5_fewestTurned (wsV RX5 228 RX5 yX5_winsAll wsX5_winsAll) := goodIn_app (goodIn_of _ (by decide +kernel)) ggX5_fewestTurned_X5_winsAll
theorem dX5_fewestTurned_0 : decode cX5_fewestTurned 0 = .ok (.iconst (-1), 1) := by decide +kernel
theorem dX5_fewestTurned_1 : decode cX5_fewestTurned 1 = .ok (.istore_n 2, 1) := by decide +kernel
theorem dX5_fewestTurned_2 : decode cX5_fewestTurned 2 = .ok (.aload_n 0, 1) := by decide +kernel
theorem dX5_fewestTurned_3 : decode cX5_fewestTurned 3 = .ok (.getfield 19, 3) := by decide +kernel
theorem dX5_fewestTurned_6 : decode cX5_fewestTurned 6 = .ok (.getfield 84, 3) := by decide +kernel
theorem dX5_fewestTurned_9 : decode cX5_fewestTurned 9 = .ok (.iconst 1, 1) := by decide +kernel
theorem dX5_fewestTurned_10 : decode cX5_fewestTurned 10 = .ok (.iadd, 1) := by decide +kernel
theorem dX5_fewestTurned_11 : decode cX5_fewestTurned 11 = .ok (.istore_n 3, 1) := by decide +kernel
theorem dX5_fewestTurned_12 : decode cX5_fewestTurned 12 = .ok (.iconst 1, 1) := by decide +kernel
theorem dX5_fewestTurned_13 : decode cX5_fewestTurned 13 = .ok (.aload_n 0, 1) := by decide +kernel
theorem dX5_fewestTurned_14 : decode cX5_fewestTurned 14 = .ok (.getfield 19, 3) := by decide +kernel
theorem dX5_fewestTurned_17 : decode cX5_fewestTurned 17 = .ok (.getfield 84, 3) := by decide +kernel
theorem dX5_fewestTurned_20 : decode cX5_fewestTurned 20 = .ok (.ishl, 1) := by decide +kernel
theorem dX5_fewestTurned_21 : decode cX5_fewestTurned 21 = .ok (.istore 4, 2) := by decide +kernel
theorem dX5_fewestTurned_23 : decode cX5_fewestTurned 23 = .ok (.iconst 0, 1) := by decide +kernel
theorem dX5_fewestTurned_24 : decode cX5_fewestTurned 24 = .ok (.istore 5, 2) := by decide +kernel
theorem dX5_fewestTurned_26 : decode cX5_fewestTurned 26 = .ok (.iload 5, 2) := by decide +kernel
theorem dX5_fewestTurned_28 : decode cX5_fewestTurned 28 = .ok (.iload 4, 2) := by decide +kernel
theorem dX5_fewestTurned_30 : decode cX5_fewestTurned 30 = .ok (.if_icmp .ge 38, 3) := by decide +kernel
theorem dX5_fewestTurned_33 : decode cX5_fewestTurned 33 = .ok (.iload 5, 2) := by decide +kernel
theorem dX5_fewestTurned_35 : decode cX5_fewestTurned 35 = .ok (.invokestatic 151, 3) := by decide +kernel
theorem dX5_fewestTurned_38 : decode cX5_fewestTurned 38 = .ok (.istore 6, 2) := by decide +kernel
theorem dX5_fewestTurned_40 : decode cX5_fewestTurned 40 = .ok (.iload 6, 2) := by decide +kernel
theorem dX5_fewestTurned_42 : decode cX5_fewestTurned 42 = .ok (.iload_n 3, 1) := by decide +kernel
theorem dX5_fewestTurned_43 : decode cX5_fewestTurned 43 = .ok (.if_icmp .ge 19, 3) := by decide +kernel
theorem dX5_fewestTurned_46 : decode cX5_fewestTurned 46 = .ok (.aload_n 0, 1) := by decide +kernel
theorem dX5_fewestTurned_47 : decode cX5_fewestTurned 47 = .ok (.iload 5, 2) := by decide +kernel
theorem dX5_fewestTurned_49 : decode cX5_fewestTurned 49 = .ok (.iload_n 1, 1) := by decide +kernel
theorem dX5_fewestTurned_50 : decode cX5_fewestTurned 50 = .ok (.invokevirtual 228, 3) := by decide +kernel
theorem dX5_fewestTurned_53 : decode cX5_fewestTurned 53 = .ok (.ifCond .eq 9, 3) := by decide +kernel
theorem dX5_fewestTurned_56 : decode cX5_fewestTurned 56 = .ok (.iload 5, 2) := by decide +kernel
theorem dX5_fewestTurned_58 : decode cX5_fewestTurned 58 = .ok (.istore_n 2, 1) := by decide +kernel
theorem dX5_fewestTurned_59 : decode cX5_fewestTurned 59 = .ok (.iload 6, 2) := by decide +kernel
theorem dX5_fewestTurned_61 : decode cX5_fewestTurned 61 = .ok (.istore_n 3, 1) := by decide +kernel
theorem dX5_fewestTurned_62 : decode cX5_fewestTurned 62 = .ok (.iinc 5 1, 3) := by decide +kernel
theorem dX5_fewestTurned_65 : decode cX5_fewestTurned 65 = .ok (.goto (-39), 3) := by decide +kernel
theorem dX5_fewestTurned_68 : decode cX5_fewestTurned 68 = .ok (.iload_n 2, 1) := by decide +kernel
theorem dX5_fewestTurned_69 : decode cX5_fewestTurned 69 = .ok (.ireturn, 1) := by decide +kernel
set_option maxRecDepth 20000 in
theorem ggX5_winsAll_X0_takeFrom : GoodIn wsX5_winsAll wsX0_takeFrom := goodIn_r _ [8, 9, 10, 11, 93, 94, 95, 96] (by decide +kernel) (by decide +kernel)
set_option maxRecDepth 20000 in
theorem gX5_winsAll_X0_takeFrom : GoodIn wsX5_winsAll (wsV RX5 225 RX0 yX0_takeFrom wsX0_takeFrom) := goodIn_app (goodIn_of _ (by decide +kernel)) ggX5_winsAll_X0_takeFrom
set_option maxRecDepth 20000 in
theorem ggX5_winsAll_X0_let : GoodIn wsX5_winsAll wsX0_let := goodIn_r _ [15, 9, 10, 93, 94, 95, 96] (by decide +kernel) (by decide +kernel)
set_option maxRecDepth 20000 in
theorem gX5_winsAll_X0_let : GoodIn wsX5_winsAll (wsV RX5 108 RX0 yX0_let wsX0_let) := goodIn_app (goodIn_of _ (by decide +kernel)) ggX5_winsAll_X0_let
set_option maxRecDepth 20000 in
theorem ggX5_winsAll_X0_goOn : GoodIn wsX5_winsAll wsX0_goOn := goodIn_r _ [19, 20, 9, 10, 21, 22, 23, 7, 24, 25, 26, 27, 28, 29, 30, 31, 32, 33, 34, 35, 36, 37, 38, 39, 40, 41, 42, 43, 44, 45, 46, 47, 48, 49, 50, 51, 52, 53, 54, 55, 56, 57, 11, 58, 59, 60, 61, 62, 63, 64, 65, 66, 13, 14, 15, 67, 68, 69, 88, 89, 90, 91, 92, 93, 94, 95, 96] (by decide +kernel) (by decide +kernel)
set_option maxRecDepth 20000 in
theorem gX5_winsAll_X0_goOn : GoodIn wsX5_winsAll (wsV RX5 118 RX0 yX0_goOn wsX0_goOn) := goodIn_app (goodIn_of _ (by decide +kernel)) ggX5_winsAll_X0_goOn
set_option maxRecDepth 20000 in
theorem ggX5_winsAll_X0_areWillingRight : GoodIn wsX5_winsAll wsX0_areWillingRight := goodIn_r _ [73, 9, 44, 45, 46, 32, 47, 48, 49, 50, 51, 34, 52, 88, 89, 90, 91, 92, 93, 94, 95, 96] (by decide +kernel) (by decide +kernel)
set_option maxRecDepth 20000 in
theorem gX5_winsAll_X0_areWillingRight : GoodIn wsX5_winsAll (wsV RX5 231 RX0 yX0_areWillingRight wsX0_areWillingRight) := goodIn_app (goodIn_of _ (by decide +kernel)) ggX5_winsAll_X0_areWillingRight
theorem dX5_winsAll_0 : decode cX5_winsAll 0 = .ok (.aload_n 0, 1) := by decide +kernel
theorem dX5_winsAll_1 : decode cX5_winsAll 1 = .ok (.getfield 36, 3) := by decide +kernel
theorem dX5_winsAll_4 : decode cX5_winsAll 4 = .ok (.aload_n 0, 1) := by decide +kernel
theorem dX5_winsAll_5 : decode cX5_winsAll 5 = .ok (.getfield 26, 3) := by decide +kernel
theorem dX5_winsAll_8 : decode cX5_winsAll 8 = .ok (.getfield 98, 3) := by decide +kernel
theorem dX5_winsAll_11 : decode cX5_winsAll 11 = .ok (.invokevirtual 225, 3) := by decide +kernel
theorem dX5_winsAll_14 : decode cX5_winsAll 14 = .ok (.iconst 0, 1) := by decide +kernel
theorem dX5_winsAll_15 : decode cX5_winsAll 15 = .ok (.istore_n 3, 1) := by decide +kernel
theorem dX5_winsAll_16 : decode cX5_winsAll 16 = .ok (.iload_n 3, 1) := by decide +kernel
theorem dX5_winsAll_17 : decode cX5_winsAll 17 = .ok (.aload_n 0, 1) := by decide +kernel
theorem dX5_winsAll_18 : decode cX5_winsAll 18 = .ok (.getfield 19, 3) := by decide +kernel
theorem dX5_winsAll_21 : decode cX5_winsAll 21 = .ok (.getfield 84, 3) := by decide +kernel
theorem dX5_winsAll_24 : decode cX5_winsAll 24 = .ok (.if_icmp .ge 27, 3) := by decide +kernel
theorem dX5_winsAll_27 : decode cX5_winsAll 27 = .ok (.iload_n 1, 1) := by decide +kernel
theorem dX5_winsAll_28 : decode cX5_winsAll 28 = .ok (.iload_n 3, 1) := by decide +kernel
theorem dX5_winsAll_29 : decode cX5_winsAll 29 = .ok (.ishr, 1) := by decide +kernel
theorem dX5_winsAll_30 : decode cX5_winsAll 30 = .ok (.iconst 1, 1) := by decide +kernel
theorem dX5_winsAll_31 : decode cX5_winsAll 31 = .ok (.iand, 1) := by decide +kernel
theorem dX5_winsAll_32 : decode cX5_winsAll 32 = .ok (.iconst 1, 1) := by decide +kernel
theorem dX5_winsAll_33 : decode cX5_winsAll 33 = .ok (.if_icmp .ne 12, 3) := by decide +kernel
theorem dX5_winsAll_36 : decode cX5_winsAll 36 = .ok (.aload_n 0, 1) := by decide +kernel
theorem dX5_winsAll_37 : decode cX5_winsAll 37 = .ok (.getfield 36, 3) := by decide +kernel
theorem dX5_winsAll_40 : decode cX5_winsAll 40 = .ok (.iload_n 3, 1) := by decide +kernel
theorem dX5_winsAll_41 : decode cX5_winsAll 41 = .ok (.iconst 2, 1) := by decide +kernel
theorem dX5_winsAll_42 : decode cX5_winsAll 42 = .ok (.invokevirtual 108, 3) := by decide +kernel
theorem dX5_winsAll_45 : decode cX5_winsAll 45 = .ok (.iinc 3 1, 3) := by decide +kernel
theorem dX5_winsAll_48 : decode cX5_winsAll 48 = .ok (.goto (-32), 3) := by decide +kernel
theorem dX5_winsAll_51 : decode cX5_winsAll 51 = .ok (.iconst 0, 1) := by decide +kernel
theorem dX5_winsAll_52 : decode cX5_winsAll 52 = .ok (.istore_n 3, 1) := by decide +kernel
theorem dX5_winsAll_53 : decode cX5_winsAll 53 = .ok (.iload_n 3, 1) := by decide +kernel
theorem dX5_winsAll_54 : decode cX5_winsAll 54 = .ok (.iload_n 2, 1) := by decide +kernel
theorem dX5_winsAll_55 : decode cX5_winsAll 55 = .ok (.if_icmp .ge 21, 3) := by decide +kernel
theorem dX5_winsAll_58 : decode cX5_winsAll 58 = .ok (.aload_n 0, 1) := by decide +kernel
theorem dX5_winsAll_59 : decode cX5_winsAll 59 = .ok (.getfield 36, 3) := by decide +kernel
theorem dX5_winsAll_62 : decode cX5_winsAll 62 = .ok (.aload_n 0, 1) := by decide +kernel
theorem dX5_winsAll_63 : decode cX5_winsAll 63 = .ok (.getfield 19, 3) := by decide +kernel
theorem dX5_winsAll_66 : decode cX5_winsAll 66 = .ok (.invokevirtual 118, 3) := by decide +kernel
theorem dX5_winsAll_69 : decode cX5_winsAll 69 = .ok (.pop, 1) := by decide +kernel
theorem dX5_winsAll_70 : decode cX5_winsAll 70 = .ok (.iinc 3 1, 3) := by decide +kernel
theorem dX5_winsAll_73 : decode cX5_winsAll 73 = .ok (.goto (-20), 3) := by decide +kernel
theorem dX5_winsAll_76 : decode cX5_winsAll 76 = .ok (.aload_n 0, 1) := by decide +kernel
theorem dX5_winsAll_77 : decode cX5_winsAll 77 = .ok (.getfield 36, 3) := by decide +kernel
theorem dX5_winsAll_80 : decode cX5_winsAll 80 = .ok (.aload_n 0, 1) := by decide +kernel
theorem dX5_winsAll_81 : decode cX5_winsAll 81 = .ok (.getfield 19, 3) := by decide +kernel
theorem dX5_winsAll_84 : decode cX5_winsAll 84 = .ok (.invokevirtual 231, 3) := by decide +kernel
theorem dX5_winsAll_87 : decode cX5_winsAll 87 = .ok (.ireturn, 1) := by decide +kernel
set_option maxRecDepth 20000 in
theorem ggX5_waysBegun_X5_beganSo : GoodIn wsX5_waysBegun wsX5_beganSo := goodIn_r _ [5, 6, 7, 8, 9, 10, 11, 12, 13, 14, 15, 16, 17, 18, 19, 20, 21, 22, 23, 24, 25, 26, 27, 28, 29, 30, 31, 32, 33, 34, 35, 36, 37, 38, 39, 40, 41, 42, 43, 44, 45, 46, 47, 48, 49, 50, 51, 52, 53, 54, 55, 56, 57, 58, 59, 60, 61, 62, 63, 64, 65, 66, 67, 68, 69, 70, 71, 72, 73, 74, 75, 76, 4, 77, 78, 79, 80, 81, 82, 83, 84, 85, 86, 87, 88, 89, 90, 91, 92, 93, 94, 96, 97, 98, 99, 100, 101, 102, 103, 104, 105, 106, 107, 108, 109, 110, 111, 112, 113, 114, 115, 116, 117, 118] (by decide +kernel) (by decide +kernel)
set_option maxRecDepth 20000 in
theorem gX5_waysBegun_X5_beganSo : GoodIn wsX5_waysBegun (wsV RX5 234 RX5 yX5_beganSo wsX5_beganSo) := goodIn_app (goodIn_of _ (by decide +kernel)) ggX5_waysBegun_X5_beganSo
set_option maxRecDepth 20000 in
theorem ggX5_waysBegun_X5_oneIf : GoodIn wsX5_waysBegun wsX5_oneIf := goodIn_r _ [77] (by decide +kernel) (by decide +kernel)
set_option maxRecDepth 20000 in
theorem gX5_waysBegun_X5_oneIf : GoodIn wsX5_waysBegun (va_wsS RX5 218 yX5_oneIf wsX5_oneIf) := goodIn_app (goodIn_of _ (by decide +kernel)) ggX5_waysBegun_X5_oneIf
theorem dX5_waysBegun_0 : decode cX5_waysBegun 0 = .ok (.iconst 0, 1) := by decide +kernel
theorem dX5_waysBegun_1 : decode cX5_waysBegun 1 = .ok (.istore_n 1, 1) := by decide +kernel
theorem dX5_waysBegun_2 : decode cX5_waysBegun 2 = .ok (.iconst 0, 1) := by decide +kernel
theorem dX5_waysBegun_3 : decode cX5_waysBegun 3 = .ok (.istore_n 2, 1) := by decide +kernel
theorem dX5_waysBegun_4 : decode cX5_waysBegun 4 = .ok (.iload_n 2, 1) := by decide +kernel
theorem dX5_waysBegun_5 : decode cX5_waysBegun 5 = .ok (.sipush 256, 3) := by decide +kernel
theorem dX5_waysBegun_8 : decode cX5_waysBegun 8 = .ok (.if_icmp .ge 20, 3) := by decide +kernel
theorem dX5_waysBegun_11 : decode cX5_waysBegun 11 = .ok (.iload_n 1, 1) := by decide +kernel
theorem dX5_waysBegun_12 : decode cX5_waysBegun 12 = .ok (.aload_n 0, 1) := by decide +kernel
theorem dX5_waysBegun_13 : decode cX5_waysBegun 13 = .ok (.iload_n 2, 1) := by decide +kernel
theorem dX5_waysBegun_14 : decode cX5_waysBegun 14 = .ok (.invokevirtual 234, 3) := by decide +kernel
theorem dX5_waysBegun_17 : decode cX5_waysBegun 17 = .ok (.invokestatic 218, 3) := by decide +kernel
theorem dX5_waysBegun_20 : decode cX5_waysBegun 20 = .ok (.iadd, 1) := by decide +kernel
theorem dX5_waysBegun_21 : decode cX5_waysBegun 21 = .ok (.istore_n 1, 1) := by decide +kernel
theorem dX5_waysBegun_22 : decode cX5_waysBegun 22 = .ok (.iinc 2 1, 3) := by decide +kernel
theorem dX5_waysBegun_25 : decode cX5_waysBegun 25 = .ok (.goto (-21), 3) := by decide +kernel
theorem dX5_waysBegun_28 : decode cX5_waysBegun 28 = .ok (.iload_n 1, 1) := by decide +kernel
theorem dX5_waysBegun_29 : decode cX5_waysBegun 29 = .ok (.ireturn, 1) := by decide +kernel
set_option maxRecDepth 20000 in
theorem ggX5_leastBegun_X5_beganSo : GoodIn wsX5_leastBegun wsX5_beganSo := goodIn_r _ [5, 6, 7, 8, 9, 10, 11, 12, 13, 14, 15, 16, 17, 18, 19, 20, 21, 22, 23, 24, 25, 26, 27, 28, 29, 30, 31, 32, 33, 34, 35, 36, 37, 38, 39, 40, 41, 42, 43, 44, 45, 46, 47, 48, 49, 50, 51, 52, 53, 54, 55, 56, 57, 58, 59, 60, 61, 62, 63, 64, 65, 66, 67, 68, 69, 70, 71, 72, 73, 74, 75, 76, 4, 77, 78, 79, 80, 81, 82, 83, 84, 85, 86, 87, 88, 89, 90, 91, 92, 93, 94, 95, 96, 97, 98, 99, 100, 101, 102, 103, 104, 105, 106, 107, 108, 109, 110, 111, 112, 113, 114, 115, 116, 117] (by decide +kernel) (by decide +kernel)
set_option maxRecDepth 20000 in
theorem gX5_leastBegun_X5_beganSo : GoodIn wsX5_leastBegun (wsV RX5 234 RX5 yX5_beganSo wsX5_beganSo) := goodIn_app (goodIn_of _ (by decide +kernel)) ggX5_leastBegun_X5_beganSo
theorem dX5_leastBegun_0 : decode cX5_leastBegun 0 = .ok (.iconst 0, 1) := by decide +kernel
theorem dX5_leastBegun_1 : decode cX5_leastBegun 1 = .ok (.istore_n 1, 1) := by decide +kernel
theorem dX5_leastBegun_2 : decode cX5_leastBegun 2 = .ok (.iload_n 1, 1) := by decide +kernel
theorem dX5_leastBegun_3 : decode cX5_leastBegun 3 = .ok (.sipush 256, 3) := by decide +kernel
theorem dX5_leastBegun_6 : decode cX5_leastBegun 6 = .ok (.if_icmp .ge 19, 3) := by decide +kernel
theorem dX5_leastBegun_9 : decode cX5_leastBegun 9 = .ok (.aload_n 0, 1) := by decide +kernel
theorem dX5_leastBegun_10 : decode cX5_leastBegun 10 = .ok (.iload_n 1, 1) := by decide +kernel
theorem dX5_leastBegun_11 : decode cX5_leastBegun 11 = .ok (.invokevirtual 234, 3) := by decide +kernel
theorem dX5_leastBegun_14 : decode cX5_leastBegun 14 = .ok (.ifCond .eq 5, 3) := by decide +kernel
theorem dX5_leastBegun_17 : decode cX5_leastBegun 17 = .ok (.iload_n 1, 1) := by decide +kernel
theorem dX5_leastBegun_18 : decode cX5_leastBegun 18 = .ok (.ireturn, 1) := by decide +kernel
theorem dX5_leastBegun_19 : decode cX5_leastBegun 19 = .ok (.iinc 1 1, 3) := by decide +kernel
theorem dX5_leastBegun_22 : decode cX5_leastBegun 22 = .ok (.goto (-20), 3) := by decide +kernel
theorem dX5_leastBegun_25 : decode cX5_leastBegun 25 = .ok (.iconst (-1), 1) := by decide +kernel
theorem dX5_leastBegun_26 : decode cX5_leastBegun 26 = .ok (.ireturn, 1) := by decide +kernel
set_option maxRecDepth 20000 in
theorem ggX5_beganSo_X2_has : GoodIn wsX5_beganSo wsX2_has := goodIn_r _ [8, 9, 100, 101, 102, 103, 104] (by decide +kernel) (by decide +kernel)
set_option maxRecDepth 20000 in
theorem gX5_beganSo_X2_has : GoodIn wsX5_beganSo (wsV RX5 87 RX2 yX2_has wsX2_has) := goodIn_app (goodIn_of _ (by decide +kernel)) ggX5_beganSo_X2_has
set_option maxRecDepth 20000 in
theorem ggX5_beganSo_X0_beginWith : GoodIn wsX5_beganSo wsX0_beginWith := goodIn_r _ [14, 15, 16, 17, 110, 111, 112, 113] (by decide +kernel) (by decide +kernel)
set_option maxRecDepth 20000 in
theorem gX5_beganSo_X0_beginWith : GoodIn wsX5_beganSo (wsV RX5 237 RX0 yX0_beginWith wsX0_beginWith) := goodIn_app (goodIn_of _ (by decide +kernel)) ggX5_beganSo_X0_beginWith
set_option maxRecDepth 20000 in
theorem ggX5_beganSo_X0_let : GoodIn wsX5_beganSo wsX0_let := goodIn_r _ [21, 15, 16, 110, 111, 112, 113] (by decide +kernel) (by decide +kernel)
set_option maxRecDepth 20000 in
theorem gX5_beganSo_X0_let : GoodIn wsX5_beganSo (wsV RX5 108 RX0 yX0_let wsX0_let) := goodIn_app (goodIn_of _ (by decide +kernel)) ggX5_beganSo_X0_let
set_option maxRecDepth 20000 in
theorem ggX5_beganSo_X0_goOn : GoodIn wsX5_beganSo wsX0_goOn := goodIn_r _ [25, 26, 15, 16, 27, 28, 29, 13, 30, 31, 32, 33, 34, 35, 36, 37, 7, 38, 9, 39, 40, 41, 42, 43, 44, 45, 46, 47, 48, 49, 50, 51, 52, 53, 54, 55, 56, 57, 58, 59, 60, 61, 17, 62, 63, 64, 65, 66, 67, 68, 69, 70, 19, 20, 21, 71, 72, 73, 100, 101, 102, 103, 104, 110, 111, 112, 113] (by decide +kernel) (by decide +kernel)
set_option maxRecDepth 20000 in
theorem gX5_beganSo_X0_goOn : GoodIn wsX5_beganSo (wsV RX5 118 RX0 yX0_goOn wsX0_goOn) := goodIn_app (goodIn_of _ (by decide +kernel)) ggX5_beganSo_X0_goOn
set_option maxRecDepth 20000 in
theorem ggX5_beganSo_X0_palmsRight : GoodIn wsX5_beganSo wsX0_palmsRight := goodIn_r _ [77, 15, 78, 79, 80, 7, 81, 9, 82, 100, 101, 102, 103, 104, 110, 111, 112, 113] (by decide +kernel) (by decide +kernel)
set_option maxRecDepth 20000 in
theorem gX5_beganSo_X0_palmsRight : GoodIn wsX5_beganSo (wsV RX5 125 RX0 yX0_palmsRight wsX0_palmsRight) := goodIn_app (goodIn_of _ (by decide +kernel)) ggX5_beganSo_X0_palmsRight
set_option maxRecDepth 20000 in
theorem ggX5_beganSo_X3_recordedAt : GoodIn wsX5_beganSo wsX3_recordedAt := goodIn_r _ [87, 88, 89, 72, 90, 105, 106, 107, 108, 109] (by decide +kernel) (by decide +kernel)
set_option maxRecDepth 20000 in
theorem gX5_beganSo_X3_recordedAt : GoodIn wsX5_beganSo (wsV RX5 240 RX3 yX3_recordedAt wsX3_recordedAt) := goodIn_app (goodIn_of _ (by decide +kernel)) ggX5_beganSo_X3_recordedAt
theorem dX5_beganSo_0 : decode cX5_beganSo 0 = .ok (.iload_n 1, 1) := by decide +kernel
theorem dX5_beganSo_1 : decode cX5_beganSo 1 = .ok (.bipush 32, 2) := by decide +kernel
theorem dX5_beganSo_3 : decode cX5_beganSo 3 = .ok (.idiv, 1) := by decide +kernel
theorem dX5_beganSo_4 : decode cX5_beganSo 4 = .ok (.istore_n 2, 1) := by decide +kernel
theorem dX5_beganSo_5 : decode cX5_beganSo 5 = .ok (.iload_n 1, 1) := by decide +kernel
theorem dX5_beganSo_6 : decode cX5_beganSo 6 = .ok (.iconst 4, 1) := by decide +kernel
theorem dX5_beganSo_7 : decode cX5_beganSo 7 = .ok (.idiv, 1) := by decide +kernel
theorem dX5_beganSo_8 : decode cX5_beganSo 8 = .ok (.bipush 8, 2) := by decide +kernel
theorem dX5_beganSo_10 : decode cX5_beganSo 10 = .ok (.irem, 1) := by decide +kernel
theorem dX5_beganSo_11 : decode cX5_beganSo 11 = .ok (.istore_n 3, 1) := by decide +kernel
theorem dX5_beganSo_12 : decode cX5_beganSo 12 = .ok (.iload_n 2, 1) := by decide +kernel
theorem dX5_beganSo_13 : decode cX5_beganSo 13 = .ok (.iload_n 3, 1) := by decide +kernel
theorem dX5_beganSo_14 : decode cX5_beganSo 14 = .ok (.if_icmp .ge 14, 3) := by decide +kernel
theorem dX5_beganSo_17 : decode cX5_beganSo 17 = .ok (.aload_n 0, 1) := by decide +kernel
theorem dX5_beganSo_18 : decode cX5_beganSo 18 = .ok (.getfield 19, 3) := by decide +kernel
theorem dX5_beganSo_21 : decode cX5_beganSo 21 = .ok (.iload_n 3, 1) := by decide +kernel
theorem dX5_beganSo_22 : decode cX5_beganSo 22 = .ok (.invokevirtual 87, 3) := by decide +kernel
theorem dX5_beganSo_25 : decode cX5_beganSo 25 = .ok (.ifCond .ne 5, 3) := by decide +kernel
theorem dX5_beganSo_28 : decode cX5_beganSo 28 = .ok (.iconst 0, 1) := by decide +kernel
theorem dX5_beganSo_29 : decode cX5_beganSo 29 = .ok (.ireturn, 1) := by decide +kernel
theorem dX5_beganSo_30 : decode cX5_beganSo 30 = .ok (.aload_n 0, 1) := by decide +kernel
theorem dX5_beganSo_31 : decode cX5_beganSo 31 = .ok (.getfield 36, 3) := by decide +kernel
theorem dX5_beganSo_34 : decode cX5_beganSo 34 = .ok (.aload_n 0, 1) := by decide +kernel
theorem dX5_beganSo_35 : decode cX5_beganSo 35 = .ok (.getfield 19, 3) := by decide +kernel
theorem dX5_beganSo_38 : decode cX5_beganSo 38 = .ok (.getfield 84, 3) := by decide +kernel
theorem dX5_beganSo_41 : decode cX5_beganSo 41 = .ok (.aload_n 0, 1) := by decide +kernel
theorem dX5_beganSo_42 : decode cX5_beganSo 42 = .ok (.getfield 26, 3) := by decide +kernel
theorem dX5_beganSo_45 : decode cX5_beganSo 45 = .ok (.getfield 98, 3) := by decide +kernel
theorem dX5_beganSo_48 : decode cX5_beganSo 48 = .ok (.getfield 115, 3) := by decide +kernel
theorem dX5_beganSo_51 : decode cX5_beganSo 51 = .ok (.invokevirtual 237, 3) := by decide +kernel
theorem dX5_beganSo_54 : decode cX5_beganSo 54 = .ok (.aload_n 0, 1) := by decide +kernel
theorem dX5_beganSo_55 : decode cX5_beganSo 55 = .ok (.getfield 36, 3) := by decide +kernel
theorem dX5_beganSo_58 : decode cX5_beganSo 58 = .ok (.iload_n 2, 1) := by decide +kernel
theorem dX5_beganSo_59 : decode cX5_beganSo 59 = .ok (.iload_n 1, 1) := by decide +kernel
theorem dX5_beganSo_60 : decode cX5_beganSo 60 = .ok (.iconst 2, 1) := by decide +kernel
theorem dX5_beganSo_61 : decode cX5_beganSo 61 = .ok (.idiv, 1) := by decide +kernel
theorem dX5_beganSo_62 : decode cX5_beganSo 62 = .ok (.iconst 2, 1) := by decide +kernel
theorem dX5_beganSo_63 : decode cX5_beganSo 63 = .ok (.irem, 1) := by decide +kernel
theorem dX5_beganSo_64 : decode cX5_beganSo 64 = .ok (.iconst 1, 1) := by decide +kernel
theorem dX5_beganSo_65 : decode cX5_beganSo 65 = .ok (.if_icmp .ne 7, 3) := by decide +kernel
theorem dX5_beganSo_68 : decode cX5_beganSo 68 = .ok (.iconst 2, 1) := by decide +kernel
theorem dX5_beganSo_69 : decode cX5_beganSo 69 = .ok (.goto 4, 3) := by decide +kernel
theorem dX5_beganSo_72 : decode cX5_beganSo 72 = .ok (.iconst 1, 1) := by decide +kernel
theorem dX5_beganSo_73 : decode cX5_beganSo 73 = .ok (.invokevirtual 108, 3) := by decide +kernel
theorem dX5_beganSo_76 : decode cX5_beganSo 76 = .ok (.aload_n 0, 1) := by decide +kernel
theorem dX5_beganSo_77 : decode cX5_beganSo 77 = .ok (.getfield 36, 3) := by decide +kernel
theorem dX5_beganSo_80 : decode cX5_beganSo 80 = .ok (.iload_n 3, 1) := by decide +kernel
theorem dX5_beganSo_81 : decode cX5_beganSo 81 = .ok (.iload_n 1, 1) := by decide +kernel
theorem dX5_beganSo_82 : decode cX5_beganSo 82 = .ok (.iconst 2, 1) := by decide +kernel
theorem dX5_beganSo_83 : decode cX5_beganSo 83 = .ok (.irem, 1) := by decide +kernel
theorem dX5_beganSo_84 : decode cX5_beganSo 84 = .ok (.iconst 1, 1) := by decide +kernel
theorem dX5_beganSo_85 : decode cX5_beganSo 85 = .ok (.if_icmp .ne 7, 3) := by decide +kernel
theorem dX5_beganSo_88 : decode cX5_beganSo 88 = .ok (.iconst 2, 1) := by decide +kernel
theorem dX5_beganSo_89 : decode cX5_beganSo 89 = .ok (.goto 4, 3) := by decide +kernel
theorem dX5_beganSo_92 : decode cX5_beganSo 92 = .ok (.iconst 1, 1) := by decide +kernel
theorem dX5_beganSo_93 : decode cX5_beganSo 93 = .ok (.invokevirtual 108, 3) := by decide +kernel
theorem dX5_beganSo_96 : decode cX5_beganSo 96 = .ok (.iconst 0, 1) := by decide +kernel
theorem dX5_beganSo_97 : decode cX5_beganSo 97 = .ok (.istore 4, 2) := by decide +kernel
theorem dX5_beganSo_99 : decode cX5_beganSo 99 = .ok (.iload 4, 2) := by decide +kernel
theorem dX5_beganSo_101 : decode cX5_beganSo 101 = .ok (.aload_n 0, 1) := by decide +kernel
theorem dX5_beganSo_102 : decode cX5_beganSo 102 = .ok (.getfield 26, 3) := by decide +kernel
theorem dX5_beganSo_105 : decode cX5_beganSo 105 = .ok (.getfield 159, 3) := by decide +kernel
theorem dX5_beganSo_108 : decode cX5_beganSo 108 = .ok (.if_icmp .ge 46, 3) := by decide +kernel
theorem dX5_beganSo_111 : decode cX5_beganSo 111 = .ok (.aload_n 0, 1) := by decide +kernel
theorem dX5_beganSo_112 : decode cX5_beganSo 112 = .ok (.getfield 36, 3) := by decide +kernel
theorem dX5_beganSo_115 : decode cX5_beganSo 115 = .ok (.aload_n 0, 1) := by decide +kernel
theorem dX5_beganSo_116 : decode cX5_beganSo 116 = .ok (.getfield 19, 3) := by decide +kernel
theorem dX5_beganSo_119 : decode cX5_beganSo 119 = .ok (.invokevirtual 118, 3) := by decide +kernel
theorem dX5_beganSo_122 : decode cX5_beganSo 122 = .ok (.pop, 1) := by decide +kernel
theorem dX5_beganSo_123 : decode cX5_beganSo 123 = .ok (.aload_n 0, 1) := by decide +kernel
theorem dX5_beganSo_124 : decode cX5_beganSo 124 = .ok (.getfield 36, 3) := by decide +kernel
theorem dX5_beganSo_127 : decode cX5_beganSo 127 = .ok (.aload_n 0, 1) := by decide +kernel
theorem dX5_beganSo_128 : decode cX5_beganSo 128 = .ok (.getfield 19, 3) := by decide +kernel
theorem dX5_beganSo_131 : decode cX5_beganSo 131 = .ok (.invokevirtual 125, 3) := by decide +kernel
theorem dX5_beganSo_134 : decode cX5_beganSo 134 = .ok (.aload_n 0, 1) := by decide +kernel
theorem dX5_beganSo_135 : decode cX5_beganSo 135 = .ok (.getfield 26, 3) := by decide +kernel
theorem dX5_beganSo_138 : decode cX5_beganSo 138 = .ok (.iload 4, 2) := by decide +kernel
theorem dX5_beganSo_140 : decode cX5_beganSo 140 = .ok (.invokevirtual 240, 3) := by decide +kernel
theorem dX5_beganSo_143 : decode cX5_beganSo 143 = .ok (.if_icmp .eq 5, 3) := by decide +kernel
theorem dX5_beganSo_146 : decode cX5_beganSo 146 = .ok (.iconst 0, 1) := by decide +kernel
theorem dX5_beganSo_147 : decode cX5_beganSo 147 = .ok (.ireturn, 1) := by decide +kernel
theorem dX5_beganSo_148 : decode cX5_beganSo 148 = .ok (.iinc 4 1, 3) := by decide +kernel
theorem dX5_beganSo_151 : decode cX5_beganSo 151 = .ok (.goto (-52), 3) := by decide +kernel
theorem dX5_beganSo_154 : decode cX5_beganSo 154 = .ok (.iconst 1, 1) := by decide +kernel
theorem dX5_beganSo_155 : decode cX5_beganSo 155 = .ok (.ireturn, 1) := by decide +kernel
set_option maxRecDepth 20000 in
theorem ggX5_nightsTold_X1_init : GoodIn wsX5_nightsTold wsX1_init := goodIn_r _ [9, 10, 11, 12, 13, 112] (by decide +kernel) (by decide +kernel)
set_option maxRecDepth 20000 in
theorem gX5_nightsTold_X1_init : GoodIn wsX5_nightsTold (wsX1_init) := ggX5_nightsTold_X1_init
set_option maxRecDepth 20000 in
theorem ggX5_nightsTold_X0_takeFrom : GoodIn wsX5_nightsTold wsX0_takeFrom := goodIn_r _ [18, 19, 20, 21, 127, 128, 129, 130] (by decide +kernel) (by decide +kernel)
set_option maxRecDepth 20000 in
theorem gX5_nightsTold_X0_takeFrom : GoodIn wsX5_nightsTold (wsV RX5 225 RX0 yX0_takeFrom wsX0_takeFrom) := goodIn_app (goodIn_of _ (by decide +kernel)) ggX5_nightsTold_X0_takeFrom
set_option maxRecDepth 20000 in
theorem ggX5_nightsTold_X5_happen : GoodIn wsX5_nightsTold wsX5_happen := goodIn_r _ [26, 4, 6, 27, 28, 29, 3, 30, 31, 13, 32, 33, 34, 35, 36, 37, 17, 38, 19, 39, 40, 41, 42, 43, 44, 45, 46, 25, 47, 48, 49, 50, 51, 20, 113, 114, 115, 116, 117, 118, 119, 120, 121, 131, 132, 133, 134, 135, 127, 128, 129, 130, 112] (by decide +kernel) (by decide +kernel)
set_option maxRecDepth 20000 in
theorem gX5_nightsTold_X5_happen : GoodIn wsX5_nightsTold (wsV RX5 248 RX5 yX5_happen wsX5_happen) := goodIn_app (goodIn_of _ (by decide +kernel)) ggX5_nightsTold_X5_happen
set_option maxRecDepth 20000 in
theorem ggX5_nightsTold_X0_goOn : GoodIn wsX5_nightsTold wsX0_goOn := goodIn_r _ [55, 56, 19, 20, 57, 58, 59, 17, 60, 61, 62, 63, 64, 65, 66, 67, 42, 68, 44, 69, 70, 71, 72, 73, 74, 75, 76, 77, 78, 79, 80, 81, 82, 40, 41, 43, 45, 39, 83, 84, 85, 86, 21, 87, 88, 89, 90, 91, 92, 93, 94, 95, 49, 50, 51, 96, 25, 97, 131, 132, 133, 134, 135, 127, 128, 129, 130] (by decide +kernel) (by decide +kernel)
set_option maxRecDepth 20000 in
theorem gX5_nightsTold_X0_goOn : GoodIn wsX5_nightsTold (wsV RX5 118 RX0 yX0_goOn wsX0_goOn) := goodIn_app (goodIn_of _ (by decide +kernel)) ggX5_nightsTold_X0_goOn
set_option maxRecDepth 20000 in
theorem ggX5_nightsTold_X0_palmsRight : GoodIn wsX5_nightsTold wsX0_palmsRight := goodIn_r _ [101, 19, 102, 103, 104, 42, 105, 44, 106, 131, 132, 133, 134, 135, 127, 128, 129, 130] (by decide +kernel) (by decide +kernel)
set_option maxRecDepth 20000 in
theorem gX5_nightsTold_X0_palmsRight : GoodIn wsX5_nightsTold (wsV RX5 125 RX0 yX0_palmsRight wsX0_palmsRight) := goodIn_app (goodIn_of _ (by decide +kernel)) ggX5_nightsTold_X0_palmsRight
set_option maxRecDepth 20000 in
theorem ggX5_nightsTold_X2_allPalms : GoodIn wsX5_nightsTold wsX2_allPalms := goodIn_r _ [110, 44, 106, 131, 132, 133, 134, 135] (by decide +kernel) (by decide +kernel)
set_option maxRecDepth 20000 in
theorem gX5_nightsTold_X2_allPalms : GoodIn wsX5_nightsTold (wsV RX5 179 RX2 yX2_allPalms wsX2_allPalms) := goodIn_app (goodIn_of _ (by decide +kernel)) ggX5_nightsTold_X2_allPalms
set_option maxRecDepth 20000 in
theorem ggX5_nightsTold_X5_oneIf : GoodIn wsX5_nightsTold wsX5_oneIf := goodIn_r _ [97] (by decide +kernel) (by decide +kernel)
set_option maxRecDepth 20000 in
theorem gX5_nightsTold_X5_oneIf : GoodIn wsX5_nightsTold (va_wsS RX5 218 yX5_oneIf wsX5_oneIf) := goodIn_app (goodIn_of _ (by decide +kernel)) ggX5_nightsTold_X5_oneIf
theorem dX5_nightsTold_0 : decode cX5_nightsTold 0 = .ok (.new 243, 3) := by decide +kernel
theorem dX5_nightsTold_3 : decode cX5_nightsTold 3 = .ok (.dup, 1) := by decide +kernel
theorem dX5_nightsTold_4 : decode cX5_nightsTold 4 = .ok (.iload_n 2, 1) := by decide +kernel
theorem dX5_nightsTold_5 : decode cX5_nightsTold 5 = .ok (.invokespecial 245, 3) := by decide +kernel
theorem dX5_nightsTold_8 : decode cX5_nightsTold 8 = .ok (.astore 4, 2) := by decide +kernel
theorem dX5_nightsTold_10 : decode cX5_nightsTold 10 = .ok (.iconst 0, 1) := by decide +kernel
theorem dX5_nightsTold_11 : decode cX5_nightsTold 11 = .ok (.istore 5, 2) := by decide +kernel
theorem dX5_nightsTold_13 : decode cX5_nightsTold 13 = .ok (.aload_n 0, 1) := by decide +kernel
theorem dX5_nightsTold_14 : decode cX5_nightsTold 14 = .ok (.getfield 36, 3) := by decide +kernel
theorem dX5_nightsTold_17 : decode cX5_nightsTold 17 = .ok (.aload_n 0, 1) := by decide +kernel
theorem dX5_nightsTold_18 : decode cX5_nightsTold 18 = .ok (.getfield 26, 3) := by decide +kernel
theorem dX5_nightsTold_21 : decode cX5_nightsTold 21 = .ok (.getfield 98, 3) := by decide +kernel
theorem dX5_nightsTold_24 : decode cX5_nightsTold 24 = .ok (.invokevirtual 225, 3) := by decide +kernel
theorem dX5_nightsTold_27 : decode cX5_nightsTold 27 = .ok (.iconst 0, 1) := by decide +kernel
theorem dX5_nightsTold_28 : decode cX5_nightsTold 28 = .ok (.istore 6, 2) := by decide +kernel
theorem dX5_nightsTold_30 : decode cX5_nightsTold 30 = .ok (.iload 6, 2) := by decide +kernel
theorem dX5_nightsTold_32 : decode cX5_nightsTold 32 = .ok (.iload_n 1, 1) := by decide +kernel
theorem dX5_nightsTold_33 : decode cX5_nightsTold 33 = .ok (.if_icmp .ge 63, 3) := by decide +kernel
theorem dX5_nightsTold_36 : decode cX5_nightsTold 36 = .ok (.aload_n 0, 1) := by decide +kernel
theorem dX5_nightsTold_37 : decode cX5_nightsTold 37 = .ok (.aload 4, 2) := by decide +kernel
theorem dX5_nightsTold_39 : decode cX5_nightsTold 39 = .ok (.invokevirtual 248, 3) := by decide +kernel
theorem dX5_nightsTold_42 : decode cX5_nightsTold 42 = .ok (.aload_n 0, 1) := by decide +kernel
theorem dX5_nightsTold_43 : decode cX5_nightsTold 43 = .ok (.getfield 36, 3) := by decide +kernel
theorem dX5_nightsTold_46 : decode cX5_nightsTold 46 = .ok (.aload_n 0, 1) := by decide +kernel
theorem dX5_nightsTold_47 : decode cX5_nightsTold 47 = .ok (.getfield 19, 3) := by decide +kernel
theorem dX5_nightsTold_50 : decode cX5_nightsTold 50 = .ok (.invokevirtual 118, 3) := by decide +kernel
theorem dX5_nightsTold_53 : decode cX5_nightsTold 53 = .ok (.pop, 1) := by decide +kernel
theorem dX5_nightsTold_54 : decode cX5_nightsTold 54 = .ok (.iload 5, 2) := by decide +kernel
theorem dX5_nightsTold_56 : decode cX5_nightsTold 56 = .ok (.iconst 2, 1) := by decide +kernel
theorem dX5_nightsTold_57 : decode cX5_nightsTold 57 = .ok (.aload_n 0, 1) := by decide +kernel
theorem dX5_nightsTold_58 : decode cX5_nightsTold 58 = .ok (.getfield 36, 3) := by decide +kernel
theorem dX5_nightsTold_61 : decode cX5_nightsTold 61 = .ok (.aload_n 0, 1) := by decide +kernel
theorem dX5_nightsTold_62 : decode cX5_nightsTold 62 = .ok (.getfield 19, 3) := by decide +kernel
theorem dX5_nightsTold_65 : decode cX5_nightsTold 65 = .ok (.invokevirtual 125, 3) := by decide +kernel
theorem dX5_nightsTold_68 : decode cX5_nightsTold 68 = .ok (.imul, 1) := by decide +kernel
theorem dX5_nightsTold_69 : decode cX5_nightsTold 69 = .ok (.aload_n 0, 1) := by decide +kernel
theorem dX5_nightsTold_70 : decode cX5_nightsTold 70 = .ok (.getfield 19, 3) := by decide +kernel
theorem dX5_nightsTold_73 : decode cX5_nightsTold 73 = .ok (.invokevirtual 179, 3) := by decide +kernel
theorem dX5_nightsTold_76 : decode cX5_nightsTold 76 = .ok (.if_icmp .le 7, 3) := by decide +kernel
theorem dX5_nightsTold_79 : decode cX5_nightsTold 79 = .ok (.iconst 1, 1) := by decide +kernel
theorem dX5_nightsTold_80 : decode cX5_nightsTold 80 = .ok (.goto 4, 3) := by decide +kernel
theorem dX5_nightsTold_83 : decode cX5_nightsTold 83 = .ok (.iconst 0, 1) := by decide +kernel
theorem dX5_nightsTold_84 : decode cX5_nightsTold 84 = .ok (.invokestatic 218, 3) := by decide +kernel
theorem dX5_nightsTold_87 : decode cX5_nightsTold 87 = .ok (.iadd, 1) := by decide +kernel
theorem dX5_nightsTold_88 : decode cX5_nightsTold 88 = .ok (.istore 5, 2) := by decide +kernel
theorem dX5_nightsTold_90 : decode cX5_nightsTold 90 = .ok (.iinc 6 1, 3) := by decide +kernel
theorem dX5_nightsTold_93 : decode cX5_nightsTold 93 = .ok (.goto (-63), 3) := by decide +kernel
theorem dX5_nightsTold_96 : decode cX5_nightsTold 96 = .ok (.iload_n 3, 1) := by decide +kernel
theorem dX5_nightsTold_97 : decode cX5_nightsTold 97 = .ok (.ifCond .ne 15, 3) := by decide +kernel
theorem dX5_nightsTold_100 : decode cX5_nightsTold 100 = .ok (.aload_n 0, 1) := by decide +kernel
theorem dX5_nightsTold_101 : decode cX5_nightsTold 101 = .ok (.getfield 36, 3) := by decide +kernel
theorem dX5_nightsTold_104 : decode cX5_nightsTold 104 = .ok (.aload_n 0, 1) := by decide +kernel
theorem dX5_nightsTold_105 : decode cX5_nightsTold 105 = .ok (.getfield 19, 3) := by decide +kernel
theorem dX5_nightsTold_108 : decode cX5_nightsTold 108 = .ok (.invokevirtual 125, 3) := by decide +kernel
theorem dX5_nightsTold_111 : decode cX5_nightsTold 111 = .ok (.ireturn, 1) := by decide +kernel
theorem dX5_nightsTold_112 : decode cX5_nightsTold 112 = .ok (.iload_n 3, 1) := by decide +kernel
theorem dX5_nightsTold_113 : decode cX5_nightsTold 113 = .ok (.iconst 1, 1) := by decide +kernel
theorem dX5_nightsTold_114 : decode cX5_nightsTold 114 = .ok (.if_icmp .ne 8, 3) := by decide +kernel
theorem dX5_nightsTold_117 : decode cX5_nightsTold 117 = .ok (.iload 5, 2) := by decide +kernel
theorem dX5_nightsTold_119 : decode cX5_nightsTold 119 = .ok (.goto 8, 3) := by decide +kernel
theorem dX5_nightsTold_122 : decode cX5_nightsTold 122 = .ok (.aload 4, 2) := by decide +kernel
theorem dX5_nightsTold_124 : decode cX5_nightsTold 124 = .ok (.getfield 252, 3) := by decide +kernel
theorem dX5_nightsTold_127 : decode cX5_nightsTold 127 = .ok (.ireturn, 1) := by decide +kernel
set_option maxRecDepth 20000 in
theorem ggX5_happen_X1_next : GoodIn wsX5_happen wsX1_next := goodIn_r _ [7, 8, 9, 10, 11, 12, 52] (by decide +kernel) (by decide +kernel)
set_option maxRecDepth 20000 in
theorem gX5_happen_X1_next : GoodIn wsX5_happen (wsV RX5 255 RX1 yX1_next wsX1_next) := goodIn_app (goodIn_of _ (by decide +kernel)) ggX5_happen_X1_next
set_option maxRecDepth 20000 in
theorem ggX5_happen_X0_leaveBeatOut : GoodIn wsX5_happen wsX0_leaveBeatOut := goodIn_r _ [17, 18, 19, 20, 21, 22, 23, 24, 25, 26, 27, 28, 43, 44, 45, 46, 47, 48, 49, 50, 51] (by decide +kernel) (by decide +kernel)
set_option maxRecDepth 20000 in
theorem gX5_happen_X0_leaveBeatOut : GoodIn wsX5_happen (wsV RX5 129 RX0 yX0_leaveBeatOut wsX0_leaveBeatOut) := goodIn_app (goodIn_of _ (by decide +kernel)) ggX5_happen_X0_leaveBeatOut
set_option maxRecDepth 20000 in
theorem ggX5_happen_X0_let : GoodIn wsX5_happen wsX0_let := goodIn_r _ [32, 18, 33, 48, 49, 50, 51] (by decide +kernel) (by decide +kernel)
set_option maxRecDepth 20000 in
theorem gX5_happen_X0_let : GoodIn wsX5_happen (wsV RX5 108 RX0 yX0_let wsX0_let) := goodIn_app (goodIn_of _ (by decide +kernel)) ggX5_happen_X0_let
theorem dX5_happen_0 : decode cX5_happen 0 = .ok (.aload_n 1, 1) := by decide +kernel
theorem dX5_happen_1 : decode cX5_happen 1 = .ok (.bipush 6, 2) := by decide +kernel
theorem dX5_happen_3 : decode cX5_happen 3 = .ok (.invokevirtual 255, 3) := by decide +kernel
theorem dX5_happen_6 : decode cX5_happen 6 = .ok (.tableswitch 78 0 2 #[26, 40, 62], 26) := by decide +kernel
theorem dX5_happen_32 : decode cX5_happen 32 = .ok (.aload_n 0, 1) := by decide +kernel
theorem dX5_happen_33 : decode cX5_happen 33 = .ok (.getfield 36, 3) := by decide +kernel
theorem dX5_happen_36 : decode cX5_happen 36 = .ok (.aload_n 0, 1) := by decide +kernel
theorem dX5_happen_37 : decode cX5_happen 37 = .ok (.getfield 19, 3) := by decide +kernel
theorem dX5_happen_40 : decode cX5_happen 40 = .ok (.invokevirtual 129, 3) := by decide +kernel
theorem dX5_happen_43 : decode cX5_happen 43 = .ok (.goto 41, 3) := by decide +kernel
theorem dX5_happen_46 : decode cX5_happen 46 = .ok (.aload_n 0, 1) := by decide +kernel
theorem dX5_happen_47 : decode cX5_happen 47 = .ok (.getfield 36, 3) := by decide +kernel
theorem dX5_happen_50 : decode cX5_happen 50 = .ok (.aload_n 1, 1) := by decide +kernel
theorem dX5_happen_51 : decode cX5_happen 51 = .ok (.aload_n 0, 1) := by decide +kernel
theorem dX5_happen_52 : decode cX5_happen 52 = .ok (.getfield 19, 3) := by decide +kernel
theorem dX5_happen_55 : decode cX5_happen 55 = .ok (.getfield 84, 3) := by decide +kernel
theorem dX5_happen_58 : decode cX5_happen 58 = .ok (.invokevirtual 255, 3) := by decide +kernel
theorem dX5_happen_61 : decode cX5_happen 61 = .ok (.iconst 2, 1) := by decide +kernel
theorem dX5_happen_62 : decode cX5_happen 62 = .ok (.invokevirtual 108, 3) := by decide +kernel
theorem dX5_happen_65 : decode cX5_happen 65 = .ok (.goto 19, 3) := by decide +kernel
theorem dX5_happen_68 : decode cX5_happen 68 = .ok (.aload_n 0, 1) := by decide +kernel
theorem dX5_happen_69 : decode cX5_happen 69 = .ok (.getfield 36, 3) := by decide +kernel
theorem dX5_happen_72 : decode cX5_happen 72 = .ok (.aload_n 1, 1) := by decide +kernel
theorem dX5_happen_73 : decode cX5_happen 73 = .ok (.bipush 9, 2) := by decide +kernel
theorem dX5_happen_75 : decode cX5_happen 75 = .ok (.invokevirtual 255, 3) := by decide +kernel
theorem dX5_happen_78 : decode cX5_happen 78 = .ok (.putfield 115, 3) := by decide +kernel
theorem dX5_happen_81 : decode cX5_happen 81 = .ok (.goto 3, 3) := by decide +kernel
theorem dX5_happen_84 : decode cX5_happen 84 = .ok (.return_, 1) := by decide +kernel
theorem dX6_init_0 : decode cX6_init 0 = .ok (.aload_n 0, 1) := by decide +kernel
theorem dX6_init_1 : decode cX6_init 1 = .ok (.invokespecial 1, 3) := by decide +kernel
theorem dX6_init_4 : decode cX6_init 4 = .ok (.aload_n 0, 1) := by decide +kernel
theorem dX6_init_5 : decode cX6_init 5 = .ok (.bipush 36, 2) := by decide +kernel
theorem dX6_init_7 : decode cX6_init 7 = .ok (.newarray .int, 2) := by decide +kernel
theorem dX6_init_9 : decode cX6_init 9 = .ok (.putfield 7, 3) := by decide +kernel
theorem dX6_init_12 : decode cX6_init 12 = .ok (.aload_n 0, 1) := by decide +kernel
theorem dX6_init_13 : decode cX6_init 13 = .ok (.bipush 24, 2) := by decide +kernel
theorem dX6_init_15 : decode cX6_init 15 = .ok (.newarray .int, 2) := by decide +kernel
end
section
theorem dX6_init_17 : decode cX6_init 17 = .ok (.putfield 13, 3) := by decide +kernel
theorem dX6_init_20 : decode cX6_init 20 = .ok (.aload_n 0, 1) := by decide +kernel
theorem dX6_init_21 : decode cX6_init 21 = .ok (.bipush 24, 2) := by decide +kernel
theorem dX6_init_23 : decode cX6_init 23 = .ok (.newarray .int, 2) := by decide +kernel
theorem dX6_init_25 : decode cX6_init 25 = .ok (.putfield 16, 3) := by decide +kernel
theorem dX6_init_28 : decode cX6_init 28 = .ok (.aload_n 0, 1) := by decide +kernel
theorem dX6_init_29 : decode cX6_init 29 = .ok (.bipush 8, 2) := by decide +kernel
theorem dX6_init_31 : decode cX6_init 31 = .ok (.newarray .int, 2) := by decide +kernel
theorem dX6_init_33 : decode cX6_init 33 = .ok (.putfield 19, 3) := by decide +kernel
theorem dX6_init_36 : decode cX6_init 36 = .ok (.aload_n 0, 1) := by decide +kernel
theorem dX6_init_37 : decode cX6_init 37 = .ok (.bipush 8, 2) := by decide +kernel
theorem dX6_init_39 : decode cX6_init 39 = .ok (.newarray .int, 2) := by decide +kernel
theorem dX6_init_41 : decode cX6_init 41 = .ok (.putfield 22, 3) := by decide +kernel
theorem dX6_init_44 : decode cX6_init 44 = .ok (.aload_n 0, 1) := by decide +kernel
theorem dX6_init_45 : decode cX6_init 45 = .ok (.bipush 8, 2) := by decide +kernel
theorem dX6_init_47 : decode cX6_init 47 = .ok (.newarray .int, 2) := by decide +kernel
theorem dX6_init_49 : decode cX6_init 49 = .ok (.putfield 25, 3) := by decide +kernel
theorem dX6_init_52 : decode cX6_init 52 = .ok (.aload_n 0, 1) := by decide +kernel
theorem dX6_init_53 : decode cX6_init 53 = .ok (.bipush 8, 2) := by decide +kernel
theorem dX6_init_55 : decode cX6_init 55 = .ok (.newarray .int, 2) := by decide +kernel
theorem dX6_init_57 : decode cX6_init 57 = .ok (.putfield 28, 3) := by decide +kernel
theorem dX6_init_60 : decode cX6_init 60 = .ok (.aload_n 0, 1) := by decide +kernel
theorem dX6_init_61 : decode cX6_init 61 = .ok (.bipush 8, 2) := by decide +kernel
theorem dX6_init_63 : decode cX6_init 63 = .ok (.newarray .int, 2) := by decide +kernel
theorem dX6_init_65 : decode cX6_init 65 = .ok (.putfield 31, 3) := by decide +kernel
theorem dX6_init_68 : decode cX6_init 68 = .ok (.aload_n 0, 1) := by decide +kernel
theorem dX6_init_69 : decode cX6_init 69 = .ok (.bipush 8, 2) := by decide +kernel
theorem dX6_init_71 : decode cX6_init 71 = .ok (.newarray .int, 2) := by decide +kernel
theorem dX6_init_73 : decode cX6_init 73 = .ok (.putfield 34, 3) := by decide +kernel
theorem dX6_init_76 : decode cX6_init 76 = .ok (.aload_n 0, 1) := by decide +kernel
theorem dX6_init_77 : decode cX6_init 77 = .ok (.bipush 8, 2) := by decide +kernel
theorem dX6_init_79 : decode cX6_init 79 = .ok (.newarray .int, 2) := by decide +kernel
theorem dX6_init_81 : decode cX6_init 81 = .ok (.putfield 37, 3) := by decide +kernel
theorem dX6_init_84 : decode cX6_init 84 = .ok (.aload_n 0, 1) := by decide +kernel
theorem dX6_init_85 : decode cX6_init 85 = .ok (.bipush 8, 2) := by decide +kernel
theorem dX6_init_87 : decode cX6_init 87 = .ok (.newarray .int, 2) := by decide +kernel
theorem dX6_init_89 : decode cX6_init 89 = .ok (.putfield 40, 3) := by decide +kernel
theorem dX6_init_92 : decode cX6_init 92 = .ok (.aload_n 0, 1) := by decide +kernel
theorem dX6_init_93 : decode cX6_init 93 = .ok (.bipush 8, 2) := by decide +kernel
theorem dX6_init_95 : decode cX6_init 95 = .ok (.newarray .int, 2) := by decide +kernel
theorem dX6_init_97 : decode cX6_init 97 = .ok (.putfield 43, 3) := by decide +kernel
theorem dX6_init_100 : decode cX6_init 100 = .ok (.aload_n 0, 1) := by decide +kernel
theorem dX6_init_101 : decode cX6_init 101 = .ok (.iconst (-1), 1) := by decide +kernel
theorem dX6_init_102 : decode cX6_init 102 = .ok (.putfield 46, 3) := by decide +kernel
theorem dX6_init_105 : decode cX6_init 105 = .ok (.return_, 1) := by decide +kernel
theorem dX6_in_0 : decode cX6_in 0 = .ok (.lload_n 0, 1) := by decide +kernel
theorem dX6_in_1 : decode cX6_in 1 = .ok (.lload_n 2, 1) := by decide +kernel
theorem dX6_in_2 : decode cX6_in 2 = .ok (.lcmp, 1) := by decide +kernel
theorem dX6_in_3 : decode cX6_in 3 = .ok (.ifCond .lt 14, 3) := by decide +kernel
theorem dX6_in_6 : decode cX6_in 6 = .ok (.lload_n 0, 1) := by decide +kernel
theorem dX6_in_7 : decode cX6_in 7 = .ok (.lload 4, 2) := by decide +kernel
theorem dX6_in_9 : decode cX6_in 9 = .ok (.lcmp, 1) := by decide +kernel
theorem dX6_in_10 : decode cX6_in 10 = .ok (.ifCond .gt 7, 3) := by decide +kernel
theorem dX6_in_13 : decode cX6_in 13 = .ok (.iconst 1, 1) := by decide +kernel
theorem dX6_in_14 : decode cX6_in 14 = .ok (.goto 4, 3) := by decide +kernel
theorem dX6_in_17 : decode cX6_in 17 = .ok (.iconst 0, 1) := by decide +kernel
theorem dX6_in_18 : decode cX6_in 18 = .ok (.ireturn, 1) := by decide +kernel
set_option maxRecDepth 20000 in
theorem ggX6_letter_X6_in : GoodIn wsX6_letter wsX6_in := goodIn_r _ [7] (by decide +kernel) (by decide +kernel)
set_option maxRecDepth 20000 in
theorem gX6_letter_X6_in : GoodIn wsX6_letter (va_wsS RX6 52 yX6_in wsX6_in) := goodIn_app (goodIn_of _ (by decide +kernel)) ggX6_letter_X6_in
theorem dX6_letter_0 : decode cX6_letter 0 = .ok (.iload_n 1, 1) := by decide +kernel
theorem dX6_letter_1 : decode cX6_letter 1 = .ok (.i2l, 1) := by decide +kernel
theorem dX6_letter_2 : decode cX6_letter 2 = .ok (.lconst 1, 1) := by decide +kernel
theorem dX6_letter_3 : decode cX6_letter 3 = .ok (.ldc2_w 50, 3) := by decide +kernel
theorem dX6_letter_6 : decode cX6_letter 6 = .ok (.invokestatic 52, 3) := by decide +kernel
theorem dX6_letter_9 : decode cX6_letter 9 = .ok (.ifCond .ne 6, 3) := by decide +kernel
theorem dX6_letter_12 : decode cX6_letter 12 = .ok (.bipush (-102), 2) := by decide +kernel
theorem dX6_letter_14 : decode cX6_letter 14 = .ok (.ireturn, 1) := by decide +kernel
theorem dX6_letter_15 : decode cX6_letter 15 = .ok (.aload_n 0, 1) := by decide +kernel
theorem dX6_letter_16 : decode cX6_letter 16 = .ok (.getfield 56, 3) := by decide +kernel
theorem dX6_letter_19 : decode cX6_letter 19 = .ok (.bipush 36, 2) := by decide +kernel
theorem dX6_letter_21 : decode cX6_letter 21 = .ok (.if_icmp .ne 6, 3) := by decide +kernel
theorem dX6_letter_24 : decode cX6_letter 24 = .ok (.bipush (-104), 2) := by decide +kernel
theorem dX6_letter_26 : decode cX6_letter 26 = .ok (.ireturn, 1) := by decide +kernel
theorem dX6_letter_27 : decode cX6_letter 27 = .ok (.aload_n 0, 1) := by decide +kernel
theorem dX6_letter_28 : decode cX6_letter 28 = .ok (.getfield 7, 3) := by decide +kernel
theorem dX6_letter_31 : decode cX6_letter 31 = .ok (.aload_n 0, 1) := by decide +kernel
theorem dX6_letter_32 : decode cX6_letter 32 = .ok (.getfield 56, 3) := by decide +kernel
theorem dX6_letter_35 : decode cX6_letter 35 = .ok (.iload_n 1, 1) := by decide +kernel
theorem dX6_letter_36 : decode cX6_letter 36 = .ok (.iastore, 1) := by decide +kernel
theorem dX6_letter_37 : decode cX6_letter 37 = .ok (.aload_n 0, 1) := by decide +kernel
theorem dX6_letter_38 : decode cX6_letter 38 = .ok (.dup, 1) := by decide +kernel
theorem dX6_letter_39 : decode cX6_letter 39 = .ok (.getfield 56, 3) := by decide +kernel
theorem dX6_letter_42 : decode cX6_letter 42 = .ok (.iconst 1, 1) := by decide +kernel
theorem dX6_letter_43 : decode cX6_letter 43 = .ok (.iadd, 1) := by decide +kernel
theorem dX6_letter_44 : decode cX6_letter 44 = .ok (.putfield 56, 3) := by decide +kernel
theorem dX6_letter_47 : decode cX6_letter 47 = .ok (.aload_n 0, 1) := by decide +kernel
theorem dX6_letter_48 : decode cX6_letter 48 = .ok (.getfield 56, 3) := by decide +kernel
theorem dX6_letter_51 : decode cX6_letter 51 = .ok (.ireturn, 1) := by decide +kernel
theorem dX6_blank_0 : decode cX6_blank 0 = .ok (.aload_n 0, 1) := by decide +kernel
theorem dX6_blank_1 : decode cX6_blank 1 = .ok (.getfield 56, 3) := by decide +kernel
theorem dX6_blank_4 : decode cX6_blank 4 = .ok (.istore_n 1, 1) := by decide +kernel
theorem dX6_blank_5 : decode cX6_blank 5 = .ok (.aload_n 0, 1) := by decide +kernel
theorem dX6_blank_6 : decode cX6_blank 6 = .ok (.iconst 0, 1) := by decide +kernel
theorem dX6_blank_7 : decode cX6_blank 7 = .ok (.putfield 56, 3) := by decide +kernel
theorem dX6_blank_10 : decode cX6_blank 10 = .ok (.iload_n 1, 1) := by decide +kernel
theorem dX6_blank_11 : decode cX6_blank 11 = .ok (.ireturn, 1) := by decide +kernel
theorem dX6_kindBy_0 : decode cX6_kindBy 0 = .ok (.iload_n 0, 1) := by decide +kernel
theorem dX6_kindBy_1 : decode cX6_kindBy 1 = .ok (.bipush 99, 2) := by decide +kernel
theorem dX6_kindBy_3 : decode cX6_kindBy 3 = .ok (.if_icmp .ne 7, 3) := by decide +kernel
theorem dX6_kindBy_6 : decode cX6_kindBy 6 = .ok (.iconst 0, 1) := by decide +kernel
theorem dX6_kindBy_7 : decode cX6_kindBy 7 = .ok (.goto 44, 3) := by decide +kernel
theorem dX6_kindBy_10 : decode cX6_kindBy 10 = .ok (.iload_n 0, 1) := by decide +kernel
theorem dX6_kindBy_11 : decode cX6_kindBy 11 = .ok (.bipush 115, 2) := by decide +kernel
theorem dX6_kindBy_13 : decode cX6_kindBy 13 = .ok (.if_icmp .ne 7, 3) := by decide +kernel
theorem dX6_kindBy_16 : decode cX6_kindBy 16 = .ok (.iconst 1, 1) := by decide +kernel
theorem dX6_kindBy_17 : decode cX6_kindBy 17 = .ok (.goto 34, 3) := by decide +kernel
theorem dX6_kindBy_20 : decode cX6_kindBy 20 = .ok (.iload_n 0, 1) := by decide +kernel
theorem dX6_kindBy_21 : decode cX6_kindBy 21 = .ok (.bipush 102, 2) := by decide +kernel
theorem dX6_kindBy_23 : decode cX6_kindBy 23 = .ok (.if_icmp .ne 7, 3) := by decide +kernel
theorem dX6_kindBy_26 : decode cX6_kindBy 26 = .ok (.iconst 2, 1) := by decide +kernel
theorem dX6_kindBy_27 : decode cX6_kindBy 27 = .ok (.goto 24, 3) := by decide +kernel
theorem dX6_kindBy_30 : decode cX6_kindBy 30 = .ok (.iload_n 0, 1) := by decide +kernel
theorem dX6_kindBy_31 : decode cX6_kindBy 31 = .ok (.bipush 101, 2) := by decide +kernel
theorem dX6_kindBy_33 : decode cX6_kindBy 33 = .ok (.if_icmp .ne 7, 3) := by decide +kernel
theorem dX6_kindBy_36 : decode cX6_kindBy 36 = .ok (.iconst 3, 1) := by decide +kernel
theorem dX6_kindBy_37 : decode cX6_kindBy 37 = .ok (.goto 14, 3) := by decide +kernel
theorem dX6_kindBy_40 : decode cX6_kindBy 40 = .ok (.iload_n 0, 1) := by decide +kernel
theorem dX6_kindBy_41 : decode cX6_kindBy 41 = .ok (.bipush 100, 2) := by decide +kernel
theorem dX6_kindBy_43 : decode cX6_kindBy 43 = .ok (.if_icmp .ne 7, 3) := by decide +kernel
theorem dX6_kindBy_46 : decode cX6_kindBy 46 = .ok (.iconst 4, 1) := by decide +kernel
theorem dX6_kindBy_47 : decode cX6_kindBy 47 = .ok (.goto 4, 3) := by decide +kernel
theorem dX6_kindBy_50 : decode cX6_kindBy 50 = .ok (.iconst (-1), 1) := by decide +kernel
theorem dX6_kindBy_51 : decode cX6_kindBy 51 = .ok (.ireturn, 1) := by decide +kernel
set_option maxRecDepth 20000 in
theorem ggX6_go_X6_kindBy : GoodIn wsX6_go wsX6_kindBy := goodIn_r _ [10] (by decide +kernel) (by decide +kernel)
set_option maxRecDepth 20000 in
theorem gX6_go_X6_kindBy : GoodIn wsX6_go (va_wsS RX6 65 yX6_kindBy wsX6_kindBy) := goodIn_app (goodIn_of _ (by decide +kernel)) ggX6_go_X6_kindBy
set_option maxRecDepth 20000 in
theorem ggX6_go_X6_in : GoodIn wsX6_go wsX6_in := goodIn_r _ [13] (by decide +kernel) (by decide +kernel)
set_option maxRecDepth 20000 in
theorem gX6_go_X6_in : GoodIn wsX6_go (va_wsS RX6 52 yX6_in wsX6_in) := goodIn_app (goodIn_of _ (by decide +kernel)) ggX6_go_X6_in
theorem dX6_go_0 : decode cX6_go 0 = .ok (.iload_n 1, 1) := by decide +kernel
theorem dX6_go_1 : decode cX6_go 1 = .ok (.bipush 48, 2) := by decide +kernel
theorem dX6_go_3 : decode cX6_go 3 = .ok (.isub, 1) := by decide +kernel
theorem dX6_go_4 : decode cX6_go 4 = .ok (.istore_n 2, 1) := by decide +kernel
theorem dX6_go_5 : decode cX6_go 5 = .ok (.aload_n 0, 1) := by decide +kernel
theorem dX6_go_6 : decode cX6_go 6 = .ok (.getfield 59, 3) := by decide +kernel
theorem dX6_go_9 : decode cX6_go 9 = .ok (.istore_n 3, 1) := by decide +kernel
theorem dX6_go_10 : decode cX6_go 10 = .ok (.aload_n 0, 1) := by decide +kernel
theorem dX6_go_11 : decode cX6_go 11 = .ok (.dup, 1) := by decide +kernel
theorem dX6_go_12 : decode cX6_go 12 = .ok (.getfield 59, 3) := by decide +kernel
theorem dX6_go_15 : decode cX6_go 15 = .ok (.iconst 1, 1) := by decide +kernel
theorem dX6_go_16 : decode cX6_go 16 = .ok (.iadd, 1) := by decide +kernel
theorem dX6_go_17 : decode cX6_go 17 = .ok (.putfield 59, 3) := by decide +kernel
theorem dX6_go_20 : decode cX6_go 20 = .ok (.iload_n 3, 1) := by decide +kernel
theorem dX6_go_21 : decode cX6_go 21 = .ok (.ifCond .ne 32, 3) := by decide +kernel
theorem dX6_go_24 : decode cX6_go 24 = .ok (.aload_n 0, 1) := by decide +kernel
theorem dX6_go_25 : decode cX6_go 25 = .ok (.getfield 13, 3) := by decide +kernel
theorem dX6_go_28 : decode cX6_go 28 = .ok (.iconst 3, 1) := by decide +kernel
theorem dX6_go_29 : decode cX6_go 29 = .ok (.aload_n 0, 1) := by decide +kernel
theorem dX6_go_30 : decode cX6_go 30 = .ok (.getfield 62, 3) := by decide +kernel
theorem dX6_go_33 : decode cX6_go 33 = .ok (.imul, 1) := by decide +kernel
theorem dX6_go_34 : decode cX6_go 34 = .ok (.iload_n 1, 1) := by decide +kernel
theorem dX6_go_35 : decode cX6_go 35 = .ok (.invokestatic 65, 3) := by decide +kernel
theorem dX6_go_38 : decode cX6_go 38 = .ok (.iastore, 1) := by decide +kernel
theorem dX6_go_39 : decode cX6_go 39 = .ok (.iload_n 1, 1) := by decide +kernel
theorem dX6_go_40 : decode cX6_go 40 = .ok (.invokestatic 65, 3) := by decide +kernel
theorem dX6_go_43 : decode cX6_go 43 = .ok (.iconst (-1), 1) := by decide +kernel
theorem dX6_go_44 : decode cX6_go 44 = .ok (.if_icmp .eq 7, 3) := by decide +kernel
theorem dX6_go_47 : decode cX6_go 47 = .ok (.iconst 1, 1) := by decide +kernel
theorem dX6_go_48 : decode cX6_go 48 = .ok (.goto 4, 3) := by decide +kernel
theorem dX6_go_51 : decode cX6_go 51 = .ok (.iconst 0, 1) := by decide +kernel
theorem dX6_go_52 : decode cX6_go 52 = .ok (.ireturn, 1) := by decide +kernel
theorem dX6_go_53 : decode cX6_go 53 = .ok (.iload_n 3, 1) := by decide +kernel
theorem dX6_go_54 : decode cX6_go 54 = .ok (.iconst 1, 1) := by decide +kernel
theorem dX6_go_55 : decode cX6_go 55 = .ok (.if_icmp .ne 27, 3) := by decide +kernel
theorem dX6_go_58 : decode cX6_go 58 = .ok (.aload_n 0, 1) := by decide +kernel
theorem dX6_go_59 : decode cX6_go 59 = .ok (.getfield 13, 3) := by decide +kernel
theorem dX6_go_62 : decode cX6_go 62 = .ok (.iconst 3, 1) := by decide +kernel
theorem dX6_go_63 : decode cX6_go 63 = .ok (.aload_n 0, 1) := by decide +kernel
theorem dX6_go_64 : decode cX6_go 64 = .ok (.getfield 62, 3) := by decide +kernel
theorem dX6_go_67 : decode cX6_go 67 = .ok (.imul, 1) := by decide +kernel
theorem dX6_go_68 : decode cX6_go 68 = .ok (.iconst 1, 1) := by decide +kernel
theorem dX6_go_69 : decode cX6_go 69 = .ok (.iadd, 1) := by decide +kernel
theorem dX6_go_70 : decode cX6_go 70 = .ok (.iload_n 2, 1) := by decide +kernel
theorem dX6_go_71 : decode cX6_go 71 = .ok (.iastore, 1) := by decide +kernel
theorem dX6_go_72 : decode cX6_go 72 = .ok (.iload_n 2, 1) := by decide +kernel
theorem dX6_go_73 : decode cX6_go 73 = .ok (.i2l, 1) := by decide +kernel
theorem dX6_go_74 : decode cX6_go 74 = .ok (.lconst 1, 1) := by decide +kernel
theorem dX6_go_75 : decode cX6_go 75 = .ok (.ldc2_w 69, 3) := by decide +kernel
theorem dX6_go_78 : decode cX6_go 78 = .ok (.invokestatic 52, 3) := by decide +kernel
theorem dX6_go_81 : decode cX6_go 81 = .ok (.ireturn, 1) := by decide +kernel
theorem dX6_go_82 : decode cX6_go 82 = .ok (.iload_n 3, 1) := by decide +kernel
theorem dX6_go_83 : decode cX6_go 83 = .ok (.iconst 2, 1) := by decide +kernel
theorem dX6_go_84 : decode cX6_go 84 = .ok (.if_icmp .ne 37, 3) := by decide +kernel
theorem dX6_go_87 : decode cX6_go 87 = .ok (.aload_n 0, 1) := by decide +kernel
theorem dX6_go_88 : decode cX6_go 88 = .ok (.getfield 13, 3) := by decide +kernel
theorem dX6_go_91 : decode cX6_go 91 = .ok (.iconst 3, 1) := by decide +kernel
theorem dX6_go_92 : decode cX6_go 92 = .ok (.aload_n 0, 1) := by decide +kernel
theorem dX6_go_93 : decode cX6_go 93 = .ok (.getfield 62, 3) := by decide +kernel
theorem dX6_go_96 : decode cX6_go 96 = .ok (.imul, 1) := by decide +kernel
theorem dX6_go_97 : decode cX6_go 97 = .ok (.iconst 2, 1) := by decide +kernel
theorem dX6_go_98 : decode cX6_go 98 = .ok (.iadd, 1) := by decide +kernel
theorem dX6_go_99 : decode cX6_go 99 = .ok (.iload_n 2, 1) := by decide +kernel
theorem dX6_go_100 : decode cX6_go 100 = .ok (.iastore, 1) := by decide +kernel
theorem dX6_go_101 : decode cX6_go 101 = .ok (.aload_n 0, 1) := by decide +kernel
theorem dX6_go_102 : decode cX6_go 102 = .ok (.dup, 1) := by decide +kernel
theorem dX6_go_103 : decode cX6_go 103 = .ok (.getfield 62, 3) := by decide +kernel
theorem dX6_go_106 : decode cX6_go 106 = .ok (.iconst 1, 1) := by decide +kernel
theorem dX6_go_107 : decode cX6_go 107 = .ok (.iadd, 1) := by decide +kernel
theorem dX6_go_108 : decode cX6_go 108 = .ok (.putfield 62, 3) := by decide +kernel
theorem dX6_go_111 : decode cX6_go 111 = .ok (.iload_n 2, 1) := by decide +kernel
theorem dX6_go_112 : decode cX6_go 112 = .ok (.i2l, 1) := by decide +kernel
theorem dX6_go_113 : decode cX6_go 113 = .ok (.lconst 0, 1) := by decide +kernel
theorem dX6_go_114 : decode cX6_go 114 = .ok (.ldc2_w 69, 3) := by decide +kernel
theorem dX6_go_117 : decode cX6_go 117 = .ok (.invokestatic 52, 3) := by decide +kernel
theorem dX6_go_120 : decode cX6_go 120 = .ok (.ireturn, 1) := by decide +kernel
theorem dX6_go_121 : decode cX6_go 121 = .ok (.iload_n 3, 1) := by decide +kernel
theorem dX6_go_122 : decode cX6_go 122 = .ok (.iconst 3, 1) := by decide +kernel
theorem dX6_go_123 : decode cX6_go 123 = .ok (.if_icmp .ne 61, 3) := by decide +kernel
theorem dX6_go_126 : decode cX6_go 126 = .ok (.aload_n 0, 1) := by decide +kernel
theorem dX6_go_127 : decode cX6_go 127 = .ok (.iload_n 1, 1) := by decide +kernel
theorem dX6_go_128 : decode cX6_go 128 = .ok (.bipush 44, 2) := by decide +kernel
theorem dX6_go_130 : decode cX6_go 130 = .ok (.if_icmp .ne 7, 3) := by decide +kernel
theorem dX6_go_133 : decode cX6_go 133 = .ok (.iconst 0, 1) := by decide +kernel
theorem dX6_go_134 : decode cX6_go 134 = .ok (.goto 4, 3) := by decide +kernel
theorem dX6_go_137 : decode cX6_go 137 = .ok (.iconst 4, 1) := by decide +kernel
theorem dX6_go_138 : decode cX6_go 138 = .ok (.putfield 59, 3) := by decide +kernel
theorem dX6_go_141 : decode cX6_go 141 = .ok (.iload_n 1, 1) := by decide +kernel
theorem dX6_go_142 : decode cX6_go 142 = .ok (.bipush 44, 2) := by decide +kernel
theorem dX6_go_144 : decode cX6_go 144 = .ok (.if_icmp .ne 20, 3) := by decide +kernel
theorem dX6_go_147 : decode cX6_go 147 = .ok (.aload_n 0, 1) := by decide +kernel
theorem dX6_go_148 : decode cX6_go 148 = .ok (.getfield 62, 3) := by decide +kernel
theorem dX6_go_151 : decode cX6_go 151 = .ok (.bipush 8, 2) := by decide +kernel
theorem dX6_go_153 : decode cX6_go 153 = .ok (.if_icmp .ge 7, 3) := by decide +kernel
theorem dX6_go_156 : decode cX6_go 156 = .ok (.iconst 1, 1) := by decide +kernel
theorem dX6_go_157 : decode cX6_go 157 = .ok (.goto 26, 3) := by decide +kernel
theorem dX6_go_160 : decode cX6_go 160 = .ok (.iconst 0, 1) := by decide +kernel
theorem dX6_go_161 : decode cX6_go 161 = .ok (.goto 22, 3) := by decide +kernel
theorem dX6_go_164 : decode cX6_go 164 = .ok (.iload_n 1, 1) := by decide +kernel
theorem dX6_go_165 : decode cX6_go 165 = .ok (.bipush 59, 2) := by decide +kernel
theorem dX6_go_167 : decode cX6_go 167 = .ok (.if_icmp .ne 15, 3) := by decide +kernel
theorem dX6_go_170 : decode cX6_go 170 = .ok (.aload_n 0, 1) := by decide +kernel
theorem dX6_go_171 : decode cX6_go 171 = .ok (.getfield 62, 3) := by decide +kernel
theorem dX6_go_174 : decode cX6_go 174 = .ok (.iconst 2, 1) := by decide +kernel
theorem dX6_go_175 : decode cX6_go 175 = .ok (.if_icmp .le 7, 3) := by decide +kernel
theorem dX6_go_178 : decode cX6_go 178 = .ok (.iconst 1, 1) := by decide +kernel
theorem dX6_go_179 : decode cX6_go 179 = .ok (.goto 4, 3) := by decide +kernel
theorem dX6_go_182 : decode cX6_go 182 = .ok (.iconst 0, 1) := by decide +kernel
theorem dX6_go_183 : decode cX6_go 183 = .ok (.ireturn, 1) := by decide +kernel
theorem dX6_go_184 : decode cX6_go 184 = .ok (.aload_n 0, 1) := by decide +kernel
theorem dX6_go_185 : decode cX6_go 185 = .ok (.iload_n 2, 1) := by decide +kernel
theorem dX6_go_186 : decode cX6_go 186 = .ok (.putfield 71, 3) := by decide +kernel
theorem dX6_go_189 : decode cX6_go 189 = .ok (.iload_n 3, 1) := by decide +kernel
theorem dX6_go_190 : decode cX6_go 190 = .ok (.iconst 4, 1) := by decide +kernel
theorem dX6_go_191 : decode cX6_go 191 = .ok (.if_icmp .ne 19, 3) := by decide +kernel
theorem dX6_go_194 : decode cX6_go 194 = .ok (.iload_n 2, 1) := by decide +kernel
theorem dX6_go_195 : decode cX6_go 195 = .ok (.i2l, 1) := by decide +kernel
theorem dX6_go_196 : decode cX6_go 196 = .ok (.lconst 0, 1) := by decide +kernel
theorem dX6_go_197 : decode cX6_go 197 = .ok (.ldc2_w 74, 3) := by decide +kernel
theorem dX6_go_200 : decode cX6_go 200 = .ok (.invokestatic 52, 3) := by decide +kernel
theorem dX6_go_203 : decode cX6_go 203 = .ok (.ifCond .eq 7, 3) := by decide +kernel
theorem dX6_go_206 : decode cX6_go 206 = .ok (.iconst 1, 1) := by decide +kernel
theorem dX6_go_207 : decode cX6_go 207 = .ok (.goto 4, 3) := by decide +kernel
theorem dX6_go_210 : decode cX6_go 210 = .ok (.iconst 0, 1) := by decide +kernel
theorem dX6_go_211 : decode cX6_go 211 = .ok (.ireturn, 1) := by decide +kernel
set_option maxRecDepth 20000 in
theorem ggX6_faultOf_X6_go : GoodIn wsX6_faultOf wsX6_go := goodIn_r _ [9, 2, 10, 1, 11, 12, 13, 14, 15, 8, 16, 17, 18, 19, 20, 21, 22, 23, 24, 25, 26, 27, 28, 29, 30, 31, 32, 33, 34, 35, 36, 37, 38, 39, 40, 41, 42, 43, 44, 45, 46, 47, 48, 49, 50, 51, 52] (by decide +kernel) (by decide +kernel)
set_option maxRecDepth 20000 in
theorem gX6_faultOf_X6_go : GoodIn wsX6_faultOf (wsV RX6 76 RX6 yX6_go wsX6_go) := goodIn_app (goodIn_of _ (by decide +kernel)) ggX6_faultOf_X6_go
theorem dX6_faultOf_0 : decode cX6_faultOf 0 = .ok (.aload_n 0, 1) := by decide +kernel
theorem dX6_faultOf_1 : decode cX6_faultOf 1 = .ok (.iconst 0, 1) := by decide +kernel
theorem dX6_faultOf_2 : decode cX6_faultOf 2 = .ok (.putfield 62, 3) := by decide +kernel
theorem dX6_faultOf_5 : decode cX6_faultOf 5 = .ok (.aload_n 0, 1) := by decide +kernel
theorem dX6_faultOf_6 : decode cX6_faultOf 6 = .ok (.iconst 0, 1) := by decide +kernel
theorem dX6_faultOf_7 : decode cX6_faultOf 7 = .ok (.putfield 59, 3) := by decide +kernel
theorem dX6_faultOf_10 : decode cX6_faultOf 10 = .ok (.iconst 0, 1) := by decide +kernel
theorem dX6_faultOf_11 : decode cX6_faultOf 11 = .ok (.istore_n 1, 1) := by decide +kernel
theorem dX6_faultOf_12 : decode cX6_faultOf 12 = .ok (.iload_n 1, 1) := by decide +kernel
theorem dX6_faultOf_13 : decode cX6_faultOf 13 = .ok (.aload_n 0, 1) := by decide +kernel
theorem dX6_faultOf_14 : decode cX6_faultOf 14 = .ok (.getfield 56, 3) := by decide +kernel
theorem dX6_faultOf_17 : decode cX6_faultOf 17 = .ok (.if_icmp .ge 22, 3) := by decide +kernel
theorem dX6_faultOf_20 : decode cX6_faultOf 20 = .ok (.aload_n 0, 1) := by decide +kernel
theorem dX6_faultOf_21 : decode cX6_faultOf 21 = .ok (.aload_n 0, 1) := by decide +kernel
theorem dX6_faultOf_22 : decode cX6_faultOf 22 = .ok (.getfield 7, 3) := by decide +kernel
theorem dX6_faultOf_25 : decode cX6_faultOf 25 = .ok (.iload_n 1, 1) := by decide +kernel
theorem dX6_faultOf_26 : decode cX6_faultOf 26 = .ok (.iaload, 1) := by decide +kernel
theorem dX6_faultOf_27 : decode cX6_faultOf 27 = .ok (.invokevirtual 76, 3) := by decide +kernel
theorem dX6_faultOf_30 : decode cX6_faultOf 30 = .ok (.ifCond .eq 9, 3) := by decide +kernel
theorem dX6_faultOf_33 : decode cX6_faultOf 33 = .ok (.iinc 1 1, 3) := by decide +kernel
theorem dX6_faultOf_36 : decode cX6_faultOf 36 = .ok (.goto (-24), 3) := by decide +kernel
theorem dX6_faultOf_39 : decode cX6_faultOf 39 = .ok (.iload_n 1, 1) := by decide +kernel
theorem dX6_faultOf_40 : decode cX6_faultOf 40 = .ok (.ireturn, 1) := by decide +kernel
set_option maxRecDepth 20000 in
theorem ggX6_fault_X6_faultOf : GoodIn wsX6_fault wsX6_faultOf := goodIn_r _ [5, 6, 7, 8, 9, 10, 11, 12, 4, 13, 14, 15, 16, 17, 18, 19, 20, 21, 22, 23, 24, 25, 26, 27, 28, 29, 30, 31, 32, 33, 34, 35, 36, 37, 38, 39, 40, 41, 42, 43, 44, 45, 46, 47, 48, 49, 50, 51, 52, 53, 54, 55, 56] (by decide +kernel) (by decide +kernel)
set_option maxRecDepth 20000 in
theorem gX6_fault_X6_faultOf : GoodIn wsX6_fault (wsV RX6 80 RX6 yX6_faultOf wsX6_faultOf) := goodIn_app (goodIn_of _ (by decide +kernel)) ggX6_fault_X6_faultOf
theorem dX6_fault_0 : decode cX6_fault 0 = .ok (.aload_n 0, 1) := by decide +kernel
theorem dX6_fault_1 : decode cX6_fault 1 = .ok (.invokevirtual 80, 3) := by decide +kernel
theorem dX6_fault_4 : decode cX6_fault 4 = .ok (.ireturn, 1) := by decide +kernel
set_option maxRecDepth 20000 in
theorem ggX6_hall_X6_faultOf : GoodIn wsX6_hall wsX6_faultOf := goodIn_r _ [20, 7, 2, 1, 21, 22, 23, 24, 19, 25, 4, 26, 9, 27, 28, 29, 30, 31, 32, 33, 34, 35, 36, 37, 38, 39, 40, 41, 42, 43, 44, 45, 46, 47, 48, 49, 50, 51, 52, 53, 54, 55, 56, 57, 58, 59, 60, 61, 62, 63, 64, 65, 66] (by decide +kernel) (by decide +kernel)
set_option maxRecDepth 20000 in
theorem gX6_hall_X6_faultOf : GoodIn wsX6_hall (wsV RX6 80 RX6 yX6_faultOf wsX6_faultOf) := goodIn_app (goodIn_of _ (by decide +kernel)) ggX6_hall_X6_faultOf
theorem dX6_hall_0 : decode cX6_hall 0 = .ok (.aload_n 0, 1) := by decide +kernel
theorem dX6_hall_1 : decode cX6_hall 1 = .ok (.invokevirtual 80, 3) := by decide +kernel
theorem dX6_hall_4 : decode cX6_hall 4 = .ok (.aload_n 0, 1) := by decide +kernel
theorem dX6_hall_5 : decode cX6_hall 5 = .ok (.getfield 56, 3) := by decide +kernel
theorem dX6_hall_8 : decode cX6_hall 8 = .ok (.if_icmp .lt 11, 3) := by decide +kernel
theorem dX6_hall_11 : decode cX6_hall 11 = .ok (.aload_n 0, 1) := by decide +kernel
theorem dX6_hall_12 : decode cX6_hall 12 = .ok (.getfield 59, 3) := by decide +kernel
theorem dX6_hall_15 : decode cX6_hall 15 = .ok (.iconst 5, 1) := by decide +kernel
theorem dX6_hall_16 : decode cX6_hall 16 = .ok (.if_icmp .eq 6, 3) := by decide +kernel
theorem dX6_hall_19 : decode cX6_hall 19 = .ok (.bipush (-103), 2) := by decide +kernel
theorem dX6_hall_21 : decode cX6_hall 21 = .ok (.ireturn, 1) := by decide +kernel
theorem dX6_hall_22 : decode cX6_hall 22 = .ok (.iconst 0, 1) := by decide +kernel
theorem dX6_hall_23 : decode cX6_hall 23 = .ok (.istore_n 1, 1) := by decide +kernel
theorem dX6_hall_24 : decode cX6_hall 24 = .ok (.iload_n 1, 1) := by decide +kernel
theorem dX6_hall_25 : decode cX6_hall 25 = .ok (.bipush 24, 2) := by decide +kernel
theorem dX6_hall_27 : decode cX6_hall 27 = .ok (.if_icmp .ge 21, 3) := by decide +kernel
theorem dX6_hall_30 : decode cX6_hall 30 = .ok (.aload_n 0, 1) := by decide +kernel
theorem dX6_hall_31 : decode cX6_hall 31 = .ok (.getfield 16, 3) := by decide +kernel
theorem dX6_hall_34 : decode cX6_hall 34 = .ok (.iload_n 1, 1) := by decide +kernel
theorem dX6_hall_35 : decode cX6_hall 35 = .ok (.aload_n 0, 1) := by decide +kernel
theorem dX6_hall_36 : decode cX6_hall 36 = .ok (.getfield 13, 3) := by decide +kernel
theorem dX6_hall_39 : decode cX6_hall 39 = .ok (.iload_n 1, 1) := by decide +kernel
theorem dX6_hall_40 : decode cX6_hall 40 = .ok (.iaload, 1) := by decide +kernel
theorem dX6_hall_41 : decode cX6_hall 41 = .ok (.iastore, 1) := by decide +kernel
theorem dX6_hall_42 : decode cX6_hall 42 = .ok (.iinc 1 1, 3) := by decide +kernel
theorem dX6_hall_45 : decode cX6_hall 45 = .ok (.goto (-21), 3) := by decide +kernel
theorem dX6_hall_48 : decode cX6_hall 48 = .ok (.iconst 0, 1) := by decide +kernel
theorem dX6_hall_49 : decode cX6_hall 49 = .ok (.istore_n 1, 1) := by decide +kernel
theorem dX6_hall_50 : decode cX6_hall 50 = .ok (.iload_n 1, 1) := by decide +kernel
theorem dX6_hall_51 : decode cX6_hall 51 = .ok (.bipush 8, 2) := by decide +kernel
theorem dX6_hall_53 : decode cX6_hall 53 = .ok (.if_icmp .ge 23, 3) := by decide +kernel
theorem dX6_hall_56 : decode cX6_hall 56 = .ok (.aload_n 0, 1) := by decide +kernel
theorem dX6_hall_57 : decode cX6_hall 57 = .ok (.getfield 19, 3) := by decide +kernel
theorem dX6_hall_60 : decode cX6_hall 60 = .ok (.iload_n 1, 1) := by decide +kernel
theorem dX6_hall_61 : decode cX6_hall 61 = .ok (.iconst 3, 1) := by decide +kernel
theorem dX6_hall_62 : decode cX6_hall 62 = .ok (.iastore, 1) := by decide +kernel
theorem dX6_hall_63 : decode cX6_hall 63 = .ok (.aload_n 0, 1) := by decide +kernel
theorem dX6_hall_64 : decode cX6_hall 64 = .ok (.getfield 22, 3) := by decide +kernel
theorem dX6_hall_67 : decode cX6_hall 67 = .ok (.iload_n 1, 1) := by decide +kernel
theorem dX6_hall_68 : decode cX6_hall 68 = .ok (.iconst 0, 1) := by decide +kernel
theorem dX6_hall_69 : decode cX6_hall 69 = .ok (.iastore, 1) := by decide +kernel
theorem dX6_hall_70 : decode cX6_hall 70 = .ok (.iinc 1 1, 3) := by decide +kernel
theorem dX6_hall_73 : decode cX6_hall 73 = .ok (.goto (-23), 3) := by decide +kernel
theorem dX6_hall_76 : decode cX6_hall 76 = .ok (.aload_n 0, 1) := by decide +kernel
theorem dX6_hall_77 : decode cX6_hall 77 = .ok (.aload_n 0, 1) := by decide +kernel
theorem dX6_hall_78 : decode cX6_hall 78 = .ok (.getfield 62, 3) := by decide +kernel
theorem dX6_hall_81 : decode cX6_hall 81 = .ok (.putfield 84, 3) := by decide +kernel
theorem dX6_hall_84 : decode cX6_hall 84 = .ok (.aload_n 0, 1) := by decide +kernel
theorem dX6_hall_85 : decode cX6_hall 85 = .ok (.aload_n 0, 1) := by decide +kernel
theorem dX6_hall_86 : decode cX6_hall 86 = .ok (.getfield 71, 3) := by decide +kernel
theorem dX6_hall_89 : decode cX6_hall 89 = .ok (.putfield 87, 3) := by decide +kernel
theorem dX6_hall_92 : decode cX6_hall 92 = .ok (.aload_n 0, 1) := by decide +kernel
theorem dX6_hall_93 : decode cX6_hall 93 = .ok (.iconst 0, 1) := by decide +kernel
theorem dX6_hall_94 : decode cX6_hall 94 = .ok (.putfield 90, 3) := by decide +kernel
theorem dX6_hall_97 : decode cX6_hall 97 = .ok (.aload_n 0, 1) := by decide +kernel
theorem dX6_hall_98 : decode cX6_hall 98 = .ok (.iconst 0, 1) := by decide +kernel
theorem dX6_hall_99 : decode cX6_hall 99 = .ok (.putfield 93, 3) := by decide +kernel
theorem dX6_hall_102 : decode cX6_hall 102 = .ok (.aload_n 0, 1) := by decide +kernel
theorem dX6_hall_103 : decode cX6_hall 103 = .ok (.iconst 0, 1) := by decide +kernel
theorem dX6_hall_104 : decode cX6_hall 104 = .ok (.putfield 96, 3) := by decide +kernel
theorem dX6_hall_107 : decode cX6_hall 107 = .ok (.aload_n 0, 1) := by decide +kernel
theorem dX6_hall_108 : decode cX6_hall 108 = .ok (.iconst 0, 1) := by decide +kernel
theorem dX6_hall_109 : decode cX6_hall 109 = .ok (.putfield 99, 3) := by decide +kernel
theorem dX6_hall_112 : decode cX6_hall 112 = .ok (.aload_n 0, 1) := by decide +kernel
theorem dX6_hall_113 : decode cX6_hall 113 = .ok (.dup, 1) := by decide +kernel
theorem dX6_hall_114 : decode cX6_hall 114 = .ok (.getfield 102, 3) := by decide +kernel
theorem dX6_hall_117 : decode cX6_hall 117 = .ok (.iconst 1, 1) := by decide +kernel
theorem dX6_hall_118 : decode cX6_hall 118 = .ok (.iadd, 1) := by decide +kernel
theorem dX6_hall_119 : decode cX6_hall 119 = .ok (.putfield 102, 3) := by decide +kernel
theorem dX6_hall_122 : decode cX6_hall 122 = .ok (.aload_n 0, 1) := by decide +kernel
theorem dX6_hall_123 : decode cX6_hall 123 = .ok (.iconst 0, 1) := by decide +kernel
theorem dX6_hall_124 : decode cX6_hall 124 = .ok (.putfield 56, 3) := by decide +kernel
theorem dX6_hall_127 : decode cX6_hall 127 = .ok (.aload_n 0, 1) := by decide +kernel
theorem dX6_hall_128 : decode cX6_hall 128 = .ok (.getfield 84, 3) := by decide +kernel
theorem dX6_hall_131 : decode cX6_hall 131 = .ok (.ireturn, 1) := by decide +kernel
theorem dX6_lacks_0 : decode cX6_lacks 0 = .ok (.aload_n 0, 1) := by decide +kernel
theorem dX6_lacks_1 : decode cX6_lacks 1 = .ok (.getfield 84, 3) := by decide +kernel
theorem dX6_lacks_4 : decode cX6_lacks 4 = .ok (.ifCond .ne 7, 3) := by decide +kernel
theorem dX6_lacks_7 : decode cX6_lacks 7 = .ok (.iconst 1, 1) := by decide +kernel
theorem dX6_lacks_8 : decode cX6_lacks 8 = .ok (.goto 4, 3) := by decide +kernel
theorem dX6_lacks_11 : decode cX6_lacks 11 = .ok (.iconst 0, 1) := by decide +kernel
theorem dX6_lacks_12 : decode cX6_lacks 12 = .ok (.ireturn, 1) := by decide +kernel
set_option maxRecDepth 20000 in
theorem ggX6_isRow_X6_in : GoodIn wsX6_isRow wsX6_in := goodIn_r _ [5] (by decide +kernel) (by decide +kernel)
set_option maxRecDepth 20000 in
theorem gX6_isRow_X6_in : GoodIn wsX6_isRow (va_wsS RX6 52 yX6_in wsX6_in) := goodIn_app (goodIn_of _ (by decide +kernel)) ggX6_isRow_X6_in
theorem dX6_isRow_0 : decode cX6_isRow 0 = .ok (.iload_n 1, 1) := by decide +kernel
theorem dX6_isRow_1 : decode cX6_isRow 1 = .ok (.i2l, 1) := by decide +kernel
theorem dX6_isRow_2 : decode cX6_isRow 2 = .ok (.lconst 0, 1) := by decide +kernel
theorem dX6_isRow_3 : decode cX6_isRow 3 = .ok (.aload_n 0, 1) := by decide +kernel
theorem dX6_isRow_4 : decode cX6_isRow 4 = .ok (.getfield 84, 3) := by decide +kernel
theorem dX6_isRow_7 : decode cX6_isRow 7 = .ok (.iconst 1, 1) := by decide +kernel
theorem dX6_isRow_8 : decode cX6_isRow 8 = .ok (.isub, 1) := by decide +kernel
theorem dX6_isRow_9 : decode cX6_isRow 9 = .ok (.i2l, 1) := by decide +kernel
theorem dX6_isRow_10 : decode cX6_isRow 10 = .ok (.invokestatic 52, 3) := by decide +kernel
theorem dX6_isRow_13 : decode cX6_isRow 13 = .ok (.ireturn, 1) := by decide +kernel
theorem dX6_lagOf_0 : decode cX6_lagOf 0 = .ok (.aload_n 0, 1) := by decide +kernel
theorem dX6_lagOf_1 : decode cX6_lagOf 1 = .ok (.getfield 87, 3) := by decide +kernel
theorem dX6_lagOf_4 : decode cX6_lagOf 4 = .ok (.ifCond .ne 7, 3) := by decide +kernel
theorem dX6_lagOf_7 : decode cX6_lagOf 7 = .ok (.iconst 0, 1) := by decide +kernel
theorem dX6_lagOf_8 : decode cX6_lagOf 8 = .ok (.goto 9, 3) := by decide +kernel
theorem dX6_lagOf_11 : decode cX6_lagOf 11 = .ok (.iload_n 1, 1) := by decide +kernel
theorem dX6_lagOf_12 : decode cX6_lagOf 12 = .ok (.aload_n 0, 1) := by decide +kernel
theorem dX6_lagOf_13 : decode cX6_lagOf 13 = .ok (.getfield 87, 3) := by decide +kernel
theorem dX6_lagOf_16 : decode cX6_lagOf 16 = .ok (.idiv, 1) := by decide +kernel
theorem dX6_lagOf_17 : decode cX6_lagOf 17 = .ok (.ireturn, 1) := by decide +kernel
set_option maxRecDepth 20000 in
theorem ggX6_byLag_X6_lagOf : GoodIn wsX6_byLag wsX6_lagOf := goodIn_r _ [5, 6, 7, 8, 9, 10, 11, 12, 13, 14, 15, 16, 17, 18, 19, 20, 21, 22, 23, 24, 25, 26, 27, 28, 29, 30, 31, 32, 33, 34, 35, 36, 37, 38, 39] (by decide +kernel) (by decide +kernel)
set_option maxRecDepth 20000 in
theorem gX6_byLag_X6_lagOf : GoodIn wsX6_byLag (wsV RX6 105 RX6 yX6_lagOf wsX6_lagOf) := goodIn_app (goodIn_of _ (by decide +kernel)) ggX6_byLag_X6_lagOf
theorem dX6_byLag_0 : decode cX6_byLag 0 = .ok (.aload_n 0, 1) := by decide +kernel
theorem dX6_byLag_1 : decode cX6_byLag 1 = .ok (.iload_n 1, 1) := by decide +kernel
theorem dX6_byLag_2 : decode cX6_byLag 2 = .ok (.invokevirtual 105, 3) := by decide +kernel
theorem dX6_byLag_5 : decode cX6_byLag 5 = .ok (.iconst 2, 1) := by decide +kernel
theorem dX6_byLag_6 : decode cX6_byLag 6 = .ok (.irem, 1) := by decide +kernel
theorem dX6_byLag_7 : decode cX6_byLag 7 = .ok (.iconst 1, 1) := by decide +kernel
theorem dX6_byLag_8 : decode cX6_byLag 8 = .ok (.if_icmp .ne 7, 3) := by decide +kernel
theorem dX6_byLag_11 : decode cX6_byLag 11 = .ok (.iconst 1, 1) := by decide +kernel
theorem dX6_byLag_12 : decode cX6_byLag 12 = .ok (.goto 4, 3) := by decide +kernel
theorem dX6_byLag_15 : decode cX6_byLag 15 = .ok (.iconst 0, 1) := by decide +kernel
theorem dX6_byLag_16 : decode cX6_byLag 16 = .ok (.istore_n 3, 1) := by decide +kernel
theorem dX6_byLag_17 : decode cX6_byLag 17 = .ok (.iload_n 3, 1) := by decide +kernel
theorem dX6_byLag_18 : decode cX6_byLag 18 = .ok (.ifCond .eq 12, 3) := by decide +kernel
theorem dX6_byLag_21 : decode cX6_byLag 21 = .ok (.iload_n 2, 1) := by decide +kernel
theorem dX6_byLag_22 : decode cX6_byLag 22 = .ok (.iconst 1, 1) := by decide +kernel
theorem dX6_byLag_23 : decode cX6_byLag 23 = .ok (.if_icmp .ne 7, 3) := by decide +kernel
theorem dX6_byLag_26 : decode cX6_byLag 26 = .ok (.iconst 2, 1) := by decide +kernel
theorem dX6_byLag_27 : decode cX6_byLag 27 = .ok (.goto 17, 3) := by decide +kernel
theorem dX6_byLag_30 : decode cX6_byLag 30 = .ok (.iload_n 3, 1) := by decide +kernel
theorem dX6_byLag_31 : decode cX6_byLag 31 = .ok (.ifCond .eq 12, 3) := by decide +kernel
theorem dX6_byLag_34 : decode cX6_byLag 34 = .ok (.iload_n 2, 1) := by decide +kernel
theorem dX6_byLag_35 : decode cX6_byLag 35 = .ok (.iconst 2, 1) := by decide +kernel
theorem dX6_byLag_36 : decode cX6_byLag 36 = .ok (.if_icmp .ne 7, 3) := by decide +kernel
theorem dX6_byLag_39 : decode cX6_byLag 39 = .ok (.iconst 1, 1) := by decide +kernel
theorem dX6_byLag_40 : decode cX6_byLag 40 = .ok (.goto 4, 3) := by decide +kernel
theorem dX6_byLag_43 : decode cX6_byLag 43 = .ok (.iload_n 2, 1) := by decide +kernel
theorem dX6_byLag_44 : decode cX6_byLag 44 = .ok (.ireturn, 1) := by decide +kernel
theorem dX6_isTired_0 : decode cX6_isTired 0 = .ok (.aload_n 0, 1) := by decide +kernel
theorem dX6_isTired_1 : decode cX6_isTired 1 = .ok (.getfield 16, 3) := by decide +kernel
theorem dX6_isTired_4 : decode cX6_isTired 4 = .ok (.iconst 3, 1) := by decide +kernel
theorem dX6_isTired_5 : decode cX6_isTired 5 = .ok (.iload_n 2, 1) := by decide +kernel
theorem dX6_isTired_6 : decode cX6_isTired 6 = .ok (.imul, 1) := by decide +kernel
theorem dX6_isTired_7 : decode cX6_isTired 7 = .ok (.iconst 2, 1) := by decide +kernel
theorem dX6_isTired_8 : decode cX6_isTired 8 = .ok (.iadd, 1) := by decide +kernel
theorem dX6_isTired_9 : decode cX6_isTired 9 = .ok (.iaload, 1) := by decide +kernel
theorem dX6_isTired_10 : decode cX6_isTired 10 = .ok (.ifCond .le 23, 3) := by decide +kernel
theorem dX6_isTired_13 : decode cX6_isTired 13 = .ok (.aload_n 1, 1) := by decide +kernel
theorem dX6_isTired_14 : decode cX6_isTired 14 = .ok (.iload_n 2, 1) := by decide +kernel
theorem dX6_isTired_15 : decode cX6_isTired 15 = .ok (.iaload, 1) := by decide +kernel
theorem dX6_isTired_16 : decode cX6_isTired 16 = .ok (.aload_n 0, 1) := by decide +kernel
theorem dX6_isTired_17 : decode cX6_isTired 17 = .ok (.getfield 16, 3) := by decide +kernel
theorem dX6_isTired_20 : decode cX6_isTired 20 = .ok (.iconst 3, 1) := by decide +kernel
theorem dX6_isTired_21 : decode cX6_isTired 21 = .ok (.iload_n 2, 1) := by decide +kernel
theorem dX6_isTired_22 : decode cX6_isTired 22 = .ok (.imul, 1) := by decide +kernel
theorem dX6_isTired_23 : decode cX6_isTired 23 = .ok (.iconst 2, 1) := by decide +kernel
theorem dX6_isTired_24 : decode cX6_isTired 24 = .ok (.iadd, 1) := by decide +kernel
theorem dX6_isTired_25 : decode cX6_isTired 25 = .ok (.iaload, 1) := by decide +kernel
theorem dX6_isTired_26 : decode cX6_isTired 26 = .ok (.if_icmp .lt 7, 3) := by decide +kernel
theorem dX6_isTired_29 : decode cX6_isTired 29 = .ok (.iconst 1, 1) := by decide +kernel
theorem dX6_isTired_30 : decode cX6_isTired 30 = .ok (.goto 4, 3) := by decide +kernel
theorem dX6_isTired_33 : decode cX6_isTired 33 = .ok (.iconst 0, 1) := by decide +kernel
theorem dX6_isTired_34 : decode cX6_isTired 34 = .ok (.ireturn, 1) := by decide +kernel
set_option maxRecDepth 20000 in
theorem ggX6_tell_X6_lagOf : GoodIn wsX6_tell wsX6_lagOf := goodIn_r _ [9, 10, 19, 20, 21, 22, 23, 24, 25, 26, 27, 28, 29, 30, 31, 32, 33, 34, 35, 36, 37, 38, 39, 40, 41, 42, 43, 44, 45, 46, 47, 48, 49, 50, 51] (by decide +kernel) (by decide +kernel)
set_option maxRecDepth 20000 in
theorem gX6_tell_X6_lagOf : GoodIn wsX6_tell (wsV RX6 105 RX6 yX6_lagOf wsX6_lagOf) := goodIn_app (goodIn_of _ (by decide +kernel)) ggX6_tell_X6_lagOf
set_option maxRecDepth 20000 in
theorem ggX6_tell_X6_byLag : GoodIn wsX6_tell wsX6_byLag := goodIn_r _ [14, 5, 6, 7, 8, 9, 10, 19, 20, 21, 22, 23, 24, 25, 26, 27, 28, 29, 30, 31, 32, 33, 34, 35, 36, 37, 38, 39, 40, 41, 42, 43, 44, 45, 46, 47, 48, 49, 50, 51] (by decide +kernel) (by decide +kernel)
set_option maxRecDepth 20000 in
theorem gX6_tell_X6_byLag : GoodIn wsX6_tell (wsV RX6 108 RX6 yX6_byLag wsX6_byLag) := goodIn_app (goodIn_of _ (by decide +kernel)) ggX6_tell_X6_byLag
set_option maxRecDepth 20000 in
theorem ggX6_tell_X6_isTired : GoodIn wsX6_tell wsX6_isTired := goodIn_r _ [18, 1, 19, 20, 21, 22, 23, 24, 25, 26, 27, 28, 29, 30, 31, 32, 33, 34, 35, 36, 37, 38, 39, 40, 41, 42, 43, 44, 45, 46, 47, 48, 49, 50, 51] (by decide +kernel) (by decide +kernel)
set_option maxRecDepth 20000 in
theorem gX6_tell_X6_isTired : GoodIn wsX6_tell (wsV RX6 112 RX6 yX6_isTired wsX6_isTired) := goodIn_app (goodIn_of _ (by decide +kernel)) ggX6_tell_X6_isTired
theorem dX6_tell_0 : decode cX6_tell 0 = .ok (.iload_n 2, 1) := by decide +kernel
theorem dX6_tell_1 : decode cX6_tell 1 = .ok (.tableswitch 126 0 8 #[51, 51, 51, 62, 68, 75, 87, 94, 112], 51) := by decide +kernel
theorem dX6_tell_52 : decode cX6_tell 52 = .ok (.aload_n 0, 1) := by decide +kernel
theorem dX6_tell_53 : decode cX6_tell 53 = .ok (.getfield 16, 3) := by decide +kernel
theorem dX6_tell_56 : decode cX6_tell 56 = .ok (.iconst 3, 1) := by decide +kernel
theorem dX6_tell_57 : decode cX6_tell 57 = .ok (.iload_n 1, 1) := by decide +kernel
theorem dX6_tell_58 : decode cX6_tell 58 = .ok (.imul, 1) := by decide +kernel
theorem dX6_tell_59 : decode cX6_tell 59 = .ok (.iload_n 2, 1) := by decide +kernel
theorem dX6_tell_60 : decode cX6_tell 60 = .ok (.iadd, 1) := by decide +kernel
theorem dX6_tell_61 : decode cX6_tell 61 = .ok (.iaload, 1) := by decide +kernel
theorem dX6_tell_62 : decode cX6_tell 62 = .ok (.ireturn, 1) := by decide +kernel
theorem dX6_tell_63 : decode cX6_tell 63 = .ok (.aload_n 0, 1) := by decide +kernel
theorem dX6_tell_64 : decode cX6_tell 64 = .ok (.iload_n 1, 1) := by decide +kernel
theorem dX6_tell_65 : decode cX6_tell 65 = .ok (.invokevirtual 105, 3) := by decide +kernel
theorem dX6_tell_68 : decode cX6_tell 68 = .ok (.ireturn, 1) := by decide +kernel
theorem dX6_tell_69 : decode cX6_tell 69 = .ok (.aload_n 0, 1) := by decide +kernel
theorem dX6_tell_70 : decode cX6_tell 70 = .ok (.getfield 19, 3) := by decide +kernel
theorem dX6_tell_73 : decode cX6_tell 73 = .ok (.iload_n 1, 1) := by decide +kernel
theorem dX6_tell_74 : decode cX6_tell 74 = .ok (.iaload, 1) := by decide +kernel
theorem dX6_tell_75 : decode cX6_tell 75 = .ok (.ireturn, 1) := by decide +kernel
theorem dX6_tell_76 : decode cX6_tell 76 = .ok (.aload_n 0, 1) := by decide +kernel
theorem dX6_tell_77 : decode cX6_tell 77 = .ok (.iload_n 1, 1) := by decide +kernel
theorem dX6_tell_78 : decode cX6_tell 78 = .ok (.aload_n 0, 1) := by decide +kernel
theorem dX6_tell_79 : decode cX6_tell 79 = .ok (.getfield 19, 3) := by decide +kernel
theorem dX6_tell_82 : decode cX6_tell 82 = .ok (.iload_n 1, 1) := by decide +kernel
theorem dX6_tell_83 : decode cX6_tell 83 = .ok (.iaload, 1) := by decide +kernel
theorem dX6_tell_84 : decode cX6_tell 84 = .ok (.invokevirtual 108, 3) := by decide +kernel
theorem dX6_tell_87 : decode cX6_tell 87 = .ok (.ireturn, 1) := by decide +kernel
theorem dX6_tell_88 : decode cX6_tell 88 = .ok (.aload_n 0, 1) := by decide +kernel
theorem dX6_tell_89 : decode cX6_tell 89 = .ok (.getfield 22, 3) := by decide +kernel
theorem dX6_tell_92 : decode cX6_tell 92 = .ok (.iload_n 1, 1) := by decide +kernel
theorem dX6_tell_93 : decode cX6_tell 93 = .ok (.iaload, 1) := by decide +kernel
theorem dX6_tell_94 : decode cX6_tell 94 = .ok (.ireturn, 1) := by decide +kernel
theorem dX6_tell_95 : decode cX6_tell 95 = .ok (.aload_n 0, 1) := by decide +kernel
theorem dX6_tell_96 : decode cX6_tell 96 = .ok (.aload_n 0, 1) := by decide +kernel
theorem dX6_tell_97 : decode cX6_tell 97 = .ok (.getfield 22, 3) := by decide +kernel
theorem dX6_tell_100 : decode cX6_tell 100 = .ok (.iload_n 1, 1) := by decide +kernel
theorem dX6_tell_101 : decode cX6_tell 101 = .ok (.invokevirtual 112, 3) := by decide +kernel
theorem dX6_tell_104 : decode cX6_tell 104 = .ok (.ifCond .eq 7, 3) := by decide +kernel
theorem dX6_tell_107 : decode cX6_tell 107 = .ok (.iconst 1, 1) := by decide +kernel
theorem dX6_tell_108 : decode cX6_tell 108 = .ok (.goto 4, 3) := by decide +kernel
theorem dX6_tell_111 : decode cX6_tell 111 = .ok (.iconst 0, 1) := by decide +kernel
theorem dX6_tell_112 : decode cX6_tell 112 = .ok (.ireturn, 1) := by decide +kernel
theorem dX6_tell_113 : decode cX6_tell 113 = .ok (.iload_n 1, 1) := by decide +kernel
theorem dX6_tell_114 : decode cX6_tell 114 = .ok (.aload_n 0, 1) := by decide +kernel
theorem dX6_tell_115 : decode cX6_tell 115 = .ok (.getfield 90, 3) := by decide +kernel
theorem dX6_tell_118 : decode cX6_tell 118 = .ok (.if_icmp .ge 7, 3) := by decide +kernel
theorem dX6_tell_121 : decode cX6_tell 121 = .ok (.iconst 1, 1) := by decide +kernel
theorem dX6_tell_122 : decode cX6_tell 122 = .ok (.goto 4, 3) := by decide +kernel
theorem dX6_tell_125 : decode cX6_tell 125 = .ok (.iconst 0, 1) := by decide +kernel
theorem dX6_tell_126 : decode cX6_tell 126 = .ok (.ireturn, 1) := by decide +kernel
theorem dX6_tell_127 : decode cX6_tell 127 = .ok (.bipush (-102), 2) := by decide +kernel
theorem dX6_tell_129 : decode cX6_tell 129 = .ok (.ireturn, 1) := by decide +kernel
set_option maxRecDepth 20000 in
theorem ggX6_about_X6_isRow : GoodIn wsX6_about wsX6_isRow := goodIn_r _ [5, 6, 7, 8, 4, 9, 31, 32, 33, 34, 35, 36, 37, 38, 39, 40, 41, 42, 43, 44, 45, 46, 47, 48, 49, 50, 51, 52, 53, 54, 55, 56, 57, 58, 59, 60, 61, 62, 63] (by decide +kernel) (by decide +kernel)
set_option maxRecDepth 20000 in
theorem gX6_about_X6_isRow : GoodIn wsX6_about (wsV RX6 116 RX6 yX6_isRow wsX6_isRow) := goodIn_app (goodIn_of _ (by decide +kernel)) ggX6_about_X6_isRow
set_option maxRecDepth 20000 in
theorem ggX6_about_X6_tell : GoodIn wsX6_about wsX6_tell := goodIn_r _ [13, 14, 15, 16, 17, 18, 19, 20, 4, 21, 22, 23, 24, 25, 26, 27, 28, 29, 30, 31, 32, 33, 34, 35, 36, 37, 38, 39, 40, 41, 42, 43, 44, 45, 46, 47, 48, 49, 50, 51, 52, 53, 54, 55, 56, 57, 58, 59, 60, 61, 62, 63] (by decide +kernel) (by decide +kernel)
set_option maxRecDepth 20000 in
theorem gX6_about_X6_tell : GoodIn wsX6_about (wsV RX6 119 RX6 yX6_tell wsX6_tell) := goodIn_app (goodIn_of _ (by decide +kernel)) ggX6_about_X6_tell
theorem dX6_about_0 : decode cX6_about 0 = .ok (.aload_n 0, 1) := by decide +kernel
theorem dX6_about_1 : decode cX6_about 1 = .ok (.iload_n 1, 1) := by decide +kernel
theorem dX6_about_2 : decode cX6_about 2 = .ok (.invokevirtual 116, 3) := by decide +kernel
theorem dX6_about_5 : decode cX6_about 5 = .ok (.ifCond .eq 12, 3) := by decide +kernel
theorem dX6_about_8 : decode cX6_about 8 = .ok (.aload_n 0, 1) := by decide +kernel
theorem dX6_about_9 : decode cX6_about 9 = .ok (.iload_n 1, 1) := by decide +kernel
theorem dX6_about_10 : decode cX6_about 10 = .ok (.iload_n 2, 1) := by decide +kernel
theorem dX6_about_11 : decode cX6_about 11 = .ok (.invokevirtual 119, 3) := by decide +kernel
theorem dX6_about_14 : decode cX6_about 14 = .ok (.goto 5, 3) := by decide +kernel
theorem dX6_about_17 : decode cX6_about 17 = .ok (.bipush (-101), 2) := by decide +kernel
theorem dX6_about_19 : decode cX6_about 19 = .ok (.ireturn, 1) := by decide +kernel
set_option maxRecDepth 20000 in
theorem ggX6_as_X6_isRow : GoodIn wsX6_as wsX6_isRow := goodIn_r _ [7, 8, 9, 10, 6, 11, 12, 13, 14, 15, 16, 17, 18, 19, 20, 21, 22, 23, 24, 25, 26, 27, 28, 29, 30, 31, 32, 33, 34, 35, 36, 37, 38, 39, 40, 41, 42, 43, 44] (by decide +kernel) (by decide +kernel)
set_option maxRecDepth 20000 in
theorem gX6_as_X6_isRow : GoodIn wsX6_as (wsV RX6 116 RX6 yX6_isRow wsX6_isRow) := goodIn_app (goodIn_of _ (by decide +kernel)) ggX6_as_X6_isRow
set_option maxRecDepth 20000 in
theorem ggX6_as_X6_in : GoodIn wsX6_as wsX6_in := goodIn_r _ [11] (by decide +kernel) (by decide +kernel)
set_option maxRecDepth 20000 in
theorem gX6_as_X6_in : GoodIn wsX6_as (va_wsS RX6 52 yX6_in wsX6_in) := goodIn_app (goodIn_of _ (by decide +kernel)) ggX6_as_X6_in
theorem dX6_as_0 : decode cX6_as 0 = .ok (.aload_n 0, 1) := by decide +kernel
theorem dX6_as_1 : decode cX6_as 1 = .ok (.iload_n 1, 1) := by decide +kernel
theorem dX6_as_2 : decode cX6_as 2 = .ok (.invokevirtual 116, 3) := by decide +kernel
theorem dX6_as_5 : decode cX6_as 5 = .ok (.ifCond .ne 6, 3) := by decide +kernel
theorem dX6_as_8 : decode cX6_as 8 = .ok (.bipush (-101), 2) := by decide +kernel
theorem dX6_as_10 : decode cX6_as 10 = .ok (.ireturn, 1) := by decide +kernel
theorem dX6_as_11 : decode cX6_as 11 = .ok (.iload_n 2, 1) := by decide +kernel
theorem dX6_as_12 : decode cX6_as 12 = .ok (.i2l, 1) := by decide +kernel
theorem dX6_as_13 : decode cX6_as 13 = .ok (.lconst 0, 1) := by decide +kernel
theorem dX6_as_14 : decode cX6_as 14 = .ok (.ldc2_w 122, 3) := by decide +kernel
theorem dX6_as_17 : decode cX6_as 17 = .ok (.invokestatic 52, 3) := by decide +kernel
theorem dX6_as_20 : decode cX6_as 20 = .ok (.ifCond .ne 6, 3) := by decide +kernel
theorem dX6_as_23 : decode cX6_as 23 = .ok (.bipush (-102), 2) := by decide +kernel
theorem dX6_as_25 : decode cX6_as 25 = .ok (.ireturn, 1) := by decide +kernel
theorem dX6_as_26 : decode cX6_as 26 = .ok (.aload_n 0, 1) := by decide +kernel
theorem dX6_as_27 : decode cX6_as 27 = .ok (.getfield 16, 3) := by decide +kernel
theorem dX6_as_30 : decode cX6_as 30 = .ok (.iconst 3, 1) := by decide +kernel
theorem dX6_as_31 : decode cX6_as 31 = .ok (.iload_n 1, 1) := by decide +kernel
theorem dX6_as_32 : decode cX6_as 32 = .ok (.imul, 1) := by decide +kernel
theorem dX6_as_33 : decode cX6_as 33 = .ok (.iaload, 1) := by decide +kernel
theorem dX6_as_34 : decode cX6_as 34 = .ok (.istore_n 3, 1) := by decide +kernel
theorem dX6_as_35 : decode cX6_as 35 = .ok (.iload_n 2, 1) := by decide +kernel
theorem dX6_as_36 : decode cX6_as 36 = .ok (.ifCond .eq 18, 3) := by decide +kernel
theorem dX6_as_39 : decode cX6_as 39 = .ok (.iload_n 2, 1) := by decide +kernel
theorem dX6_as_40 : decode cX6_as 40 = .ok (.iload_n 3, 1) := by decide +kernel
theorem dX6_as_41 : decode cX6_as 41 = .ok (.if_icmp .eq 13, 3) := by decide +kernel
theorem dX6_as_44 : decode cX6_as 44 = .ok (.iload_n 2, 1) := by decide +kernel
theorem dX6_as_45 : decode cX6_as 45 = .ok (.iconst 1, 1) := by decide +kernel
theorem dX6_as_46 : decode cX6_as 46 = .ok (.if_icmp .ne 12, 3) := by decide +kernel
theorem dX6_as_49 : decode cX6_as 49 = .ok (.iload_n 3, 1) := by decide +kernel
theorem dX6_as_50 : decode cX6_as 50 = .ok (.iconst 4, 1) := by decide +kernel
theorem dX6_as_51 : decode cX6_as 51 = .ok (.if_icmp .ne 7, 3) := by decide +kernel
theorem dX6_as_54 : decode cX6_as 54 = .ok (.iconst 1, 1) := by decide +kernel
theorem dX6_as_55 : decode cX6_as 55 = .ok (.goto 4, 3) := by decide +kernel
theorem dX6_as_58 : decode cX6_as 58 = .ok (.iconst 0, 1) := by decide +kernel
theorem dX6_as_59 : decode cX6_as 59 = .ok (.istore 4, 2) := by decide +kernel
theorem dX6_as_61 : decode cX6_as 61 = .ok (.iload 4, 2) := by decide +kernel
theorem dX6_as_63 : decode cX6_as 63 = .ok (.ifCond .eq 7, 3) := by decide +kernel
theorem dX6_as_66 : decode cX6_as 66 = .ok (.iload_n 1, 1) := by decide +kernel
theorem dX6_as_67 : decode cX6_as 67 = .ok (.goto 4, 3) := by decide +kernel
theorem dX6_as_70 : decode cX6_as 70 = .ok (.iconst (-1), 1) := by decide +kernel
theorem dX6_as_71 : decode cX6_as 71 = .ok (.ireturn, 1) := by decide +kernel
theorem dX6_asItIs_0 : decode cX6_asItIs 0 = .ok (.iconst 0, 1) := by decide +kernel
theorem dX6_asItIs_1 : decode cX6_asItIs 1 = .ok (.istore_n 1, 1) := by decide +kernel
theorem dX6_asItIs_2 : decode cX6_asItIs 2 = .ok (.iload_n 1, 1) := by decide +kernel
theorem dX6_asItIs_3 : decode cX6_asItIs 3 = .ok (.bipush 8, 2) := by decide +kernel
theorem dX6_asItIs_5 : decode cX6_asItIs 5 = .ok (.if_icmp .ge 33, 3) := by decide +kernel
theorem dX6_asItIs_8 : decode cX6_asItIs 8 = .ok (.aload_n 0, 1) := by decide +kernel
theorem dX6_asItIs_9 : decode cX6_asItIs 9 = .ok (.getfield 25, 3) := by decide +kernel
theorem dX6_asItIs_12 : decode cX6_asItIs 12 = .ok (.iload_n 1, 1) := by decide +kernel
theorem dX6_asItIs_13 : decode cX6_asItIs 13 = .ok (.aload_n 0, 1) := by decide +kernel
theorem dX6_asItIs_14 : decode cX6_asItIs 14 = .ok (.getfield 19, 3) := by decide +kernel
theorem dX6_asItIs_17 : decode cX6_asItIs 17 = .ok (.iload_n 1, 1) := by decide +kernel
theorem dX6_asItIs_18 : decode cX6_asItIs 18 = .ok (.iaload, 1) := by decide +kernel
theorem dX6_asItIs_19 : decode cX6_asItIs 19 = .ok (.iastore, 1) := by decide +kernel
theorem dX6_asItIs_20 : decode cX6_asItIs 20 = .ok (.aload_n 0, 1) := by decide +kernel
theorem dX6_asItIs_21 : decode cX6_asItIs 21 = .ok (.getfield 28, 3) := by decide +kernel
theorem dX6_asItIs_24 : decode cX6_asItIs 24 = .ok (.iload_n 1, 1) := by decide +kernel
theorem dX6_asItIs_25 : decode cX6_asItIs 25 = .ok (.aload_n 0, 1) := by decide +kernel
theorem dX6_asItIs_26 : decode cX6_asItIs 26 = .ok (.getfield 22, 3) := by decide +kernel
theorem dX6_asItIs_29 : decode cX6_asItIs 29 = .ok (.iload_n 1, 1) := by decide +kernel
theorem dX6_asItIs_30 : decode cX6_asItIs 30 = .ok (.iaload, 1) := by decide +kernel
theorem dX6_asItIs_31 : decode cX6_asItIs 31 = .ok (.iastore, 1) := by decide +kernel
theorem dX6_asItIs_32 : decode cX6_asItIs 32 = .ok (.iinc 1 1, 3) := by decide +kernel
theorem dX6_asItIs_35 : decode cX6_asItIs 35 = .ok (.goto (-33), 3) := by decide +kernel
theorem dX6_asItIs_38 : decode cX6_asItIs 38 = .ok (.aload_n 0, 1) := by decide +kernel
theorem dX6_asItIs_39 : decode cX6_asItIs 39 = .ok (.aload_n 0, 1) := by decide +kernel
theorem dX6_asItIs_40 : decode cX6_asItIs 40 = .ok (.getfield 90, 3) := by decide +kernel
theorem dX6_asItIs_43 : decode cX6_asItIs 43 = .ok (.putfield 124, 3) := by decide +kernel
theorem dX6_asItIs_46 : decode cX6_asItIs 46 = .ok (.return_, 1) := by decide +kernel
theorem dX6_isStubborn_0 : decode cX6_isStubborn 0 = .ok (.aload_n 0, 1) := by decide +kernel
theorem dX6_isStubborn_1 : decode cX6_isStubborn 1 = .ok (.getfield 16, 3) := by decide +kernel
theorem dX6_isStubborn_4 : decode cX6_isStubborn 4 = .ok (.iconst 3, 1) := by decide +kernel
theorem dX6_isStubborn_5 : decode cX6_isStubborn 5 = .ok (.iload_n 1, 1) := by decide +kernel
theorem dX6_isStubborn_6 : decode cX6_isStubborn 6 = .ok (.imul, 1) := by decide +kernel
theorem dX6_isStubborn_7 : decode cX6_isStubborn 7 = .ok (.iaload, 1) := by decide +kernel
theorem dX6_isStubborn_8 : decode cX6_isStubborn 8 = .ok (.iconst 1, 1) := by decide +kernel
theorem dX6_isStubborn_9 : decode cX6_isStubborn 9 = .ok (.if_icmp .eq 15, 3) := by decide +kernel
theorem dX6_isStubborn_12 : decode cX6_isStubborn 12 = .ok (.aload_n 0, 1) := by decide +kernel
theorem dX6_isStubborn_13 : decode cX6_isStubborn 13 = .ok (.getfield 16, 3) := by decide +kernel
theorem dX6_isStubborn_16 : decode cX6_isStubborn 16 = .ok (.iconst 3, 1) := by decide +kernel
theorem dX6_isStubborn_17 : decode cX6_isStubborn 17 = .ok (.iload_n 1, 1) := by decide +kernel
theorem dX6_isStubborn_18 : decode cX6_isStubborn 18 = .ok (.imul, 1) := by decide +kernel
theorem dX6_isStubborn_19 : decode cX6_isStubborn 19 = .ok (.iaload, 1) := by decide +kernel
theorem dX6_isStubborn_20 : decode cX6_isStubborn 20 = .ok (.iconst 4, 1) := by decide +kernel
theorem dX6_isStubborn_21 : decode cX6_isStubborn 21 = .ok (.if_icmp .ne 7, 3) := by decide +kernel
theorem dX6_isStubborn_24 : decode cX6_isStubborn 24 = .ok (.iconst 1, 1) := by decide +kernel
theorem dX6_isStubborn_25 : decode cX6_isStubborn 25 = .ok (.goto 4, 3) := by decide +kernel
theorem dX6_isStubborn_28 : decode cX6_isStubborn 28 = .ok (.iconst 0, 1) := by decide +kernel
theorem dX6_isStubborn_29 : decode cX6_isStubborn 29 = .ok (.ireturn, 1) := by decide +kernel
set_option maxRecDepth 20000 in
theorem ggX6_palmsBy_X6_isRow : GoodIn wsX6_palmsBy wsX6_isRow := goodIn_r _ [7, 8, 9, 10, 6, 11, 12, 13, 14, 15, 16, 17, 18, 19, 20, 21, 22, 23, 24, 25, 26, 27, 28, 29, 30, 31, 32, 33, 34, 35, 36, 37, 38, 39, 40, 41, 42, 43, 44] (by decide +kernel) (by decide +kernel)
set_option maxRecDepth 20000 in
theorem gX6_palmsBy_X6_isRow : GoodIn wsX6_palmsBy (wsV RX6 116 RX6 yX6_isRow wsX6_isRow) := goodIn_app (goodIn_of _ (by decide +kernel)) ggX6_palmsBy_X6_isRow
theorem dX6_palmsBy_0 : decode cX6_palmsBy 0 = .ok (.iconst 0, 1) := by decide +kernel
theorem dX6_palmsBy_1 : decode cX6_palmsBy 1 = .ok (.istore_n 3, 1) := by decide +kernel
theorem dX6_palmsBy_2 : decode cX6_palmsBy 2 = .ok (.iload_n 1, 1) := by decide +kernel
theorem dX6_palmsBy_3 : decode cX6_palmsBy 3 = .ok (.iconst 1, 1) := by decide +kernel
theorem dX6_palmsBy_4 : decode cX6_palmsBy 4 = .ok (.isub, 1) := by decide +kernel
theorem dX6_palmsBy_5 : decode cX6_palmsBy 5 = .ok (.istore 4, 2) := by decide +kernel
theorem dX6_palmsBy_7 : decode cX6_palmsBy 7 = .ok (.iload 4, 2) := by decide +kernel
theorem dX6_palmsBy_9 : decode cX6_palmsBy 9 = .ok (.iload_n 1, 1) := by decide +kernel
theorem dX6_palmsBy_10 : decode cX6_palmsBy 10 = .ok (.iconst 1, 1) := by decide +kernel
theorem dX6_palmsBy_11 : decode cX6_palmsBy 11 = .ok (.iadd, 1) := by decide +kernel
theorem dX6_palmsBy_12 : decode cX6_palmsBy 12 = .ok (.if_icmp .gt 51, 3) := by decide +kernel
theorem dX6_palmsBy_15 : decode cX6_palmsBy 15 = .ok (.iload_n 3, 1) := by decide +kernel
theorem dX6_palmsBy_16 : decode cX6_palmsBy 16 = .ok (.aload_n 0, 1) := by decide +kernel
theorem dX6_palmsBy_17 : decode cX6_palmsBy 17 = .ok (.iload 4, 2) := by decide +kernel
theorem dX6_palmsBy_19 : decode cX6_palmsBy 19 = .ok (.invokevirtual 116, 3) := by decide +kernel
theorem dX6_palmsBy_22 : decode cX6_palmsBy 22 = .ok (.ifCond .eq 32, 3) := by decide +kernel
theorem dX6_palmsBy_25 : decode cX6_palmsBy 25 = .ok (.aload_n 0, 1) := by decide +kernel
theorem dX6_palmsBy_26 : decode cX6_palmsBy 26 = .ok (.getfield 31, 3) := by decide +kernel
theorem dX6_palmsBy_29 : decode cX6_palmsBy 29 = .ok (.iload 4, 2) := by decide +kernel
theorem dX6_palmsBy_31 : decode cX6_palmsBy 31 = .ok (.iaload, 1) := by decide +kernel
theorem dX6_palmsBy_32 : decode cX6_palmsBy 32 = .ok (.iload_n 2, 1) := by decide +kernel
theorem dX6_palmsBy_33 : decode cX6_palmsBy 33 = .ok (.ishr, 1) := by decide +kernel
theorem dX6_palmsBy_34 : decode cX6_palmsBy 34 = .ok (.iconst 1, 1) := by decide +kernel
theorem dX6_palmsBy_35 : decode cX6_palmsBy 35 = .ok (.iand, 1) := by decide +kernel
theorem dX6_palmsBy_36 : decode cX6_palmsBy 36 = .ok (.iconst 1, 1) := by decide +kernel
theorem dX6_palmsBy_37 : decode cX6_palmsBy 37 = .ok (.if_icmp .ne 17, 3) := by decide +kernel
theorem dX6_palmsBy_40 : decode cX6_palmsBy 40 = .ok (.aload_n 0, 1) := by decide +kernel
theorem dX6_palmsBy_41 : decode cX6_palmsBy 41 = .ok (.getfield 16, 3) := by decide +kernel
theorem dX6_palmsBy_44 : decode cX6_palmsBy 44 = .ok (.iconst 3, 1) := by decide +kernel
theorem dX6_palmsBy_45 : decode cX6_palmsBy 45 = .ok (.iload 4, 2) := by decide +kernel
theorem dX6_palmsBy_47 : decode cX6_palmsBy 47 = .ok (.imul, 1) := by decide +kernel
theorem dX6_palmsBy_48 : decode cX6_palmsBy 48 = .ok (.iconst 1, 1) := by decide +kernel
theorem dX6_palmsBy_49 : decode cX6_palmsBy 49 = .ok (.iadd, 1) := by decide +kernel
theorem dX6_palmsBy_50 : decode cX6_palmsBy 50 = .ok (.iaload, 1) := by decide +kernel
theorem dX6_palmsBy_51 : decode cX6_palmsBy 51 = .ok (.goto 4, 3) := by decide +kernel
theorem dX6_palmsBy_54 : decode cX6_palmsBy 54 = .ok (.iconst 0, 1) := by decide +kernel
theorem dX6_palmsBy_55 : decode cX6_palmsBy 55 = .ok (.iadd, 1) := by decide +kernel
theorem dX6_palmsBy_56 : decode cX6_palmsBy 56 = .ok (.istore_n 3, 1) := by decide +kernel
theorem dX6_palmsBy_57 : decode cX6_palmsBy 57 = .ok (.iinc 4 1, 3) := by decide +kernel
theorem dX6_palmsBy_60 : decode cX6_palmsBy 60 = .ok (.goto (-53), 3) := by decide +kernel
theorem dX6_palmsBy_63 : decode cX6_palmsBy 63 = .ok (.iload_n 3, 1) := by decide +kernel
theorem dX6_palmsBy_64 : decode cX6_palmsBy 64 = .ok (.ireturn, 1) := by decide +kernel
set_option maxRecDepth 20000 in
theorem ggX6_nextOf_X6_isTired : GoodIn wsX6_nextOf wsX6_isTired := goodIn_r _ [9, 3, 26, 27, 28, 29, 30, 31, 32, 33, 34, 35, 36, 37, 38, 39, 40, 41, 42, 43, 44, 45, 46, 47, 48, 49, 50, 51, 52, 53, 54, 55, 56, 57, 58] (by decide +kernel) (by decide +kernel)
set_option maxRecDepth 20000 in
theorem gX6_nextOf_X6_isTired : GoodIn wsX6_nextOf (wsV RX6 112 RX6 yX6_isTired wsX6_isTired) := goodIn_app (goodIn_of _ (by decide +kernel)) ggX6_nextOf_X6_isTired
set_option maxRecDepth 20000 in
theorem ggX6_nextOf_X6_isStubborn : GoodIn wsX6_nextOf wsX6_isStubborn := goodIn_r _ [13, 3, 26, 27, 28, 29, 30, 31, 32, 33, 34, 35, 36, 37, 38, 39, 40, 41, 42, 43, 44, 45, 46, 47, 48, 49, 50, 51, 52, 53, 54, 55, 56, 57, 58] (by decide +kernel) (by decide +kernel)
set_option maxRecDepth 20000 in
theorem gX6_nextOf_X6_isStubborn : GoodIn wsX6_nextOf (wsV RX6 127 RX6 yX6_isStubborn wsX6_isStubborn) := goodIn_app (goodIn_of _ (by decide +kernel)) ggX6_nextOf_X6_isStubborn
set_option maxRecDepth 20000 in
theorem ggX6_nextOf_X6_palmsBy : GoodIn wsX6_nextOf wsX6_palmsBy := goodIn_r _ [17, 2, 3, 18, 19, 20, 8, 21, 22, 23, 24, 25, 26, 27, 28, 29, 30, 31, 32, 33, 34, 35, 36, 37, 38, 39, 40, 41, 42, 43, 44, 45, 46, 47, 48, 49, 50, 51, 52, 53, 54, 55, 56, 57, 58] (by decide +kernel) (by decide +kernel)
set_option maxRecDepth 20000 in
theorem gX6_nextOf_X6_palmsBy : GoodIn wsX6_nextOf (wsV RX6 130 RX6 yX6_palmsBy wsX6_palmsBy) := goodIn_app (goodIn_of _ (by decide +kernel)) ggX6_nextOf_X6_palmsBy
theorem dX6_nextOf_0 : decode cX6_nextOf 0 = .ok (.aload_n 0, 1) := by decide +kernel
theorem dX6_nextOf_1 : decode cX6_nextOf 1 = .ok (.aload_n 0, 1) := by decide +kernel
theorem dX6_nextOf_2 : decode cX6_nextOf 2 = .ok (.getfield 28, 3) := by decide +kernel
theorem dX6_nextOf_5 : decode cX6_nextOf 5 = .ok (.iload_n 1, 1) := by decide +kernel
theorem dX6_nextOf_6 : decode cX6_nextOf 6 = .ok (.invokevirtual 112, 3) := by decide +kernel
theorem dX6_nextOf_9 : decode cX6_nextOf 9 = .ok (.ifCond .eq 5, 3) := by decide +kernel
theorem dX6_nextOf_12 : decode cX6_nextOf 12 = .ok (.iconst 0, 1) := by decide +kernel
theorem dX6_nextOf_13 : decode cX6_nextOf 13 = .ok (.ireturn, 1) := by decide +kernel
theorem dX6_nextOf_14 : decode cX6_nextOf 14 = .ok (.aload_n 0, 1) := by decide +kernel
theorem dX6_nextOf_15 : decode cX6_nextOf 15 = .ok (.getfield 31, 3) := by decide +kernel
theorem dX6_nextOf_18 : decode cX6_nextOf 18 = .ok (.iload_n 1, 1) := by decide +kernel
theorem dX6_nextOf_19 : decode cX6_nextOf 19 = .ok (.iaload, 1) := by decide +kernel
theorem dX6_nextOf_20 : decode cX6_nextOf 20 = .ok (.ifCond .ne 5, 3) := by decide +kernel
theorem dX6_nextOf_23 : decode cX6_nextOf 23 = .ok (.iconst 3, 1) := by decide +kernel
theorem dX6_nextOf_24 : decode cX6_nextOf 24 = .ok (.ireturn, 1) := by decide +kernel
theorem dX6_nextOf_25 : decode cX6_nextOf 25 = .ok (.aload_n 0, 1) := by decide +kernel
theorem dX6_nextOf_26 : decode cX6_nextOf 26 = .ok (.iload_n 1, 1) := by decide +kernel
theorem dX6_nextOf_27 : decode cX6_nextOf 27 = .ok (.invokevirtual 127, 3) := by decide +kernel
theorem dX6_nextOf_30 : decode cX6_nextOf 30 = .ok (.ifCond .eq 10, 3) := by decide +kernel
theorem dX6_nextOf_33 : decode cX6_nextOf 33 = .ok (.aload_n 0, 1) := by decide +kernel
theorem dX6_nextOf_34 : decode cX6_nextOf 34 = .ok (.getfield 31, 3) := by decide +kernel
theorem dX6_nextOf_37 : decode cX6_nextOf 37 = .ok (.iload_n 1, 1) := by decide +kernel
theorem dX6_nextOf_38 : decode cX6_nextOf 38 = .ok (.iaload, 1) := by decide +kernel
theorem dX6_nextOf_39 : decode cX6_nextOf 39 = .ok (.ireturn, 1) := by decide +kernel
theorem dX6_nextOf_40 : decode cX6_nextOf 40 = .ok (.aload_n 0, 1) := by decide +kernel
theorem dX6_nextOf_41 : decode cX6_nextOf 41 = .ok (.getfield 16, 3) := by decide +kernel
theorem dX6_nextOf_44 : decode cX6_nextOf 44 = .ok (.iconst 3, 1) := by decide +kernel
theorem dX6_nextOf_45 : decode cX6_nextOf 45 = .ok (.iload_n 1, 1) := by decide +kernel
theorem dX6_nextOf_46 : decode cX6_nextOf 46 = .ok (.imul, 1) := by decide +kernel
theorem dX6_nextOf_47 : decode cX6_nextOf 47 = .ok (.iaload, 1) := by decide +kernel
theorem dX6_nextOf_48 : decode cX6_nextOf 48 = .ok (.iconst 2, 1) := by decide +kernel
theorem dX6_nextOf_49 : decode cX6_nextOf 49 = .ok (.if_icmp .ne 13, 3) := by decide +kernel
theorem dX6_nextOf_52 : decode cX6_nextOf 52 = .ok (.iload_n 1, 1) := by decide +kernel
theorem dX6_nextOf_53 : decode cX6_nextOf 53 = .ok (.aload_n 0, 1) := by decide +kernel
theorem dX6_nextOf_54 : decode cX6_nextOf 54 = .ok (.getfield 124, 3) := by decide +kernel
theorem dX6_nextOf_57 : decode cX6_nextOf 57 = .ok (.if_icmp .ge 5, 3) := by decide +kernel
theorem dX6_nextOf_60 : decode cX6_nextOf 60 = .ok (.iconst 2, 1) := by decide +kernel
theorem dX6_nextOf_61 : decode cX6_nextOf 61 = .ok (.ireturn, 1) := by decide +kernel
theorem dX6_nextOf_62 : decode cX6_nextOf 62 = .ok (.aload_n 0, 1) := by decide +kernel
theorem dX6_nextOf_63 : decode cX6_nextOf 63 = .ok (.iload_n 1, 1) := by decide +kernel
theorem dX6_nextOf_64 : decode cX6_nextOf 64 = .ok (.iconst 0, 1) := by decide +kernel
theorem dX6_nextOf_65 : decode cX6_nextOf 65 = .ok (.invokevirtual 130, 3) := by decide +kernel
theorem dX6_nextOf_68 : decode cX6_nextOf 68 = .ok (.istore_n 2, 1) := by decide +kernel
theorem dX6_nextOf_69 : decode cX6_nextOf 69 = .ok (.aload_n 0, 1) := by decide +kernel
theorem dX6_nextOf_70 : decode cX6_nextOf 70 = .ok (.iload_n 1, 1) := by decide +kernel
theorem dX6_nextOf_71 : decode cX6_nextOf 71 = .ok (.iconst 1, 1) := by decide +kernel
theorem dX6_nextOf_72 : decode cX6_nextOf 72 = .ok (.invokevirtual 130, 3) := by decide +kernel
theorem dX6_nextOf_75 : decode cX6_nextOf 75 = .ok (.istore_n 3, 1) := by decide +kernel
theorem dX6_nextOf_76 : decode cX6_nextOf 76 = .ok (.iload_n 2, 1) := by decide +kernel
theorem dX6_nextOf_77 : decode cX6_nextOf 77 = .ok (.iload_n 3, 1) := by decide +kernel
theorem dX6_nextOf_78 : decode cX6_nextOf 78 = .ok (.if_icmp .le 7, 3) := by decide +kernel
theorem dX6_nextOf_81 : decode cX6_nextOf 81 = .ok (.iconst 1, 1) := by decide +kernel
theorem dX6_nextOf_82 : decode cX6_nextOf 82 = .ok (.goto 34, 3) := by decide +kernel
theorem dX6_nextOf_85 : decode cX6_nextOf 85 = .ok (.iload_n 3, 1) := by decide +kernel
theorem dX6_nextOf_86 : decode cX6_nextOf 86 = .ok (.iload_n 2, 1) := by decide +kernel
theorem dX6_nextOf_87 : decode cX6_nextOf 87 = .ok (.if_icmp .le 7, 3) := by decide +kernel
theorem dX6_nextOf_90 : decode cX6_nextOf 90 = .ok (.iconst 2, 1) := by decide +kernel
theorem dX6_nextOf_91 : decode cX6_nextOf 91 = .ok (.goto 25, 3) := by decide +kernel
theorem dX6_nextOf_94 : decode cX6_nextOf 94 = .ok (.aload_n 0, 1) := by decide +kernel
theorem dX6_nextOf_95 : decode cX6_nextOf 95 = .ok (.getfield 16, 3) := by decide +kernel
theorem dX6_nextOf_98 : decode cX6_nextOf 98 = .ok (.iconst 3, 1) := by decide +kernel
theorem dX6_nextOf_99 : decode cX6_nextOf 99 = .ok (.iload_n 1, 1) := by decide +kernel
theorem dX6_nextOf_100 : decode cX6_nextOf 100 = .ok (.imul, 1) := by decide +kernel
theorem dX6_nextOf_101 : decode cX6_nextOf 101 = .ok (.iaload, 1) := by decide +kernel
theorem dX6_nextOf_102 : decode cX6_nextOf 102 = .ok (.iconst 3, 1) := by decide +kernel
theorem dX6_nextOf_103 : decode cX6_nextOf 103 = .ok (.if_icmp .ne 7, 3) := by decide +kernel
theorem dX6_nextOf_106 : decode cX6_nextOf 106 = .ok (.iconst 3, 1) := by decide +kernel
theorem dX6_nextOf_107 : decode cX6_nextOf 107 = .ok (.goto 9, 3) := by decide +kernel
theorem dX6_nextOf_110 : decode cX6_nextOf 110 = .ok (.aload_n 0, 1) := by decide +kernel
theorem dX6_nextOf_111 : decode cX6_nextOf 111 = .ok (.getfield 31, 3) := by decide +kernel
theorem dX6_nextOf_114 : decode cX6_nextOf 114 = .ok (.iload_n 1, 1) := by decide +kernel
theorem dX6_nextOf_115 : decode cX6_nextOf 115 = .ok (.iaload, 1) := by decide +kernel
theorem dX6_nextOf_116 : decode cX6_nextOf 116 = .ok (.ireturn, 1) := by decide +kernel
set_option maxRecDepth 20000 in
theorem ggX6_pass_X6_nextOf : GoodIn wsX6_pass wsX6_nextOf := goodIn_r _ [9, 4, 1, 10, 11, 12, 13, 14, 8, 15, 16, 17, 18, 19, 20, 21, 22, 23, 24, 25, 26, 27, 3, 28, 29, 30, 31, 32, 33, 34, 35, 36, 37, 38, 39, 40, 41, 42, 43, 44, 45, 46, 47, 48, 49, 50, 51, 52, 53, 54, 55, 56, 57, 58, 59, 60, 61, 62, 63] (by decide +kernel) (by decide +kernel)
set_option maxRecDepth 20000 in
theorem gX6_pass_X6_nextOf : GoodIn wsX6_pass (wsV RX6 133 RX6 yX6_nextOf wsX6_nextOf) := goodIn_app (goodIn_of _ (by decide +kernel)) ggX6_pass_X6_nextOf
theorem dX6_pass_0 : decode cX6_pass 0 = .ok (.iconst 0, 1) := by decide +kernel
theorem dX6_pass_1 : decode cX6_pass 1 = .ok (.istore_n 1, 1) := by decide +kernel
theorem dX6_pass_2 : decode cX6_pass 2 = .ok (.iload_n 1, 1) := by decide +kernel
theorem dX6_pass_3 : decode cX6_pass 3 = .ok (.bipush 8, 2) := by decide +kernel
theorem dX6_pass_5 : decode cX6_pass 5 = .ok (.if_icmp .ge 21, 3) := by decide +kernel
theorem dX6_pass_8 : decode cX6_pass 8 = .ok (.aload_n 0, 1) := by decide +kernel
theorem dX6_pass_9 : decode cX6_pass 9 = .ok (.getfield 31, 3) := by decide +kernel
theorem dX6_pass_12 : decode cX6_pass 12 = .ok (.iload_n 1, 1) := by decide +kernel
theorem dX6_pass_13 : decode cX6_pass 13 = .ok (.aload_n 0, 1) := by decide +kernel
theorem dX6_pass_14 : decode cX6_pass 14 = .ok (.getfield 25, 3) := by decide +kernel
theorem dX6_pass_17 : decode cX6_pass 17 = .ok (.iload_n 1, 1) := by decide +kernel
theorem dX6_pass_18 : decode cX6_pass 18 = .ok (.iaload, 1) := by decide +kernel
theorem dX6_pass_19 : decode cX6_pass 19 = .ok (.iastore, 1) := by decide +kernel
theorem dX6_pass_20 : decode cX6_pass 20 = .ok (.iinc 1 1, 3) := by decide +kernel
theorem dX6_pass_23 : decode cX6_pass 23 = .ok (.goto (-21), 3) := by decide +kernel
theorem dX6_pass_26 : decode cX6_pass 26 = .ok (.iconst 0, 1) := by decide +kernel
theorem dX6_pass_27 : decode cX6_pass 27 = .ok (.istore_n 1, 1) := by decide +kernel
theorem dX6_pass_28 : decode cX6_pass 28 = .ok (.iload_n 1, 1) := by decide +kernel
theorem dX6_pass_29 : decode cX6_pass 29 = .ok (.aload_n 0, 1) := by decide +kernel
theorem dX6_pass_30 : decode cX6_pass 30 = .ok (.getfield 84, 3) := by decide +kernel
theorem dX6_pass_33 : decode cX6_pass 33 = .ok (.if_icmp .ge 20, 3) := by decide +kernel
theorem dX6_pass_36 : decode cX6_pass 36 = .ok (.aload_n 0, 1) := by decide +kernel
theorem dX6_pass_37 : decode cX6_pass 37 = .ok (.getfield 25, 3) := by decide +kernel
theorem dX6_pass_40 : decode cX6_pass 40 = .ok (.iload_n 1, 1) := by decide +kernel
theorem dX6_pass_41 : decode cX6_pass 41 = .ok (.aload_n 0, 1) := by decide +kernel
theorem dX6_pass_42 : decode cX6_pass 42 = .ok (.iload_n 1, 1) := by decide +kernel
theorem dX6_pass_43 : decode cX6_pass 43 = .ok (.invokevirtual 133, 3) := by decide +kernel
theorem dX6_pass_46 : decode cX6_pass 46 = .ok (.iastore, 1) := by decide +kernel
theorem dX6_pass_47 : decode cX6_pass 47 = .ok (.iinc 1 1, 3) := by decide +kernel
theorem dX6_pass_50 : decode cX6_pass 50 = .ok (.goto (-22), 3) := by decide +kernel
theorem dX6_pass_53 : decode cX6_pass 53 = .ok (.iconst 0, 1) := by decide +kernel
theorem dX6_pass_54 : decode cX6_pass 54 = .ok (.istore_n 1, 1) := by decide +kernel
theorem dX6_pass_55 : decode cX6_pass 55 = .ok (.iload_n 1, 1) := by decide +kernel
theorem dX6_pass_56 : decode cX6_pass 56 = .ok (.aload_n 0, 1) := by decide +kernel
theorem dX6_pass_57 : decode cX6_pass 57 = .ok (.getfield 84, 3) := by decide +kernel
theorem dX6_pass_60 : decode cX6_pass 60 = .ok (.if_icmp .ge 36, 3) := by decide +kernel
theorem dX6_pass_63 : decode cX6_pass 63 = .ok (.aload_n 0, 1) := by decide +kernel
theorem dX6_pass_64 : decode cX6_pass 64 = .ok (.getfield 28, 3) := by decide +kernel
theorem dX6_pass_67 : decode cX6_pass 67 = .ok (.iload_n 1, 1) := by decide +kernel
theorem dX6_pass_68 : decode cX6_pass 68 = .ok (.aload_n 0, 1) := by decide +kernel
theorem dX6_pass_69 : decode cX6_pass 69 = .ok (.getfield 25, 3) := by decide +kernel
theorem dX6_pass_72 : decode cX6_pass 72 = .ok (.iload_n 1, 1) := by decide +kernel
theorem dX6_pass_73 : decode cX6_pass 73 = .ok (.iaload, 1) := by decide +kernel
theorem dX6_pass_74 : decode cX6_pass 74 = .ok (.ifCond .ne 7, 3) := by decide +kernel
theorem dX6_pass_77 : decode cX6_pass 77 = .ok (.iconst 0, 1) := by decide +kernel
theorem dX6_pass_78 : decode cX6_pass 78 = .ok (.goto 11, 3) := by decide +kernel
theorem dX6_pass_81 : decode cX6_pass 81 = .ok (.aload_n 0, 1) := by decide +kernel
theorem dX6_pass_82 : decode cX6_pass 82 = .ok (.getfield 28, 3) := by decide +kernel
theorem dX6_pass_85 : decode cX6_pass 85 = .ok (.iload_n 1, 1) := by decide +kernel
theorem dX6_pass_86 : decode cX6_pass 86 = .ok (.iaload, 1) := by decide +kernel
theorem dX6_pass_87 : decode cX6_pass 87 = .ok (.iconst 1, 1) := by decide +kernel
theorem dX6_pass_88 : decode cX6_pass 88 = .ok (.iadd, 1) := by decide +kernel
theorem dX6_pass_89 : decode cX6_pass 89 = .ok (.iastore, 1) := by decide +kernel
theorem dX6_pass_90 : decode cX6_pass 90 = .ok (.iinc 1 1, 3) := by decide +kernel
theorem dX6_pass_93 : decode cX6_pass 93 = .ok (.goto (-38), 3) := by decide +kernel
theorem dX6_pass_96 : decode cX6_pass 96 = .ok (.return_, 1) := by decide +kernel
set_option maxRecDepth 20000 in
theorem ggX6_passAll_X6_pass : GoodIn wsX6_passAll wsX6_pass := goodIn_r _ [5, 6, 7, 8, 9, 10, 11, 12, 4, 13, 14, 15, 16, 17, 18, 19, 20, 21, 22, 23, 24, 25, 26, 27, 28, 29, 30, 31, 32, 33, 34, 35, 36, 37, 38, 39, 40, 41, 42, 43, 44, 45, 46, 47, 48, 49, 50, 51, 52, 53, 54, 55, 56, 57, 58, 59, 60, 61, 62, 63, 64, 65, 66, 67] (by decide +kernel) (by decide +kernel)
set_option maxRecDepth 20000 in
theorem gX6_passAll_X6_pass : GoodIn wsX6_passAll (wsV RX6 136 RX6 yX6_pass wsX6_pass) := goodIn_app (goodIn_of _ (by decide +kernel)) ggX6_passAll_X6_pass
theorem dX6_passAll_0 : decode cX6_passAll 0 = .ok (.iconst 0, 1) := by decide +kernel
theorem dX6_passAll_1 : decode cX6_passAll 1 = .ok (.istore_n 2, 1) := by decide +kernel
theorem dX6_passAll_2 : decode cX6_passAll 2 = .ok (.iload_n 2, 1) := by decide +kernel
theorem dX6_passAll_3 : decode cX6_passAll 3 = .ok (.iload_n 1, 1) := by decide +kernel
theorem dX6_passAll_4 : decode cX6_passAll 4 = .ok (.if_icmp .ge 13, 3) := by decide +kernel
theorem dX6_passAll_7 : decode cX6_passAll 7 = .ok (.aload_n 0, 1) := by decide +kernel
theorem dX6_passAll_8 : decode cX6_passAll 8 = .ok (.invokevirtual 136, 3) := by decide +kernel
theorem dX6_passAll_11 : decode cX6_passAll 11 = .ok (.iinc 2 1, 3) := by decide +kernel
theorem dX6_passAll_14 : decode cX6_passAll 14 = .ok (.goto (-12), 3) := by decide +kernel
theorem dX6_passAll_17 : decode cX6_passAll 17 = .ok (.return_, 1) := by decide +kernel
theorem dX6_leaveOut_0 : decode cX6_leaveOut 0 = .ok (.iconst 0, 1) := by decide +kernel
theorem dX6_leaveOut_1 : decode cX6_leaveOut 1 = .ok (.istore_n 1, 1) := by decide +kernel
theorem dX6_leaveOut_2 : decode cX6_leaveOut 2 = .ok (.iload_n 1, 1) := by decide +kernel
theorem dX6_leaveOut_3 : decode cX6_leaveOut 3 = .ok (.aload_n 0, 1) := by decide +kernel
theorem dX6_leaveOut_4 : decode cX6_leaveOut 4 = .ok (.getfield 84, 3) := by decide +kernel
theorem dX6_leaveOut_7 : decode cX6_leaveOut 7 = .ok (.if_icmp .ge 61, 3) := by decide +kernel
theorem dX6_leaveOut_10 : decode cX6_leaveOut 10 = .ok (.aload_n 0, 1) := by decide +kernel
theorem dX6_leaveOut_11 : decode cX6_leaveOut 11 = .ok (.getfield 16, 3) := by decide +kernel
theorem dX6_leaveOut_14 : decode cX6_leaveOut 14 = .ok (.iconst 3, 1) := by decide +kernel
theorem dX6_leaveOut_15 : decode cX6_leaveOut 15 = .ok (.iload_n 1, 1) := by decide +kernel
theorem dX6_leaveOut_16 : decode cX6_leaveOut 16 = .ok (.imul, 1) := by decide +kernel
theorem dX6_leaveOut_17 : decode cX6_leaveOut 17 = .ok (.iaload, 1) := by decide +kernel
theorem dX6_leaveOut_18 : decode cX6_leaveOut 18 = .ok (.iconst 1, 1) := by decide +kernel
theorem dX6_leaveOut_19 : decode cX6_leaveOut 19 = .ok (.if_icmp .eq 43, 3) := by decide +kernel
theorem dX6_leaveOut_22 : decode cX6_leaveOut 22 = .ok (.aload_n 0, 1) := by decide +kernel
theorem dX6_leaveOut_23 : decode cX6_leaveOut 23 = .ok (.getfield 25, 3) := by decide +kernel
theorem dX6_leaveOut_26 : decode cX6_leaveOut 26 = .ok (.iload_n 1, 1) := by decide +kernel
theorem dX6_leaveOut_27 : decode cX6_leaveOut 27 = .ok (.aload_n 0, 1) := by decide +kernel
theorem dX6_leaveOut_28 : decode cX6_leaveOut 28 = .ok (.getfield 25, 3) := by decide +kernel
theorem dX6_leaveOut_31 : decode cX6_leaveOut 31 = .ok (.iload_n 1, 1) := by decide +kernel
theorem dX6_leaveOut_32 : decode cX6_leaveOut 32 = .ok (.iaload, 1) := by decide +kernel
theorem dX6_leaveOut_33 : decode cX6_leaveOut 33 = .ok (.iconst 1, 1) := by decide +kernel
theorem dX6_leaveOut_34 : decode cX6_leaveOut 34 = .ok (.if_icmp .ne 7, 3) := by decide +kernel
theorem dX6_leaveOut_37 : decode cX6_leaveOut 37 = .ok (.iconst 2, 1) := by decide +kernel
theorem dX6_leaveOut_38 : decode cX6_leaveOut 38 = .ok (.goto 23, 3) := by decide +kernel
theorem dX6_leaveOut_41 : decode cX6_leaveOut 41 = .ok (.aload_n 0, 1) := by decide +kernel
theorem dX6_leaveOut_42 : decode cX6_leaveOut 42 = .ok (.getfield 25, 3) := by decide +kernel
theorem dX6_leaveOut_45 : decode cX6_leaveOut 45 = .ok (.iload_n 1, 1) := by decide +kernel
theorem dX6_leaveOut_46 : decode cX6_leaveOut 46 = .ok (.iaload, 1) := by decide +kernel
theorem dX6_leaveOut_47 : decode cX6_leaveOut 47 = .ok (.iconst 2, 1) := by decide +kernel
theorem dX6_leaveOut_48 : decode cX6_leaveOut 48 = .ok (.if_icmp .ne 7, 3) := by decide +kernel
theorem dX6_leaveOut_51 : decode cX6_leaveOut 51 = .ok (.iconst 1, 1) := by decide +kernel
theorem dX6_leaveOut_52 : decode cX6_leaveOut 52 = .ok (.goto 9, 3) := by decide +kernel
theorem dX6_leaveOut_55 : decode cX6_leaveOut 55 = .ok (.aload_n 0, 1) := by decide +kernel
theorem dX6_leaveOut_56 : decode cX6_leaveOut 56 = .ok (.getfield 25, 3) := by decide +kernel
theorem dX6_leaveOut_59 : decode cX6_leaveOut 59 = .ok (.iload_n 1, 1) := by decide +kernel
theorem dX6_leaveOut_60 : decode cX6_leaveOut 60 = .ok (.iaload, 1) := by decide +kernel
theorem dX6_leaveOut_61 : decode cX6_leaveOut 61 = .ok (.iastore, 1) := by decide +kernel
theorem dX6_leaveOut_62 : decode cX6_leaveOut 62 = .ok (.iinc 1 1, 3) := by decide +kernel
theorem dX6_leaveOut_65 : decode cX6_leaveOut 65 = .ok (.goto (-63), 3) := by decide +kernel
theorem dX6_leaveOut_68 : decode cX6_leaveOut 68 = .ok (.return_, 1) := by decide +kernel
theorem dX6_makes_0 : decode cX6_makes 0 = .ok (.aload_n 0, 1) := by decide +kernel
theorem dX6_makes_1 : decode cX6_makes 1 = .ok (.getfield 25, 3) := by decide +kernel
theorem dX6_makes_4 : decode cX6_makes 4 = .ok (.iload_n 1, 1) := by decide +kernel
theorem dX6_makes_5 : decode cX6_makes 5 = .ok (.iload_n 2, 1) := by decide +kernel
theorem dX6_makes_6 : decode cX6_makes 6 = .ok (.iastore, 1) := by decide +kernel
theorem dX6_makes_7 : decode cX6_makes 7 = .ok (.aload_n 0, 1) := by decide +kernel
theorem dX6_makes_8 : decode cX6_makes 8 = .ok (.getfield 28, 3) := by decide +kernel
theorem dX6_makes_11 : decode cX6_makes 11 = .ok (.iload_n 1, 1) := by decide +kernel
theorem dX6_makes_12 : decode cX6_makes 12 = .ok (.iload_n 2, 1) := by decide +kernel
theorem dX6_makes_13 : decode cX6_makes 13 = .ok (.ifCond .ne 7, 3) := by decide +kernel
theorem dX6_makes_16 : decode cX6_makes 16 = .ok (.iconst 0, 1) := by decide +kernel
theorem dX6_makes_17 : decode cX6_makes 17 = .ok (.goto 9, 3) := by decide +kernel
theorem dX6_makes_20 : decode cX6_makes 20 = .ok (.aload_n 0, 1) := by decide +kernel
theorem dX6_makes_21 : decode cX6_makes 21 = .ok (.getfield 28, 3) := by decide +kernel
end
section
theorem dX6_makes_24 : decode cX6_makes 24 = .ok (.iload_n 1, 1) := by decide +kernel
theorem dX6_makes_25 : decode cX6_makes 25 = .ok (.iaload, 1) := by decide +kernel
theorem dX6_makes_26 : decode cX6_makes 26 = .ok (.iastore, 1) := by decide +kernel
theorem dX6_makes_27 : decode cX6_makes 27 = .ok (.return_, 1) := by decide +kernel
theorem dX6_rightNow_0 : decode cX6_rightNow 0 = .ok (.iconst 0, 1) := by decide +kernel
theorem dX6_rightNow_1 : decode cX6_rightNow 1 = .ok (.istore_n 1, 1) := by decide +kernel
theorem dX6_rightNow_2 : decode cX6_rightNow 2 = .ok (.iconst 0, 1) := by decide +kernel
theorem dX6_rightNow_3 : decode cX6_rightNow 3 = .ok (.istore_n 2, 1) := by decide +kernel
theorem dX6_rightNow_4 : decode cX6_rightNow 4 = .ok (.iload_n 2, 1) := by decide +kernel
theorem dX6_rightNow_5 : decode cX6_rightNow 5 = .ok (.aload_n 0, 1) := by decide +kernel
theorem dX6_rightNow_6 : decode cX6_rightNow 6 = .ok (.getfield 84, 3) := by decide +kernel
theorem dX6_rightNow_9 : decode cX6_rightNow 9 = .ok (.if_icmp .ge 36, 3) := by decide +kernel
theorem dX6_rightNow_12 : decode cX6_rightNow 12 = .ok (.iload_n 1, 1) := by decide +kernel
theorem dX6_rightNow_13 : decode cX6_rightNow 13 = .ok (.aload_n 0, 1) := by decide +kernel
theorem dX6_rightNow_14 : decode cX6_rightNow 14 = .ok (.getfield 25, 3) := by decide +kernel
theorem dX6_rightNow_17 : decode cX6_rightNow 17 = .ok (.iload_n 2, 1) := by decide +kernel
theorem dX6_rightNow_18 : decode cX6_rightNow 18 = .ok (.iaload, 1) := by decide +kernel
theorem dX6_rightNow_19 : decode cX6_rightNow 19 = .ok (.iconst 2, 1) := by decide +kernel
theorem dX6_rightNow_20 : decode cX6_rightNow 20 = .ok (.if_icmp .ne 16, 3) := by decide +kernel
theorem dX6_rightNow_23 : decode cX6_rightNow 23 = .ok (.aload_n 0, 1) := by decide +kernel
theorem dX6_rightNow_24 : decode cX6_rightNow 24 = .ok (.getfield 16, 3) := by decide +kernel
theorem dX6_rightNow_27 : decode cX6_rightNow 27 = .ok (.iconst 3, 1) := by decide +kernel
theorem dX6_rightNow_28 : decode cX6_rightNow 28 = .ok (.iload_n 2, 1) := by decide +kernel
theorem dX6_rightNow_29 : decode cX6_rightNow 29 = .ok (.imul, 1) := by decide +kernel
theorem dX6_rightNow_30 : decode cX6_rightNow 30 = .ok (.iconst 1, 1) := by decide +kernel
theorem dX6_rightNow_31 : decode cX6_rightNow 31 = .ok (.iadd, 1) := by decide +kernel
theorem dX6_rightNow_32 : decode cX6_rightNow 32 = .ok (.iaload, 1) := by decide +kernel
theorem dX6_rightNow_33 : decode cX6_rightNow 33 = .ok (.goto 4, 3) := by decide +kernel
theorem dX6_rightNow_36 : decode cX6_rightNow 36 = .ok (.iconst 0, 1) := by decide +kernel
theorem dX6_rightNow_37 : decode cX6_rightNow 37 = .ok (.iadd, 1) := by decide +kernel
theorem dX6_rightNow_38 : decode cX6_rightNow 38 = .ok (.istore_n 1, 1) := by decide +kernel
theorem dX6_rightNow_39 : decode cX6_rightNow 39 = .ok (.iinc 2 1, 3) := by decide +kernel
theorem dX6_rightNow_42 : decode cX6_rightNow 42 = .ok (.goto (-38), 3) := by decide +kernel
theorem dX6_rightNow_45 : decode cX6_rightNow 45 = .ok (.iload_n 1, 1) := by decide +kernel
theorem dX6_rightNow_46 : decode cX6_rightNow 46 = .ok (.ireturn, 1) := by decide +kernel
theorem dX6_layNow_0 : decode cX6_layNow 0 = .ok (.iconst 0, 1) := by decide +kernel
theorem dX6_layNow_1 : decode cX6_layNow 1 = .ok (.istore_n 1, 1) := by decide +kernel
theorem dX6_layNow_2 : decode cX6_layNow 2 = .ok (.iload_n 1, 1) := by decide +kernel
theorem dX6_layNow_3 : decode cX6_layNow 3 = .ok (.bipush 8, 2) := by decide +kernel
theorem dX6_layNow_5 : decode cX6_layNow 5 = .ok (.if_icmp .ge 33, 3) := by decide +kernel
theorem dX6_layNow_8 : decode cX6_layNow 8 = .ok (.aload_n 0, 1) := by decide +kernel
theorem dX6_layNow_9 : decode cX6_layNow 9 = .ok (.getfield 19, 3) := by decide +kernel
theorem dX6_layNow_12 : decode cX6_layNow 12 = .ok (.iload_n 1, 1) := by decide +kernel
theorem dX6_layNow_13 : decode cX6_layNow 13 = .ok (.aload_n 0, 1) := by decide +kernel
theorem dX6_layNow_14 : decode cX6_layNow 14 = .ok (.getfield 25, 3) := by decide +kernel
theorem dX6_layNow_17 : decode cX6_layNow 17 = .ok (.iload_n 1, 1) := by decide +kernel
theorem dX6_layNow_18 : decode cX6_layNow 18 = .ok (.iaload, 1) := by decide +kernel
theorem dX6_layNow_19 : decode cX6_layNow 19 = .ok (.iastore, 1) := by decide +kernel
theorem dX6_layNow_20 : decode cX6_layNow 20 = .ok (.aload_n 0, 1) := by decide +kernel
theorem dX6_layNow_21 : decode cX6_layNow 21 = .ok (.getfield 22, 3) := by decide +kernel
theorem dX6_layNow_24 : decode cX6_layNow 24 = .ok (.iload_n 1, 1) := by decide +kernel
theorem dX6_layNow_25 : decode cX6_layNow 25 = .ok (.aload_n 0, 1) := by decide +kernel
theorem dX6_layNow_26 : decode cX6_layNow 26 = .ok (.getfield 28, 3) := by decide +kernel
theorem dX6_layNow_29 : decode cX6_layNow 29 = .ok (.iload_n 1, 1) := by decide +kernel
theorem dX6_layNow_30 : decode cX6_layNow 30 = .ok (.iaload, 1) := by decide +kernel
theorem dX6_layNow_31 : decode cX6_layNow 31 = .ok (.iastore, 1) := by decide +kernel
theorem dX6_layNow_32 : decode cX6_layNow 32 = .ok (.iinc 1 1, 3) := by decide +kernel
theorem dX6_layNow_35 : decode cX6_layNow 35 = .ok (.goto (-33), 3) := by decide +kernel
theorem dX6_layNow_38 : decode cX6_layNow 38 = .ok (.return_, 1) := by decide +kernel
set_option maxRecDepth 20000 in
theorem ggX6_clap_X6_isRow : GoodIn wsX6_clap wsX6_isRow := goodIn_r _ [7, 8, 9, 10, 6, 11, 38, 39, 40, 41, 42, 43, 44, 45, 46, 47, 48, 49, 50, 51, 52, 53, 54, 55, 56, 57, 58, 59, 60, 61, 62, 63, 64, 65, 66, 67, 68, 69, 70] (by decide +kernel) (by decide +kernel)
set_option maxRecDepth 20000 in
theorem gX6_clap_X6_isRow : GoodIn wsX6_clap (wsV RX6 116 RX6 yX6_isRow wsX6_isRow) := goodIn_app (goodIn_of _ (by decide +kernel)) ggX6_clap_X6_isRow
set_option maxRecDepth 20000 in
theorem ggX6_clap_X6_in : GoodIn wsX6_clap wsX6_in := goodIn_r _ [11] (by decide +kernel) (by decide +kernel)
set_option maxRecDepth 20000 in
theorem gX6_clap_X6_in : GoodIn wsX6_clap (va_wsS RX6 52 yX6_in wsX6_in) := goodIn_app (goodIn_of _ (by decide +kernel)) ggX6_clap_X6_in
set_option maxRecDepth 20000 in
theorem ggX6_clap_X6_byLag : GoodIn wsX6_clap wsX6_byLag := goodIn_r _ [15, 16, 17, 18, 6, 19, 20, 38, 39, 40, 41, 42, 43, 44, 45, 46, 47, 48, 49, 50, 51, 52, 53, 54, 55, 56, 57, 58, 59, 60, 61, 62, 63, 64, 65, 66, 67, 68, 69, 70] (by decide +kernel) (by decide +kernel)
set_option maxRecDepth 20000 in
theorem gX6_clap_X6_byLag : GoodIn wsX6_clap (wsV RX6 108 RX6 yX6_byLag wsX6_byLag) := goodIn_app (goodIn_of _ (by decide +kernel)) ggX6_clap_X6_byLag
set_option maxRecDepth 20000 in
theorem ggX6_clap_X6_asItIs : GoodIn wsX6_clap wsX6_asItIs := goodIn_r _ [24, 25, 2, 26, 27, 28, 29, 38, 39, 40, 41, 42, 43, 44, 45, 46, 47, 48, 49, 50, 51, 52, 53, 54, 55, 56, 57, 58, 59, 60, 61, 62, 63, 64, 65, 66, 67, 68, 69, 70] (by decide +kernel) (by decide +kernel)
set_option maxRecDepth 20000 in
theorem gX6_clap_X6_asItIs : GoodIn wsX6_clap (wsV RX6 139 RX6 yX6_asItIs wsX6_asItIs) := goodIn_app (goodIn_of _ (by decide +kernel)) ggX6_clap_X6_asItIs
set_option maxRecDepth 20000 in
theorem ggX6_clap_X6_makes : GoodIn wsX6_clap wsX6_makes := goodIn_r _ [33, 25, 26, 38, 39, 40, 41, 42, 43, 44, 45, 46, 47, 48, 49, 50, 51, 52, 53, 54, 55, 56, 57, 58, 59, 60, 61, 62, 63, 64, 65, 66, 67, 68, 69, 70] (by decide +kernel) (by decide +kernel)
set_option maxRecDepth 20000 in
theorem gX6_clap_X6_makes : GoodIn wsX6_clap (wsV RX6 142 RX6 yX6_makes wsX6_makes) := goodIn_app (goodIn_of _ (by decide +kernel)) ggX6_clap_X6_makes
set_option maxRecDepth 20000 in
theorem ggX6_clap_X6_layNow : GoodIn wsX6_clap wsX6_layNow := goodIn_r _ [37, 2, 25, 27, 26, 38, 39, 40, 41, 42, 43, 44, 45, 46, 47, 48, 49, 50, 51, 52, 53, 54, 55, 56, 57, 58, 59, 60, 61, 62, 63, 64, 65, 66, 67, 68, 69, 70] (by decide +kernel) (by decide +kernel)
set_option maxRecDepth 20000 in
theorem gX6_clap_X6_layNow : GoodIn wsX6_clap (wsV RX6 146 RX6 yX6_layNow wsX6_layNow) := goodIn_app (goodIn_of _ (by decide +kernel)) ggX6_clap_X6_layNow
theorem dX6_clap_0 : decode cX6_clap 0 = .ok (.aload_n 0, 1) := by decide +kernel
theorem dX6_clap_1 : decode cX6_clap 1 = .ok (.iload_n 1, 1) := by decide +kernel
theorem dX6_clap_2 : decode cX6_clap 2 = .ok (.invokevirtual 116, 3) := by decide +kernel
theorem dX6_clap_5 : decode cX6_clap 5 = .ok (.ifCond .ne 6, 3) := by decide +kernel
theorem dX6_clap_8 : decode cX6_clap 8 = .ok (.bipush (-101), 2) := by decide +kernel
theorem dX6_clap_10 : decode cX6_clap 10 = .ok (.ireturn, 1) := by decide +kernel
theorem dX6_clap_11 : decode cX6_clap 11 = .ok (.iload_n 2, 1) := by decide +kernel
theorem dX6_clap_12 : decode cX6_clap 12 = .ok (.i2l, 1) := by decide +kernel
theorem dX6_clap_13 : decode cX6_clap 13 = .ok (.lconst 0, 1) := by decide +kernel
theorem dX6_clap_14 : decode cX6_clap 14 = .ok (.ldc2_w 74, 3) := by decide +kernel
theorem dX6_clap_17 : decode cX6_clap 17 = .ok (.invokestatic 52, 3) := by decide +kernel
theorem dX6_clap_20 : decode cX6_clap 20 = .ok (.ifCond .ne 6, 3) := by decide +kernel
theorem dX6_clap_23 : decode cX6_clap 23 = .ok (.bipush (-102), 2) := by decide +kernel
theorem dX6_clap_25 : decode cX6_clap 25 = .ok (.ireturn, 1) := by decide +kernel
theorem dX6_clap_26 : decode cX6_clap 26 = .ok (.aload_n 0, 1) := by decide +kernel
theorem dX6_clap_27 : decode cX6_clap 27 = .ok (.iload_n 1, 1) := by decide +kernel
theorem dX6_clap_28 : decode cX6_clap 28 = .ok (.aload_n 0, 1) := by decide +kernel
theorem dX6_clap_29 : decode cX6_clap 29 = .ok (.getfield 19, 3) := by decide +kernel
theorem dX6_clap_32 : decode cX6_clap 32 = .ok (.iload_n 1, 1) := by decide +kernel
theorem dX6_clap_33 : decode cX6_clap 33 = .ok (.iaload, 1) := by decide +kernel
theorem dX6_clap_34 : decode cX6_clap 34 = .ok (.invokevirtual 108, 3) := by decide +kernel
theorem dX6_clap_37 : decode cX6_clap 37 = .ok (.istore_n 3, 1) := by decide +kernel
theorem dX6_clap_38 : decode cX6_clap 38 = .ok (.aload_n 0, 1) := by decide +kernel
theorem dX6_clap_39 : decode cX6_clap 39 = .ok (.invokevirtual 139, 3) := by decide +kernel
theorem dX6_clap_42 : decode cX6_clap 42 = .ok (.aload_n 0, 1) := by decide +kernel
theorem dX6_clap_43 : decode cX6_clap 43 = .ok (.iload_n 1, 1) := by decide +kernel
theorem dX6_clap_44 : decode cX6_clap 44 = .ok (.aload_n 0, 1) := by decide +kernel
theorem dX6_clap_45 : decode cX6_clap 45 = .ok (.iload_n 1, 1) := by decide +kernel
theorem dX6_clap_46 : decode cX6_clap 46 = .ok (.iload_n 2, 1) := by decide +kernel
theorem dX6_clap_47 : decode cX6_clap 47 = .ok (.invokevirtual 108, 3) := by decide +kernel
theorem dX6_clap_50 : decode cX6_clap 50 = .ok (.invokevirtual 142, 3) := by decide +kernel
theorem dX6_clap_53 : decode cX6_clap 53 = .ok (.aload_n 0, 1) := by decide +kernel
theorem dX6_clap_54 : decode cX6_clap 54 = .ok (.invokevirtual 146, 3) := by decide +kernel
theorem dX6_clap_57 : decode cX6_clap 57 = .ok (.iload_n 3, 1) := by decide +kernel
theorem dX6_clap_58 : decode cX6_clap 58 = .ok (.ireturn, 1) := by decide +kernel
set_option maxRecDepth 20000 in
theorem ggX6_arm_X6_in : GoodIn wsX6_arm wsX6_in := goodIn_r _ [6] (by decide +kernel) (by decide +kernel)
set_option maxRecDepth 20000 in
theorem gX6_arm_X6_in : GoodIn wsX6_arm (va_wsS RX6 52 yX6_in wsX6_in) := goodIn_app (goodIn_of _ (by decide +kernel)) ggX6_arm_X6_in
set_option maxRecDepth 20000 in
theorem ggX6_arm_X6_lacks : GoodIn wsX6_arm wsX6_lacks := goodIn_r _ [10, 11, 12, 13, 14, 15, 16, 17, 18, 19, 20, 21, 22, 23, 24, 25, 26, 27, 28, 29, 30, 31, 32, 33, 34, 35, 36, 37, 38, 39, 40, 41, 42, 43, 44] (by decide +kernel) (by decide +kernel)
set_option maxRecDepth 20000 in
theorem gX6_arm_X6_lacks : GoodIn wsX6_arm (wsV RX6 151 RX6 yX6_lacks wsX6_lacks) := goodIn_app (goodIn_of _ (by decide +kernel)) ggX6_arm_X6_lacks
theorem dX6_arm_0 : decode cX6_arm 0 = .ok (.iload_n 1, 1) := by decide +kernel
theorem dX6_arm_1 : decode cX6_arm 1 = .ok (.i2l, 1) := by decide +kernel
theorem dX6_arm_2 : decode cX6_arm 2 = .ok (.lconst 0, 1) := by decide +kernel
theorem dX6_arm_3 : decode cX6_arm 3 = .ok (.ldc2_w 149, 3) := by decide +kernel
theorem dX6_arm_6 : decode cX6_arm 6 = .ok (.invokestatic 52, 3) := by decide +kernel
theorem dX6_arm_9 : decode cX6_arm 9 = .ok (.ifCond .ne 6, 3) := by decide +kernel
theorem dX6_arm_12 : decode cX6_arm 12 = .ok (.bipush (-102), 2) := by decide +kernel
theorem dX6_arm_14 : decode cX6_arm 14 = .ok (.ireturn, 1) := by decide +kernel
theorem dX6_arm_15 : decode cX6_arm 15 = .ok (.aload_n 0, 1) := by decide +kernel
theorem dX6_arm_16 : decode cX6_arm 16 = .ok (.invokevirtual 151, 3) := by decide +kernel
theorem dX6_arm_19 : decode cX6_arm 19 = .ok (.ifCond .eq 6, 3) := by decide +kernel
theorem dX6_arm_22 : decode cX6_arm 22 = .ok (.bipush (-103), 2) := by decide +kernel
theorem dX6_arm_24 : decode cX6_arm 24 = .ok (.ireturn, 1) := by decide +kernel
theorem dX6_arm_25 : decode cX6_arm 25 = .ok (.aload_n 0, 1) := by decide +kernel
theorem dX6_arm_26 : decode cX6_arm 26 = .ok (.getfield 90, 3) := by decide +kernel
theorem dX6_arm_29 : decode cX6_arm 29 = .ok (.istore_n 2, 1) := by decide +kernel
theorem dX6_arm_30 : decode cX6_arm 30 = .ok (.aload_n 0, 1) := by decide +kernel
theorem dX6_arm_31 : decode cX6_arm 31 = .ok (.iload_n 1, 1) := by decide +kernel
theorem dX6_arm_32 : decode cX6_arm 32 = .ok (.putfield 90, 3) := by decide +kernel
theorem dX6_arm_35 : decode cX6_arm 35 = .ok (.iload_n 2, 1) := by decide +kernel
theorem dX6_arm_36 : decode cX6_arm 36 = .ok (.ireturn, 1) := by decide +kernel
set_option maxRecDepth 20000 in
theorem ggX6_bar_X6_lacks : GoodIn wsX6_bar wsX6_lacks := goodIn_r _ [6, 7, 55, 56, 57, 58, 59, 60, 61, 62, 63, 64, 65, 66, 67, 68, 69, 70, 71, 72, 73, 74, 75, 76, 77, 78, 79, 80, 81, 82, 83, 84, 85, 86, 87] (by decide +kernel) (by decide +kernel)
set_option maxRecDepth 20000 in
theorem gX6_bar_X6_lacks : GoodIn wsX6_bar (wsV RX6 151 RX6 yX6_lacks wsX6_lacks) := goodIn_app (goodIn_of _ (by decide +kernel)) ggX6_bar_X6_lacks
set_option maxRecDepth 20000 in
theorem ggX6_bar_X6_asItIs : GoodIn wsX6_bar wsX6_asItIs := goodIn_r _ [11, 12, 13, 14, 15, 16, 17, 55, 56, 57, 58, 59, 60, 61, 62, 63, 64, 65, 66, 67, 68, 69, 70, 71, 72, 73, 74, 75, 76, 77, 78, 79, 80, 81, 82, 83, 84, 85, 86, 87] (by decide +kernel) (by decide +kernel)
set_option maxRecDepth 20000 in
theorem gX6_bar_X6_asItIs : GoodIn wsX6_bar (wsV RX6 139 RX6 yX6_asItIs wsX6_asItIs) := goodIn_app (goodIn_of _ (by decide +kernel)) ggX6_bar_X6_asItIs
set_option maxRecDepth 20000 in
theorem ggX6_bar_X6_pass : GoodIn wsX6_bar wsX6_pass := goodIn_r _ [21, 22, 12, 7, 14, 23, 24, 25, 5, 26, 27, 17, 28, 29, 30, 31, 32, 33, 34, 35, 36, 37, 38, 39, 40, 41, 42, 43, 44, 45, 46, 55, 56, 57, 58, 59, 60, 61, 62, 63, 64, 65, 66, 67, 68, 69, 70, 71, 72, 73, 74, 75, 76, 77, 78, 79, 80, 81, 82, 83, 84, 85, 86, 87] (by decide +kernel) (by decide +kernel)
set_option maxRecDepth 20000 in
theorem gX6_bar_X6_pass : GoodIn wsX6_bar (wsV RX6 136 RX6 yX6_pass wsX6_pass) := goodIn_app (goodIn_of _ (by decide +kernel)) ggX6_bar_X6_pass
set_option maxRecDepth 20000 in
theorem ggX6_bar_X6_layNow : GoodIn wsX6_bar wsX6_layNow := goodIn_r _ [50, 13, 12, 15, 14, 55, 56, 57, 58, 59, 60, 61, 62, 63, 64, 65, 66, 67, 68, 69, 70, 71, 72, 73, 74, 75, 76, 77, 78, 79, 80, 81, 82, 83, 84, 85, 86, 87] (by decide +kernel) (by decide +kernel)
set_option maxRecDepth 20000 in
theorem gX6_bar_X6_layNow : GoodIn wsX6_bar (wsV RX6 146 RX6 yX6_layNow wsX6_layNow) := goodIn_app (goodIn_of _ (by decide +kernel)) ggX6_bar_X6_layNow
set_option maxRecDepth 20000 in
theorem ggX6_bar_X6_rightNow : GoodIn wsX6_bar wsX6_rightNow := goodIn_r _ [54, 7, 12, 27, 55, 56, 57, 58, 59, 60, 61, 62, 63, 64, 65, 66, 67, 68, 69, 70, 71, 72, 73, 74, 75, 76, 77, 78, 79, 80, 81, 82, 83, 84, 85, 86, 87] (by decide +kernel) (by decide +kernel)
set_option maxRecDepth 20000 in
theorem gX6_bar_X6_rightNow : GoodIn wsX6_bar (wsV RX6 155 RX6 yX6_rightNow wsX6_rightNow) := goodIn_app (goodIn_of _ (by decide +kernel)) ggX6_bar_X6_rightNow
theorem dX6_bar_0 : decode cX6_bar 0 = .ok (.aload_n 0, 1) := by decide +kernel
theorem dX6_bar_1 : decode cX6_bar 1 = .ok (.invokevirtual 151, 3) := by decide +kernel
theorem dX6_bar_4 : decode cX6_bar 4 = .ok (.ifCond .eq 6, 3) := by decide +kernel
theorem dX6_bar_7 : decode cX6_bar 7 = .ok (.bipush (-103), 2) := by decide +kernel
theorem dX6_bar_9 : decode cX6_bar 9 = .ok (.ireturn, 1) := by decide +kernel
theorem dX6_bar_10 : decode cX6_bar 10 = .ok (.aload_n 0, 1) := by decide +kernel
theorem dX6_bar_11 : decode cX6_bar 11 = .ok (.invokevirtual 139, 3) := by decide +kernel
theorem dX6_bar_14 : decode cX6_bar 14 = .ok (.aload_n 0, 1) := by decide +kernel
theorem dX6_bar_15 : decode cX6_bar 15 = .ok (.invokevirtual 136, 3) := by decide +kernel
theorem dX6_bar_18 : decode cX6_bar 18 = .ok (.aload_n 0, 1) := by decide +kernel
theorem dX6_bar_19 : decode cX6_bar 19 = .ok (.invokevirtual 146, 3) := by decide +kernel
theorem dX6_bar_22 : decode cX6_bar 22 = .ok (.aload_n 0, 1) := by decide +kernel
theorem dX6_bar_23 : decode cX6_bar 23 = .ok (.dup, 1) := by decide +kernel
theorem dX6_bar_24 : decode cX6_bar 24 = .ok (.getfield 93, 3) := by decide +kernel
theorem dX6_bar_27 : decode cX6_bar 27 = .ok (.iconst 1, 1) := by decide +kernel
theorem dX6_bar_28 : decode cX6_bar 28 = .ok (.iadd, 1) := by decide +kernel
theorem dX6_bar_29 : decode cX6_bar 29 = .ok (.putfield 93, 3) := by decide +kernel
theorem dX6_bar_32 : decode cX6_bar 32 = .ok (.aload_n 0, 1) := by decide +kernel
theorem dX6_bar_33 : decode cX6_bar 33 = .ok (.invokevirtual 155, 3) := by decide +kernel
theorem dX6_bar_36 : decode cX6_bar 36 = .ok (.ireturn, 1) := by decide +kernel
set_option maxRecDepth 20000 in
theorem ggX6_skip_X6_lacks : GoodIn wsX6_skip wsX6_lacks := goodIn_r _ [6, 7, 31, 32, 33, 34, 35, 36, 37, 38, 39, 40, 41, 42, 43, 44, 45, 46, 47, 48, 49, 50, 51, 52, 53, 54, 55, 56, 57, 58, 59, 60, 61, 62, 63] (by decide +kernel) (by decide +kernel)
set_option maxRecDepth 20000 in
theorem gX6_skip_X6_lacks : GoodIn wsX6_skip (wsV RX6 151 RX6 yX6_lacks wsX6_lacks) := goodIn_app (goodIn_of _ (by decide +kernel)) ggX6_skip_X6_lacks
set_option maxRecDepth 20000 in
theorem ggX6_skip_X6_asItIs : GoodIn wsX6_skip wsX6_asItIs := goodIn_r _ [11, 12, 13, 14, 15, 16, 17, 31, 32, 33, 34, 35, 36, 37, 38, 39, 40, 41, 42, 43, 44, 45, 46, 47, 48, 49, 50, 51, 52, 53, 54, 55, 56, 57, 58, 59, 60, 61, 62, 63] (by decide +kernel) (by decide +kernel)
set_option maxRecDepth 20000 in
theorem gX6_skip_X6_asItIs : GoodIn wsX6_skip (wsV RX6 139 RX6 yX6_asItIs wsX6_asItIs) := goodIn_app (goodIn_of _ (by decide +kernel)) ggX6_skip_X6_asItIs
set_option maxRecDepth 20000 in
theorem ggX6_skip_X6_leaveOut : GoodIn wsX6_skip wsX6_leaveOut := goodIn_r _ [21, 7, 22, 12, 31, 32, 33, 34, 35, 36, 37, 38, 39, 40, 41, 42, 43, 44, 45, 46, 47, 48, 49, 50, 51, 52, 53, 54, 55, 56, 57, 58, 59, 60, 61, 62, 63] (by decide +kernel) (by decide +kernel)
set_option maxRecDepth 20000 in
theorem gX6_skip_X6_leaveOut : GoodIn wsX6_skip (wsV RX6 158 RX6 yX6_leaveOut wsX6_leaveOut) := goodIn_app (goodIn_of _ (by decide +kernel)) ggX6_skip_X6_leaveOut
set_option maxRecDepth 20000 in
theorem ggX6_skip_X6_layNow : GoodIn wsX6_skip wsX6_layNow := goodIn_r _ [26, 13, 12, 15, 14, 31, 32, 33, 34, 35, 36, 37, 38, 39, 40, 41, 42, 43, 44, 45, 46, 47, 48, 49, 50, 51, 52, 53, 54, 55, 56, 57, 58, 59, 60, 61, 62, 63] (by decide +kernel) (by decide +kernel)
set_option maxRecDepth 20000 in
theorem gX6_skip_X6_layNow : GoodIn wsX6_skip (wsV RX6 146 RX6 yX6_layNow wsX6_layNow) := goodIn_app (goodIn_of _ (by decide +kernel)) ggX6_skip_X6_layNow
set_option maxRecDepth 20000 in
theorem ggX6_skip_X6_rightNow : GoodIn wsX6_skip wsX6_rightNow := goodIn_r _ [30, 7, 12, 22, 31, 32, 33, 34, 35, 36, 37, 38, 39, 40, 41, 42, 43, 44, 45, 46, 47, 48, 49, 50, 51, 52, 53, 54, 55, 56, 57, 58, 59, 60, 61, 62, 63] (by decide +kernel) (by decide +kernel)
set_option maxRecDepth 20000 in
theorem gX6_skip_X6_rightNow : GoodIn wsX6_skip (wsV RX6 155 RX6 yX6_rightNow wsX6_rightNow) := goodIn_app (goodIn_of _ (by decide +kernel)) ggX6_skip_X6_rightNow
theorem dX6_skip_0 : decode cX6_skip 0 = .ok (.aload_n 0, 1) := by decide +kernel
theorem dX6_skip_1 : decode cX6_skip 1 = .ok (.invokevirtual 151, 3) := by decide +kernel
theorem dX6_skip_4 : decode cX6_skip 4 = .ok (.ifCond .eq 6, 3) := by decide +kernel
theorem dX6_skip_7 : decode cX6_skip 7 = .ok (.bipush (-103), 2) := by decide +kernel
theorem dX6_skip_9 : decode cX6_skip 9 = .ok (.ireturn, 1) := by decide +kernel
theorem dX6_skip_10 : decode cX6_skip 10 = .ok (.aload_n 0, 1) := by decide +kernel
theorem dX6_skip_11 : decode cX6_skip 11 = .ok (.invokevirtual 139, 3) := by decide +kernel
theorem dX6_skip_14 : decode cX6_skip 14 = .ok (.aload_n 0, 1) := by decide +kernel
theorem dX6_skip_15 : decode cX6_skip 15 = .ok (.invokevirtual 158, 3) := by decide +kernel
theorem dX6_skip_18 : decode cX6_skip 18 = .ok (.aload_n 0, 1) := by decide +kernel
theorem dX6_skip_19 : decode cX6_skip 19 = .ok (.invokevirtual 146, 3) := by decide +kernel
theorem dX6_skip_22 : decode cX6_skip 22 = .ok (.aload_n 0, 1) := by decide +kernel
theorem dX6_skip_23 : decode cX6_skip 23 = .ok (.dup, 1) := by decide +kernel
theorem dX6_skip_24 : decode cX6_skip 24 = .ok (.getfield 96, 3) := by decide +kernel
theorem dX6_skip_27 : decode cX6_skip 27 = .ok (.iconst 1, 1) := by decide +kernel
theorem dX6_skip_28 : decode cX6_skip 28 = .ok (.iadd, 1) := by decide +kernel
theorem dX6_skip_29 : decode cX6_skip 29 = .ok (.putfield 96, 3) := by decide +kernel
theorem dX6_skip_32 : decode cX6_skip 32 = .ok (.aload_n 0, 1) := by decide +kernel
theorem dX6_skip_33 : decode cX6_skip 33 = .ok (.invokevirtual 155, 3) := by decide +kernel
theorem dX6_skip_36 : decode cX6_skip 36 = .ok (.ireturn, 1) := by decide +kernel
set_option maxRecDepth 20000 in
theorem ggX6_loudOf_X6_isRow : GoodIn wsX6_loudOf wsX6_isRow := goodIn_r _ [7, 8, 9, 10, 6, 11, 12, 13, 14, 15, 16, 17, 18, 19, 20, 21, 22, 23, 24, 25, 26, 27, 28, 29, 30, 31, 32, 33, 34, 35, 36, 37, 38, 39, 40, 41, 42, 43, 44] (by decide +kernel) (by decide +kernel)
set_option maxRecDepth 20000 in
theorem gX6_loudOf_X6_isRow : GoodIn wsX6_loudOf (wsV RX6 116 RX6 yX6_isRow wsX6_isRow) := goodIn_app (goodIn_of _ (by decide +kernel)) ggX6_loudOf_X6_isRow
theorem dX6_loudOf_0 : decode cX6_loudOf 0 = .ok (.iload_n 2, 1) := by decide +kernel
theorem dX6_loudOf_1 : decode cX6_loudOf 1 = .ok (.iconst 2, 1) := by decide +kernel
theorem dX6_loudOf_2 : decode cX6_loudOf 2 = .ok (.irem, 1) := by decide +kernel
theorem dX6_loudOf_3 : decode cX6_loudOf 3 = .ok (.istore_n 3, 1) := by decide +kernel
theorem dX6_loudOf_4 : decode cX6_loudOf 4 = .ok (.iconst 0, 1) := by decide +kernel
theorem dX6_loudOf_5 : decode cX6_loudOf 5 = .ok (.istore 4, 2) := by decide +kernel
theorem dX6_loudOf_7 : decode cX6_loudOf 7 = .ok (.iload_n 1, 1) := by decide +kernel
theorem dX6_loudOf_8 : decode cX6_loudOf 8 = .ok (.iconst 2, 1) := by decide +kernel
theorem dX6_loudOf_9 : decode cX6_loudOf 9 = .ok (.isub, 1) := by decide +kernel
theorem dX6_loudOf_10 : decode cX6_loudOf 10 = .ok (.istore 5, 2) := by decide +kernel
theorem dX6_loudOf_12 : decode cX6_loudOf 12 = .ok (.iload 5, 2) := by decide +kernel
theorem dX6_loudOf_14 : decode cX6_loudOf 14 = .ok (.iload_n 1, 1) := by decide +kernel
theorem dX6_loudOf_15 : decode cX6_loudOf 15 = .ok (.iconst 2, 1) := by decide +kernel
theorem dX6_loudOf_16 : decode cX6_loudOf 16 = .ok (.iadd, 1) := by decide +kernel
theorem dX6_loudOf_17 : decode cX6_loudOf 17 = .ok (.if_icmp .gt 80, 3) := by decide +kernel
theorem dX6_loudOf_20 : decode cX6_loudOf 20 = .ok (.aload_n 0, 1) := by decide +kernel
theorem dX6_loudOf_21 : decode cX6_loudOf 21 = .ok (.iload 5, 2) := by decide +kernel
theorem dX6_loudOf_23 : decode cX6_loudOf 23 = .ok (.invokevirtual 116, 3) := by decide +kernel
theorem dX6_loudOf_26 : decode cX6_loudOf 26 = .ok (.ifCond .eq 32, 3) := by decide +kernel
theorem dX6_loudOf_29 : decode cX6_loudOf 29 = .ok (.aload_n 0, 1) := by decide +kernel
theorem dX6_loudOf_30 : decode cX6_loudOf 30 = .ok (.getfield 19, 3) := by decide +kernel
theorem dX6_loudOf_33 : decode cX6_loudOf 33 = .ok (.iload 5, 2) := by decide +kernel
theorem dX6_loudOf_35 : decode cX6_loudOf 35 = .ok (.iaload, 1) := by decide +kernel
theorem dX6_loudOf_36 : decode cX6_loudOf 36 = .ok (.iload_n 3, 1) := by decide +kernel
theorem dX6_loudOf_37 : decode cX6_loudOf 37 = .ok (.ishr, 1) := by decide +kernel
theorem dX6_loudOf_38 : decode cX6_loudOf 38 = .ok (.iconst 1, 1) := by decide +kernel
theorem dX6_loudOf_39 : decode cX6_loudOf 39 = .ok (.iand, 1) := by decide +kernel
theorem dX6_loudOf_40 : decode cX6_loudOf 40 = .ok (.iconst 1, 1) := by decide +kernel
theorem dX6_loudOf_41 : decode cX6_loudOf 41 = .ok (.if_icmp .ne 17, 3) := by decide +kernel
theorem dX6_loudOf_44 : decode cX6_loudOf 44 = .ok (.aload_n 0, 1) := by decide +kernel
theorem dX6_loudOf_45 : decode cX6_loudOf 45 = .ok (.getfield 16, 3) := by decide +kernel
theorem dX6_loudOf_48 : decode cX6_loudOf 48 = .ok (.iconst 3, 1) := by decide +kernel
theorem dX6_loudOf_49 : decode cX6_loudOf 49 = .ok (.iload 5, 2) := by decide +kernel
theorem dX6_loudOf_51 : decode cX6_loudOf 51 = .ok (.imul, 1) := by decide +kernel
theorem dX6_loudOf_52 : decode cX6_loudOf 52 = .ok (.iconst 1, 1) := by decide +kernel
theorem dX6_loudOf_53 : decode cX6_loudOf 53 = .ok (.iadd, 1) := by decide +kernel
theorem dX6_loudOf_54 : decode cX6_loudOf 54 = .ok (.iaload, 1) := by decide +kernel
theorem dX6_loudOf_55 : decode cX6_loudOf 55 = .ok (.goto 4, 3) := by decide +kernel
theorem dX6_loudOf_58 : decode cX6_loudOf 58 = .ok (.iconst 0, 1) := by decide +kernel
theorem dX6_loudOf_59 : decode cX6_loudOf 59 = .ok (.istore 6, 2) := by decide +kernel
theorem dX6_loudOf_61 : decode cX6_loudOf 61 = .ok (.iload 4, 2) := by decide +kernel
theorem dX6_loudOf_63 : decode cX6_loudOf 63 = .ok (.iload 5, 2) := by decide +kernel
theorem dX6_loudOf_65 : decode cX6_loudOf 65 = .ok (.iload_n 1, 1) := by decide +kernel
theorem dX6_loudOf_66 : decode cX6_loudOf 66 = .ok (.iconst 2, 1) := by decide +kernel
theorem dX6_loudOf_67 : decode cX6_loudOf 67 = .ok (.isub, 1) := by decide +kernel
theorem dX6_loudOf_68 : decode cX6_loudOf 68 = .ok (.if_icmp .eq 11, 3) := by decide +kernel
theorem dX6_loudOf_71 : decode cX6_loudOf 71 = .ok (.iload 5, 2) := by decide +kernel
theorem dX6_loudOf_73 : decode cX6_loudOf 73 = .ok (.iload_n 1, 1) := by decide +kernel
theorem dX6_loudOf_74 : decode cX6_loudOf 74 = .ok (.iconst 2, 1) := by decide +kernel
theorem dX6_loudOf_75 : decode cX6_loudOf 75 = .ok (.iadd, 1) := by decide +kernel
theorem dX6_loudOf_76 : decode cX6_loudOf 76 = .ok (.if_icmp .ne 10, 3) := by decide +kernel
theorem dX6_loudOf_79 : decode cX6_loudOf 79 = .ok (.iload 6, 2) := by decide +kernel
theorem dX6_loudOf_81 : decode cX6_loudOf 81 = .ok (.iconst 2, 1) := by decide +kernel
theorem dX6_loudOf_82 : decode cX6_loudOf 82 = .ok (.idiv, 1) := by decide +kernel
theorem dX6_loudOf_83 : decode cX6_loudOf 83 = .ok (.goto 5, 3) := by decide +kernel
theorem dX6_loudOf_86 : decode cX6_loudOf 86 = .ok (.iload 6, 2) := by decide +kernel
theorem dX6_loudOf_88 : decode cX6_loudOf 88 = .ok (.iadd, 1) := by decide +kernel
theorem dX6_loudOf_89 : decode cX6_loudOf 89 = .ok (.istore 4, 2) := by decide +kernel
theorem dX6_loudOf_91 : decode cX6_loudOf 91 = .ok (.iinc 5 1, 3) := by decide +kernel
theorem dX6_loudOf_94 : decode cX6_loudOf 94 = .ok (.goto (-82), 3) := by decide +kernel
theorem dX6_loudOf_97 : decode cX6_loudOf 97 = .ok (.iload 4, 2) := by decide +kernel
theorem dX6_loudOf_99 : decode cX6_loudOf 99 = .ok (.ireturn, 1) := by decide +kernel
set_option maxRecDepth 20000 in
theorem ggX6_loud_X6_isRow : GoodIn wsX6_loud wsX6_isRow := goodIn_r _ [6, 7, 8, 9, 5, 10, 17, 18, 19, 20, 21, 22, 23, 24, 25, 26, 27, 28, 29, 30, 31, 32, 33, 34, 35, 36, 37, 38, 39, 40, 41, 42, 43, 44, 45, 46, 47, 48, 49] (by decide +kernel) (by decide +kernel)
set_option maxRecDepth 20000 in
theorem gX6_loud_X6_isRow : GoodIn wsX6_loud (wsV RX6 116 RX6 yX6_isRow wsX6_isRow) := goodIn_app (goodIn_of _ (by decide +kernel)) ggX6_loud_X6_isRow
set_option maxRecDepth 20000 in
theorem ggX6_loud_X6_in : GoodIn wsX6_loud wsX6_in := goodIn_r _ [10] (by decide +kernel) (by decide +kernel)
set_option maxRecDepth 20000 in
theorem gX6_loud_X6_in : GoodIn wsX6_loud (va_wsS RX6 52 yX6_in wsX6_in) := goodIn_app (goodIn_of _ (by decide +kernel)) ggX6_loud_X6_in
set_option maxRecDepth 20000 in
theorem ggX6_loud_X6_loudOf : GoodIn wsX6_loud wsX6_loudOf := goodIn_r _ [14, 15, 16, 2, 3, 4, 5, 6, 7, 8, 9, 10, 17, 18, 19, 20, 21, 22, 23, 24, 25, 26, 27, 28, 29, 30, 31, 32, 33, 34, 35, 36, 37, 38, 39, 40, 41, 42, 43, 44, 45, 46, 47, 48, 49] (by decide +kernel) (by decide +kernel)
set_option maxRecDepth 20000 in
theorem gX6_loud_X6_loudOf : GoodIn wsX6_loud (wsV RX6 161 RX6 yX6_loudOf wsX6_loudOf) := goodIn_app (goodIn_of _ (by decide +kernel)) ggX6_loud_X6_loudOf
theorem dX6_loud_0 : decode cX6_loud 0 = .ok (.aload_n 0, 1) := by decide +kernel
theorem dX6_loud_1 : decode cX6_loud 1 = .ok (.iload_n 1, 1) := by decide +kernel
theorem dX6_loud_2 : decode cX6_loud 2 = .ok (.invokevirtual 116, 3) := by decide +kernel
theorem dX6_loud_5 : decode cX6_loud 5 = .ok (.ifCond .ne 6, 3) := by decide +kernel
theorem dX6_loud_8 : decode cX6_loud 8 = .ok (.bipush (-101), 2) := by decide +kernel
theorem dX6_loud_10 : decode cX6_loud 10 = .ok (.ireturn, 1) := by decide +kernel
theorem dX6_loud_11 : decode cX6_loud 11 = .ok (.iload_n 2, 1) := by decide +kernel
theorem dX6_loud_12 : decode cX6_loud 12 = .ok (.i2l, 1) := by decide +kernel
theorem dX6_loud_13 : decode cX6_loud 13 = .ok (.lconst 0, 1) := by decide +kernel
theorem dX6_loud_14 : decode cX6_loud 14 = .ok (.ldc2_w 74, 3) := by decide +kernel
theorem dX6_loud_17 : decode cX6_loud 17 = .ok (.invokestatic 52, 3) := by decide +kernel
theorem dX6_loud_20 : decode cX6_loud 20 = .ok (.ifCond .eq 12, 3) := by decide +kernel
theorem dX6_loud_23 : decode cX6_loud 23 = .ok (.aload_n 0, 1) := by decide +kernel
theorem dX6_loud_24 : decode cX6_loud 24 = .ok (.iload_n 1, 1) := by decide +kernel
theorem dX6_loud_25 : decode cX6_loud 25 = .ok (.iload_n 2, 1) := by decide +kernel
theorem dX6_loud_26 : decode cX6_loud 26 = .ok (.invokevirtual 161, 3) := by decide +kernel
theorem dX6_loud_29 : decode cX6_loud 29 = .ok (.goto 5, 3) := by decide +kernel
theorem dX6_loud_32 : decode cX6_loud 32 = .ok (.bipush (-102), 2) := by decide +kernel
theorem dX6_loud_34 : decode cX6_loud 34 = .ok (.ireturn, 1) := by decide +kernel
set_option maxRecDepth 20000 in
theorem ggX6_restOf_X6_asItIs : GoodIn wsX6_restOf wsX6_asItIs := goodIn_r _ [8, 2, 9, 10, 11, 12, 13, 42, 43, 44, 45, 46, 47, 48, 49, 50, 51, 52, 53, 54, 55, 56, 57, 58, 59, 60, 61, 62, 63, 64, 65, 66, 67, 68, 69, 70, 71, 72, 73, 74] (by decide +kernel) (by decide +kernel)
set_option maxRecDepth 20000 in
theorem gX6_restOf_X6_asItIs : GoodIn wsX6_restOf (wsV RX6 139 RX6 yX6_asItIs wsX6_asItIs) := goodIn_app (goodIn_of _ (by decide +kernel)) ggX6_restOf_X6_asItIs
set_option maxRecDepth 20000 in
theorem ggX6_restOf_X6_pass : GoodIn wsX6_restOf wsX6_pass := goodIn_r _ [17, 3, 2, 1, 10, 18, 19, 20, 7, 21, 22, 13, 23, 24, 25, 26, 27, 28, 29, 30, 31, 32, 33, 34, 35, 36, 37, 38, 39, 40, 41, 42, 43, 44, 45, 46, 47, 48, 49, 50, 51, 52, 53, 54, 55, 56, 57, 58, 59, 60, 61, 62, 63, 64, 65, 66, 67, 68, 69, 70, 71, 72, 73, 74] (by decide +kernel) (by decide +kernel)
set_option maxRecDepth 20000 in
theorem gX6_restOf_X6_pass : GoodIn wsX6_restOf (wsV RX6 136 RX6 yX6_pass wsX6_pass) := goodIn_app (goodIn_of _ (by decide +kernel)) ggX6_restOf_X6_pass
theorem dX6_restOf_0 : decode cX6_restOf 0 = .ok (.aload_n 0, 1) := by decide +kernel
theorem dX6_restOf_1 : decode cX6_restOf 1 = .ok (.invokevirtual 139, 3) := by decide +kernel
theorem dX6_restOf_4 : decode cX6_restOf 4 = .ok (.iconst 0, 1) := by decide +kernel
theorem dX6_restOf_5 : decode cX6_restOf 5 = .ok (.istore_n 1, 1) := by decide +kernel
theorem dX6_restOf_6 : decode cX6_restOf 6 = .ok (.iload_n 1, 1) := by decide +kernel
theorem dX6_restOf_7 : decode cX6_restOf 7 = .ok (.bipush 31, 2) := by decide +kernel
theorem dX6_restOf_9 : decode cX6_restOf 9 = .ok (.if_icmp .ge 62, 3) := by decide +kernel
theorem dX6_restOf_12 : decode cX6_restOf 12 = .ok (.aload_n 0, 1) := by decide +kernel
theorem dX6_restOf_13 : decode cX6_restOf 13 = .ok (.invokevirtual 136, 3) := by decide +kernel
theorem dX6_restOf_16 : decode cX6_restOf 16 = .ok (.iconst 1, 1) := by decide +kernel
theorem dX6_restOf_17 : decode cX6_restOf 17 = .ok (.istore_n 2, 1) := by decide +kernel
theorem dX6_restOf_18 : decode cX6_restOf 18 = .ok (.iconst 0, 1) := by decide +kernel
theorem dX6_restOf_19 : decode cX6_restOf 19 = .ok (.istore_n 3, 1) := by decide +kernel
theorem dX6_restOf_20 : decode cX6_restOf 20 = .ok (.iload_n 3, 1) := by decide +kernel
theorem dX6_restOf_21 : decode cX6_restOf 21 = .ok (.aload_n 0, 1) := by decide +kernel
theorem dX6_restOf_22 : decode cX6_restOf 22 = .ok (.getfield 84, 3) := by decide +kernel
theorem dX6_restOf_25 : decode cX6_restOf 25 = .ok (.if_icmp .ge 34, 3) := by decide +kernel
theorem dX6_restOf_28 : decode cX6_restOf 28 = .ok (.iload_n 2, 1) := by decide +kernel
theorem dX6_restOf_29 : decode cX6_restOf 29 = .ok (.ifCond .eq 22, 3) := by decide +kernel
theorem dX6_restOf_32 : decode cX6_restOf 32 = .ok (.aload_n 0, 1) := by decide +kernel
theorem dX6_restOf_33 : decode cX6_restOf 33 = .ok (.getfield 25, 3) := by decide +kernel
theorem dX6_restOf_36 : decode cX6_restOf 36 = .ok (.iload_n 3, 1) := by decide +kernel
theorem dX6_restOf_37 : decode cX6_restOf 37 = .ok (.iaload, 1) := by decide +kernel
theorem dX6_restOf_38 : decode cX6_restOf 38 = .ok (.aload_n 0, 1) := by decide +kernel
theorem dX6_restOf_39 : decode cX6_restOf 39 = .ok (.getfield 31, 3) := by decide +kernel
theorem dX6_restOf_42 : decode cX6_restOf 42 = .ok (.iload_n 3, 1) := by decide +kernel
theorem dX6_restOf_43 : decode cX6_restOf 43 = .ok (.iaload, 1) := by decide +kernel
theorem dX6_restOf_44 : decode cX6_restOf 44 = .ok (.if_icmp .ne 7, 3) := by decide +kernel
theorem dX6_restOf_47 : decode cX6_restOf 47 = .ok (.iconst 1, 1) := by decide +kernel
theorem dX6_restOf_48 : decode cX6_restOf 48 = .ok (.goto 4, 3) := by decide +kernel
theorem dX6_restOf_51 : decode cX6_restOf 51 = .ok (.iconst 0, 1) := by decide +kernel
theorem dX6_restOf_52 : decode cX6_restOf 52 = .ok (.istore_n 2, 1) := by decide +kernel
theorem dX6_restOf_53 : decode cX6_restOf 53 = .ok (.iinc 3 1, 3) := by decide +kernel
theorem dX6_restOf_56 : decode cX6_restOf 56 = .ok (.goto (-36), 3) := by decide +kernel
theorem dX6_restOf_59 : decode cX6_restOf 59 = .ok (.iload_n 2, 1) := by decide +kernel
theorem dX6_restOf_60 : decode cX6_restOf 60 = .ok (.ifCond .eq 5, 3) := by decide +kernel
theorem dX6_restOf_63 : decode cX6_restOf 63 = .ok (.iload_n 1, 1) := by decide +kernel
theorem dX6_restOf_64 : decode cX6_restOf 64 = .ok (.ireturn, 1) := by decide +kernel
theorem dX6_restOf_65 : decode cX6_restOf 65 = .ok (.iinc 1 1, 3) := by decide +kernel
theorem dX6_restOf_68 : decode cX6_restOf 68 = .ok (.goto (-62), 3) := by decide +kernel
theorem dX6_restOf_71 : decode cX6_restOf 71 = .ok (.iconst (-1), 1) := by decide +kernel
theorem dX6_restOf_72 : decode cX6_restOf 72 = .ok (.ireturn, 1) := by decide +kernel
set_option maxRecDepth 20000 in
theorem ggX6_rest_X6_lacks : GoodIn wsX6_rest wsX6_lacks := goodIn_r _ [5, 6, 50, 51, 52, 53, 54, 55, 56, 57, 58, 59, 60, 61, 62, 63, 64, 65, 66, 67, 68, 69, 70, 71, 72, 73, 74, 75, 76, 77, 78, 79, 80, 81, 82] (by decide +kernel) (by decide +kernel)
set_option maxRecDepth 20000 in
theorem gX6_rest_X6_lacks : GoodIn wsX6_rest (wsV RX6 151 RX6 yX6_lacks wsX6_lacks) := goodIn_app (goodIn_of _ (by decide +kernel)) ggX6_rest_X6_lacks
set_option maxRecDepth 20000 in
theorem ggX6_rest_X6_restOf : GoodIn wsX6_rest wsX6_restOf := goodIn_r _ [10, 6, 11, 12, 13, 14, 15, 4, 16, 17, 18, 19, 20, 21, 22, 23, 24, 25, 26, 27, 28, 29, 30, 31, 32, 33, 34, 35, 36, 37, 38, 39, 40, 41, 42, 43, 44, 45, 46, 47, 48, 49, 50, 51, 52, 53, 54, 55, 56, 57, 58, 59, 60, 61, 62, 63, 64, 65, 66, 67, 68, 69, 70, 71, 72, 73, 74, 75, 76, 77, 78, 79, 80, 81, 82] (by decide +kernel) (by decide +kernel)
set_option maxRecDepth 20000 in
theorem gX6_rest_X6_restOf : GoodIn wsX6_rest (wsV RX6 164 RX6 yX6_restOf wsX6_restOf) := goodIn_app (goodIn_of _ (by decide +kernel)) ggX6_rest_X6_restOf
theorem dX6_rest_0 : decode cX6_rest 0 = .ok (.aload_n 0, 1) := by decide +kernel
theorem dX6_rest_1 : decode cX6_rest 1 = .ok (.invokevirtual 151, 3) := by decide +kernel
theorem dX6_rest_4 : decode cX6_rest 4 = .ok (.ifCond .eq 8, 3) := by decide +kernel
theorem dX6_rest_7 : decode cX6_rest 7 = .ok (.bipush (-103), 2) := by decide +kernel
theorem dX6_rest_9 : decode cX6_rest 9 = .ok (.goto 7, 3) := by decide +kernel
theorem dX6_rest_12 : decode cX6_rest 12 = .ok (.aload_n 0, 1) := by decide +kernel
theorem dX6_rest_13 : decode cX6_rest 13 = .ok (.invokevirtual 164, 3) := by decide +kernel
theorem dX6_rest_16 : decode cX6_rest 16 = .ok (.ireturn, 1) := by decide +kernel
set_option maxRecDepth 20000 in
theorem ggX6_outcomeOf_X6_asItIs : GoodIn wsX6_outcomeOf wsX6_asItIs := goodIn_r _ [5, 6, 7, 8, 9, 10, 11, 50, 51, 52, 53, 54, 55, 56, 57, 58, 59, 60, 61, 62, 63, 64, 65, 66, 67, 68, 69, 70, 71, 72, 73, 74, 75, 76, 77, 78, 79, 80, 81, 82] (by decide +kernel) (by decide +kernel)
set_option maxRecDepth 20000 in
theorem gX6_outcomeOf_X6_asItIs : GoodIn wsX6_outcomeOf (wsV RX6 139 RX6 yX6_asItIs wsX6_asItIs) := goodIn_app (goodIn_of _ (by decide +kernel)) ggX6_outcomeOf_X6_asItIs
set_option maxRecDepth 20000 in
theorem ggX6_outcomeOf_X6_passAll : GoodIn wsX6_outcomeOf wsX6_passAll := goodIn_r _ [15, 16, 17, 18, 4, 19, 20, 6, 21, 8, 22, 23, 24, 25, 26, 11, 27, 28, 29, 30, 31, 32, 33, 34, 35, 36, 37, 38, 39, 40, 41, 42, 43, 44, 45, 50, 51, 52, 53, 54, 55, 56, 57, 58, 59, 60, 61, 62, 63, 64, 65, 66, 67, 68, 69, 70, 71, 72, 73, 74, 75, 76, 77, 78, 79, 80, 81, 82] (by decide +kernel) (by decide +kernel)
set_option maxRecDepth 20000 in
theorem gX6_outcomeOf_X6_passAll : GoodIn wsX6_outcomeOf (wsV RX6 167 RX6 yX6_passAll wsX6_passAll) := goodIn_app (goodIn_of _ (by decide +kernel)) ggX6_outcomeOf_X6_passAll
set_option maxRecDepth 20000 in
theorem ggX6_outcomeOf_X6_rightNow : GoodIn wsX6_outcomeOf wsX6_rightNow := goodIn_r _ [49, 21, 6, 26, 50, 51, 52, 53, 54, 55, 56, 57, 58, 59, 60, 61, 62, 63, 64, 65, 66, 67, 68, 69, 70, 71, 72, 73, 74, 75, 76, 77, 78, 79, 80, 81, 82] (by decide +kernel) (by decide +kernel)
set_option maxRecDepth 20000 in
theorem gX6_outcomeOf_X6_rightNow : GoodIn wsX6_outcomeOf (wsV RX6 155 RX6 yX6_rightNow wsX6_rightNow) := goodIn_app (goodIn_of _ (by decide +kernel)) ggX6_outcomeOf_X6_rightNow
theorem dX6_outcomeOf_0 : decode cX6_outcomeOf 0 = .ok (.aload_n 0, 1) := by decide +kernel
theorem dX6_outcomeOf_1 : decode cX6_outcomeOf 1 = .ok (.invokevirtual 139, 3) := by decide +kernel
theorem dX6_outcomeOf_4 : decode cX6_outcomeOf 4 = .ok (.aload_n 0, 1) := by decide +kernel
theorem dX6_outcomeOf_5 : decode cX6_outcomeOf 5 = .ok (.iload_n 1, 1) := by decide +kernel
theorem dX6_outcomeOf_6 : decode cX6_outcomeOf 6 = .ok (.invokevirtual 167, 3) := by decide +kernel
theorem dX6_outcomeOf_9 : decode cX6_outcomeOf 9 = .ok (.aload_n 0, 1) := by decide +kernel
theorem dX6_outcomeOf_10 : decode cX6_outcomeOf 10 = .ok (.invokevirtual 155, 3) := by decide +kernel
theorem dX6_outcomeOf_13 : decode cX6_outcomeOf 13 = .ok (.ireturn, 1) := by decide +kernel
set_option maxRecDepth 20000 in
theorem ggX6_outcome_X6_in : GoodIn wsX6_outcome wsX6_in := goodIn_r _ [5] (by decide +kernel) (by decide +kernel)
set_option maxRecDepth 20000 in
theorem gX6_outcome_X6_in : GoodIn wsX6_outcome (va_wsS RX6 52 yX6_in wsX6_in) := goodIn_app (goodIn_of _ (by decide +kernel)) ggX6_outcome_X6_in
set_option maxRecDepth 20000 in
theorem ggX6_outcome_X6_lacks : GoodIn wsX6_outcome wsX6_lacks := goodIn_r _ [9, 10, 59, 60, 61, 62, 63, 64, 65, 66, 67, 68, 69, 70, 71, 72, 73, 74, 75, 76, 77, 78, 79, 80, 81, 82, 83, 84, 85, 86, 87, 88, 89, 90, 91] (by decide +kernel) (by decide +kernel)
set_option maxRecDepth 20000 in
theorem gX6_outcome_X6_lacks : GoodIn wsX6_outcome (wsV RX6 151 RX6 yX6_lacks wsX6_lacks) := goodIn_app (goodIn_of _ (by decide +kernel)) ggX6_outcome_X6_lacks
set_option maxRecDepth 20000 in
theorem ggX6_outcome_X6_outcomeOf : GoodIn wsX6_outcome wsX6_outcomeOf := goodIn_r _ [14, 15, 16, 17, 4, 18, 19, 20, 21, 22, 23, 24, 25, 26, 27, 28, 29, 30, 31, 32, 33, 10, 34, 35, 36, 37, 38, 39, 40, 41, 42, 43, 44, 45, 46, 47, 48, 49, 50, 51, 52, 53, 54, 2, 3, 5, 55, 56, 57, 58, 59, 60, 61, 62, 63, 64, 65, 66, 67, 68, 69, 70, 71, 72, 73, 74, 75, 76, 77, 78, 79, 80, 81, 82, 83, 84, 85, 86, 87, 88, 89, 90, 91] (by decide +kernel) (by decide +kernel)
set_option maxRecDepth 20000 in
theorem gX6_outcome_X6_outcomeOf : GoodIn wsX6_outcome (wsV RX6 173 RX6 yX6_outcomeOf wsX6_outcomeOf) := goodIn_app (goodIn_of _ (by decide +kernel)) ggX6_outcome_X6_outcomeOf
theorem dX6_outcome_0 : decode cX6_outcome 0 = .ok (.iload_n 1, 1) := by decide +kernel
theorem dX6_outcome_1 : decode cX6_outcome 1 = .ok (.i2l, 1) := by decide +kernel
theorem dX6_outcome_2 : decode cX6_outcome 2 = .ok (.lconst 0, 1) := by decide +kernel
theorem dX6_outcome_3 : decode cX6_outcome 3 = .ok (.ldc2_w 171, 3) := by decide +kernel
theorem dX6_outcome_6 : decode cX6_outcome 6 = .ok (.invokestatic 52, 3) := by decide +kernel
theorem dX6_outcome_9 : decode cX6_outcome 9 = .ok (.ifCond .ne 6, 3) := by decide +kernel
theorem dX6_outcome_12 : decode cX6_outcome 12 = .ok (.bipush (-102), 2) := by decide +kernel
theorem dX6_outcome_14 : decode cX6_outcome 14 = .ok (.ireturn, 1) := by decide +kernel
theorem dX6_outcome_15 : decode cX6_outcome 15 = .ok (.aload_n 0, 1) := by decide +kernel
theorem dX6_outcome_16 : decode cX6_outcome 16 = .ok (.invokevirtual 151, 3) := by decide +kernel
theorem dX6_outcome_19 : decode cX6_outcome 19 = .ok (.ifCond .eq 8, 3) := by decide +kernel
theorem dX6_outcome_22 : decode cX6_outcome 22 = .ok (.bipush (-103), 2) := by decide +kernel
theorem dX6_outcome_24 : decode cX6_outcome 24 = .ok (.goto 8, 3) := by decide +kernel
theorem dX6_outcome_27 : decode cX6_outcome 27 = .ok (.aload_n 0, 1) := by decide +kernel
theorem dX6_outcome_28 : decode cX6_outcome 28 = .ok (.iload_n 1, 1) := by decide +kernel
theorem dX6_outcome_29 : decode cX6_outcome 29 = .ok (.invokevirtual 173, 3) := by decide +kernel
theorem dX6_outcome_32 : decode cX6_outcome 32 = .ok (.ireturn, 1) := by decide +kernel
set_option maxRecDepth 20000 in
theorem ggX6_trickOf_X6_outcomeOf : GoodIn wsX6_trickOf wsX6_outcomeOf := goodIn_r _ [5, 6, 7, 8, 4, 9, 10, 11, 12, 13, 14, 15, 16, 17, 18, 19, 20, 21, 22, 23, 24, 25, 26, 27, 28, 29, 30, 31, 32, 33, 34, 35, 36, 37, 38, 39, 40, 41, 42, 43, 44, 45, 46, 47, 48, 49, 50, 51, 52, 53, 58, 59, 60, 61, 62, 63, 64, 65, 66, 67, 68, 69, 70, 71, 72, 73, 74, 75, 76, 77, 78, 79, 80, 81, 82, 83, 84, 85, 86, 87, 88, 89, 90] (by decide +kernel) (by decide +kernel)
set_option maxRecDepth 20000 in
theorem gX6_trickOf_X6_outcomeOf : GoodIn wsX6_trickOf (wsV RX6 173 RX6 yX6_outcomeOf wsX6_outcomeOf) := goodIn_app (goodIn_of _ (by decide +kernel)) ggX6_trickOf_X6_outcomeOf
set_option maxRecDepth 20000 in
theorem ggX6_trickOf_X6_asItIs : GoodIn wsX6_trickOf wsX6_asItIs := goodIn_r _ [9, 10, 11, 12, 13, 14, 15, 58, 59, 60, 61, 62, 63, 64, 65, 66, 67, 68, 69, 70, 71, 72, 73, 74, 75, 76, 77, 78, 79, 80, 81, 82, 83, 84, 85, 86, 87, 88, 89, 90] (by decide +kernel) (by decide +kernel)
set_option maxRecDepth 20000 in
theorem gX6_trickOf_X6_asItIs : GoodIn wsX6_trickOf (wsV RX6 139 RX6 yX6_asItIs wsX6_asItIs) := goodIn_app (goodIn_of _ (by decide +kernel)) ggX6_trickOf_X6_asItIs
set_option maxRecDepth 20000 in
theorem ggX6_trickOf_X6_passAll : GoodIn wsX6_trickOf wsX6_passAll := goodIn_r _ [19, 20, 21, 22, 4, 23, 24, 10, 25, 12, 26, 27, 28, 29, 30, 15, 31, 32, 33, 34, 35, 36, 37, 38, 39, 40, 41, 42, 43, 44, 45, 46, 47, 48, 49, 58, 59, 60, 61, 62, 63, 64, 65, 66, 67, 68, 69, 70, 71, 72, 73, 74, 75, 76, 77, 78, 79, 80, 81, 82, 83, 84, 85, 86, 87, 88, 89, 90] (by decide +kernel) (by decide +kernel)
set_option maxRecDepth 20000 in
theorem gX6_trickOf_X6_passAll : GoodIn wsX6_trickOf (wsV RX6 167 RX6 yX6_passAll wsX6_passAll) := goodIn_app (goodIn_of _ (by decide +kernel)) ggX6_trickOf_X6_passAll
set_option maxRecDepth 20000 in
theorem ggX6_trickOf_X6_leaveOut : GoodIn wsX6_trickOf wsX6_leaveOut := goodIn_r _ [57, 25, 30, 10, 58, 59, 60, 61, 62, 63, 64, 65, 66, 67, 68, 69, 70, 71, 72, 73, 74, 75, 76, 77, 78, 79, 80, 81, 82, 83, 84, 85, 86, 87, 88, 89, 90] (by decide +kernel) (by decide +kernel)
set_option maxRecDepth 20000 in
theorem gX6_trickOf_X6_leaveOut : GoodIn wsX6_trickOf (wsV RX6 158 RX6 yX6_leaveOut wsX6_leaveOut) := goodIn_app (goodIn_of _ (by decide +kernel)) ggX6_trickOf_X6_leaveOut
set_option maxRecDepth 20000 in
theorem ggX6_trickOf_X6_rightNow : GoodIn wsX6_trickOf wsX6_rightNow := goodIn_r _ [53, 25, 10, 30, 58, 59, 60, 61, 62, 63, 64, 65, 66, 67, 68, 69, 70, 71, 72, 73, 74, 75, 76, 77, 78, 79, 80, 81, 82, 83, 84, 85, 86, 87, 88, 89, 90] (by decide +kernel) (by decide +kernel)
set_option maxRecDepth 20000 in
theorem gX6_trickOf_X6_rightNow : GoodIn wsX6_trickOf (wsV RX6 155 RX6 yX6_rightNow wsX6_rightNow) := goodIn_app (goodIn_of _ (by decide +kernel)) ggX6_trickOf_X6_rightNow
theorem dX6_trickOf_0 : decode cX6_trickOf 0 = .ok (.aload_n 0, 1) := by decide +kernel
theorem dX6_trickOf_1 : decode cX6_trickOf 1 = .ok (.iload_n 1, 1) := by decide +kernel
theorem dX6_trickOf_2 : decode cX6_trickOf 2 = .ok (.invokevirtual 173, 3) := by decide +kernel
theorem dX6_trickOf_5 : decode cX6_trickOf 5 = .ok (.istore_n 3, 1) := by decide +kernel
theorem dX6_trickOf_6 : decode cX6_trickOf 6 = .ok (.iconst (-1), 1) := by decide +kernel
theorem dX6_trickOf_7 : decode cX6_trickOf 7 = .ok (.istore 4, 2) := by decide +kernel
theorem dX6_trickOf_9 : decode cX6_trickOf 9 = .ok (.iconst 0, 1) := by decide +kernel
theorem dX6_trickOf_10 : decode cX6_trickOf 10 = .ok (.istore 5, 2) := by decide +kernel
theorem dX6_trickOf_12 : decode cX6_trickOf 12 = .ok (.iload 5, 2) := by decide +kernel
theorem dX6_trickOf_14 : decode cX6_trickOf 14 = .ok (.iload_n 1, 1) := by decide +kernel
theorem dX6_trickOf_15 : decode cX6_trickOf 15 = .ok (.if_icmp .ge 65, 3) := by decide +kernel
theorem dX6_trickOf_18 : decode cX6_trickOf 18 = .ok (.aload_n 0, 1) := by decide +kernel
theorem dX6_trickOf_19 : decode cX6_trickOf 19 = .ok (.invokevirtual 139, 3) := by decide +kernel
theorem dX6_trickOf_22 : decode cX6_trickOf 22 = .ok (.aload_n 0, 1) := by decide +kernel
theorem dX6_trickOf_23 : decode cX6_trickOf 23 = .ok (.iload 5, 2) := by decide +kernel
theorem dX6_trickOf_25 : decode cX6_trickOf 25 = .ok (.invokevirtual 167, 3) := by decide +kernel
theorem dX6_trickOf_28 : decode cX6_trickOf 28 = .ok (.aload_n 0, 1) := by decide +kernel
theorem dX6_trickOf_29 : decode cX6_trickOf 29 = .ok (.invokevirtual 158, 3) := by decide +kernel
theorem dX6_trickOf_32 : decode cX6_trickOf 32 = .ok (.aload_n 0, 1) := by decide +kernel
theorem dX6_trickOf_33 : decode cX6_trickOf 33 = .ok (.iload_n 1, 1) := by decide +kernel
theorem dX6_trickOf_34 : decode cX6_trickOf 34 = .ok (.iload 5, 2) := by decide +kernel
theorem dX6_trickOf_36 : decode cX6_trickOf 36 = .ok (.isub, 1) := by decide +kernel
theorem dX6_trickOf_37 : decode cX6_trickOf 37 = .ok (.invokevirtual 167, 3) := by decide +kernel
theorem dX6_trickOf_40 : decode cX6_trickOf 40 = .ok (.aload_n 0, 1) := by decide +kernel
theorem dX6_trickOf_41 : decode cX6_trickOf 41 = .ok (.invokevirtual 155, 3) := by decide +kernel
theorem dX6_trickOf_44 : decode cX6_trickOf 44 = .ok (.istore 6, 2) := by decide +kernel
theorem dX6_trickOf_46 : decode cX6_trickOf 46 = .ok (.iload 6, 2) := by decide +kernel
theorem dX6_trickOf_48 : decode cX6_trickOf 48 = .ok (.iload_n 3, 1) := by decide +kernel
theorem dX6_trickOf_49 : decode cX6_trickOf 49 = .ok (.if_icmp .le 8, 3) := by decide +kernel
theorem dX6_trickOf_52 : decode cX6_trickOf 52 = .ok (.iload 5, 2) := by decide +kernel
theorem dX6_trickOf_54 : decode cX6_trickOf 54 = .ok (.goto 5, 3) := by decide +kernel
theorem dX6_trickOf_57 : decode cX6_trickOf 57 = .ok (.iload 4, 2) := by decide +kernel
theorem dX6_trickOf_59 : decode cX6_trickOf 59 = .ok (.istore 4, 2) := by decide +kernel
theorem dX6_trickOf_61 : decode cX6_trickOf 61 = .ok (.iload 6, 2) := by decide +kernel
theorem dX6_trickOf_63 : decode cX6_trickOf 63 = .ok (.iload_n 3, 1) := by decide +kernel
theorem dX6_trickOf_64 : decode cX6_trickOf 64 = .ok (.if_icmp .le 8, 3) := by decide +kernel
theorem dX6_trickOf_67 : decode cX6_trickOf 67 = .ok (.iload 6, 2) := by decide +kernel
theorem dX6_trickOf_69 : decode cX6_trickOf 69 = .ok (.goto 4, 3) := by decide +kernel
theorem dX6_trickOf_72 : decode cX6_trickOf 72 = .ok (.iload_n 3, 1) := by decide +kernel
theorem dX6_trickOf_73 : decode cX6_trickOf 73 = .ok (.istore_n 3, 1) := by decide +kernel
theorem dX6_trickOf_74 : decode cX6_trickOf 74 = .ok (.iinc 5 1, 3) := by decide +kernel
theorem dX6_trickOf_77 : decode cX6_trickOf 77 = .ok (.goto (-65), 3) := by decide +kernel
theorem dX6_trickOf_80 : decode cX6_trickOf 80 = .ok (.iload_n 2, 1) := by decide +kernel
theorem dX6_trickOf_81 : decode cX6_trickOf 81 = .ok (.ifCond .ne 8, 3) := by decide +kernel
theorem dX6_trickOf_84 : decode cX6_trickOf 84 = .ok (.iload 4, 2) := by decide +kernel
theorem dX6_trickOf_86 : decode cX6_trickOf 86 = .ok (.goto 4, 3) := by decide +kernel
theorem dX6_trickOf_89 : decode cX6_trickOf 89 = .ok (.iload_n 3, 1) := by decide +kernel
theorem dX6_trickOf_90 : decode cX6_trickOf 90 = .ok (.ireturn, 1) := by decide +kernel
set_option maxRecDepth 20000 in
theorem ggX6_trick_X6_in : GoodIn wsX6_trick wsX6_in := goodIn_r _ [5] (by decide +kernel) (by decide +kernel)
set_option maxRecDepth 20000 in
theorem gX6_trick_X6_in : GoodIn wsX6_trick (va_wsS RX6 52 yX6_in wsX6_in) := goodIn_app (goodIn_of _ (by decide +kernel)) ggX6_trick_X6_in
set_option maxRecDepth 20000 in
theorem ggX6_trick_X6_lacks : GoodIn wsX6_trick wsX6_lacks := goodIn_r _ [9, 10, 67, 68, 69, 70, 71, 72, 73, 74, 75, 76, 77, 78, 79, 80, 81, 82, 83, 84, 85, 86, 87, 88, 89, 90, 91, 92, 93, 94, 95, 96, 97, 98, 99] (by decide +kernel) (by decide +kernel)
set_option maxRecDepth 20000 in
theorem gX6_trick_X6_lacks : GoodIn wsX6_trick (wsV RX6 151 RX6 yX6_lacks wsX6_lacks) := goodIn_app (goodIn_of _ (by decide +kernel)) ggX6_trick_X6_lacks
set_option maxRecDepth 20000 in
theorem ggX6_trick_X6_trickOf : GoodIn wsX6_trick wsX6_trickOf := goodIn_r _ [14, 15, 16, 17, 4, 18, 19, 20, 21, 22, 23, 24, 25, 26, 27, 28, 29, 30, 31, 32, 33, 34, 35, 36, 37, 10, 38, 39, 40, 41, 42, 43, 44, 45, 46, 47, 48, 49, 50, 51, 52, 53, 54, 55, 56, 57, 58, 2, 3, 5, 59, 60, 61, 62, 63, 64, 65, 66, 67, 68, 69, 70, 71, 72, 73, 74, 75, 76, 77, 78, 79, 80, 81, 82, 83, 84, 85, 86, 87, 88, 89, 90, 91, 92, 93, 94, 95, 96, 97, 98, 99] (by decide +kernel) (by decide +kernel)
set_option maxRecDepth 20000 in
theorem gX6_trick_X6_trickOf : GoodIn wsX6_trick (wsV RX6 178 RX6 yX6_trickOf wsX6_trickOf) := goodIn_app (goodIn_of _ (by decide +kernel)) ggX6_trick_X6_trickOf
theorem dX6_trick_0 : decode cX6_trick 0 = .ok (.iload_n 1, 1) := by decide +kernel
theorem dX6_trick_1 : decode cX6_trick 1 = .ok (.i2l, 1) := by decide +kernel
theorem dX6_trick_2 : decode cX6_trick 2 = .ok (.lconst 1, 1) := by decide +kernel
theorem dX6_trick_3 : decode cX6_trick 3 = .ok (.ldc2_w 176, 3) := by decide +kernel
theorem dX6_trick_6 : decode cX6_trick 6 = .ok (.invokestatic 52, 3) := by decide +kernel
theorem dX6_trick_9 : decode cX6_trick 9 = .ok (.ifCond .eq 13, 3) := by decide +kernel
theorem dX6_trick_12 : decode cX6_trick 12 = .ok (.iload_n 2, 1) := by decide +kernel
theorem dX6_trick_13 : decode cX6_trick 13 = .ok (.i2l, 1) := by decide +kernel
theorem dX6_trick_14 : decode cX6_trick 14 = .ok (.lconst 0, 1) := by decide +kernel
theorem dX6_trick_15 : decode cX6_trick 15 = .ok (.lconst 1, 1) := by decide +kernel
theorem dX6_trick_16 : decode cX6_trick 16 = .ok (.invokestatic 52, 3) := by decide +kernel
theorem dX6_trick_19 : decode cX6_trick 19 = .ok (.ifCond .ne 6, 3) := by decide +kernel
theorem dX6_trick_22 : decode cX6_trick 22 = .ok (.bipush (-102), 2) := by decide +kernel
theorem dX6_trick_24 : decode cX6_trick 24 = .ok (.ireturn, 1) := by decide +kernel
theorem dX6_trick_25 : decode cX6_trick 25 = .ok (.aload_n 0, 1) := by decide +kernel
theorem dX6_trick_26 : decode cX6_trick 26 = .ok (.invokevirtual 151, 3) := by decide +kernel
theorem dX6_trick_29 : decode cX6_trick 29 = .ok (.ifCond .eq 8, 3) := by decide +kernel
theorem dX6_trick_32 : decode cX6_trick 32 = .ok (.bipush (-103), 2) := by decide +kernel
theorem dX6_trick_34 : decode cX6_trick 34 = .ok (.goto 9, 3) := by decide +kernel
theorem dX6_trick_37 : decode cX6_trick 37 = .ok (.aload_n 0, 1) := by decide +kernel
theorem dX6_trick_38 : decode cX6_trick 38 = .ok (.iload_n 1, 1) := by decide +kernel
theorem dX6_trick_39 : decode cX6_trick 39 = .ok (.iload_n 2, 1) := by decide +kernel
theorem dX6_trick_40 : decode cX6_trick 40 = .ok (.invokevirtual 178, 3) := by decide +kernel
theorem dX6_trick_43 : decode cX6_trick 43 = .ok (.ireturn, 1) := by decide +kernel
set_option maxRecDepth 20000 in
theorem ggX6_isWonBy_X6_asItIs : GoodIn wsX6_isWonBy wsX6_asItIs := goodIn_r _ [7, 2, 8, 9, 10, 11, 12, 50, 51, 52, 53, 54, 55, 56, 57, 58, 59, 60, 61, 62, 63, 64, 65, 66, 67, 68, 69, 70, 71, 72, 73, 74, 75, 76, 77, 78, 79, 80, 81, 82] (by decide +kernel) (by decide +kernel)
set_option maxRecDepth 20000 in
theorem gX6_isWonBy_X6_asItIs : GoodIn wsX6_isWonBy (wsV RX6 139 RX6 yX6_asItIs wsX6_asItIs) := goodIn_app (goodIn_of _ (by decide +kernel)) ggX6_isWonBy_X6_asItIs
set_option maxRecDepth 20000 in
theorem ggX6_isWonBy_X6_makes : GoodIn wsX6_isWonBy wsX6_makes := goodIn_r _ [16, 2, 9, 50, 51, 52, 53, 54, 55, 56, 57, 58, 59, 60, 61, 62, 63, 64, 65, 66, 67, 68, 69, 70, 71, 72, 73, 74, 75, 76, 77, 78, 79, 80, 81, 82] (by decide +kernel) (by decide +kernel)
set_option maxRecDepth 20000 in
theorem gX6_isWonBy_X6_makes : GoodIn wsX6_isWonBy (wsV RX6 142 RX6 yX6_makes wsX6_makes) := goodIn_app (goodIn_of _ (by decide +kernel)) ggX6_isWonBy_X6_makes
set_option maxRecDepth 20000 in
theorem ggX6_isWonBy_X6_passAll : GoodIn wsX6_isWonBy wsX6_passAll := goodIn_r _ [20, 21, 22, 23, 6, 24, 25, 2, 1, 9, 26, 27, 28, 29, 30, 12, 31, 32, 33, 34, 35, 36, 37, 38, 39, 40, 41, 42, 43, 44, 45, 46, 47, 48, 49, 50, 51, 52, 53, 54, 55, 56, 57, 58, 59, 60, 61, 62, 63, 64, 65, 66, 67, 68, 69, 70, 71, 72, 73, 74, 75, 76, 77, 78, 79, 80, 81, 82] (by decide +kernel) (by decide +kernel)
set_option maxRecDepth 20000 in
theorem gX6_isWonBy_X6_passAll : GoodIn wsX6_isWonBy (wsV RX6 167 RX6 yX6_passAll wsX6_passAll) := goodIn_app (goodIn_of _ (by decide +kernel)) ggX6_isWonBy_X6_passAll
set_option maxRecDepth 20000 in
theorem ggX6_isWonBy_X6_isStubborn : GoodIn wsX6_isWonBy wsX6_isStubborn := goodIn_r _ [38, 30, 50, 51, 52, 53, 54, 55, 56, 57, 58, 59, 60, 61, 62, 63, 64, 65, 66, 67, 68, 69, 70, 71, 72, 73, 74, 75, 76, 77, 78, 79, 80, 81, 82] (by decide +kernel) (by decide +kernel)
set_option maxRecDepth 20000 in
theorem gX6_isWonBy_X6_isStubborn : GoodIn wsX6_isWonBy (wsV RX6 127 RX6 yX6_isStubborn wsX6_isStubborn) := goodIn_app (goodIn_of _ (by decide +kernel)) ggX6_isWonBy_X6_isStubborn
theorem dX6_isWonBy_0 : decode cX6_isWonBy 0 = .ok (.aload_n 0, 1) := by decide +kernel
theorem dX6_isWonBy_1 : decode cX6_isWonBy 1 = .ok (.invokevirtual 139, 3) := by decide +kernel
theorem dX6_isWonBy_4 : decode cX6_isWonBy 4 = .ok (.iconst 0, 1) := by decide +kernel
theorem dX6_isWonBy_5 : decode cX6_isWonBy 5 = .ok (.istore_n 3, 1) := by decide +kernel
theorem dX6_isWonBy_6 : decode cX6_isWonBy 6 = .ok (.iload_n 3, 1) := by decide +kernel
theorem dX6_isWonBy_7 : decode cX6_isWonBy 7 = .ok (.aload_n 0, 1) := by decide +kernel
theorem dX6_isWonBy_8 : decode cX6_isWonBy 8 = .ok (.getfield 84, 3) := by decide +kernel
theorem dX6_isWonBy_11 : decode cX6_isWonBy 11 = .ok (.if_icmp .ge 24, 3) := by decide +kernel
theorem dX6_isWonBy_14 : decode cX6_isWonBy 14 = .ok (.iload_n 1, 1) := by decide +kernel
theorem dX6_isWonBy_15 : decode cX6_isWonBy 15 = .ok (.iload_n 3, 1) := by decide +kernel
theorem dX6_isWonBy_16 : decode cX6_isWonBy 16 = .ok (.ishr, 1) := by decide +kernel
theorem dX6_isWonBy_17 : decode cX6_isWonBy 17 = .ok (.iconst 1, 1) := by decide +kernel
theorem dX6_isWonBy_18 : decode cX6_isWonBy 18 = .ok (.iand, 1) := by decide +kernel
theorem dX6_isWonBy_19 : decode cX6_isWonBy 19 = .ok (.iconst 1, 1) := by decide +kernel
theorem dX6_isWonBy_20 : decode cX6_isWonBy 20 = .ok (.if_icmp .ne 9, 3) := by decide +kernel
theorem dX6_isWonBy_23 : decode cX6_isWonBy 23 = .ok (.aload_n 0, 1) := by decide +kernel
theorem dX6_isWonBy_24 : decode cX6_isWonBy 24 = .ok (.iload_n 3, 1) := by decide +kernel
theorem dX6_isWonBy_25 : decode cX6_isWonBy 25 = .ok (.iconst 2, 1) := by decide +kernel
theorem dX6_isWonBy_26 : decode cX6_isWonBy 26 = .ok (.invokevirtual 142, 3) := by decide +kernel
theorem dX6_isWonBy_29 : decode cX6_isWonBy 29 = .ok (.iinc 3 1, 3) := by decide +kernel
theorem dX6_isWonBy_32 : decode cX6_isWonBy 32 = .ok (.goto (-26), 3) := by decide +kernel
theorem dX6_isWonBy_35 : decode cX6_isWonBy 35 = .ok (.aload_n 0, 1) := by decide +kernel
theorem dX6_isWonBy_36 : decode cX6_isWonBy 36 = .ok (.iload_n 2, 1) := by decide +kernel
theorem dX6_isWonBy_37 : decode cX6_isWonBy 37 = .ok (.invokevirtual 167, 3) := by decide +kernel
theorem dX6_isWonBy_40 : decode cX6_isWonBy 40 = .ok (.iconst 1, 1) := by decide +kernel
theorem dX6_isWonBy_41 : decode cX6_isWonBy 41 = .ok (.istore_n 3, 1) := by decide +kernel
theorem dX6_isWonBy_42 : decode cX6_isWonBy 42 = .ok (.iconst 0, 1) := by decide +kernel
theorem dX6_isWonBy_43 : decode cX6_isWonBy 43 = .ok (.istore 4, 2) := by decide +kernel
theorem dX6_isWonBy_45 : decode cX6_isWonBy 45 = .ok (.iload 4, 2) := by decide +kernel
theorem dX6_isWonBy_47 : decode cX6_isWonBy 47 = .ok (.aload_n 0, 1) := by decide +kernel
theorem dX6_isWonBy_48 : decode cX6_isWonBy 48 = .ok (.getfield 84, 3) := by decide +kernel
theorem dX6_isWonBy_51 : decode cX6_isWonBy 51 = .ok (.if_icmp .ge 39, 3) := by decide +kernel
theorem dX6_isWonBy_54 : decode cX6_isWonBy 54 = .ok (.iload_n 3, 1) := by decide +kernel
theorem dX6_isWonBy_55 : decode cX6_isWonBy 55 = .ok (.ifCond .eq 27, 3) := by decide +kernel
theorem dX6_isWonBy_58 : decode cX6_isWonBy 58 = .ok (.aload_n 0, 1) := by decide +kernel
theorem dX6_isWonBy_59 : decode cX6_isWonBy 59 = .ok (.iload 4, 2) := by decide +kernel
theorem dX6_isWonBy_61 : decode cX6_isWonBy 61 = .ok (.invokevirtual 127, 3) := by decide +kernel
theorem dX6_isWonBy_64 : decode cX6_isWonBy 64 = .ok (.ifCond .ne 14, 3) := by decide +kernel
theorem dX6_isWonBy_67 : decode cX6_isWonBy 67 = .ok (.aload_n 0, 1) := by decide +kernel
theorem dX6_isWonBy_68 : decode cX6_isWonBy 68 = .ok (.getfield 25, 3) := by decide +kernel
theorem dX6_isWonBy_71 : decode cX6_isWonBy 71 = .ok (.iload 4, 2) := by decide +kernel
theorem dX6_isWonBy_73 : decode cX6_isWonBy 73 = .ok (.iaload, 1) := by decide +kernel
theorem dX6_isWonBy_74 : decode cX6_isWonBy 74 = .ok (.iconst 2, 1) := by decide +kernel
theorem dX6_isWonBy_75 : decode cX6_isWonBy 75 = .ok (.if_icmp .ne 7, 3) := by decide +kernel
theorem dX6_isWonBy_78 : decode cX6_isWonBy 78 = .ok (.iconst 1, 1) := by decide +kernel
theorem dX6_isWonBy_79 : decode cX6_isWonBy 79 = .ok (.goto 4, 3) := by decide +kernel
theorem dX6_isWonBy_82 : decode cX6_isWonBy 82 = .ok (.iconst 0, 1) := by decide +kernel
theorem dX6_isWonBy_83 : decode cX6_isWonBy 83 = .ok (.istore_n 3, 1) := by decide +kernel
theorem dX6_isWonBy_84 : decode cX6_isWonBy 84 = .ok (.iinc 4 1, 3) := by decide +kernel
theorem dX6_isWonBy_87 : decode cX6_isWonBy 87 = .ok (.goto (-42), 3) := by decide +kernel
theorem dX6_isWonBy_90 : decode cX6_isWonBy 90 = .ok (.iload_n 3, 1) := by decide +kernel
theorem dX6_isWonBy_91 : decode cX6_isWonBy 91 = .ok (.ireturn, 1) := by decide +kernel
theorem dX6_ones_0 : decode cX6_ones 0 = .ok (.iconst 0, 1) := by decide +kernel
theorem dX6_ones_1 : decode cX6_ones 1 = .ok (.istore_n 1, 1) := by decide +kernel
theorem dX6_ones_2 : decode cX6_ones 2 = .ok (.iconst 0, 1) := by decide +kernel
theorem dX6_ones_3 : decode cX6_ones 3 = .ok (.istore_n 2, 1) := by decide +kernel
theorem dX6_ones_4 : decode cX6_ones 4 = .ok (.iload_n 2, 1) := by decide +kernel
theorem dX6_ones_5 : decode cX6_ones 5 = .ok (.bipush 8, 2) := by decide +kernel
theorem dX6_ones_7 : decode cX6_ones 7 = .ok (.if_icmp .ge 17, 3) := by decide +kernel
theorem dX6_ones_10 : decode cX6_ones 10 = .ok (.iload_n 1, 1) := by decide +kernel
theorem dX6_ones_11 : decode cX6_ones 11 = .ok (.iload_n 0, 1) := by decide +kernel
theorem dX6_ones_12 : decode cX6_ones 12 = .ok (.iload_n 2, 1) := by decide +kernel
theorem dX6_ones_13 : decode cX6_ones 13 = .ok (.ishr, 1) := by decide +kernel
theorem dX6_ones_14 : decode cX6_ones 14 = .ok (.iconst 1, 1) := by decide +kernel
theorem dX6_ones_15 : decode cX6_ones 15 = .ok (.iand, 1) := by decide +kernel
theorem dX6_ones_16 : decode cX6_ones 16 = .ok (.iadd, 1) := by decide +kernel
theorem dX6_ones_17 : decode cX6_ones 17 = .ok (.istore_n 1, 1) := by decide +kernel
theorem dX6_ones_18 : decode cX6_ones 18 = .ok (.iinc 2 1, 3) := by decide +kernel
theorem dX6_ones_21 : decode cX6_ones 21 = .ok (.goto (-17), 3) := by decide +kernel
theorem dX6_ones_24 : decode cX6_ones 24 = .ok (.iload_n 1, 1) := by decide +kernel
theorem dX6_ones_25 : decode cX6_ones 25 = .ok (.ireturn, 1) := by decide +kernel
set_option maxRecDepth 20000 in
theorem ggX6_turned_X6_in : GoodIn wsX6_turned wsX6_in := goodIn_r _ [7] (by decide +kernel) (by decide +kernel)
set_option maxRecDepth 20000 in
theorem gX6_turned_X6_in : GoodIn wsX6_turned (va_wsS RX6 52 yX6_in wsX6_in) := goodIn_app (goodIn_of _ (by decide +kernel)) ggX6_turned_X6_in
set_option maxRecDepth 20000 in
theorem ggX6_turned_X6_lacks : GoodIn wsX6_turned wsX6_lacks := goodIn_r _ [11, 3, 63, 64, 65, 66, 67, 68, 69, 70, 71, 72, 73, 74, 75, 76, 77, 78, 79, 80, 81, 82, 83, 84, 85, 86, 87, 88, 89, 90, 91, 92, 93, 94, 95] (by decide +kernel) (by decide +kernel)
set_option maxRecDepth 20000 in
theorem gX6_turned_X6_lacks : GoodIn wsX6_turned (wsV RX6 151 RX6 yX6_lacks wsX6_lacks) := goodIn_app (goodIn_of _ (by decide +kernel)) ggX6_turned_X6_lacks
set_option maxRecDepth 20000 in
theorem ggX6_turned_X6_ones : GoodIn wsX6_turned wsX6_ones := goodIn_r _ [14] (by decide +kernel) (by decide +kernel)
set_option maxRecDepth 20000 in
theorem gX6_turned_X6_ones : GoodIn wsX6_turned (va_wsS RX6 184 yX6_ones wsX6_ones) := goodIn_app (goodIn_of _ (by decide +kernel)) ggX6_turned_X6_ones
set_option maxRecDepth 20000 in
theorem ggX6_turned_X6_isWonBy : GoodIn wsX6_turned wsX6_isWonBy := goodIn_r _ [18, 3, 19, 20, 21, 22, 6, 23, 24, 25, 26, 27, 28, 29, 30, 31, 32, 33, 34, 35, 36, 37, 38, 39, 40, 41, 42, 43, 44, 45, 46, 47, 48, 49, 50, 51, 52, 53, 54, 55, 56, 57, 58, 59, 60, 61, 62, 4, 5, 7, 63, 64, 65, 66, 67, 68, 69, 70, 71, 72, 73, 74, 75, 76, 77, 78, 79, 80, 81, 82, 83, 84, 85, 86, 87, 88, 89, 90, 91, 92, 93, 94, 95] (by decide +kernel) (by decide +kernel)
set_option maxRecDepth 20000 in
theorem gX6_turned_X6_isWonBy : GoodIn wsX6_turned (wsV RX6 187 RX6 yX6_isWonBy wsX6_isWonBy) := goodIn_app (goodIn_of _ (by decide +kernel)) ggX6_turned_X6_isWonBy
theorem dX6_turned_0 : decode cX6_turned 0 = .ok (.iload_n 1, 1) := by decide +kernel
theorem dX6_turned_1 : decode cX6_turned 1 = .ok (.i2l, 1) := by decide +kernel
theorem dX6_turned_2 : decode cX6_turned 2 = .ok (.lconst 0, 1) := by decide +kernel
theorem dX6_turned_3 : decode cX6_turned 3 = .ok (.ldc2_w 176, 3) := by decide +kernel
theorem dX6_turned_6 : decode cX6_turned 6 = .ok (.invokestatic 52, 3) := by decide +kernel
theorem dX6_turned_9 : decode cX6_turned 9 = .ok (.ifCond .eq 13, 3) := by decide +kernel
theorem dX6_turned_12 : decode cX6_turned 12 = .ok (.iload_n 2, 1) := by decide +kernel
theorem dX6_turned_13 : decode cX6_turned 13 = .ok (.i2l, 1) := by decide +kernel
theorem dX6_turned_14 : decode cX6_turned 14 = .ok (.lconst 0, 1) := by decide +kernel
theorem dX6_turned_15 : decode cX6_turned 15 = .ok (.lconst 1, 1) := by decide +kernel
theorem dX6_turned_16 : decode cX6_turned 16 = .ok (.invokestatic 52, 3) := by decide +kernel
theorem dX6_turned_19 : decode cX6_turned 19 = .ok (.ifCond .ne 6, 3) := by decide +kernel
theorem dX6_turned_22 : decode cX6_turned 22 = .ok (.bipush (-102), 2) := by decide +kernel
theorem dX6_turned_24 : decode cX6_turned 24 = .ok (.ireturn, 1) := by decide +kernel
theorem dX6_turned_25 : decode cX6_turned 25 = .ok (.aload_n 0, 1) := by decide +kernel
theorem dX6_turned_26 : decode cX6_turned 26 = .ok (.invokevirtual 151, 3) := by decide +kernel
theorem dX6_turned_29 : decode cX6_turned 29 = .ok (.ifCond .ne 12, 3) := by decide +kernel
theorem dX6_turned_32 : decode cX6_turned 32 = .ok (.aload_n 0, 1) := by decide +kernel
theorem dX6_turned_33 : decode cX6_turned 33 = .ok (.getfield 181, 3) := by decide +kernel
theorem dX6_turned_36 : decode cX6_turned 36 = .ok (.bipush 30, 2) := by decide +kernel
theorem dX6_turned_38 : decode cX6_turned 38 = .ok (.if_icmp .ne 6, 3) := by decide +kernel
theorem dX6_turned_41 : decode cX6_turned 41 = .ok (.bipush (-103), 2) := by decide +kernel
theorem dX6_turned_43 : decode cX6_turned 43 = .ok (.ireturn, 1) := by decide +kernel
theorem dX6_turned_44 : decode cX6_turned 44 = .ok (.aload_n 0, 1) := by decide +kernel
theorem dX6_turned_45 : decode cX6_turned 45 = .ok (.dup, 1) := by decide +kernel
theorem dX6_turned_46 : decode cX6_turned 46 = .ok (.getfield 181, 3) := by decide +kernel
theorem dX6_turned_49 : decode cX6_turned 49 = .ok (.iconst 1, 1) := by decide +kernel
theorem dX6_turned_50 : decode cX6_turned 50 = .ok (.iadd, 1) := by decide +kernel
theorem dX6_turned_51 : decode cX6_turned 51 = .ok (.putfield 181, 3) := by decide +kernel
theorem dX6_turned_54 : decode cX6_turned 54 = .ok (.iconst (-1), 1) := by decide +kernel
theorem dX6_turned_55 : decode cX6_turned 55 = .ok (.istore_n 3, 1) := by decide +kernel
theorem dX6_turned_56 : decode cX6_turned 56 = .ok (.iconst 0, 1) := by decide +kernel
theorem dX6_turned_57 : decode cX6_turned 57 = .ok (.istore 4, 2) := by decide +kernel
theorem dX6_turned_59 : decode cX6_turned 59 = .ok (.iload 4, 2) := by decide +kernel
theorem dX6_turned_61 : decode cX6_turned 61 = .ok (.iconst 1, 1) := by decide +kernel
theorem dX6_turned_62 : decode cX6_turned 62 = .ok (.aload_n 0, 1) := by decide +kernel
theorem dX6_turned_63 : decode cX6_turned 63 = .ok (.getfield 84, 3) := by decide +kernel
theorem dX6_turned_66 : decode cX6_turned 66 = .ok (.ishl, 1) := by decide +kernel
theorem dX6_turned_67 : decode cX6_turned 67 = .ok (.if_icmp .ge 55, 3) := by decide +kernel
theorem dX6_turned_70 : decode cX6_turned 70 = .ok (.iload_n 3, 1) := by decide +kernel
theorem dX6_turned_71 : decode cX6_turned 71 = .ok (.iconst (-1), 1) := by decide +kernel
theorem dX6_turned_72 : decode cX6_turned 72 = .ok (.if_icmp .eq 15, 3) := by decide +kernel
theorem dX6_turned_75 : decode cX6_turned 75 = .ok (.iload 4, 2) := by decide +kernel
theorem dX6_turned_77 : decode cX6_turned 77 = .ok (.invokestatic 184, 3) := by decide +kernel
theorem dX6_turned_80 : decode cX6_turned 80 = .ok (.iload_n 3, 1) := by decide +kernel
theorem dX6_turned_81 : decode cX6_turned 81 = .ok (.invokestatic 184, 3) := by decide +kernel
theorem dX6_turned_84 : decode cX6_turned 84 = .ok (.if_icmp .ge 17, 3) := by decide +kernel
theorem dX6_turned_87 : decode cX6_turned 87 = .ok (.aload_n 0, 1) := by decide +kernel
theorem dX6_turned_88 : decode cX6_turned 88 = .ok (.iload 4, 2) := by decide +kernel
theorem dX6_turned_90 : decode cX6_turned 90 = .ok (.iload_n 1, 1) := by decide +kernel
theorem dX6_turned_91 : decode cX6_turned 91 = .ok (.invokevirtual 187, 3) := by decide +kernel
theorem dX6_turned_94 : decode cX6_turned 94 = .ok (.ifCond .eq 7, 3) := by decide +kernel
theorem dX6_turned_97 : decode cX6_turned 97 = .ok (.iconst 1, 1) := by decide +kernel
theorem dX6_turned_98 : decode cX6_turned 98 = .ok (.goto 4, 3) := by decide +kernel
theorem dX6_turned_101 : decode cX6_turned 101 = .ok (.iconst 0, 1) := by decide +kernel
theorem dX6_turned_102 : decode cX6_turned 102 = .ok (.istore 5, 2) := by decide +kernel
theorem dX6_turned_104 : decode cX6_turned 104 = .ok (.iload 5, 2) := by decide +kernel
theorem dX6_turned_106 : decode cX6_turned 106 = .ok (.ifCond .eq 8, 3) := by decide +kernel
theorem dX6_turned_109 : decode cX6_turned 109 = .ok (.iload 4, 2) := by decide +kernel
theorem dX6_turned_111 : decode cX6_turned 111 = .ok (.goto 4, 3) := by decide +kernel
theorem dX6_turned_114 : decode cX6_turned 114 = .ok (.iload_n 3, 1) := by decide +kernel
theorem dX6_turned_115 : decode cX6_turned 115 = .ok (.istore_n 3, 1) := by decide +kernel
theorem dX6_turned_116 : decode cX6_turned 116 = .ok (.iinc 4 1, 3) := by decide +kernel
theorem dX6_turned_119 : decode cX6_turned 119 = .ok (.goto (-60), 3) := by decide +kernel
theorem dX6_turned_122 : decode cX6_turned 122 = .ok (.iload_n 3, 1) := by decide +kernel
theorem dX6_turned_123 : decode cX6_turned 123 = .ok (.iconst (-1), 1) := by decide +kernel
theorem dX6_turned_124 : decode cX6_turned 124 = .ok (.if_icmp .eq 8, 3) := by decide +kernel
theorem dX6_turned_127 : decode cX6_turned 127 = .ok (.iload_n 2, 1) := by decide +kernel
theorem dX6_turned_128 : decode cX6_turned 128 = .ok (.iconst 1, 1) := by decide +kernel
theorem dX6_turned_129 : decode cX6_turned 129 = .ok (.if_icmp .ne 7, 3) := by decide +kernel
theorem dX6_turned_132 : decode cX6_turned 132 = .ok (.iload_n 3, 1) := by decide +kernel
theorem dX6_turned_133 : decode cX6_turned 133 = .ok (.goto 7, 3) := by decide +kernel
theorem dX6_turned_136 : decode cX6_turned 136 = .ok (.iload_n 3, 1) := by decide +kernel
theorem dX6_turned_137 : decode cX6_turned 137 = .ok (.invokestatic 184, 3) := by decide +kernel
theorem dX6_turned_140 : decode cX6_turned 140 = .ok (.ireturn, 1) := by decide +kernel
set_option maxRecDepth 20000 in
theorem ggX6_record_X6_in : GoodIn wsX6_record wsX6_in := goodIn_r _ [7] (by decide +kernel) (by decide +kernel)
set_option maxRecDepth 20000 in
theorem gX6_record_X6_in : GoodIn wsX6_record (va_wsS RX6 52 yX6_in wsX6_in) := goodIn_app (goodIn_of _ (by decide +kernel)) ggX6_record_X6_in
theorem dX6_record_0 : decode cX6_record 0 = .ok (.iload_n 1, 1) := by decide +kernel
theorem dX6_record_1 : decode cX6_record 1 = .ok (.i2l, 1) := by decide +kernel
theorem dX6_record_2 : decode cX6_record 2 = .ok (.lconst 0, 1) := by decide +kernel
theorem dX6_record_3 : decode cX6_record 3 = .ok (.ldc2_w 191, 3) := by decide +kernel
theorem dX6_record_6 : decode cX6_record 6 = .ok (.invokestatic 52, 3) := by decide +kernel
theorem dX6_record_9 : decode cX6_record 9 = .ok (.ifCond .ne 6, 3) := by decide +kernel
theorem dX6_record_12 : decode cX6_record 12 = .ok (.bipush (-102), 2) := by decide +kernel
theorem dX6_record_14 : decode cX6_record 14 = .ok (.ireturn, 1) := by decide +kernel
theorem dX6_record_15 : decode cX6_record 15 = .ok (.aload_n 0, 1) := by decide +kernel
theorem dX6_record_16 : decode cX6_record 16 = .ok (.getfield 99, 3) := by decide +kernel
theorem dX6_record_19 : decode cX6_record 19 = .ok (.bipush 8, 2) := by decide +kernel
theorem dX6_record_21 : decode cX6_record 21 = .ok (.if_icmp .ne 6, 3) := by decide +kernel
theorem dX6_record_24 : decode cX6_record 24 = .ok (.bipush (-104), 2) := by decide +kernel
theorem dX6_record_26 : decode cX6_record 26 = .ok (.ireturn, 1) := by decide +kernel
theorem dX6_record_27 : decode cX6_record 27 = .ok (.aload_n 0, 1) := by decide +kernel
theorem dX6_record_28 : decode cX6_record 28 = .ok (.getfield 34, 3) := by decide +kernel
theorem dX6_record_31 : decode cX6_record 31 = .ok (.aload_n 0, 1) := by decide +kernel
theorem dX6_record_32 : decode cX6_record 32 = .ok (.getfield 99, 3) := by decide +kernel
theorem dX6_record_35 : decode cX6_record 35 = .ok (.iload_n 1, 1) := by decide +kernel
theorem dX6_record_36 : decode cX6_record 36 = .ok (.iastore, 1) := by decide +kernel
theorem dX6_record_37 : decode cX6_record 37 = .ok (.aload_n 0, 1) := by decide +kernel
theorem dX6_record_38 : decode cX6_record 38 = .ok (.dup, 1) := by decide +kernel
theorem dX6_record_39 : decode cX6_record 39 = .ok (.getfield 99, 3) := by decide +kernel
theorem dX6_record_42 : decode cX6_record 42 = .ok (.iconst 1, 1) := by decide +kernel
theorem dX6_record_43 : decode cX6_record 43 = .ok (.iadd, 1) := by decide +kernel
theorem dX6_record_44 : decode cX6_record 44 = .ok (.putfield 99, 3) := by decide +kernel
theorem dX6_record_47 : decode cX6_record 47 = .ok (.aload_n 0, 1) := by decide +kernel
theorem dX6_record_48 : decode cX6_record 48 = .ok (.getfield 99, 3) := by decide +kernel
theorem dX6_record_51 : decode cX6_record 51 = .ok (.ireturn, 1) := by decide +kernel
theorem dX6_forget_0 : decode cX6_forget 0 = .ok (.aload_n 0, 1) := by decide +kernel
theorem dX6_forget_1 : decode cX6_forget 1 = .ok (.getfield 99, 3) := by decide +kernel
theorem dX6_forget_4 : decode cX6_forget 4 = .ok (.istore_n 1, 1) := by decide +kernel
theorem dX6_forget_5 : decode cX6_forget 5 = .ok (.aload_n 0, 1) := by decide +kernel
theorem dX6_forget_6 : decode cX6_forget 6 = .ok (.iconst 0, 1) := by decide +kernel
theorem dX6_forget_7 : decode cX6_forget 7 = .ok (.putfield 99, 3) := by decide +kernel
theorem dX6_forget_10 : decode cX6_forget 10 = .ok (.iload_n 1, 1) := by decide +kernel
theorem dX6_forget_11 : decode cX6_forget 11 = .ok (.ireturn, 1) := by decide +kernel
set_option maxRecDepth 20000 in
theorem ggX6_isRecordedBy_X6_pass : GoodIn wsX6_isRecordedBy wsX6_pass := goodIn_r _ [11, 12, 1, 13, 2, 14, 15, 16, 10, 17, 18, 4, 19, 20, 21, 22, 23, 24, 25, 26, 27, 28, 29, 30, 31, 32, 33, 34, 35, 36, 37, 42, 43, 44, 45, 46, 47, 48, 49, 50, 51, 52, 53, 54, 55, 56, 57, 58, 59, 60, 61, 62, 63, 64, 65, 66, 67, 68, 69, 70, 71, 72, 73, 74] (by decide +kernel) (by decide +kernel)
set_option maxRecDepth 20000 in
theorem gX6_isRecordedBy_X6_pass : GoodIn wsX6_isRecordedBy (wsV RX6 136 RX6 yX6_pass wsX6_pass) := goodIn_app (goodIn_of _ (by decide +kernel)) ggX6_isRecordedBy_X6_pass
set_option maxRecDepth 20000 in
theorem ggX6_isRecordedBy_X6_rightNow : GoodIn wsX6_isRecordedBy wsX6_rightNow := goodIn_r _ [41, 13, 1, 18, 42, 43, 44, 45, 46, 47, 48, 49, 50, 51, 52, 53, 54, 55, 56, 57, 58, 59, 60, 61, 62, 63, 64, 65, 66, 67, 68, 69, 70, 71, 72, 73, 74] (by decide +kernel) (by decide +kernel)
set_option maxRecDepth 20000 in
theorem gX6_isRecordedBy_X6_rightNow : GoodIn wsX6_isRecordedBy (wsV RX6 155 RX6 yX6_rightNow wsX6_rightNow) := goodIn_app (goodIn_of _ (by decide +kernel)) ggX6_isRecordedBy_X6_rightNow
theorem dX6_isRecordedBy_0 : decode cX6_isRecordedBy 0 = .ok (.iconst 0, 1) := by decide +kernel
theorem dX6_isRecordedBy_1 : decode cX6_isRecordedBy 1 = .ok (.istore 4, 2) := by decide +kernel
theorem dX6_isRecordedBy_3 : decode cX6_isRecordedBy 3 = .ok (.iload 4, 2) := by decide +kernel
theorem dX6_isRecordedBy_5 : decode cX6_isRecordedBy 5 = .ok (.bipush 8, 2) := by decide +kernel
theorem dX6_isRecordedBy_7 : decode cX6_isRecordedBy 7 = .ok (.if_icmp .ge 25, 3) := by decide +kernel
theorem dX6_isRecordedBy_10 : decode cX6_isRecordedBy 10 = .ok (.aload_n 0, 1) := by decide +kernel
theorem dX6_isRecordedBy_11 : decode cX6_isRecordedBy 11 = .ok (.getfield 25, 3) := by decide +kernel
theorem dX6_isRecordedBy_14 : decode cX6_isRecordedBy 14 = .ok (.iload 4, 2) := by decide +kernel
theorem dX6_isRecordedBy_16 : decode cX6_isRecordedBy 16 = .ok (.iconst 3, 1) := by decide +kernel
theorem dX6_isRecordedBy_17 : decode cX6_isRecordedBy 17 = .ok (.iastore, 1) := by decide +kernel
theorem dX6_isRecordedBy_18 : decode cX6_isRecordedBy 18 = .ok (.aload_n 0, 1) := by decide +kernel
theorem dX6_isRecordedBy_19 : decode cX6_isRecordedBy 19 = .ok (.getfield 28, 3) := by decide +kernel
theorem dX6_isRecordedBy_22 : decode cX6_isRecordedBy 22 = .ok (.iload 4, 2) := by decide +kernel
theorem dX6_isRecordedBy_24 : decode cX6_isRecordedBy 24 = .ok (.iconst 0, 1) := by decide +kernel
theorem dX6_isRecordedBy_25 : decode cX6_isRecordedBy 25 = .ok (.iastore, 1) := by decide +kernel
theorem dX6_isRecordedBy_26 : decode cX6_isRecordedBy 26 = .ok (.iinc 4 1, 3) := by decide +kernel
theorem dX6_isRecordedBy_29 : decode cX6_isRecordedBy 29 = .ok (.goto (-26), 3) := by decide +kernel
theorem dX6_isRecordedBy_32 : decode cX6_isRecordedBy 32 = .ok (.aload_n 0, 1) := by decide +kernel
theorem dX6_isRecordedBy_33 : decode cX6_isRecordedBy 33 = .ok (.aload_n 0, 1) := by decide +kernel
theorem dX6_isRecordedBy_34 : decode cX6_isRecordedBy 34 = .ok (.getfield 90, 3) := by decide +kernel
theorem dX6_isRecordedBy_37 : decode cX6_isRecordedBy 37 = .ok (.putfield 124, 3) := by decide +kernel
theorem dX6_isRecordedBy_40 : decode cX6_isRecordedBy 40 = .ok (.aload_n 0, 1) := by decide +kernel
theorem dX6_isRecordedBy_41 : decode cX6_isRecordedBy 41 = .ok (.getfield 25, 3) := by decide +kernel
theorem dX6_isRecordedBy_44 : decode cX6_isRecordedBy 44 = .ok (.iload_n 1, 1) := by decide +kernel
theorem dX6_isRecordedBy_45 : decode cX6_isRecordedBy 45 = .ok (.iload_n 3, 1) := by decide +kernel
theorem dX6_isRecordedBy_46 : decode cX6_isRecordedBy 46 = .ok (.iconst 2, 1) := by decide +kernel
theorem dX6_isRecordedBy_47 : decode cX6_isRecordedBy 47 = .ok (.idiv, 1) := by decide +kernel
theorem dX6_isRecordedBy_48 : decode cX6_isRecordedBy 48 = .ok (.iconst 1, 1) := by decide +kernel
theorem dX6_isRecordedBy_49 : decode cX6_isRecordedBy 49 = .ok (.iadd, 1) := by decide +kernel
theorem dX6_isRecordedBy_50 : decode cX6_isRecordedBy 50 = .ok (.iastore, 1) := by decide +kernel
theorem dX6_isRecordedBy_51 : decode cX6_isRecordedBy 51 = .ok (.aload_n 0, 1) := by decide +kernel
theorem dX6_isRecordedBy_52 : decode cX6_isRecordedBy 52 = .ok (.getfield 25, 3) := by decide +kernel
theorem dX6_isRecordedBy_55 : decode cX6_isRecordedBy 55 = .ok (.iload_n 2, 1) := by decide +kernel
theorem dX6_isRecordedBy_56 : decode cX6_isRecordedBy 56 = .ok (.iload_n 3, 1) := by decide +kernel
theorem dX6_isRecordedBy_57 : decode cX6_isRecordedBy 57 = .ok (.iconst 2, 1) := by decide +kernel
theorem dX6_isRecordedBy_58 : decode cX6_isRecordedBy 58 = .ok (.irem, 1) := by decide +kernel
theorem dX6_isRecordedBy_59 : decode cX6_isRecordedBy 59 = .ok (.iconst 1, 1) := by decide +kernel
theorem dX6_isRecordedBy_60 : decode cX6_isRecordedBy 60 = .ok (.iadd, 1) := by decide +kernel
theorem dX6_isRecordedBy_61 : decode cX6_isRecordedBy 61 = .ok (.iastore, 1) := by decide +kernel
theorem dX6_isRecordedBy_62 : decode cX6_isRecordedBy 62 = .ok (.iconst 1, 1) := by decide +kernel
theorem dX6_isRecordedBy_63 : decode cX6_isRecordedBy 63 = .ok (.istore 4, 2) := by decide +kernel
theorem dX6_isRecordedBy_65 : decode cX6_isRecordedBy 65 = .ok (.iconst 0, 1) := by decide +kernel
theorem dX6_isRecordedBy_66 : decode cX6_isRecordedBy 66 = .ok (.istore 5, 2) := by decide +kernel
theorem dX6_isRecordedBy_68 : decode cX6_isRecordedBy 68 = .ok (.iload 5, 2) := by decide +kernel
theorem dX6_isRecordedBy_70 : decode cX6_isRecordedBy 70 = .ok (.aload_n 0, 1) := by decide +kernel
theorem dX6_isRecordedBy_71 : decode cX6_isRecordedBy 71 = .ok (.getfield 99, 3) := by decide +kernel
theorem dX6_isRecordedBy_74 : decode cX6_isRecordedBy 74 = .ok (.if_icmp .ge 39, 3) := by decide +kernel
theorem dX6_isRecordedBy_77 : decode cX6_isRecordedBy 77 = .ok (.iload 4, 2) := by decide +kernel
theorem dX6_isRecordedBy_79 : decode cX6_isRecordedBy 79 = .ok (.ifCond .eq 34, 3) := by decide +kernel
theorem dX6_isRecordedBy_82 : decode cX6_isRecordedBy 82 = .ok (.aload_n 0, 1) := by decide +kernel
theorem dX6_isRecordedBy_83 : decode cX6_isRecordedBy 83 = .ok (.invokevirtual 136, 3) := by decide +kernel
theorem dX6_isRecordedBy_86 : decode cX6_isRecordedBy 86 = .ok (.aload_n 0, 1) := by decide +kernel
theorem dX6_isRecordedBy_87 : decode cX6_isRecordedBy 87 = .ok (.invokevirtual 155, 3) := by decide +kernel
theorem dX6_isRecordedBy_90 : decode cX6_isRecordedBy 90 = .ok (.aload_n 0, 1) := by decide +kernel
theorem dX6_isRecordedBy_91 : decode cX6_isRecordedBy 91 = .ok (.getfield 34, 3) := by decide +kernel
theorem dX6_isRecordedBy_94 : decode cX6_isRecordedBy 94 = .ok (.iload 5, 2) := by decide +kernel
theorem dX6_isRecordedBy_96 : decode cX6_isRecordedBy 96 = .ok (.iaload, 1) := by decide +kernel
theorem dX6_isRecordedBy_97 : decode cX6_isRecordedBy 97 = .ok (.if_icmp .ne 7, 3) := by decide +kernel
theorem dX6_isRecordedBy_100 : decode cX6_isRecordedBy 100 = .ok (.iconst 1, 1) := by decide +kernel
theorem dX6_isRecordedBy_101 : decode cX6_isRecordedBy 101 = .ok (.goto 4, 3) := by decide +kernel
theorem dX6_isRecordedBy_104 : decode cX6_isRecordedBy 104 = .ok (.iconst 0, 1) := by decide +kernel
theorem dX6_isRecordedBy_105 : decode cX6_isRecordedBy 105 = .ok (.istore 4, 2) := by decide +kernel
theorem dX6_isRecordedBy_107 : decode cX6_isRecordedBy 107 = .ok (.iinc 5 1, 3) := by decide +kernel
theorem dX6_isRecordedBy_110 : decode cX6_isRecordedBy 110 = .ok (.goto (-42), 3) := by decide +kernel
theorem dX6_isRecordedBy_113 : decode cX6_isRecordedBy 113 = .ok (.iload 4, 2) := by decide +kernel
theorem dX6_isRecordedBy_115 : decode cX6_isRecordedBy 115 = .ok (.ireturn, 1) := by decide +kernel
set_option maxRecDepth 20000 in
theorem ggX6_began_X6_in : GoodIn wsX6_began wsX6_in := goodIn_r _ [6] (by decide +kernel) (by decide +kernel)
set_option maxRecDepth 20000 in
theorem gX6_began_X6_in : GoodIn wsX6_began (va_wsS RX6 52 yX6_in wsX6_in) := goodIn_app (goodIn_of _ (by decide +kernel)) ggX6_began_X6_in
set_option maxRecDepth 20000 in
theorem ggX6_began_X6_lacks : GoodIn wsX6_began wsX6_lacks := goodIn_r _ [10, 2, 51, 52, 53, 54, 55, 56, 57, 58, 59, 60, 61, 62, 63, 64, 65, 66, 67, 68, 69, 70, 71, 72, 73, 74, 75, 76, 77, 78, 79, 80, 81, 82, 83] (by decide +kernel) (by decide +kernel)
set_option maxRecDepth 20000 in
theorem gX6_began_X6_lacks : GoodIn wsX6_began (wsV RX6 151 RX6 yX6_lacks wsX6_lacks) := goodIn_app (goodIn_of _ (by decide +kernel)) ggX6_began_X6_lacks
set_option maxRecDepth 20000 in
theorem ggX6_began_X6_isRecordedBy : GoodIn wsX6_began wsX6_isRecordedBy := goodIn_r _ [14, 15, 16, 17, 18, 19, 20, 21, 22, 23, 5, 24, 25, 2, 26, 27, 28, 29, 30, 31, 32, 33, 34, 35, 36, 37, 38, 39, 40, 41, 42, 43, 44, 45, 46, 3, 4, 6, 47, 48, 49, 50, 51, 52, 53, 54, 55, 56, 57, 58, 59, 60, 61, 62, 63, 64, 65, 66, 67, 68, 69, 70, 71, 72, 73, 74, 75, 76, 77, 78, 79, 80, 81, 82, 83] (by decide +kernel) (by decide +kernel)
set_option maxRecDepth 20000 in
theorem gX6_began_X6_isRecordedBy : GoodIn wsX6_began (wsV RX6 196 RX6 yX6_isRecordedBy wsX6_isRecordedBy) := goodIn_app (goodIn_of _ (by decide +kernel)) ggX6_began_X6_isRecordedBy
theorem dX6_began_0 : decode cX6_began 0 = .ok (.iload_n 1, 1) := by decide +kernel
theorem dX6_began_1 : decode cX6_began 1 = .ok (.i2l, 1) := by decide +kernel
theorem dX6_began_2 : decode cX6_began 2 = .ok (.lconst 0, 1) := by decide +kernel
theorem dX6_began_3 : decode cX6_began 3 = .ok (.lconst 1, 1) := by decide +kernel
theorem dX6_began_4 : decode cX6_began 4 = .ok (.invokestatic 52, 3) := by decide +kernel
theorem dX6_began_7 : decode cX6_began 7 = .ok (.ifCond .ne 6, 3) := by decide +kernel
theorem dX6_began_10 : decode cX6_began 10 = .ok (.bipush (-102), 2) := by decide +kernel
theorem dX6_began_12 : decode cX6_began 12 = .ok (.ireturn, 1) := by decide +kernel
theorem dX6_began_13 : decode cX6_began 13 = .ok (.aload_n 0, 1) := by decide +kernel
theorem dX6_began_14 : decode cX6_began 14 = .ok (.invokevirtual 151, 3) := by decide +kernel
theorem dX6_began_17 : decode cX6_began 17 = .ok (.ifCond .ne 12, 3) := by decide +kernel
theorem dX6_began_20 : decode cX6_began 20 = .ok (.aload_n 0, 1) := by decide +kernel
theorem dX6_began_21 : decode cX6_began 21 = .ok (.getfield 193, 3) := by decide +kernel
theorem dX6_began_24 : decode cX6_began 24 = .ok (.bipush 30, 2) := by decide +kernel
theorem dX6_began_26 : decode cX6_began 26 = .ok (.if_icmp .ne 6, 3) := by decide +kernel
theorem dX6_began_29 : decode cX6_began 29 = .ok (.bipush (-103), 2) := by decide +kernel
theorem dX6_began_31 : decode cX6_began 31 = .ok (.ireturn, 1) := by decide +kernel
theorem dX6_began_32 : decode cX6_began 32 = .ok (.aload_n 0, 1) := by decide +kernel
theorem dX6_began_33 : decode cX6_began 33 = .ok (.dup, 1) := by decide +kernel
theorem dX6_began_34 : decode cX6_began 34 = .ok (.getfield 193, 3) := by decide +kernel
theorem dX6_began_37 : decode cX6_began 37 = .ok (.iconst 1, 1) := by decide +kernel
theorem dX6_began_38 : decode cX6_began 38 = .ok (.iadd, 1) := by decide +kernel
theorem dX6_began_39 : decode cX6_began 39 = .ok (.putfield 193, 3) := by decide +kernel
theorem dX6_began_42 : decode cX6_began 42 = .ok (.iconst 0, 1) := by decide +kernel
theorem dX6_began_43 : decode cX6_began 43 = .ok (.istore_n 2, 1) := by decide +kernel
theorem dX6_began_44 : decode cX6_began 44 = .ok (.iconst (-1), 1) := by decide +kernel
theorem dX6_began_45 : decode cX6_began 45 = .ok (.istore_n 3, 1) := by decide +kernel
theorem dX6_began_46 : decode cX6_began 46 = .ok (.sipush 255, 3) := by decide +kernel
theorem dX6_began_49 : decode cX6_began 49 = .ok (.istore 4, 2) := by decide +kernel
theorem dX6_began_51 : decode cX6_began 51 = .ok (.iload 4, 2) := by decide +kernel
theorem dX6_began_53 : decode cX6_began 53 = .ok (.ifCond .lt 88, 3) := by decide +kernel
theorem dX6_began_56 : decode cX6_began 56 = .ok (.iload 4, 2) := by decide +kernel
theorem dX6_began_58 : decode cX6_began 58 = .ok (.bipush 32, 2) := by decide +kernel
theorem dX6_began_60 : decode cX6_began 60 = .ok (.idiv, 1) := by decide +kernel
theorem dX6_began_61 : decode cX6_began 61 = .ok (.istore 5, 2) := by decide +kernel
theorem dX6_began_63 : decode cX6_began 63 = .ok (.iload 4, 2) := by decide +kernel
theorem dX6_began_65 : decode cX6_began 65 = .ok (.iconst 4, 1) := by decide +kernel
theorem dX6_began_66 : decode cX6_began 66 = .ok (.idiv, 1) := by decide +kernel
theorem dX6_began_67 : decode cX6_began 67 = .ok (.bipush 8, 2) := by decide +kernel
theorem dX6_began_69 : decode cX6_began 69 = .ok (.irem, 1) := by decide +kernel
theorem dX6_began_70 : decode cX6_began 70 = .ok (.istore 6, 2) := by decide +kernel
theorem dX6_began_72 : decode cX6_began 72 = .ok (.iload 5, 2) := by decide +kernel
theorem dX6_began_74 : decode cX6_began 74 = .ok (.iload 6, 2) := by decide +kernel
theorem dX6_began_76 : decode cX6_began 76 = .ok (.if_icmp .ge 31, 3) := by decide +kernel
theorem dX6_began_79 : decode cX6_began 79 = .ok (.iload 6, 2) := by decide +kernel
theorem dX6_began_81 : decode cX6_began 81 = .ok (.aload_n 0, 1) := by decide +kernel
theorem dX6_began_82 : decode cX6_began 82 = .ok (.getfield 84, 3) := by decide +kernel
theorem dX6_began_85 : decode cX6_began 85 = .ok (.if_icmp .ge 22, 3) := by decide +kernel
theorem dX6_began_88 : decode cX6_began 88 = .ok (.aload_n 0, 1) := by decide +kernel
theorem dX6_began_89 : decode cX6_began 89 = .ok (.iload 5, 2) := by decide +kernel
theorem dX6_began_91 : decode cX6_began 91 = .ok (.iload 6, 2) := by decide +kernel
theorem dX6_began_93 : decode cX6_began 93 = .ok (.iload 4, 2) := by decide +kernel
end
section
theorem dX6_began_95 : decode cX6_began 95 = .ok (.iconst 4, 1) := by decide +kernel
theorem dX6_began_96 : decode cX6_began 96 = .ok (.irem, 1) := by decide +kernel
theorem dX6_began_97 : decode cX6_began 97 = .ok (.invokevirtual 196, 3) := by decide +kernel
theorem dX6_began_100 : decode cX6_began 100 = .ok (.ifCond .eq 7, 3) := by decide +kernel
theorem dX6_began_103 : decode cX6_began 103 = .ok (.iconst 1, 1) := by decide +kernel
theorem dX6_began_104 : decode cX6_began 104 = .ok (.goto 4, 3) := by decide +kernel
theorem dX6_began_107 : decode cX6_began 107 = .ok (.iconst 0, 1) := by decide +kernel
theorem dX6_began_108 : decode cX6_began 108 = .ok (.istore 7, 2) := by decide +kernel
theorem dX6_began_110 : decode cX6_began 110 = .ok (.iload_n 2, 1) := by decide +kernel
theorem dX6_began_111 : decode cX6_began 111 = .ok (.iload 7, 2) := by decide +kernel
theorem dX6_began_113 : decode cX6_began 113 = .ok (.ifCond .eq 7, 3) := by decide +kernel
theorem dX6_began_116 : decode cX6_began 116 = .ok (.iconst 1, 1) := by decide +kernel
theorem dX6_began_117 : decode cX6_began 117 = .ok (.goto 4, 3) := by decide +kernel
theorem dX6_began_120 : decode cX6_began 120 = .ok (.iconst 0, 1) := by decide +kernel
theorem dX6_began_121 : decode cX6_began 121 = .ok (.iadd, 1) := by decide +kernel
theorem dX6_began_122 : decode cX6_began 122 = .ok (.istore_n 2, 1) := by decide +kernel
theorem dX6_began_123 : decode cX6_began 123 = .ok (.iload 7, 2) := by decide +kernel
theorem dX6_began_125 : decode cX6_began 125 = .ok (.ifCond .eq 8, 3) := by decide +kernel
theorem dX6_began_128 : decode cX6_began 128 = .ok (.iload 4, 2) := by decide +kernel
theorem dX6_began_130 : decode cX6_began 130 = .ok (.goto 4, 3) := by decide +kernel
theorem dX6_began_133 : decode cX6_began 133 = .ok (.iload_n 3, 1) := by decide +kernel
theorem dX6_began_134 : decode cX6_began 134 = .ok (.istore_n 3, 1) := by decide +kernel
theorem dX6_began_135 : decode cX6_began 135 = .ok (.iinc 4 (-1), 3) := by decide +kernel
theorem dX6_began_138 : decode cX6_began 138 = .ok (.goto (-87), 3) := by decide +kernel
theorem dX6_began_141 : decode cX6_began 141 = .ok (.iload_n 1, 1) := by decide +kernel
theorem dX6_began_142 : decode cX6_began 142 = .ok (.ifCond .ne 7, 3) := by decide +kernel
theorem dX6_began_145 : decode cX6_began 145 = .ok (.iload_n 2, 1) := by decide +kernel
theorem dX6_began_146 : decode cX6_began 146 = .ok (.goto 4, 3) := by decide +kernel
theorem dX6_began_149 : decode cX6_began 149 = .ok (.iload_n 3, 1) := by decide +kernel
theorem dX6_began_150 : decode cX6_began 150 = .ok (.ireturn, 1) := by decide +kernel
theorem dX6_draw_0 : decode cX6_draw 0 = .ok (.aload_n 0, 1) := by decide +kernel
theorem dX6_draw_1 : decode cX6_draw 1 = .ok (.ldc2_w 200, 3) := by decide +kernel
theorem dX6_draw_4 : decode cX6_draw 4 = .ok (.aload_n 0, 1) := by decide +kernel
theorem dX6_draw_5 : decode cX6_draw 5 = .ok (.getfield 202, 3) := by decide +kernel
theorem dX6_draw_8 : decode cX6_draw 8 = .ok (.i2l, 1) := by decide +kernel
theorem dX6_draw_9 : decode cX6_draw 9 = .ok (.lmul, 1) := by decide +kernel
theorem dX6_draw_10 : decode cX6_draw 10 = .ok (.ldc2_w 205, 3) := by decide +kernel
theorem dX6_draw_13 : decode cX6_draw 13 = .ok (.ladd, 1) := by decide +kernel
theorem dX6_draw_14 : decode cX6_draw 14 = .ok (.ldc2_w 207, 3) := by decide +kernel
theorem dX6_draw_17 : decode cX6_draw 17 = .ok (.land, 1) := by decide +kernel
theorem dX6_draw_18 : decode cX6_draw 18 = .ok (.l2i, 1) := by decide +kernel
theorem dX6_draw_19 : decode cX6_draw 19 = .ok (.putfield 202, 3) := by decide +kernel
theorem dX6_draw_22 : decode cX6_draw 22 = .ok (.aload_n 0, 1) := by decide +kernel
theorem dX6_draw_23 : decode cX6_draw 23 = .ok (.getfield 202, 3) := by decide +kernel
theorem dX6_draw_26 : decode cX6_draw 26 = .ok (.ldc 209, 2) := by decide +kernel
theorem dX6_draw_28 : decode cX6_draw 28 = .ok (.idiv, 1) := by decide +kernel
theorem dX6_draw_29 : decode cX6_draw 29 = .ok (.iload_n 1, 1) := by decide +kernel
theorem dX6_draw_30 : decode cX6_draw 30 = .ok (.irem, 1) := by decide +kernel
theorem dX6_draw_31 : decode cX6_draw 31 = .ok (.ireturn, 1) := by decide +kernel
theorem dX6_palmsAll_0 : decode cX6_palmsAll 0 = .ok (.iconst 0, 1) := by decide +kernel
theorem dX6_palmsAll_1 : decode cX6_palmsAll 1 = .ok (.istore_n 1, 1) := by decide +kernel
theorem dX6_palmsAll_2 : decode cX6_palmsAll 2 = .ok (.iconst 0, 1) := by decide +kernel
theorem dX6_palmsAll_3 : decode cX6_palmsAll 3 = .ok (.istore_n 2, 1) := by decide +kernel
theorem dX6_palmsAll_4 : decode cX6_palmsAll 4 = .ok (.iload_n 2, 1) := by decide +kernel
theorem dX6_palmsAll_5 : decode cX6_palmsAll 5 = .ok (.aload_n 0, 1) := by decide +kernel
theorem dX6_palmsAll_6 : decode cX6_palmsAll 6 = .ok (.getfield 84, 3) := by decide +kernel
theorem dX6_palmsAll_9 : decode cX6_palmsAll 9 = .ok (.if_icmp .ge 22, 3) := by decide +kernel
theorem dX6_palmsAll_12 : decode cX6_palmsAll 12 = .ok (.iload_n 1, 1) := by decide +kernel
theorem dX6_palmsAll_13 : decode cX6_palmsAll 13 = .ok (.aload_n 0, 1) := by decide +kernel
theorem dX6_palmsAll_14 : decode cX6_palmsAll 14 = .ok (.getfield 16, 3) := by decide +kernel
theorem dX6_palmsAll_17 : decode cX6_palmsAll 17 = .ok (.iconst 3, 1) := by decide +kernel
theorem dX6_palmsAll_18 : decode cX6_palmsAll 18 = .ok (.iload_n 2, 1) := by decide +kernel
theorem dX6_palmsAll_19 : decode cX6_palmsAll 19 = .ok (.imul, 1) := by decide +kernel
theorem dX6_palmsAll_20 : decode cX6_palmsAll 20 = .ok (.iconst 1, 1) := by decide +kernel
theorem dX6_palmsAll_21 : decode cX6_palmsAll 21 = .ok (.iadd, 1) := by decide +kernel
theorem dX6_palmsAll_22 : decode cX6_palmsAll 22 = .ok (.iaload, 1) := by decide +kernel
theorem dX6_palmsAll_23 : decode cX6_palmsAll 23 = .ok (.iadd, 1) := by decide +kernel
theorem dX6_palmsAll_24 : decode cX6_palmsAll 24 = .ok (.istore_n 1, 1) := by decide +kernel
theorem dX6_palmsAll_25 : decode cX6_palmsAll 25 = .ok (.iinc 2 1, 3) := by decide +kernel
theorem dX6_palmsAll_28 : decode cX6_palmsAll 28 = .ok (.goto (-24), 3) := by decide +kernel
theorem dX6_palmsAll_31 : decode cX6_palmsAll 31 = .ok (.iload_n 1, 1) := by decide +kernel
theorem dX6_palmsAll_32 : decode cX6_palmsAll 32 = .ok (.ireturn, 1) := by decide +kernel
set_option maxRecDepth 20000 in
theorem ggX6_nights_X6_in : GoodIn wsX6_nights wsX6_in := goodIn_r _ [9] (by decide +kernel) (by decide +kernel)
set_option maxRecDepth 20000 in
theorem gX6_nights_X6_in : GoodIn wsX6_nights (va_wsS RX6 52 yX6_in wsX6_in) := goodIn_app (goodIn_of _ (by decide +kernel)) ggX6_nights_X6_in
set_option maxRecDepth 20000 in
theorem ggX6_nights_X6_lacks : GoodIn wsX6_nights wsX6_lacks := goodIn_r _ [13, 4, 73, 74, 75, 76, 77, 78, 79, 80, 81, 82, 83, 84, 85, 86, 87, 88, 89, 90, 91, 92, 93, 94, 95, 96, 97, 98, 99, 100, 101, 102, 103, 104, 105] (by decide +kernel) (by decide +kernel)
set_option maxRecDepth 20000 in
theorem gX6_nights_X6_lacks : GoodIn wsX6_nights (wsV RX6 151 RX6 yX6_lacks wsX6_lacks) := goodIn_app (goodIn_of _ (by decide +kernel)) ggX6_nights_X6_lacks
set_option maxRecDepth 20000 in
theorem ggX6_nights_X6_asItIs : GoodIn wsX6_nights wsX6_asItIs := goodIn_r _ [17, 18, 19, 20, 21, 22, 5, 73, 74, 75, 76, 77, 78, 79, 80, 81, 82, 83, 84, 85, 86, 87, 88, 89, 90, 91, 92, 93, 94, 95, 96, 97, 98, 99, 100, 101, 102, 103, 104, 105] (by decide +kernel) (by decide +kernel)
set_option maxRecDepth 20000 in
theorem gX6_nights_X6_asItIs : GoodIn wsX6_nights (wsV RX6 139 RX6 yX6_asItIs wsX6_asItIs) := goodIn_app (goodIn_of _ (by decide +kernel)) ggX6_nights_X6_asItIs
set_option maxRecDepth 20000 in
theorem ggX6_nights_X6_draw : GoodIn wsX6_nights wsX6_draw := goodIn_r _ [26, 27, 3, 28, 29, 30, 73, 74, 75, 76, 77, 78, 79, 80, 81, 82, 83, 84, 85, 86, 87, 88, 89, 90, 91, 92, 93, 94, 95, 96, 97, 98, 99, 100, 101, 102, 103, 104, 105] (by decide +kernel) (by decide +kernel)
set_option maxRecDepth 20000 in
theorem gX6_nights_X6_draw : GoodIn wsX6_nights (wsV RX6 214 RX6 yX6_draw wsX6_draw) := goodIn_app (goodIn_of _ (by decide +kernel)) ggX6_nights_X6_draw
set_option maxRecDepth 20000 in
theorem ggX6_nights_X6_leaveOut : GoodIn wsX6_nights wsX6_leaveOut := goodIn_r _ [34, 4, 35, 18, 73, 74, 75, 76, 77, 78, 79, 80, 81, 82, 83, 84, 85, 86, 87, 88, 89, 90, 91, 92, 93, 94, 95, 96, 97, 98, 99, 100, 101, 102, 103, 104, 105] (by decide +kernel) (by decide +kernel)
set_option maxRecDepth 20000 in
theorem gX6_nights_X6_leaveOut : GoodIn wsX6_nights (wsV RX6 158 RX6 yX6_leaveOut wsX6_leaveOut) := goodIn_app (goodIn_of _ (by decide +kernel)) ggX6_nights_X6_leaveOut
set_option maxRecDepth 20000 in
theorem ggX6_nights_X6_makes : GoodIn wsX6_nights wsX6_makes := goodIn_r _ [39, 18, 20, 73, 74, 75, 76, 77, 78, 79, 80, 81, 82, 83, 84, 85, 86, 87, 88, 89, 90, 91, 92, 93, 94, 95, 96, 97, 98, 99, 100, 101, 102, 103, 104, 105] (by decide +kernel) (by decide +kernel)
set_option maxRecDepth 20000 in
theorem gX6_nights_X6_makes : GoodIn wsX6_nights (wsV RX6 142 RX6 yX6_makes wsX6_makes) := goodIn_app (goodIn_of _ (by decide +kernel)) ggX6_nights_X6_makes
set_option maxRecDepth 20000 in
theorem ggX6_nights_X6_pass : GoodIn wsX6_nights wsX6_pass := goodIn_r _ [43, 44, 18, 4, 20, 45, 46, 47, 8, 48, 35, 5, 49, 50, 51, 52, 53, 54, 55, 56, 57, 58, 59, 60, 61, 62, 63, 64, 6, 7, 9, 73, 74, 75, 76, 77, 78, 79, 80, 81, 82, 83, 84, 85, 86, 87, 88, 89, 90, 91, 92, 93, 94, 95, 96, 97, 98, 99, 100, 101, 102, 103, 104, 105] (by decide +kernel) (by decide +kernel)
set_option maxRecDepth 20000 in
theorem gX6_nights_X6_pass : GoodIn wsX6_nights (wsV RX6 136 RX6 yX6_pass wsX6_pass) := goodIn_app (goodIn_of _ (by decide +kernel)) ggX6_nights_X6_pass
set_option maxRecDepth 20000 in
theorem ggX6_nights_X6_rightNow : GoodIn wsX6_nights wsX6_rightNow := goodIn_r _ [68, 4, 18, 35, 73, 74, 75, 76, 77, 78, 79, 80, 81, 82, 83, 84, 85, 86, 87, 88, 89, 90, 91, 92, 93, 94, 95, 96, 97, 98, 99, 100, 101, 102, 103, 104, 105] (by decide +kernel) (by decide +kernel)
set_option maxRecDepth 20000 in
theorem gX6_nights_X6_rightNow : GoodIn wsX6_nights (wsV RX6 155 RX6 yX6_rightNow wsX6_rightNow) := goodIn_app (goodIn_of _ (by decide +kernel)) ggX6_nights_X6_rightNow
set_option maxRecDepth 20000 in
theorem ggX6_nights_X6_palmsAll : GoodIn wsX6_nights wsX6_palmsAll := goodIn_r _ [72, 4, 35, 73, 74, 75, 76, 77, 78, 79, 80, 81, 82, 83, 84, 85, 86, 87, 88, 89, 90, 91, 92, 93, 94, 95, 96, 97, 98, 99, 100, 101, 102, 103, 104, 105] (by decide +kernel) (by decide +kernel)
set_option maxRecDepth 20000 in
theorem gX6_nights_X6_palmsAll : GoodIn wsX6_nights (wsV RX6 217 RX6 yX6_palmsAll wsX6_palmsAll) := goodIn_app (goodIn_of _ (by decide +kernel)) ggX6_nights_X6_palmsAll
theorem dX6_nights_0 : decode cX6_nights 0 = .ok (.iload_n 1, 1) := by decide +kernel
theorem dX6_nights_1 : decode cX6_nights 1 = .ok (.i2l, 1) := by decide +kernel
theorem dX6_nights_2 : decode cX6_nights 2 = .ok (.lconst 1, 1) := by decide +kernel
theorem dX6_nights_3 : decode cX6_nights 3 = .ok (.ldc2_w 210, 3) := by decide +kernel
theorem dX6_nights_6 : decode cX6_nights 6 = .ok (.invokestatic 52, 3) := by decide +kernel
theorem dX6_nights_9 : decode cX6_nights 9 = .ok (.ifCond .eq 19, 3) := by decide +kernel
theorem dX6_nights_12 : decode cX6_nights 12 = .ok (.iload_n 2, 1) := by decide +kernel
theorem dX6_nights_13 : decode cX6_nights 13 = .ok (.ifCond .lt 15, 3) := by decide +kernel
theorem dX6_nights_16 : decode cX6_nights 16 = .ok (.iload_n 3, 1) := by decide +kernel
theorem dX6_nights_17 : decode cX6_nights 17 = .ok (.i2l, 1) := by decide +kernel
theorem dX6_nights_18 : decode cX6_nights 18 = .ok (.lconst 0, 1) := by decide +kernel
theorem dX6_nights_19 : decode cX6_nights 19 = .ok (.ldc2_w 212, 3) := by decide +kernel
theorem dX6_nights_22 : decode cX6_nights 22 = .ok (.invokestatic 52, 3) := by decide +kernel
theorem dX6_nights_25 : decode cX6_nights 25 = .ok (.ifCond .ne 6, 3) := by decide +kernel
theorem dX6_nights_28 : decode cX6_nights 28 = .ok (.bipush (-102), 2) := by decide +kernel
theorem dX6_nights_30 : decode cX6_nights 30 = .ok (.ireturn, 1) := by decide +kernel
theorem dX6_nights_31 : decode cX6_nights 31 = .ok (.aload_n 0, 1) := by decide +kernel
theorem dX6_nights_32 : decode cX6_nights 32 = .ok (.invokevirtual 151, 3) := by decide +kernel
theorem dX6_nights_35 : decode cX6_nights 35 = .ok (.ifCond .eq 6, 3) := by decide +kernel
theorem dX6_nights_38 : decode cX6_nights 38 = .ok (.bipush (-103), 2) := by decide +kernel
theorem dX6_nights_40 : decode cX6_nights 40 = .ok (.ireturn, 1) := by decide +kernel
theorem dX6_nights_41 : decode cX6_nights 41 = .ok (.aload_n 0, 1) := by decide +kernel
theorem dX6_nights_42 : decode cX6_nights 42 = .ok (.invokevirtual 139, 3) := by decide +kernel
theorem dX6_nights_45 : decode cX6_nights 45 = .ok (.aload_n 0, 1) := by decide +kernel
theorem dX6_nights_46 : decode cX6_nights 46 = .ok (.iload_n 2, 1) := by decide +kernel
theorem dX6_nights_47 : decode cX6_nights 47 = .ok (.putfield 202, 3) := by decide +kernel
theorem dX6_nights_50 : decode cX6_nights 50 = .ok (.iconst 0, 1) := by decide +kernel
theorem dX6_nights_51 : decode cX6_nights 51 = .ok (.istore 4, 2) := by decide +kernel
theorem dX6_nights_53 : decode cX6_nights 53 = .ok (.iconst 0, 1) := by decide +kernel
theorem dX6_nights_54 : decode cX6_nights 54 = .ok (.istore 5, 2) := by decide +kernel
theorem dX6_nights_56 : decode cX6_nights 56 = .ok (.iload 5, 2) := by decide +kernel
theorem dX6_nights_58 : decode cX6_nights 58 = .ok (.iload_n 1, 1) := by decide +kernel
theorem dX6_nights_59 : decode cX6_nights 59 = .ok (.if_icmp .ge 94, 3) := by decide +kernel
theorem dX6_nights_62 : decode cX6_nights 62 = .ok (.aload_n 0, 1) := by decide +kernel
theorem dX6_nights_63 : decode cX6_nights 63 = .ok (.bipush 6, 2) := by decide +kernel
theorem dX6_nights_65 : decode cX6_nights 65 = .ok (.invokevirtual 214, 3) := by decide +kernel
theorem dX6_nights_68 : decode cX6_nights 68 = .ok (.istore 6, 2) := by decide +kernel
theorem dX6_nights_70 : decode cX6_nights 70 = .ok (.iload 6, 2) := by decide +kernel
theorem dX6_nights_72 : decode cX6_nights 72 = .ok (.ifCond .ne 10, 3) := by decide +kernel
theorem dX6_nights_75 : decode cX6_nights 75 = .ok (.aload_n 0, 1) := by decide +kernel
theorem dX6_nights_76 : decode cX6_nights 76 = .ok (.invokevirtual 158, 3) := by decide +kernel
theorem dX6_nights_79 : decode cX6_nights 79 = .ok (.goto 41, 3) := by decide +kernel
theorem dX6_nights_82 : decode cX6_nights 82 = .ok (.iload 6, 2) := by decide +kernel
theorem dX6_nights_84 : decode cX6_nights 84 = .ok (.iconst 1, 1) := by decide +kernel
theorem dX6_nights_85 : decode cX6_nights 85 = .ok (.if_icmp .ne 19, 3) := by decide +kernel
theorem dX6_nights_88 : decode cX6_nights 88 = .ok (.aload_n 0, 1) := by decide +kernel
theorem dX6_nights_89 : decode cX6_nights 89 = .ok (.aload_n 0, 1) := by decide +kernel
theorem dX6_nights_90 : decode cX6_nights 90 = .ok (.aload_n 0, 1) := by decide +kernel
theorem dX6_nights_91 : decode cX6_nights 91 = .ok (.getfield 84, 3) := by decide +kernel
theorem dX6_nights_94 : decode cX6_nights 94 = .ok (.invokevirtual 214, 3) := by decide +kernel
theorem dX6_nights_97 : decode cX6_nights 97 = .ok (.iconst 2, 1) := by decide +kernel
theorem dX6_nights_98 : decode cX6_nights 98 = .ok (.invokevirtual 142, 3) := by decide +kernel
theorem dX6_nights_101 : decode cX6_nights 101 = .ok (.goto 19, 3) := by decide +kernel
theorem dX6_nights_104 : decode cX6_nights 104 = .ok (.iload 6, 2) := by decide +kernel
theorem dX6_nights_106 : decode cX6_nights 106 = .ok (.iconst 2, 1) := by decide +kernel
theorem dX6_nights_107 : decode cX6_nights 107 = .ok (.if_icmp .ne 13, 3) := by decide +kernel
theorem dX6_nights_110 : decode cX6_nights 110 = .ok (.aload_n 0, 1) := by decide +kernel
theorem dX6_nights_111 : decode cX6_nights 111 = .ok (.aload_n 0, 1) := by decide +kernel
theorem dX6_nights_112 : decode cX6_nights 112 = .ok (.bipush 9, 2) := by decide +kernel
theorem dX6_nights_114 : decode cX6_nights 114 = .ok (.invokevirtual 214, 3) := by decide +kernel
theorem dX6_nights_117 : decode cX6_nights 117 = .ok (.putfield 124, 3) := by decide +kernel
theorem dX6_nights_120 : decode cX6_nights 120 = .ok (.aload_n 0, 1) := by decide +kernel
theorem dX6_nights_121 : decode cX6_nights 121 = .ok (.invokevirtual 136, 3) := by decide +kernel
theorem dX6_nights_124 : decode cX6_nights 124 = .ok (.iload 4, 2) := by decide +kernel
theorem dX6_nights_126 : decode cX6_nights 126 = .ok (.iconst 2, 1) := by decide +kernel
theorem dX6_nights_127 : decode cX6_nights 127 = .ok (.aload_n 0, 1) := by decide +kernel
theorem dX6_nights_128 : decode cX6_nights 128 = .ok (.invokevirtual 155, 3) := by decide +kernel
theorem dX6_nights_131 : decode cX6_nights 131 = .ok (.imul, 1) := by decide +kernel
theorem dX6_nights_132 : decode cX6_nights 132 = .ok (.aload_n 0, 1) := by decide +kernel
theorem dX6_nights_133 : decode cX6_nights 133 = .ok (.invokevirtual 217, 3) := by decide +kernel
theorem dX6_nights_136 : decode cX6_nights 136 = .ok (.if_icmp .le 7, 3) := by decide +kernel
theorem dX6_nights_139 : decode cX6_nights 139 = .ok (.iconst 1, 1) := by decide +kernel
theorem dX6_nights_140 : decode cX6_nights 140 = .ok (.goto 4, 3) := by decide +kernel
theorem dX6_nights_143 : decode cX6_nights 143 = .ok (.iconst 0, 1) := by decide +kernel
theorem dX6_nights_144 : decode cX6_nights 144 = .ok (.iadd, 1) := by decide +kernel
theorem dX6_nights_145 : decode cX6_nights 145 = .ok (.istore 4, 2) := by decide +kernel
theorem dX6_nights_147 : decode cX6_nights 147 = .ok (.iinc 5 1, 3) := by decide +kernel
theorem dX6_nights_150 : decode cX6_nights 150 = .ok (.goto (-94), 3) := by decide +kernel
theorem dX6_nights_153 : decode cX6_nights 153 = .ok (.iload_n 3, 1) := by decide +kernel
theorem dX6_nights_154 : decode cX6_nights 154 = .ok (.ifCond .ne 10, 3) := by decide +kernel
theorem dX6_nights_157 : decode cX6_nights 157 = .ok (.aload_n 0, 1) := by decide +kernel
theorem dX6_nights_158 : decode cX6_nights 158 = .ok (.invokevirtual 155, 3) := by decide +kernel
theorem dX6_nights_161 : decode cX6_nights 161 = .ok (.goto 17, 3) := by decide +kernel
theorem dX6_nights_164 : decode cX6_nights 164 = .ok (.iload_n 3, 1) := by decide +kernel
theorem dX6_nights_165 : decode cX6_nights 165 = .ok (.iconst 1, 1) := by decide +kernel
theorem dX6_nights_166 : decode cX6_nights 166 = .ok (.if_icmp .ne 8, 3) := by decide +kernel
theorem dX6_nights_169 : decode cX6_nights 169 = .ok (.iload 4, 2) := by decide +kernel
theorem dX6_nights_171 : decode cX6_nights 171 = .ok (.goto 7, 3) := by decide +kernel
theorem dX6_nights_174 : decode cX6_nights 174 = .ok (.aload_n 0, 1) := by decide +kernel
theorem dX6_nights_175 : decode cX6_nights 175 = .ok (.getfield 202, 3) := by decide +kernel
theorem dX6_nights_178 : decode cX6_nights 178 = .ok (.ireturn, 1) := by decide +kernel
theorem dX6_copy_0 : decode cX6_copy 0 = .ok (.iconst 0, 1) := by decide +kernel
theorem dX6_copy_1 : decode cX6_copy 1 = .ok (.istore_n 2, 1) := by decide +kernel
theorem dX6_copy_2 : decode cX6_copy 2 = .ok (.iload_n 2, 1) := by decide +kernel
theorem dX6_copy_3 : decode cX6_copy 3 = .ok (.aload_n 0, 1) := by decide +kernel
theorem dX6_copy_4 : decode cX6_copy 4 = .ok (.arraylength, 1) := by decide +kernel
theorem dX6_copy_5 : decode cX6_copy 5 = .ok (.if_icmp .ge 15, 3) := by decide +kernel
theorem dX6_copy_8 : decode cX6_copy 8 = .ok (.aload_n 1, 1) := by decide +kernel
theorem dX6_copy_9 : decode cX6_copy 9 = .ok (.iload_n 2, 1) := by decide +kernel
theorem dX6_copy_10 : decode cX6_copy 10 = .ok (.aload_n 0, 1) := by decide +kernel
theorem dX6_copy_11 : decode cX6_copy 11 = .ok (.iload_n 2, 1) := by decide +kernel
theorem dX6_copy_12 : decode cX6_copy 12 = .ok (.iaload, 1) := by decide +kernel
theorem dX6_copy_13 : decode cX6_copy 13 = .ok (.iastore, 1) := by decide +kernel
theorem dX6_copy_14 : decode cX6_copy 14 = .ok (.iinc 2 1, 3) := by decide +kernel
theorem dX6_copy_17 : decode cX6_copy 17 = .ok (.goto (-15), 3) := by decide +kernel
theorem dX6_copy_20 : decode cX6_copy 20 = .ok (.return_, 1) := by decide +kernel
set_option maxRecDepth 20000 in
theorem ggX6_image_X6_lacks : GoodIn wsX6_image wsX6_lacks := goodIn_r _ [21, 22, 26, 27, 28, 29, 30, 31, 32, 33, 34, 35, 36, 37, 38, 39, 40, 41, 42, 43, 44, 45, 46, 47, 48, 49, 50, 51, 52, 53, 54, 55, 56, 57, 58] (by decide +kernel) (by decide +kernel)
set_option maxRecDepth 20000 in
theorem gX6_image_X6_lacks : GoodIn wsX6_image (wsV RX6 151 RX6 yX6_lacks wsX6_lacks) := goodIn_app (goodIn_of _ (by decide +kernel)) ggX6_image_X6_lacks
set_option maxRecDepth 20000 in
theorem ggX6_image_X6_copy : GoodIn wsX6_image wsX6_copy := goodIn_r _ [25] (by decide +kernel) (by decide +kernel)
set_option maxRecDepth 20000 in
theorem gX6_image_X6_copy : GoodIn wsX6_image (va_wsS RX6 220 yX6_copy wsX6_copy) := goodIn_app (goodIn_of _ (by decide +kernel)) ggX6_image_X6_copy
theorem dX6_image_0 : decode cX6_image 0 = .ok (.aload_n 0, 1) := by decide +kernel
theorem dX6_image_1 : decode cX6_image 1 = .ok (.invokevirtual 151, 3) := by decide +kernel
theorem dX6_image_4 : decode cX6_image 4 = .ok (.ifCond .eq 6, 3) := by decide +kernel
theorem dX6_image_7 : decode cX6_image 7 = .ok (.bipush (-103), 2) := by decide +kernel
theorem dX6_image_9 : decode cX6_image 9 = .ok (.ireturn, 1) := by decide +kernel
theorem dX6_image_10 : decode cX6_image 10 = .ok (.aload_n 0, 1) := by decide +kernel
theorem dX6_image_11 : decode cX6_image 11 = .ok (.getfield 19, 3) := by decide +kernel
theorem dX6_image_14 : decode cX6_image 14 = .ok (.aload_n 0, 1) := by decide +kernel
theorem dX6_image_15 : decode cX6_image 15 = .ok (.getfield 37, 3) := by decide +kernel
theorem dX6_image_18 : decode cX6_image 18 = .ok (.invokestatic 220, 3) := by decide +kernel
theorem dX6_image_21 : decode cX6_image 21 = .ok (.aload_n 0, 1) := by decide +kernel
theorem dX6_image_22 : decode cX6_image 22 = .ok (.getfield 22, 3) := by decide +kernel
theorem dX6_image_25 : decode cX6_image 25 = .ok (.aload_n 0, 1) := by decide +kernel
theorem dX6_image_26 : decode cX6_image 26 = .ok (.getfield 40, 3) := by decide +kernel
theorem dX6_image_29 : decode cX6_image 29 = .ok (.invokestatic 220, 3) := by decide +kernel
theorem dX6_image_32 : decode cX6_image 32 = .ok (.aload_n 0, 1) := by decide +kernel
theorem dX6_image_33 : decode cX6_image 33 = .ok (.getfield 34, 3) := by decide +kernel
theorem dX6_image_36 : decode cX6_image 36 = .ok (.aload_n 0, 1) := by decide +kernel
theorem dX6_image_37 : decode cX6_image 37 = .ok (.getfield 43, 3) := by decide +kernel
theorem dX6_image_40 : decode cX6_image 40 = .ok (.invokestatic 220, 3) := by decide +kernel
theorem dX6_image_43 : decode cX6_image 43 = .ok (.aload_n 0, 1) := by decide +kernel
theorem dX6_image_44 : decode cX6_image 44 = .ok (.aload_n 0, 1) := by decide +kernel
theorem dX6_image_45 : decode cX6_image 45 = .ok (.getfield 90, 3) := by decide +kernel
theorem dX6_image_48 : decode cX6_image 48 = .ok (.putfield 224, 3) := by decide +kernel
theorem dX6_image_51 : decode cX6_image 51 = .ok (.aload_n 0, 1) := by decide +kernel
theorem dX6_image_52 : decode cX6_image 52 = .ok (.aload_n 0, 1) := by decide +kernel
theorem dX6_image_53 : decode cX6_image 53 = .ok (.getfield 93, 3) := by decide +kernel
theorem dX6_image_56 : decode cX6_image 56 = .ok (.putfield 227, 3) := by decide +kernel
theorem dX6_image_59 : decode cX6_image 59 = .ok (.aload_n 0, 1) := by decide +kernel
theorem dX6_image_60 : decode cX6_image 60 = .ok (.aload_n 0, 1) := by decide +kernel
theorem dX6_image_61 : decode cX6_image 61 = .ok (.getfield 96, 3) := by decide +kernel
theorem dX6_image_64 : decode cX6_image 64 = .ok (.putfield 230, 3) := by decide +kernel
theorem dX6_image_67 : decode cX6_image 67 = .ok (.aload_n 0, 1) := by decide +kernel
theorem dX6_image_68 : decode cX6_image 68 = .ok (.aload_n 0, 1) := by decide +kernel
theorem dX6_image_69 : decode cX6_image 69 = .ok (.getfield 99, 3) := by decide +kernel
theorem dX6_image_72 : decode cX6_image 72 = .ok (.putfield 233, 3) := by decide +kernel
theorem dX6_image_75 : decode cX6_image 75 = .ok (.aload_n 0, 1) := by decide +kernel
theorem dX6_image_76 : decode cX6_image 76 = .ok (.aload_n 0, 1) := by decide +kernel
theorem dX6_image_77 : decode cX6_image 77 = .ok (.getfield 102, 3) := by decide +kernel
theorem dX6_image_80 : decode cX6_image 80 = .ok (.putfield 46, 3) := by decide +kernel
theorem dX6_image_83 : decode cX6_image 83 = .ok (.aload_n 0, 1) := by decide +kernel
theorem dX6_image_84 : decode cX6_image 84 = .ok (.getfield 93, 3) := by decide +kernel
theorem dX6_image_87 : decode cX6_image 87 = .ok (.ireturn, 1) := by decide +kernel
set_option maxRecDepth 20000 in
theorem ggX6_restore_X6_copy : GoodIn wsX6_restore wsX6_copy := goodIn_r _ [20] (by decide +kernel) (by decide +kernel)
set_option maxRecDepth 20000 in
theorem gX6_restore_X6_copy : GoodIn wsX6_restore (va_wsS RX6 220 yX6_copy wsX6_copy) := goodIn_app (goodIn_of _ (by decide +kernel)) ggX6_restore_X6_copy
theorem dX6_restore_0 : decode cX6_restore 0 = .ok (.aload_n 0, 1) := by decide +kernel
theorem dX6_restore_1 : decode cX6_restore 1 = .ok (.getfield 46, 3) := by decide +kernel
theorem dX6_restore_4 : decode cX6_restore 4 = .ok (.aload_n 0, 1) := by decide +kernel
theorem dX6_restore_5 : decode cX6_restore 5 = .ok (.getfield 102, 3) := by decide +kernel
theorem dX6_restore_8 : decode cX6_restore 8 = .ok (.if_icmp .eq 6, 3) := by decide +kernel
theorem dX6_restore_11 : decode cX6_restore 11 = .ok (.bipush (-103), 2) := by decide +kernel
theorem dX6_restore_13 : decode cX6_restore 13 = .ok (.ireturn, 1) := by decide +kernel
theorem dX6_restore_14 : decode cX6_restore 14 = .ok (.aload_n 0, 1) := by decide +kernel
theorem dX6_restore_15 : decode cX6_restore 15 = .ok (.getfield 37, 3) := by decide +kernel
theorem dX6_restore_18 : decode cX6_restore 18 = .ok (.aload_n 0, 1) := by decide +kernel
theorem dX6_restore_19 : decode cX6_restore 19 = .ok (.getfield 19, 3) := by decide +kernel
theorem dX6_restore_22 : decode cX6_restore 22 = .ok (.invokestatic 220, 3) := by decide +kernel
theorem dX6_restore_25 : decode cX6_restore 25 = .ok (.aload_n 0, 1) := by decide +kernel
theorem dX6_restore_26 : decode cX6_restore 26 = .ok (.getfield 40, 3) := by decide +kernel
theorem dX6_restore_29 : decode cX6_restore 29 = .ok (.aload_n 0, 1) := by decide +kernel
theorem dX6_restore_30 : decode cX6_restore 30 = .ok (.getfield 22, 3) := by decide +kernel
theorem dX6_restore_33 : decode cX6_restore 33 = .ok (.invokestatic 220, 3) := by decide +kernel
theorem dX6_restore_36 : decode cX6_restore 36 = .ok (.aload_n 0, 1) := by decide +kernel
theorem dX6_restore_37 : decode cX6_restore 37 = .ok (.getfield 43, 3) := by decide +kernel
theorem dX6_restore_40 : decode cX6_restore 40 = .ok (.aload_n 0, 1) := by decide +kernel
theorem dX6_restore_41 : decode cX6_restore 41 = .ok (.getfield 34, 3) := by decide +kernel
theorem dX6_restore_44 : decode cX6_restore 44 = .ok (.invokestatic 220, 3) := by decide +kernel
theorem dX6_restore_47 : decode cX6_restore 47 = .ok (.aload_n 0, 1) := by decide +kernel
theorem dX6_restore_48 : decode cX6_restore 48 = .ok (.aload_n 0, 1) := by decide +kernel
theorem dX6_restore_49 : decode cX6_restore 49 = .ok (.getfield 224, 3) := by decide +kernel
theorem dX6_restore_52 : decode cX6_restore 52 = .ok (.putfield 90, 3) := by decide +kernel
theorem dX6_restore_55 : decode cX6_restore 55 = .ok (.aload_n 0, 1) := by decide +kernel
theorem dX6_restore_56 : decode cX6_restore 56 = .ok (.aload_n 0, 1) := by decide +kernel
theorem dX6_restore_57 : decode cX6_restore 57 = .ok (.getfield 227, 3) := by decide +kernel
theorem dX6_restore_60 : decode cX6_restore 60 = .ok (.putfield 93, 3) := by decide +kernel
theorem dX6_restore_63 : decode cX6_restore 63 = .ok (.aload_n 0, 1) := by decide +kernel
theorem dX6_restore_64 : decode cX6_restore 64 = .ok (.aload_n 0, 1) := by decide +kernel
theorem dX6_restore_65 : decode cX6_restore 65 = .ok (.getfield 230, 3) := by decide +kernel
theorem dX6_restore_68 : decode cX6_restore 68 = .ok (.putfield 96, 3) := by decide +kernel
theorem dX6_restore_71 : decode cX6_restore 71 = .ok (.aload_n 0, 1) := by decide +kernel
theorem dX6_restore_72 : decode cX6_restore 72 = .ok (.aload_n 0, 1) := by decide +kernel
theorem dX6_restore_73 : decode cX6_restore 73 = .ok (.getfield 233, 3) := by decide +kernel
theorem dX6_restore_76 : decode cX6_restore 76 = .ok (.putfield 99, 3) := by decide +kernel
theorem dX6_restore_79 : decode cX6_restore 79 = .ok (.aload_n 0, 1) := by decide +kernel
theorem dX6_restore_80 : decode cX6_restore 80 = .ok (.getfield 93, 3) := by decide +kernel
theorem dX6_restore_83 : decode cX6_restore 83 = .ok (.ireturn, 1) := by decide +kernel
set_option maxRecDepth 20000 in
theorem ggX6_countOf_X6_palmsAll : GoodIn wsX6_countOf wsX6_palmsAll := goodIn_r _ [15, 1, 16, 30, 31, 32, 33, 34, 35, 36, 37, 38, 39, 40, 41, 42, 43, 44, 45, 46, 47, 48, 49, 50, 51, 52, 53, 54, 55, 56, 57, 58, 59, 60, 61, 62] (by decide +kernel) (by decide +kernel)
set_option maxRecDepth 20000 in
theorem gX6_countOf_X6_palmsAll : GoodIn wsX6_countOf (wsV RX6 217 RX6 yX6_palmsAll wsX6_palmsAll) := goodIn_app (goodIn_of _ (by decide +kernel)) ggX6_countOf_X6_palmsAll
set_option maxRecDepth 20000 in
theorem ggX6_countOf_X6_asItIs : GoodIn wsX6_countOf wsX6_asItIs := goodIn_r _ [20, 21, 22, 23, 24, 3, 25, 30, 31, 32, 33, 34, 35, 36, 37, 38, 39, 40, 41, 42, 43, 44, 45, 46, 47, 48, 49, 50, 51, 52, 53, 54, 55, 56, 57, 58, 59, 60, 61, 62] (by decide +kernel) (by decide +kernel)
set_option maxRecDepth 20000 in
theorem gX6_countOf_X6_asItIs : GoodIn wsX6_countOf (wsV RX6 139 RX6 yX6_asItIs wsX6_asItIs) := goodIn_app (goodIn_of _ (by decide +kernel)) ggX6_countOf_X6_asItIs
set_option maxRecDepth 20000 in
theorem ggX6_countOf_X6_rightNow : GoodIn wsX6_countOf wsX6_rightNow := goodIn_r _ [29, 1, 21, 16, 30, 31, 32, 33, 34, 35, 36, 37, 38, 39, 40, 41, 42, 43, 44, 45, 46, 47, 48, 49, 50, 51, 52, 53, 54, 55, 56, 57, 58, 59, 60, 61, 62] (by decide +kernel) (by decide +kernel)
set_option maxRecDepth 20000 in
theorem gX6_countOf_X6_rightNow : GoodIn wsX6_countOf (wsV RX6 155 RX6 yX6_rightNow wsX6_rightNow) := goodIn_app (goodIn_of _ (by decide +kernel)) ggX6_countOf_X6_rightNow
theorem dX6_countOf_0 : decode cX6_countOf 0 = .ok (.iload_n 1, 1) := by decide +kernel
theorem dX6_countOf_1 : decode cX6_countOf 1 = .ok (.tableswitch 127 0 11 #[63, 68, 73, 78, 87, 92, 97, 102, 107, 112, 117, 122], 63) := by decide +kernel
theorem dX6_countOf_64 : decode cX6_countOf 64 = .ok (.aload_n 0, 1) := by decide +kernel
theorem dX6_countOf_65 : decode cX6_countOf 65 = .ok (.getfield 84, 3) := by decide +kernel
theorem dX6_countOf_68 : decode cX6_countOf 68 = .ok (.ireturn, 1) := by decide +kernel
theorem dX6_countOf_69 : decode cX6_countOf 69 = .ok (.aload_n 0, 1) := by decide +kernel
theorem dX6_countOf_70 : decode cX6_countOf 70 = .ok (.getfield 87, 3) := by decide +kernel
theorem dX6_countOf_73 : decode cX6_countOf 73 = .ok (.ireturn, 1) := by decide +kernel
theorem dX6_countOf_74 : decode cX6_countOf 74 = .ok (.aload_n 0, 1) := by decide +kernel
theorem dX6_countOf_75 : decode cX6_countOf 75 = .ok (.invokevirtual 217, 3) := by decide +kernel
theorem dX6_countOf_78 : decode cX6_countOf 78 = .ok (.ireturn, 1) := by decide +kernel
theorem dX6_countOf_79 : decode cX6_countOf 79 = .ok (.aload_n 0, 1) := by decide +kernel
theorem dX6_countOf_80 : decode cX6_countOf 80 = .ok (.invokevirtual 139, 3) := by decide +kernel
theorem dX6_countOf_83 : decode cX6_countOf 83 = .ok (.aload_n 0, 1) := by decide +kernel
theorem dX6_countOf_84 : decode cX6_countOf 84 = .ok (.invokevirtual 155, 3) := by decide +kernel
theorem dX6_countOf_87 : decode cX6_countOf 87 = .ok (.ireturn, 1) := by decide +kernel
theorem dX6_countOf_88 : decode cX6_countOf 88 = .ok (.aload_n 0, 1) := by decide +kernel
theorem dX6_countOf_89 : decode cX6_countOf 89 = .ok (.getfield 90, 3) := by decide +kernel
theorem dX6_countOf_92 : decode cX6_countOf 92 = .ok (.ireturn, 1) := by decide +kernel
theorem dX6_countOf_93 : decode cX6_countOf 93 = .ok (.aload_n 0, 1) := by decide +kernel
theorem dX6_countOf_94 : decode cX6_countOf 94 = .ok (.getfield 93, 3) := by decide +kernel
theorem dX6_countOf_97 : decode cX6_countOf 97 = .ok (.ireturn, 1) := by decide +kernel
theorem dX6_countOf_98 : decode cX6_countOf 98 = .ok (.aload_n 0, 1) := by decide +kernel
theorem dX6_countOf_99 : decode cX6_countOf 99 = .ok (.getfield 96, 3) := by decide +kernel
theorem dX6_countOf_102 : decode cX6_countOf 102 = .ok (.ireturn, 1) := by decide +kernel
theorem dX6_countOf_103 : decode cX6_countOf 103 = .ok (.aload_n 0, 1) := by decide +kernel
theorem dX6_countOf_104 : decode cX6_countOf 104 = .ok (.getfield 99, 3) := by decide +kernel
theorem dX6_countOf_107 : decode cX6_countOf 107 = .ok (.ireturn, 1) := by decide +kernel
theorem dX6_countOf_108 : decode cX6_countOf 108 = .ok (.aload_n 0, 1) := by decide +kernel
theorem dX6_countOf_109 : decode cX6_countOf 109 = .ok (.getfield 56, 3) := by decide +kernel
theorem dX6_countOf_112 : decode cX6_countOf 112 = .ok (.ireturn, 1) := by decide +kernel
theorem dX6_countOf_113 : decode cX6_countOf 113 = .ok (.aload_n 0, 1) := by decide +kernel
theorem dX6_countOf_114 : decode cX6_countOf 114 = .ok (.getfield 102, 3) := by decide +kernel
theorem dX6_countOf_117 : decode cX6_countOf 117 = .ok (.ireturn, 1) := by decide +kernel
theorem dX6_countOf_118 : decode cX6_countOf 118 = .ok (.aload_n 0, 1) := by decide +kernel
theorem dX6_countOf_119 : decode cX6_countOf 119 = .ok (.getfield 181, 3) := by decide +kernel
theorem dX6_countOf_122 : decode cX6_countOf 122 = .ok (.ireturn, 1) := by decide +kernel
theorem dX6_countOf_123 : decode cX6_countOf 123 = .ok (.aload_n 0, 1) := by decide +kernel
theorem dX6_countOf_124 : decode cX6_countOf 124 = .ok (.getfield 193, 3) := by decide +kernel
theorem dX6_countOf_127 : decode cX6_countOf 127 = .ok (.ireturn, 1) := by decide +kernel
theorem dX6_countOf_128 : decode cX6_countOf 128 = .ok (.bipush (-102), 2) := by decide +kernel
theorem dX6_countOf_130 : decode cX6_countOf 130 = .ok (.ireturn, 1) := by decide +kernel
set_option maxRecDepth 20000 in
theorem ggX6_count_X6_countOf : GoodIn wsX6_count wsX6_countOf := goodIn_r _ [5, 6, 7, 8, 9, 10, 11, 12, 13, 14, 15, 16, 17, 18, 4, 19, 20, 21, 22, 23, 24, 25, 26, 27, 28, 29, 30, 31, 32, 33, 34, 35, 36, 37, 38, 39, 40, 41, 42, 43, 44, 45, 46, 47, 48, 49, 50, 51, 52, 53, 54, 55, 56, 57, 58, 59, 60, 61, 62, 63, 64, 65, 66] (by decide +kernel) (by decide +kernel)
set_option maxRecDepth 20000 in
theorem gX6_count_X6_countOf : GoodIn wsX6_count (wsV RX6 236 RX6 yX6_countOf wsX6_countOf) := goodIn_app (goodIn_of _ (by decide +kernel)) ggX6_count_X6_countOf
theorem dX6_count_0 : decode cX6_count 0 = .ok (.aload_n 0, 1) := by decide +kernel
theorem dX6_count_1 : decode cX6_count 1 = .ok (.iload_n 1, 1) := by decide +kernel
theorem dX6_count_2 : decode cX6_count 2 = .ok (.invokevirtual 236, 3) := by decide +kernel
theorem dX6_count_5 : decode cX6_count 5 = .ok (.ireturn, 1) := by decide +kernel
theorem dX6_say_0 : decode cX6_say 0 = .ok (.aload_n 0, 1) := by decide +kernel
theorem dX6_say_1 : decode cX6_say 1 = .ok (.ldc2_w 239, 3) := by decide +kernel
theorem dX6_say_4 : decode cX6_say 4 = .ok (.aload_n 0, 1) := by decide +kernel
theorem dX6_say_5 : decode cX6_say 5 = .ok (.getfield 241, 3) := by decide +kernel
theorem dX6_say_8 : decode cX6_say 8 = .ok (.lmul, 1) := by decide +kernel
theorem dX6_say_9 : decode cX6_say 9 = .ok (.lload_n 1, 1) := by decide +kernel
theorem dX6_say_10 : decode cX6_say 10 = .ok (.ladd, 1) := by decide +kernel
theorem dX6_say_11 : decode cX6_say 11 = .ok (.putfield 241, 3) := by decide +kernel
theorem dX6_say_14 : decode cX6_say 14 = .ok (.return_, 1) := by decide +kernel
set_option maxRecDepth 20000 in
theorem ggX6_digest_X6_tell : GoodIn wsX6_digest wsX6_tell := goodIn_r _ [10, 11, 12, 13, 14, 15, 16, 17, 9, 18, 19, 20, 21, 22, 23, 24, 25, 26, 27, 110, 111, 112, 113, 114, 115, 116, 117, 118, 119, 120, 121, 122, 123, 124, 125, 126, 127, 128, 129, 130, 131, 132, 133, 134, 135, 136, 137, 138, 139, 140, 141, 142] (by decide +kernel) (by decide +kernel)
set_option maxRecDepth 20000 in
theorem gX6_digest_X6_tell : GoodIn wsX6_digest (wsV RX6 119 RX6 yX6_tell wsX6_tell) := goodIn_app (goodIn_of _ (by decide +kernel)) ggX6_digest_X6_tell
set_option maxRecDepth 20000 in
theorem ggX6_digest_X6_say : GoodIn wsX6_digest wsX6_say := goodIn_r _ [31, 32, 2, 110, 111, 112, 113, 114, 115, 116, 117, 118, 119, 120, 121, 122, 123, 124, 125, 126, 127, 128, 129, 130, 131, 132, 133, 134, 135, 136, 137, 138, 139, 140, 141, 142] (by decide +kernel) (by decide +kernel)
set_option maxRecDepth 20000 in
theorem gX6_digest_X6_say : GoodIn wsX6_digest (wsV RX6 247 RX6 yX6_say wsX6_say) := goodIn_app (goodIn_of _ (by decide +kernel)) ggX6_digest_X6_say
set_option maxRecDepth 20000 in
theorem ggX6_digest_X6_loudOf : GoodIn wsX6_digest wsX6_loudOf := goodIn_r _ [36, 12, 11, 37, 38, 39, 9, 40, 3, 41, 42, 43, 110, 111, 112, 113, 114, 115, 116, 117, 118, 119, 120, 121, 122, 123, 124, 125, 126, 127, 128, 129, 130, 131, 132, 133, 134, 135, 136, 137, 138, 139, 140, 141, 142] (by decide +kernel) (by decide +kernel)
set_option maxRecDepth 20000 in
theorem gX6_digest_X6_loudOf : GoodIn wsX6_digest (wsV RX6 161 RX6 yX6_loudOf wsX6_loudOf) := goodIn_app (goodIn_of _ (by decide +kernel)) ggX6_digest_X6_loudOf
set_option maxRecDepth 20000 in
theorem ggX6_digest_X6_lacks : GoodIn wsX6_digest wsX6_lacks := goodIn_r _ [47, 3, 110, 111, 112, 113, 114, 115, 116, 117, 118, 119, 120, 121, 122, 123, 124, 125, 126, 127, 128, 129, 130, 131, 132, 133, 134, 135, 136, 137, 138, 139, 140, 141, 142] (by decide +kernel) (by decide +kernel)
set_option maxRecDepth 20000 in
theorem gX6_digest_X6_lacks : GoodIn wsX6_digest (wsV RX6 151 RX6 yX6_lacks wsX6_lacks) := goodIn_app (goodIn_of _ (by decide +kernel)) ggX6_digest_X6_lacks
set_option maxRecDepth 20000 in
theorem ggX6_digest_X6_restOf : GoodIn wsX6_digest wsX6_restOf := goodIn_r _ [51, 3, 52, 53, 54, 55, 56, 9, 57, 12, 58, 13, 14, 59, 60, 61, 62, 63, 64, 65, 66, 67, 11, 24, 25, 26, 27, 68, 69, 70, 71, 72, 73, 74, 75, 37, 38, 39, 40, 41, 42, 43, 110, 111, 112, 113, 114, 115, 116, 117, 118, 119, 120, 121, 122, 123, 124, 125, 126, 127, 128, 129, 130, 131, 132, 133, 134, 135, 136, 137, 138, 139, 140, 141, 142] (by decide +kernel) (by decide +kernel)
set_option maxRecDepth 20000 in
theorem gX6_digest_X6_restOf : GoodIn wsX6_digest (wsV RX6 164 RX6 yX6_restOf wsX6_restOf) := goodIn_app (goodIn_of _ (by decide +kernel)) ggX6_digest_X6_restOf
set_option maxRecDepth 20000 in
theorem ggX6_digest_X6_outcomeOf : GoodIn wsX6_digest wsX6_outcomeOf := goodIn_r _ [79, 54, 55, 56, 9, 57, 52, 12, 58, 13, 14, 59, 80, 81, 82, 83, 60, 61, 62, 63, 53, 3, 64, 65, 66, 67, 11, 24, 25, 26, 27, 68, 69, 70, 71, 72, 73, 74, 75, 37, 38, 39, 40, 41, 42, 43, 84, 85, 86, 87, 110, 111, 112, 113, 114, 115, 116, 117, 118, 119, 120, 121, 122, 123, 124, 125, 126, 127, 128, 129, 130, 131, 132, 133, 134, 135, 136, 137, 138, 139, 140, 141, 142] (by decide +kernel) (by decide +kernel)
set_option maxRecDepth 20000 in
theorem gX6_digest_X6_outcomeOf : GoodIn wsX6_digest (wsV RX6 173 RX6 yX6_outcomeOf wsX6_outcomeOf) := goodIn_app (goodIn_of _ (by decide +kernel)) ggX6_digest_X6_outcomeOf
set_option maxRecDepth 20000 in
theorem ggX6_digest_X6_trickOf : GoodIn wsX6_digest wsX6_trickOf := goodIn_r _ [91, 76, 77, 78, 9, 79, 54, 55, 56, 57, 52, 12, 58, 13, 14, 59, 80, 81, 82, 83, 60, 61, 62, 63, 53, 3, 64, 65, 66, 67, 11, 24, 25, 26, 27, 68, 69, 70, 71, 72, 73, 74, 75, 37, 38, 39, 40, 41, 42, 43, 84, 85, 86, 87, 92, 93, 94, 95, 110, 111, 112, 113, 114, 115, 116, 117, 118, 119, 120, 121, 122, 123, 124, 125, 126, 127, 128, 129, 130, 131, 132, 133, 134, 135, 136, 137, 138, 139, 140, 141, 142] (by decide +kernel) (by decide +kernel)
set_option maxRecDepth 20000 in
theorem gX6_digest_X6_trickOf : GoodIn wsX6_digest (wsV RX6 178 RX6 yX6_trickOf wsX6_trickOf) := goodIn_app (goodIn_of _ (by decide +kernel)) ggX6_digest_X6_trickOf
set_option maxRecDepth 20000 in
theorem ggX6_digest_X6_countOf : GoodIn wsX6_digest wsX6_countOf := goodIn_r _ [99, 3, 19, 14, 100, 101, 102, 4, 103, 104, 105, 106, 107, 108, 9, 109, 11, 54, 55, 56, 57, 52, 12, 58, 13, 59, 84, 85, 86, 87, 110, 111, 112, 113, 114, 115, 116, 117, 118, 119, 120, 121, 122, 123, 124, 125, 126, 127, 128, 129, 130, 131, 132, 133, 134, 135, 136, 137, 138, 139, 140, 141, 142] (by decide +kernel) (by decide +kernel)
set_option maxRecDepth 20000 in
theorem gX6_digest_X6_countOf : GoodIn wsX6_digest (wsV RX6 236 RX6 yX6_countOf wsX6_countOf) := goodIn_app (goodIn_of _ (by decide +kernel)) ggX6_digest_X6_countOf
theorem dX6_digest_0 : decode cX6_digest 0 = .ok (.aload_n 0, 1) := by decide +kernel
theorem dX6_digest_1 : decode cX6_digest 1 = .ok (.ldc2_w 245, 3) := by decide +kernel
theorem dX6_digest_4 : decode cX6_digest 4 = .ok (.putfield 241, 3) := by decide +kernel
theorem dX6_digest_7 : decode cX6_digest 7 = .ok (.iconst 0, 1) := by decide +kernel
theorem dX6_digest_8 : decode cX6_digest 8 = .ok (.istore_n 1, 1) := by decide +kernel
theorem dX6_digest_9 : decode cX6_digest 9 = .ok (.iload_n 1, 1) := by decide +kernel
theorem dX6_digest_10 : decode cX6_digest 10 = .ok (.aload_n 0, 1) := by decide +kernel
theorem dX6_digest_11 : decode cX6_digest 11 = .ok (.getfield 84, 3) := by decide +kernel
theorem dX6_digest_14 : decode cX6_digest 14 = .ok (.if_icmp .ge 58, 3) := by decide +kernel
theorem dX6_digest_17 : decode cX6_digest 17 = .ok (.iconst 0, 1) := by decide +kernel
theorem dX6_digest_18 : decode cX6_digest 18 = .ok (.istore_n 2, 1) := by decide +kernel
theorem dX6_digest_19 : decode cX6_digest 19 = .ok (.iload_n 2, 1) := by decide +kernel
theorem dX6_digest_20 : decode cX6_digest 20 = .ok (.bipush 9, 2) := by decide +kernel
theorem dX6_digest_22 : decode cX6_digest 22 = .ok (.if_icmp .ge 20, 3) := by decide +kernel
theorem dX6_digest_25 : decode cX6_digest 25 = .ok (.aload_n 0, 1) := by decide +kernel
theorem dX6_digest_26 : decode cX6_digest 26 = .ok (.aload_n 0, 1) := by decide +kernel
theorem dX6_digest_27 : decode cX6_digest 27 = .ok (.iload_n 1, 1) := by decide +kernel
theorem dX6_digest_28 : decode cX6_digest 28 = .ok (.iload_n 2, 1) := by decide +kernel
theorem dX6_digest_29 : decode cX6_digest 29 = .ok (.invokevirtual 119, 3) := by decide +kernel
theorem dX6_digest_32 : decode cX6_digest 32 = .ok (.i2l, 1) := by decide +kernel
theorem dX6_digest_33 : decode cX6_digest 33 = .ok (.invokevirtual 247, 3) := by decide +kernel
theorem dX6_digest_36 : decode cX6_digest 36 = .ok (.iinc 2 1, 3) := by decide +kernel
theorem dX6_digest_39 : decode cX6_digest 39 = .ok (.goto (-20), 3) := by decide +kernel
theorem dX6_digest_42 : decode cX6_digest 42 = .ok (.iconst 0, 1) := by decide +kernel
theorem dX6_digest_43 : decode cX6_digest 43 = .ok (.istore_n 2, 1) := by decide +kernel
theorem dX6_digest_44 : decode cX6_digest 44 = .ok (.iload_n 2, 1) := by decide +kernel
theorem dX6_digest_45 : decode cX6_digest 45 = .ok (.iconst 4, 1) := by decide +kernel
theorem dX6_digest_46 : decode cX6_digest 46 = .ok (.if_icmp .ge 20, 3) := by decide +kernel
theorem dX6_digest_49 : decode cX6_digest 49 = .ok (.aload_n 0, 1) := by decide +kernel
theorem dX6_digest_50 : decode cX6_digest 50 = .ok (.aload_n 0, 1) := by decide +kernel
theorem dX6_digest_51 : decode cX6_digest 51 = .ok (.iload_n 1, 1) := by decide +kernel
theorem dX6_digest_52 : decode cX6_digest 52 = .ok (.iload_n 2, 1) := by decide +kernel
theorem dX6_digest_53 : decode cX6_digest 53 = .ok (.invokevirtual 161, 3) := by decide +kernel
theorem dX6_digest_56 : decode cX6_digest 56 = .ok (.i2l, 1) := by decide +kernel
theorem dX6_digest_57 : decode cX6_digest 57 = .ok (.invokevirtual 247, 3) := by decide +kernel
theorem dX6_digest_60 : decode cX6_digest 60 = .ok (.iinc 2 1, 3) := by decide +kernel
theorem dX6_digest_63 : decode cX6_digest 63 = .ok (.goto (-19), 3) := by decide +kernel
theorem dX6_digest_66 : decode cX6_digest 66 = .ok (.iinc 1 1, 3) := by decide +kernel
theorem dX6_digest_69 : decode cX6_digest 69 = .ok (.goto (-60), 3) := by decide +kernel
theorem dX6_digest_72 : decode cX6_digest 72 = .ok (.aload_n 0, 1) := by decide +kernel
theorem dX6_digest_73 : decode cX6_digest 73 = .ok (.invokevirtual 151, 3) := by decide +kernel
theorem dX6_digest_76 : decode cX6_digest 76 = .ok (.ifCond .ne 44, 3) := by decide +kernel
theorem dX6_digest_79 : decode cX6_digest 79 = .ok (.aload_n 0, 1) := by decide +kernel
theorem dX6_digest_80 : decode cX6_digest 80 = .ok (.aload_n 0, 1) := by decide +kernel
theorem dX6_digest_81 : decode cX6_digest 81 = .ok (.invokevirtual 164, 3) := by decide +kernel
theorem dX6_digest_84 : decode cX6_digest 84 = .ok (.i2l, 1) := by decide +kernel
theorem dX6_digest_85 : decode cX6_digest 85 = .ok (.invokevirtual 247, 3) := by decide +kernel
theorem dX6_digest_88 : decode cX6_digest 88 = .ok (.aload_n 0, 1) := by decide +kernel
theorem dX6_digest_89 : decode cX6_digest 89 = .ok (.aload_n 0, 1) := by decide +kernel
theorem dX6_digest_90 : decode cX6_digest 90 = .ok (.iconst 4, 1) := by decide +kernel
theorem dX6_digest_91 : decode cX6_digest 91 = .ok (.invokevirtual 173, 3) := by decide +kernel
theorem dX6_digest_94 : decode cX6_digest 94 = .ok (.i2l, 1) := by decide +kernel
theorem dX6_digest_95 : decode cX6_digest 95 = .ok (.invokevirtual 247, 3) := by decide +kernel
theorem dX6_digest_98 : decode cX6_digest 98 = .ok (.aload_n 0, 1) := by decide +kernel
theorem dX6_digest_99 : decode cX6_digest 99 = .ok (.aload_n 0, 1) := by decide +kernel
theorem dX6_digest_100 : decode cX6_digest 100 = .ok (.iconst 4, 1) := by decide +kernel
theorem dX6_digest_101 : decode cX6_digest 101 = .ok (.iconst 0, 1) := by decide +kernel
theorem dX6_digest_102 : decode cX6_digest 102 = .ok (.invokevirtual 178, 3) := by decide +kernel
theorem dX6_digest_105 : decode cX6_digest 105 = .ok (.i2l, 1) := by decide +kernel
theorem dX6_digest_106 : decode cX6_digest 106 = .ok (.invokevirtual 247, 3) := by decide +kernel
theorem dX6_digest_109 : decode cX6_digest 109 = .ok (.aload_n 0, 1) := by decide +kernel
theorem dX6_digest_110 : decode cX6_digest 110 = .ok (.aload_n 0, 1) := by decide +kernel
theorem dX6_digest_111 : decode cX6_digest 111 = .ok (.iconst 4, 1) := by decide +kernel
theorem dX6_digest_112 : decode cX6_digest 112 = .ok (.iconst 1, 1) := by decide +kernel
theorem dX6_digest_113 : decode cX6_digest 113 = .ok (.invokevirtual 178, 3) := by decide +kernel
theorem dX6_digest_116 : decode cX6_digest 116 = .ok (.i2l, 1) := by decide +kernel
theorem dX6_digest_117 : decode cX6_digest 117 = .ok (.invokevirtual 247, 3) := by decide +kernel
theorem dX6_digest_120 : decode cX6_digest 120 = .ok (.iconst 0, 1) := by decide +kernel
theorem dX6_digest_121 : decode cX6_digest 121 = .ok (.istore_n 1, 1) := by decide +kernel
theorem dX6_digest_122 : decode cX6_digest 122 = .ok (.iload_n 1, 1) := by decide +kernel
theorem dX6_digest_123 : decode cX6_digest 123 = .ok (.aload_n 0, 1) := by decide +kernel
theorem dX6_digest_124 : decode cX6_digest 124 = .ok (.getfield 56, 3) := by decide +kernel
theorem dX6_digest_127 : decode cX6_digest 127 = .ok (.if_icmp .ge 20, 3) := by decide +kernel
theorem dX6_digest_130 : decode cX6_digest 130 = .ok (.aload_n 0, 1) := by decide +kernel
theorem dX6_digest_131 : decode cX6_digest 131 = .ok (.aload_n 0, 1) := by decide +kernel
theorem dX6_digest_132 : decode cX6_digest 132 = .ok (.getfield 7, 3) := by decide +kernel
theorem dX6_digest_135 : decode cX6_digest 135 = .ok (.iload_n 1, 1) := by decide +kernel
theorem dX6_digest_136 : decode cX6_digest 136 = .ok (.iaload, 1) := by decide +kernel
theorem dX6_digest_137 : decode cX6_digest 137 = .ok (.i2l, 1) := by decide +kernel
theorem dX6_digest_138 : decode cX6_digest 138 = .ok (.invokevirtual 247, 3) := by decide +kernel
theorem dX6_digest_141 : decode cX6_digest 141 = .ok (.iinc 1 1, 3) := by decide +kernel
theorem dX6_digest_144 : decode cX6_digest 144 = .ok (.goto (-22), 3) := by decide +kernel
theorem dX6_digest_147 : decode cX6_digest 147 = .ok (.iconst 0, 1) := by decide +kernel
theorem dX6_digest_148 : decode cX6_digest 148 = .ok (.istore_n 1, 1) := by decide +kernel
theorem dX6_digest_149 : decode cX6_digest 149 = .ok (.iload_n 1, 1) := by decide +kernel
theorem dX6_digest_150 : decode cX6_digest 150 = .ok (.bipush 12, 2) := by decide +kernel
theorem dX6_digest_152 : decode cX6_digest 152 = .ok (.if_icmp .ge 19, 3) := by decide +kernel
theorem dX6_digest_155 : decode cX6_digest 155 = .ok (.aload_n 0, 1) := by decide +kernel
theorem dX6_digest_156 : decode cX6_digest 156 = .ok (.aload_n 0, 1) := by decide +kernel
theorem dX6_digest_157 : decode cX6_digest 157 = .ok (.iload_n 1, 1) := by decide +kernel
theorem dX6_digest_158 : decode cX6_digest 158 = .ok (.invokevirtual 236, 3) := by decide +kernel
theorem dX6_digest_161 : decode cX6_digest 161 = .ok (.i2l, 1) := by decide +kernel
theorem dX6_digest_162 : decode cX6_digest 162 = .ok (.invokevirtual 247, 3) := by decide +kernel
theorem dX6_digest_165 : decode cX6_digest 165 = .ok (.iinc 1 1, 3) := by decide +kernel
theorem dX6_digest_168 : decode cX6_digest 168 = .ok (.goto (-19), 3) := by decide +kernel
theorem dX6_digest_171 : decode cX6_digest 171 = .ok (.aload_n 0, 1) := by decide +kernel
theorem dX6_digest_172 : decode cX6_digest 172 = .ok (.getfield 241, 3) := by decide +kernel
theorem dX6_digest_175 : decode cX6_digest 175 = .ok (.lreturn, 1) := by decide +kernel
theorem dJ11_isValidCodePoint_9a6ad_0 : decode cJ11_isValidCodePoint_9a6ad 0 = .ok (.iload_n 0, 1) := by decide +kernel
theorem dJ11_isValidCodePoint_9a6ad_1 : decode cJ11_isValidCodePoint_9a6ad 1 = .ok (.bipush 16, 2) := by decide +kernel
theorem dJ11_isValidCodePoint_9a6ad_3 : decode cJ11_isValidCodePoint_9a6ad 3 = .ok (.iushr, 1) := by decide +kernel
theorem dJ11_isValidCodePoint_9a6ad_4 : decode cJ11_isValidCodePoint_9a6ad 4 = .ok (.istore_n 1, 1) := by decide +kernel
theorem dJ11_isValidCodePoint_9a6ad_5 : decode cJ11_isValidCodePoint_9a6ad 5 = .ok (.iload_n 1, 1) := by decide +kernel
theorem dJ11_isValidCodePoint_9a6ad_6 : decode cJ11_isValidCodePoint_9a6ad 6 = .ok (.bipush 17, 2) := by decide +kernel
theorem dJ11_isValidCodePoint_9a6ad_8 : decode cJ11_isValidCodePoint_9a6ad 8 = .ok (.if_icmp .ge 7, 3) := by decide +kernel
theorem dJ11_isValidCodePoint_9a6ad_11 : decode cJ11_isValidCodePoint_9a6ad 11 = .ok (.iconst 1, 1) := by decide +kernel
theorem dJ11_isValidCodePoint_9a6ad_12 : decode cJ11_isValidCodePoint_9a6ad 12 = .ok (.goto 4, 3) := by decide +kernel
theorem dJ11_isValidCodePoint_9a6ad_15 : decode cJ11_isValidCodePoint_9a6ad 15 = .ok (.iconst 0, 1) := by decide +kernel
theorem dJ11_isValidCodePoint_9a6ad_16 : decode cJ11_isValidCodePoint_9a6ad 16 = .ok (.ireturn, 1) := by decide +kernel
theorem dJ11_highSurrogate_5068e_0 : decode cJ11_highSurrogate_5068e 0 = .ok (.iload_n 0, 1) := by decide +kernel
theorem dJ11_highSurrogate_5068e_1 : decode cJ11_highSurrogate_5068e 1 = .ok (.bipush 10, 2) := by decide +kernel
theorem dJ11_highSurrogate_5068e_3 : decode cJ11_highSurrogate_5068e 3 = .ok (.iushr, 1) := by decide +kernel
theorem dJ11_highSurrogate_5068e_4 : decode cJ11_highSurrogate_5068e 4 = .ok (.ldc 110, 2) := by decide +kernel
theorem dJ11_highSurrogate_5068e_6 : decode cJ11_highSurrogate_5068e 6 = .ok (.iadd, 1) := by decide +kernel
theorem dJ11_highSurrogate_5068e_7 : decode cJ11_highSurrogate_5068e 7 = .ok (.i2c, 1) := by decide +kernel
theorem dJ11_highSurrogate_5068e_8 : decode cJ11_highSurrogate_5068e 8 = .ok (.ireturn, 1) := by decide +kernel
theorem dJ11_lowSurrogate_5068e_0 : decode cJ11_lowSurrogate_5068e 0 = .ok (.iload_n 0, 1) := by decide +kernel
theorem dJ11_lowSurrogate_5068e_1 : decode cJ11_lowSurrogate_5068e 1 = .ok (.sipush 1023, 3) := by decide +kernel
theorem dJ11_lowSurrogate_5068e_4 : decode cJ11_lowSurrogate_5068e 4 = .ok (.iand, 1) := by decide +kernel
theorem dJ11_lowSurrogate_5068e_5 : decode cJ11_lowSurrogate_5068e 5 = .ok (.ldc 76, 2) := by decide +kernel
theorem dJ11_lowSurrogate_5068e_7 : decode cJ11_lowSurrogate_5068e 7 = .ok (.iadd, 1) := by decide +kernel
theorem dJ11_lowSurrogate_5068e_8 : decode cJ11_lowSurrogate_5068e 8 = .ok (.i2c, 1) := by decide +kernel
theorem dJ11_lowSurrogate_5068e_9 : decode cJ11_lowSurrogate_5068e 9 = .ok (.ireturn, 1) := by decide +kernel
theorem dJ6_bitCount_0f7a4_0 : decode cJ6_bitCount_0f7a4 0 = .ok (.iload_n 0, 1) := by decide +kernel
theorem dJ6_bitCount_0f7a4_1 : decode cJ6_bitCount_0f7a4 1 = .ok (.iload_n 0, 1) := by decide +kernel
theorem dJ6_bitCount_0f7a4_2 : decode cJ6_bitCount_0f7a4 2 = .ok (.iconst 1, 1) := by decide +kernel
theorem dJ6_bitCount_0f7a4_3 : decode cJ6_bitCount_0f7a4 3 = .ok (.iushr, 1) := by decide +kernel
theorem dJ6_bitCount_0f7a4_4 : decode cJ6_bitCount_0f7a4 4 = .ok (.ldc_w 265, 3) := by decide +kernel
theorem dJ6_bitCount_0f7a4_7 : decode cJ6_bitCount_0f7a4 7 = .ok (.iand, 1) := by decide +kernel
theorem dJ6_bitCount_0f7a4_8 : decode cJ6_bitCount_0f7a4 8 = .ok (.isub, 1) := by decide +kernel
theorem dJ6_bitCount_0f7a4_9 : decode cJ6_bitCount_0f7a4 9 = .ok (.istore_n 0, 1) := by decide +kernel
theorem dJ6_bitCount_0f7a4_10 : decode cJ6_bitCount_0f7a4 10 = .ok (.iload_n 0, 1) := by decide +kernel
theorem dJ6_bitCount_0f7a4_11 : decode cJ6_bitCount_0f7a4 11 = .ok (.ldc_w 266, 3) := by decide +kernel
theorem dJ6_bitCount_0f7a4_14 : decode cJ6_bitCount_0f7a4 14 = .ok (.iand, 1) := by decide +kernel
theorem dJ6_bitCount_0f7a4_15 : decode cJ6_bitCount_0f7a4 15 = .ok (.iload_n 0, 1) := by decide +kernel
theorem dJ6_bitCount_0f7a4_16 : decode cJ6_bitCount_0f7a4 16 = .ok (.iconst 2, 1) := by decide +kernel
theorem dJ6_bitCount_0f7a4_17 : decode cJ6_bitCount_0f7a4 17 = .ok (.iushr, 1) := by decide +kernel
theorem dJ6_bitCount_0f7a4_18 : decode cJ6_bitCount_0f7a4 18 = .ok (.ldc_w 266, 3) := by decide +kernel
theorem dJ6_bitCount_0f7a4_21 : decode cJ6_bitCount_0f7a4 21 = .ok (.iand, 1) := by decide +kernel
theorem dJ6_bitCount_0f7a4_22 : decode cJ6_bitCount_0f7a4 22 = .ok (.iadd, 1) := by decide +kernel
theorem dJ6_bitCount_0f7a4_23 : decode cJ6_bitCount_0f7a4 23 = .ok (.istore_n 0, 1) := by decide +kernel
theorem dJ6_bitCount_0f7a4_24 : decode cJ6_bitCount_0f7a4 24 = .ok (.iload_n 0, 1) := by decide +kernel
theorem dJ6_bitCount_0f7a4_25 : decode cJ6_bitCount_0f7a4 25 = .ok (.iload_n 0, 1) := by decide +kernel
theorem dJ6_bitCount_0f7a4_26 : decode cJ6_bitCount_0f7a4 26 = .ok (.iconst 4, 1) := by decide +kernel
theorem dJ6_bitCount_0f7a4_27 : decode cJ6_bitCount_0f7a4 27 = .ok (.iushr, 1) := by decide +kernel
theorem dJ6_bitCount_0f7a4_28 : decode cJ6_bitCount_0f7a4 28 = .ok (.iadd, 1) := by decide +kernel
theorem dJ6_bitCount_0f7a4_29 : decode cJ6_bitCount_0f7a4 29 = .ok (.ldc_w 267, 3) := by decide +kernel
theorem dJ6_bitCount_0f7a4_32 : decode cJ6_bitCount_0f7a4 32 = .ok (.iand, 1) := by decide +kernel
theorem dJ6_bitCount_0f7a4_33 : decode cJ6_bitCount_0f7a4 33 = .ok (.istore_n 0, 1) := by decide +kernel
theorem dJ6_bitCount_0f7a4_34 : decode cJ6_bitCount_0f7a4 34 = .ok (.iload_n 0, 1) := by decide +kernel
theorem dJ6_bitCount_0f7a4_35 : decode cJ6_bitCount_0f7a4 35 = .ok (.iload_n 0, 1) := by decide +kernel
theorem dJ6_bitCount_0f7a4_36 : decode cJ6_bitCount_0f7a4 36 = .ok (.bipush 8, 2) := by decide +kernel
theorem dJ6_bitCount_0f7a4_38 : decode cJ6_bitCount_0f7a4 38 = .ok (.iushr, 1) := by decide +kernel
theorem dJ6_bitCount_0f7a4_39 : decode cJ6_bitCount_0f7a4 39 = .ok (.iadd, 1) := by decide +kernel
theorem dJ6_bitCount_0f7a4_40 : decode cJ6_bitCount_0f7a4 40 = .ok (.istore_n 0, 1) := by decide +kernel
theorem dJ6_bitCount_0f7a4_41 : decode cJ6_bitCount_0f7a4 41 = .ok (.iload_n 0, 1) := by decide +kernel
theorem dJ6_bitCount_0f7a4_42 : decode cJ6_bitCount_0f7a4 42 = .ok (.iload_n 0, 1) := by decide +kernel
theorem dJ6_bitCount_0f7a4_43 : decode cJ6_bitCount_0f7a4 43 = .ok (.bipush 16, 2) := by decide +kernel
theorem dJ6_bitCount_0f7a4_45 : decode cJ6_bitCount_0f7a4 45 = .ok (.iushr, 1) := by decide +kernel
theorem dJ6_bitCount_0f7a4_46 : decode cJ6_bitCount_0f7a4 46 = .ok (.iadd, 1) := by decide +kernel
theorem dJ6_bitCount_0f7a4_47 : decode cJ6_bitCount_0f7a4 47 = .ok (.istore_n 0, 1) := by decide +kernel
theorem dJ6_bitCount_0f7a4_48 : decode cJ6_bitCount_0f7a4 48 = .ok (.iload_n 0, 1) := by decide +kernel
theorem dJ6_bitCount_0f7a4_49 : decode cJ6_bitCount_0f7a4 49 = .ok (.bipush 63, 2) := by decide +kernel
theorem dJ6_bitCount_0f7a4_51 : decode cJ6_bitCount_0f7a4 51 = .ok (.iand, 1) := by decide +kernel
theorem dJ6_bitCount_0f7a4_52 : decode cJ6_bitCount_0f7a4 52 = .ok (.ireturn, 1) := by decide +kernel
theorem dJ9_max_7cf53_0 : decode cJ9_max_7cf53 0 = .ok (.iload_n 0, 1) := by decide +kernel
theorem dJ9_max_7cf53_1 : decode cJ9_max_7cf53 1 = .ok (.iload_n 1, 1) := by decide +kernel
theorem dJ9_max_7cf53_2 : decode cJ9_max_7cf53 2 = .ok (.if_icmp .lt 7, 3) := by decide +kernel
theorem dJ9_max_7cf53_5 : decode cJ9_max_7cf53 5 = .ok (.iload_n 0, 1) := by decide +kernel
theorem dJ9_max_7cf53_6 : decode cJ9_max_7cf53 6 = .ok (.goto 4, 3) := by decide +kernel
theorem dJ9_max_7cf53_9 : decode cJ9_max_7cf53 9 = .ok (.iload_n 1, 1) := by decide +kernel
theorem dJ9_max_7cf53_10 : decode cJ9_max_7cf53 10 = .ok (.ireturn, 1) := by decide +kernel
theorem dJ9_min_7cf53_0 : decode cJ9_min_7cf53 0 = .ok (.iload_n 0, 1) := by decide +kernel
theorem dJ9_min_7cf53_1 : decode cJ9_min_7cf53 1 = .ok (.iload_n 1, 1) := by decide +kernel
theorem dJ9_min_7cf53_2 : decode cJ9_min_7cf53 2 = .ok (.if_icmp .gt 7, 3) := by decide +kernel
theorem dJ9_min_7cf53_5 : decode cJ9_min_7cf53 5 = .ok (.iload_n 0, 1) := by decide +kernel
theorem dJ9_min_7cf53_6 : decode cJ9_min_7cf53 6 = .ok (.goto 4, 3) := by decide +kernel
theorem dJ9_min_7cf53_9 : decode cJ9_min_7cf53 9 = .ok (.iload_n 1, 1) := by decide +kernel
theorem dJ9_min_7cf53_10 : decode cJ9_min_7cf53 10 = .ok (.ireturn, 1) := by decide +kernel
set_option maxRecDepth 20000 in
theorem ggJ0_length_8abf5_J0_coder_7d493 : GoodIn wsJ0_length_8abf5 wsJ0_coder_7d493 := goodIn_r _ [6, 7, 8] (by decide +kernel) (by decide +kernel)
set_option maxRecDepth 20000 in
theorem gJ0_length_8abf5_J0_coder_7d493 : GoodIn wsJ0_length_8abf5 (wsV RJ0 335 RJ0 yJ0_coder_7d493 wsJ0_coder_7d493) := goodIn_app (goodIn_of _ (by decide +kernel)) ggJ0_length_8abf5_J0_coder_7d493
theorem dJ0_length_8abf5_0 : decode cJ0_length_8abf5 0 = .ok (.aload_n 0, 1) := by decide +kernel
theorem dJ0_length_8abf5_1 : decode cJ0_length_8abf5 1 = .ok (.getfield 9, 3) := by decide +kernel
theorem dJ0_length_8abf5_4 : decode cJ0_length_8abf5 4 = .ok (.arraylength, 1) := by decide +kernel
theorem dJ0_length_8abf5_5 : decode cJ0_length_8abf5 5 = .ok (.aload_n 0, 1) := by decide +kernel
theorem dJ0_length_8abf5_6 : decode cJ0_length_8abf5 6 = .ok (.invokevirtual 335, 3) := by decide +kernel
theorem dJ0_length_8abf5_9 : decode cJ0_length_8abf5 9 = .ok (.ishr, 1) := by decide +kernel
theorem dJ0_length_8abf5_10 : decode cJ0_length_8abf5 10 = .ok (.ireturn, 1) := by decide +kernel
set_option maxRecDepth 20000 in
theorem ggJ0_indexOf_0f7a4_J0_indexOf_7cf53 : GoodIn wsJ0_indexOf_0f7a4 wsJ0_indexOf_7cf53 := goodIn_r _ [5, 6, 7, 8, 9, 4, 10, 11, 12, 13, 14, 15, 16, 17, 18, 19, 20, 21, 22, 23, 24, 25, 26, 27, 28, 29, 30, 31, 32, 33, 34, 35, 36, 37, 38, 39, 40, 41, 42, 43, 44, 45, 46, 47, 48, 49, 50, 51, 52, 53, 54, 55, 56, 57, 58, 59, 60, 61, 62, 63, 64, 65, 66, 67, 68, 69, 70, 71, 72, 73, 74, 75, 76, 77, 78, 79, 80, 81, 82, 83, 84, 85] (by decide +kernel) (by decide +kernel)
set_option maxRecDepth 20000 in
theorem gJ0_indexOf_0f7a4_J0_indexOf_7cf53 : GoodIn wsJ0_indexOf_0f7a4 (wsV RJ0 633 RJ0 yJ0_indexOf_7cf53 wsJ0_indexOf_7cf53) := goodIn_app (goodIn_of _ (by decide +kernel)) ggJ0_indexOf_0f7a4_J0_indexOf_7cf53
theorem dJ0_indexOf_0f7a4_0 : decode cJ0_indexOf_0f7a4 0 = .ok (.aload_n 0, 1) := by decide +kernel
theorem dJ0_indexOf_0f7a4_1 : decode cJ0_indexOf_0f7a4 1 = .ok (.iload_n 1, 1) := by decide +kernel
theorem dJ0_indexOf_0f7a4_2 : decode cJ0_indexOf_0f7a4 2 = .ok (.iconst 0, 1) := by decide +kernel
theorem dJ0_indexOf_0f7a4_3 : decode cJ0_indexOf_0f7a4 3 = .ok (.invokevirtual 633, 3) := by decide +kernel
theorem dJ0_indexOf_0f7a4_6 : decode cJ0_indexOf_0f7a4 6 = .ok (.ireturn, 1) := by decide +kernel
set_option maxRecDepth 20000 in
theorem ggJ0_indexOf_7cf53_J0_isLatin1_aae02 : GoodIn wsJ0_indexOf_7cf53 wsJ0_isLatin1_aae02 := goodIn_r _ [6, 7, 8] (by decide +kernel) (by decide +kernel)
set_option maxRecDepth 20000 in
theorem gJ0_indexOf_7cf53_J0_isLatin1_aae02 : GoodIn wsJ0_indexOf_7cf53 (wsV RJ0 492 RJ0 yJ0_isLatin1_aae02 wsJ0_isLatin1_aae02) := goodIn_app (goodIn_of _ (by decide +kernel)) ggJ0_indexOf_7cf53_J0_isLatin1_aae02
set_option maxRecDepth 20000 in
theorem ggJ0_indexOf_7cf53_J0_length_8abf5 : GoodIn wsJ0_indexOf_7cf53 wsJ0_length_8abf5 := goodIn_r _ [12, 1, 13, 14, 15, 5, 16, 7, 8] (by decide +kernel) (by decide +kernel)
set_option maxRecDepth 20000 in
theorem gJ0_indexOf_7cf53_J0_length_8abf5 : GoodIn wsJ0_indexOf_7cf53 (wsV RJ0 505 RJ0 yJ0_length_8abf5 wsJ0_length_8abf5) := goodIn_app (goodIn_of _ (by decide +kernel)) ggJ0_indexOf_7cf53_J0_length_8abf5
set_option maxRecDepth 20000 in
theorem ggJ0_indexOf_7cf53_J1_indexOf_4cfef : GoodIn wsJ0_indexOf_7cf53 wsJ1_indexOf_4cfef := goodIn_r _ [20, 21, 22, 23, 24, 25, 26, 27, 28, 29, 19, 30, 31, 32, 33] (by decide +kernel) (by decide +kernel)
set_option maxRecDepth 20000 in
theorem gJ0_indexOf_7cf53_J1_indexOf_4cfef : GoodIn wsJ0_indexOf_7cf53 (va_wsS RJ0 637 yJ1_indexOf_4cfef wsJ1_indexOf_4cfef) := goodIn_app (goodIn_of _ (by decide +kernel)) ggJ0_indexOf_7cf53_J1_indexOf_4cfef
set_option maxRecDepth 20000 in
theorem ggJ0_indexOf_7cf53_J2_indexOf_4cfef : GoodIn wsJ0_indexOf_7cf53 wsJ2_indexOf_4cfef := goodIn_r _ [37, 38, 22, 23, 24, 39, 26, 27, 40, 41, 42, 36, 43, 44, 45, 46, 47, 48, 49, 50, 51, 5, 52, 53, 54, 55, 56, 57, 58, 59, 60, 61, 62, 63, 64, 65, 66, 67, 68, 69, 70, 71, 72, 73, 74, 75, 76, 77, 78, 79, 80, 81] (by decide +kernel) (by decide +kernel)
set_option maxRecDepth 20000 in
theorem gJ0_indexOf_7cf53_J2_indexOf_4cfef : GoodIn wsJ0_indexOf_7cf53 (va_wsS RJ0 640 yJ2_indexOf_4cfef wsJ2_indexOf_4cfef) := goodIn_app (goodIn_of _ (by decide +kernel)) ggJ0_indexOf_7cf53_J2_indexOf_4cfef
theorem dJ0_indexOf_7cf53_0 : decode cJ0_indexOf_7cf53 0 = .ok (.aload_n 0, 1) := by decide +kernel
theorem dJ0_indexOf_7cf53_1 : decode cJ0_indexOf_7cf53 1 = .ok (.invokevirtual 492, 3) := by decide +kernel
theorem dJ0_indexOf_7cf53_4 : decode cJ0_indexOf_7cf53 4 = .ok (.ifCond .eq 19, 3) := by decide +kernel
theorem dJ0_indexOf_7cf53_7 : decode cJ0_indexOf_7cf53 7 = .ok (.aload_n 0, 1) := by decide +kernel
theorem dJ0_indexOf_7cf53_8 : decode cJ0_indexOf_7cf53 8 = .ok (.getfield 9, 3) := by decide +kernel
theorem dJ0_indexOf_7cf53_11 : decode cJ0_indexOf_7cf53 11 = .ok (.iload_n 1, 1) := by decide +kernel
theorem dJ0_indexOf_7cf53_12 : decode cJ0_indexOf_7cf53 12 = .ok (.iload_n 2, 1) := by decide +kernel
theorem dJ0_indexOf_7cf53_13 : decode cJ0_indexOf_7cf53 13 = .ok (.aload_n 0, 1) := by decide +kernel
theorem dJ0_indexOf_7cf53_14 : decode cJ0_indexOf_7cf53 14 = .ok (.invokevirtual 505, 3) := by decide +kernel
theorem dJ0_indexOf_7cf53_17 : decode cJ0_indexOf_7cf53 17 = .ok (.invokestatic 637, 3) := by decide +kernel
theorem dJ0_indexOf_7cf53_20 : decode cJ0_indexOf_7cf53 20 = .ok (.goto 16, 3) := by decide +kernel
theorem dJ0_indexOf_7cf53_23 : decode cJ0_indexOf_7cf53 23 = .ok (.aload_n 0, 1) := by decide +kernel
theorem dJ0_indexOf_7cf53_24 : decode cJ0_indexOf_7cf53 24 = .ok (.getfield 9, 3) := by decide +kernel
theorem dJ0_indexOf_7cf53_27 : decode cJ0_indexOf_7cf53 27 = .ok (.iload_n 1, 1) := by decide +kernel
theorem dJ0_indexOf_7cf53_28 : decode cJ0_indexOf_7cf53 28 = .ok (.iload_n 2, 1) := by decide +kernel
theorem dJ0_indexOf_7cf53_29 : decode cJ0_indexOf_7cf53 29 = .ok (.aload_n 0, 1) := by decide +kernel
theorem dJ0_indexOf_7cf53_30 : decode cJ0_indexOf_7cf53 30 = .ok (.invokevirtual 505, 3) := by decide +kernel
theorem dJ0_indexOf_7cf53_33 : decode cJ0_indexOf_7cf53 33 = .ok (.invokestatic 640, 3) := by decide +kernel
theorem dJ0_indexOf_7cf53_36 : decode cJ0_indexOf_7cf53 36 = .ok (.ireturn, 1) := by decide +kernel
theorem dJ0_coder_7d493_0 : decode cJ0_coder_7d493 0 = .ok (.getstatic 38, 3) := by decide +kernel
theorem dJ0_coder_7d493_3 : decode cJ0_coder_7d493 3 = .ok (.ifCond .eq 10, 3) := by decide +kernel
theorem dJ0_coder_7d493_6 : decode cJ0_coder_7d493 6 = .ok (.aload_n 0, 1) := by decide +kernel
theorem dJ0_coder_7d493_7 : decode cJ0_coder_7d493 7 = .ok (.getfield 15, 3) := by decide +kernel
theorem dJ0_coder_7d493_10 : decode cJ0_coder_7d493 10 = .ok (.goto 4, 3) := by decide +kernel
theorem dJ0_coder_7d493_13 : decode cJ0_coder_7d493 13 = .ok (.iconst 1, 1) := by decide +kernel
theorem dJ0_coder_7d493_14 : decode cJ0_coder_7d493 14 = .ok (.ireturn, 1) := by decide +kernel
theorem dJ0_isLatin1_aae02_0 : decode cJ0_isLatin1_aae02 0 = .ok (.getstatic 38, 3) := by decide +kernel
theorem dJ0_isLatin1_aae02_3 : decode cJ0_isLatin1_aae02 3 = .ok (.ifCond .eq 14, 3) := by decide +kernel
theorem dJ0_isLatin1_aae02_6 : decode cJ0_isLatin1_aae02 6 = .ok (.aload_n 0, 1) := by decide +kernel
theorem dJ0_isLatin1_aae02_7 : decode cJ0_isLatin1_aae02 7 = .ok (.getfield 15, 3) := by decide +kernel
theorem dJ0_isLatin1_aae02_10 : decode cJ0_isLatin1_aae02 10 = .ok (.ifCond .ne 7, 3) := by decide +kernel
theorem dJ0_isLatin1_aae02_13 : decode cJ0_isLatin1_aae02 13 = .ok (.iconst 1, 1) := by decide +kernel
theorem dJ0_isLatin1_aae02_14 : decode cJ0_isLatin1_aae02 14 = .ok (.goto 4, 3) := by decide +kernel
theorem dJ0_isLatin1_aae02_17 : decode cJ0_isLatin1_aae02 17 = .ok (.iconst 0, 1) := by decide +kernel
theorem dJ0_isLatin1_aae02_18 : decode cJ0_isLatin1_aae02 18 = .ok (.ireturn, 1) := by decide +kernel
set_option maxRecDepth 20000 in
theorem ggJ0_checkBoundsBeginEnd_23922_J3_checkFromToIndex_8c36e : GoodIn wsJ0_checkBoundsBeginEnd_23922 wsJ3_checkFromToIndex_8c36e := goodIn_r _ [5] (by decide +kernel) (by decide +kernel)
set_option maxRecDepth 20000 in
theorem gJ0_checkBoundsBeginEnd_23922_J3_checkFromToIndex_8c36e : GoodIn wsJ0_checkBoundsBeginEnd_23922 (va_wsS RJ0 1062 yJ3_checkFromToIndex_8c36e wsJ3_checkFromToIndex_8c36e) := goodIn_app (goodIn_of _ (by decide +kernel)) ggJ0_checkBoundsBeginEnd_23922_J3_checkFromToIndex_8c36e
theorem dJ0_checkBoundsBeginEnd_23922_0 : decode cJ0_checkBoundsBeginEnd_23922 0 = .ok (.iload_n 0, 1) := by decide +kernel
theorem dJ0_checkBoundsBeginEnd_23922_1 : decode cJ0_checkBoundsBeginEnd_23922 1 = .ok (.iload_n 1, 1) := by decide +kernel
theorem dJ0_checkBoundsBeginEnd_23922_2 : decode cJ0_checkBoundsBeginEnd_23922 2 = .ok (.iload_n 2, 1) := by decide +kernel
theorem dJ0_checkBoundsBeginEnd_23922_3 : decode cJ0_checkBoundsBeginEnd_23922 3 = .ok (.getstatic 1053, 3) := by decide +kernel
theorem dJ0_checkBoundsBeginEnd_23922_6 : decode cJ0_checkBoundsBeginEnd_23922 6 = .ok (.invokestatic 1062, 3) := by decide +kernel
theorem dJ0_checkBoundsBeginEnd_23922_9 : decode cJ0_checkBoundsBeginEnd_23922 9 = .ok (.pop, 1) := by decide +kernel
theorem dJ0_checkBoundsBeginEnd_23922_10 : decode cJ0_checkBoundsBeginEnd_23922 10 = .ok (.return_, 1) := by decide +kernel
theorem dJ1_canEncode_9a6ad_0 : decode cJ1_canEncode_9a6ad 0 = .ok (.iload_n 0, 1) := by decide +kernel
theorem dJ1_canEncode_9a6ad_1 : decode cJ1_canEncode_9a6ad 1 = .ok (.ifCond .lt 14, 3) := by decide +kernel
theorem dJ1_canEncode_9a6ad_4 : decode cJ1_canEncode_9a6ad 4 = .ok (.iload_n 0, 1) := by decide +kernel
theorem dJ1_canEncode_9a6ad_5 : decode cJ1_canEncode_9a6ad 5 = .ok (.sipush 255, 3) := by decide +kernel
theorem dJ1_canEncode_9a6ad_8 : decode cJ1_canEncode_9a6ad 8 = .ok (.if_icmp .gt 7, 3) := by decide +kernel
theorem dJ1_canEncode_9a6ad_11 : decode cJ1_canEncode_9a6ad 11 = .ok (.iconst 1, 1) := by decide +kernel
theorem dJ1_canEncode_9a6ad_12 : decode cJ1_canEncode_9a6ad 12 = .ok (.goto 4, 3) := by decide +kernel
theorem dJ1_canEncode_9a6ad_15 : decode cJ1_canEncode_9a6ad 15 = .ok (.iconst 0, 1) := by decide +kernel
theorem dJ1_canEncode_9a6ad_16 : decode cJ1_canEncode_9a6ad 16 = .ok (.ireturn, 1) := by decide +kernel
set_option maxRecDepth 20000 in
theorem ggJ1_indexOf_4cfef_J1_canEncode_9a6ad : GoodIn wsJ1_indexOf_4cfef wsJ1_canEncode_9a6ad := goodIn_r _ [11] (by decide +kernel) (by decide +kernel)
set_option maxRecDepth 20000 in
theorem gJ1_indexOf_4cfef_J1_canEncode_9a6ad : GoodIn wsJ1_indexOf_4cfef (va_wsS RJ1 88 yJ1_canEncode_9a6ad wsJ1_canEncode_9a6ad) := goodIn_app (goodIn_of _ (by decide +kernel)) ggJ1_indexOf_4cfef_J1_canEncode_9a6ad
set_option maxRecDepth 20000 in
theorem ggJ1_indexOf_4cfef_J1_indexOfChar_4cfef : GoodIn wsJ1_indexOf_4cfef wsJ1_indexOfChar_4cfef := goodIn_r _ [14] (by decide +kernel) (by decide +kernel)
set_option maxRecDepth 20000 in
theorem gJ1_indexOf_4cfef_J1_indexOfChar_4cfef : GoodIn wsJ1_indexOf_4cfef (va_wsS RJ1 95 yJ1_indexOfChar_4cfef wsJ1_indexOfChar_4cfef) := goodIn_app (goodIn_of _ (by decide +kernel)) ggJ1_indexOf_4cfef_J1_indexOfChar_4cfef
theorem dJ1_indexOf_4cfef_0 : decode cJ1_indexOf_4cfef 0 = .ok (.iload_n 1, 1) := by decide +kernel
theorem dJ1_indexOf_4cfef_1 : decode cJ1_indexOf_4cfef 1 = .ok (.invokestatic 88, 3) := by decide +kernel
theorem dJ1_indexOf_4cfef_4 : decode cJ1_indexOf_4cfef 4 = .ok (.ifCond .ne 5, 3) := by decide +kernel
theorem dJ1_indexOf_4cfef_7 : decode cJ1_indexOf_4cfef 7 = .ok (.iconst (-1), 1) := by decide +kernel
theorem dJ1_indexOf_4cfef_8 : decode cJ1_indexOf_4cfef 8 = .ok (.ireturn, 1) := by decide +kernel
theorem dJ1_indexOf_4cfef_9 : decode cJ1_indexOf_4cfef 9 = .ok (.iload_n 2, 1) := by decide +kernel
theorem dJ1_indexOf_4cfef_10 : decode cJ1_indexOf_4cfef 10 = .ok (.iconst 0, 1) := by decide +kernel
theorem dJ1_indexOf_4cfef_11 : decode cJ1_indexOf_4cfef 11 = .ok (.invokestatic 92, 3) := by decide +kernel
theorem dJ1_indexOf_4cfef_14 : decode cJ1_indexOf_4cfef 14 = .ok (.istore_n 2, 1) := by decide +kernel
theorem dJ1_indexOf_4cfef_15 : decode cJ1_indexOf_4cfef 15 = .ok (.iload_n 3, 1) := by decide +kernel
theorem dJ1_indexOf_4cfef_16 : decode cJ1_indexOf_4cfef 16 = .ok (.aload_n 0, 1) := by decide +kernel
theorem dJ1_indexOf_4cfef_17 : decode cJ1_indexOf_4cfef 17 = .ok (.arraylength, 1) := by decide +kernel
theorem dJ1_indexOf_4cfef_18 : decode cJ1_indexOf_4cfef 18 = .ok (.invokestatic 38, 3) := by decide +kernel
theorem dJ1_indexOf_4cfef_21 : decode cJ1_indexOf_4cfef 21 = .ok (.istore_n 3, 1) := by decide +kernel
theorem dJ1_indexOf_4cfef_22 : decode cJ1_indexOf_4cfef 22 = .ok (.iload_n 2, 1) := by decide +kernel
theorem dJ1_indexOf_4cfef_23 : decode cJ1_indexOf_4cfef 23 = .ok (.iload_n 3, 1) := by decide +kernel
theorem dJ1_indexOf_4cfef_24 : decode cJ1_indexOf_4cfef 24 = .ok (.if_icmp .lt 5, 3) := by decide +kernel
theorem dJ1_indexOf_4cfef_27 : decode cJ1_indexOf_4cfef 27 = .ok (.iconst (-1), 1) := by decide +kernel
theorem dJ1_indexOf_4cfef_28 : decode cJ1_indexOf_4cfef 28 = .ok (.ireturn, 1) := by decide +kernel
theorem dJ1_indexOf_4cfef_29 : decode cJ1_indexOf_4cfef 29 = .ok (.aload_n 0, 1) := by decide +kernel
theorem dJ1_indexOf_4cfef_30 : decode cJ1_indexOf_4cfef 30 = .ok (.iload_n 1, 1) := by decide +kernel
theorem dJ1_indexOf_4cfef_31 : decode cJ1_indexOf_4cfef 31 = .ok (.iload_n 2, 1) := by decide +kernel
theorem dJ1_indexOf_4cfef_32 : decode cJ1_indexOf_4cfef 32 = .ok (.iload_n 3, 1) := by decide +kernel
theorem dJ1_indexOf_4cfef_33 : decode cJ1_indexOf_4cfef 33 = .ok (.invokestatic 95, 3) := by decide +kernel
theorem dJ1_indexOf_4cfef_36 : decode cJ1_indexOf_4cfef 36 = .ok (.ireturn, 1) := by decide +kernel
theorem dJ1_indexOfChar_4cfef_0 : decode cJ1_indexOfChar_4cfef 0 = .ok (.iload_n 1, 1) := by decide +kernel
theorem dJ1_indexOfChar_4cfef_1 : decode cJ1_indexOfChar_4cfef 1 = .ok (.i2b, 1) := by decide +kernel
theorem dJ1_indexOfChar_4cfef_2 : decode cJ1_indexOfChar_4cfef 2 = .ok (.istore 4, 2) := by decide +kernel
theorem dJ1_indexOfChar_4cfef_4 : decode cJ1_indexOfChar_4cfef 4 = .ok (.iload_n 2, 1) := by decide +kernel
theorem dJ1_indexOfChar_4cfef_5 : decode cJ1_indexOfChar_4cfef 5 = .ok (.istore 5, 2) := by decide +kernel
theorem dJ1_indexOfChar_4cfef_7 : decode cJ1_indexOfChar_4cfef 7 = .ok (.iload 5, 2) := by decide +kernel
theorem dJ1_indexOfChar_4cfef_9 : decode cJ1_indexOfChar_4cfef 9 = .ok (.iload_n 3, 1) := by decide +kernel
theorem dJ1_indexOfChar_4cfef_10 : decode cJ1_indexOfChar_4cfef 10 = .ok (.if_icmp .ge 21, 3) := by decide +kernel
theorem dJ1_indexOfChar_4cfef_13 : decode cJ1_indexOfChar_4cfef 13 = .ok (.aload_n 0, 1) := by decide +kernel
theorem dJ1_indexOfChar_4cfef_14 : decode cJ1_indexOfChar_4cfef 14 = .ok (.iload 5, 2) := by decide +kernel
theorem dJ1_indexOfChar_4cfef_16 : decode cJ1_indexOfChar_4cfef 16 = .ok (.baload, 1) := by decide +kernel
theorem dJ1_indexOfChar_4cfef_17 : decode cJ1_indexOfChar_4cfef 17 = .ok (.iload 4, 2) := by decide +kernel
theorem dJ1_indexOfChar_4cfef_19 : decode cJ1_indexOfChar_4cfef 19 = .ok (.if_icmp .ne 6, 3) := by decide +kernel
theorem dJ1_indexOfChar_4cfef_22 : decode cJ1_indexOfChar_4cfef 22 = .ok (.iload 5, 2) := by decide +kernel
theorem dJ1_indexOfChar_4cfef_24 : decode cJ1_indexOfChar_4cfef 24 = .ok (.ireturn, 1) := by decide +kernel
theorem dJ1_indexOfChar_4cfef_25 : decode cJ1_indexOfChar_4cfef 25 = .ok (.iinc 5 1, 3) := by decide +kernel
theorem dJ1_indexOfChar_4cfef_28 : decode cJ1_indexOfChar_4cfef 28 = .ok (.goto (-21), 3) := by decide +kernel
theorem dJ1_indexOfChar_4cfef_31 : decode cJ1_indexOfChar_4cfef 31 = .ok (.iconst (-1), 1) := by decide +kernel
theorem dJ1_indexOfChar_4cfef_32 : decode cJ1_indexOfChar_4cfef 32 = .ok (.ireturn, 1) := by decide +kernel
set_option maxRecDepth 20000 in
theorem ggJ2_getChar_3b067_J2_length_9d52b : GoodIn wsJ2_getChar_3b067 wsJ2_length_9d52b := goodIn_r _ [7] (by decide +kernel) (by decide +kernel)
set_option maxRecDepth 20000 in
theorem gJ2_getChar_3b067_J2_length_9d52b : GoodIn wsJ2_getChar_3b067 (va_wsS RJ2 48 yJ2_length_9d52b wsJ2_length_9d52b) := goodIn_app (goodIn_of _ (by decide +kernel)) ggJ2_getChar_3b067_J2_length_9d52b
theorem dJ2_getChar_3b067_0 : decode cJ2_getChar_3b067 0 = .ok (.getstatic 44, 3) := by decide +kernel
theorem dJ2_getChar_3b067_3 : decode cJ2_getChar_3b067 3 = .ok (.ifCond .ne 25, 3) := by decide +kernel
theorem dJ2_getChar_3b067_6 : decode cJ2_getChar_3b067 6 = .ok (.iload_n 1, 1) := by decide +kernel
theorem dJ2_getChar_3b067_7 : decode cJ2_getChar_3b067 7 = .ok (.ifCond .lt 11, 3) := by decide +kernel
theorem dJ2_getChar_3b067_10 : decode cJ2_getChar_3b067 10 = .ok (.iload_n 1, 1) := by decide +kernel
theorem dJ2_getChar_3b067_11 : decode cJ2_getChar_3b067 11 = .ok (.aload_n 0, 1) := by decide +kernel
theorem dJ2_getChar_3b067_12 : decode cJ2_getChar_3b067 12 = .ok (.invokestatic 48, 3) := by decide +kernel
theorem dJ2_getChar_3b067_15 : decode cJ2_getChar_3b067 15 = .ok (.if_icmp .lt 13, 3) := by decide +kernel
theorem dJ2_getChar_3b067_18 : decode cJ2_getChar_3b067 18 = .ok (.new 52, 3) := by decide +kernel
theorem dJ2_getChar_3b067_21 : decode cJ2_getChar_3b067 21 = .ok (.dup, 1) := by decide +kernel
theorem dJ2_getChar_3b067_22 : decode cJ2_getChar_3b067 22 = .ok (.ldc 54, 2) := by decide +kernel
theorem dJ2_getChar_3b067_24 : decode cJ2_getChar_3b067 24 = .ok (.invokespecial 56, 3) := by decide +kernel
theorem dJ2_getChar_3b067_27 : decode cJ2_getChar_3b067 27 = .ok (.athrow, 1) := by decide +kernel
theorem dJ2_getChar_3b067_28 : decode cJ2_getChar_3b067 28 = .ok (.iload_n 1, 1) := by decide +kernel
theorem dJ2_getChar_3b067_29 : decode cJ2_getChar_3b067 29 = .ok (.iconst 1, 1) := by decide +kernel
theorem dJ2_getChar_3b067_30 : decode cJ2_getChar_3b067 30 = .ok (.ishl, 1) := by decide +kernel
theorem dJ2_getChar_3b067_31 : decode cJ2_getChar_3b067 31 = .ok (.istore_n 1, 1) := by decide +kernel
theorem dJ2_getChar_3b067_32 : decode cJ2_getChar_3b067 32 = .ok (.aload_n 0, 1) := by decide +kernel
theorem dJ2_getChar_3b067_33 : decode cJ2_getChar_3b067 33 = .ok (.iload_n 1, 1) := by decide +kernel
theorem dJ2_getChar_3b067_34 : decode cJ2_getChar_3b067 34 = .ok (.iinc 1 1, 3) := by decide +kernel
theorem dJ2_getChar_3b067_37 : decode cJ2_getChar_3b067 37 = .ok (.baload, 1) := by decide +kernel
theorem dJ2_getChar_3b067_38 : decode cJ2_getChar_3b067 38 = .ok (.sipush 255, 3) := by decide +kernel
theorem dJ2_getChar_3b067_41 : decode cJ2_getChar_3b067 41 = .ok (.iand, 1) := by decide +kernel
theorem dJ2_getChar_3b067_42 : decode cJ2_getChar_3b067 42 = .ok (.getstatic 59, 3) := by decide +kernel
theorem dJ2_getChar_3b067_45 : decode cJ2_getChar_3b067 45 = .ok (.ishl, 1) := by decide +kernel
theorem dJ2_getChar_3b067_46 : decode cJ2_getChar_3b067 46 = .ok (.aload_n 0, 1) := by decide +kernel
theorem dJ2_getChar_3b067_47 : decode cJ2_getChar_3b067 47 = .ok (.iload_n 1, 1) := by decide +kernel
theorem dJ2_getChar_3b067_48 : decode cJ2_getChar_3b067 48 = .ok (.baload, 1) := by decide +kernel
theorem dJ2_getChar_3b067_49 : decode cJ2_getChar_3b067 49 = .ok (.sipush 255, 3) := by decide +kernel
theorem dJ2_getChar_3b067_52 : decode cJ2_getChar_3b067 52 = .ok (.iand, 1) := by decide +kernel
theorem dJ2_getChar_3b067_53 : decode cJ2_getChar_3b067 53 = .ok (.getstatic 63, 3) := by decide +kernel
theorem dJ2_getChar_3b067_56 : decode cJ2_getChar_3b067 56 = .ok (.ishl, 1) := by decide +kernel
theorem dJ2_getChar_3b067_57 : decode cJ2_getChar_3b067 57 = .ok (.ior, 1) := by decide +kernel
theorem dJ2_getChar_3b067_58 : decode cJ2_getChar_3b067 58 = .ok (.i2c, 1) := by decide +kernel
theorem dJ2_getChar_3b067_59 : decode cJ2_getChar_3b067 59 = .ok (.ireturn, 1) := by decide +kernel
theorem dJ2_length_9d52b_0 : decode cJ2_length_9d52b 0 = .ok (.aload_n 0, 1) := by decide +kernel
theorem dJ2_length_9d52b_1 : decode cJ2_length_9d52b 1 = .ok (.arraylength, 1) := by decide +kernel
theorem dJ2_length_9d52b_2 : decode cJ2_length_9d52b 2 = .ok (.iconst 1, 1) := by decide +kernel
theorem dJ2_length_9d52b_3 : decode cJ2_length_9d52b 3 = .ok (.ishr, 1) := by decide +kernel
theorem dJ2_length_9d52b_4 : decode cJ2_length_9d52b 4 = .ok (.ireturn, 1) := by decide +kernel
set_option maxRecDepth 20000 in
theorem ggJ2_indexOf_4cfef_J2_indexOfChar_4cfef : GoodIn wsJ2_indexOf_4cfef wsJ2_indexOfChar_4cfef := goodIn_r _ [12, 13, 14, 11, 15, 16, 17, 18, 19, 20, 21, 22, 23, 24, 25, 26, 27, 28, 29, 30, 31, 32, 33, 34, 35, 36] (by decide +kernel) (by decide +kernel)
set_option maxRecDepth 20000 in
theorem gJ2_indexOf_4cfef_J2_indexOfChar_4cfef : GoodIn wsJ2_indexOf_4cfef (va_wsS RJ2 228 yJ2_indexOfChar_4cfef wsJ2_indexOfChar_4cfef) := goodIn_app (goodIn_of _ (by decide +kernel)) ggJ2_indexOf_4cfef_J2_indexOfChar_4cfef
set_option maxRecDepth 20000 in
theorem ggJ2_indexOf_4cfef_J2_indexOfSupplementary_4cfef : GoodIn wsJ2_indexOf_4cfef wsJ2_indexOfSupplementary_4cfef := goodIn_r _ [39, 40, 41, 42, 43, 44, 45, 46, 47, 48, 49, 50, 51, 13, 14, 11, 15, 16, 17, 18, 19, 20, 21, 22, 23, 24, 25, 26, 27, 31, 32, 33, 34, 35, 36] (by decide +kernel) (by decide +kernel)
set_option maxRecDepth 20000 in
theorem gJ2_indexOf_4cfef_J2_indexOfSupplementary_4cfef : GoodIn wsJ2_indexOf_4cfef (va_wsS RJ2 232 yJ2_indexOfSupplementary_4cfef wsJ2_indexOfSupplementary_4cfef) := goodIn_app (goodIn_of _ (by decide +kernel)) ggJ2_indexOf_4cfef_J2_indexOfSupplementary_4cfef
theorem dJ2_indexOf_4cfef_0 : decode cJ2_indexOf_4cfef 0 = .ok (.iload_n 2, 1) := by decide +kernel
theorem dJ2_indexOf_4cfef_1 : decode cJ2_indexOf_4cfef 1 = .ok (.iconst 0, 1) := by decide +kernel
theorem dJ2_indexOf_4cfef_2 : decode cJ2_indexOf_4cfef 2 = .ok (.invokestatic 224, 3) := by decide +kernel
theorem dJ2_indexOf_4cfef_5 : decode cJ2_indexOf_4cfef 5 = .ok (.istore_n 2, 1) := by decide +kernel
theorem dJ2_indexOf_4cfef_6 : decode cJ2_indexOf_4cfef 6 = .ok (.iload_n 3, 1) := by decide +kernel
theorem dJ2_indexOf_4cfef_7 : decode cJ2_indexOf_4cfef 7 = .ok (.aload_n 0, 1) := by decide +kernel
theorem dJ2_indexOf_4cfef_8 : decode cJ2_indexOf_4cfef 8 = .ok (.arraylength, 1) := by decide +kernel
theorem dJ2_indexOf_4cfef_9 : decode cJ2_indexOf_4cfef 9 = .ok (.iconst 1, 1) := by decide +kernel
theorem dJ2_indexOf_4cfef_10 : decode cJ2_indexOf_4cfef 10 = .ok (.ishr, 1) := by decide +kernel
theorem dJ2_indexOf_4cfef_11 : decode cJ2_indexOf_4cfef 11 = .ok (.invokestatic 183, 3) := by decide +kernel
theorem dJ2_indexOf_4cfef_14 : decode cJ2_indexOf_4cfef 14 = .ok (.istore_n 3, 1) := by decide +kernel
theorem dJ2_indexOf_4cfef_15 : decode cJ2_indexOf_4cfef 15 = .ok (.iload_n 2, 1) := by decide +kernel
theorem dJ2_indexOf_4cfef_16 : decode cJ2_indexOf_4cfef 16 = .ok (.iload_n 3, 1) := by decide +kernel
theorem dJ2_indexOf_4cfef_17 : decode cJ2_indexOf_4cfef 17 = .ok (.if_icmp .lt 5, 3) := by decide +kernel
theorem dJ2_indexOf_4cfef_20 : decode cJ2_indexOf_4cfef 20 = .ok (.iconst (-1), 1) := by decide +kernel
theorem dJ2_indexOf_4cfef_21 : decode cJ2_indexOf_4cfef 21 = .ok (.ireturn, 1) := by decide +kernel
theorem dJ2_indexOf_4cfef_22 : decode cJ2_indexOf_4cfef 22 = .ok (.iload_n 1, 1) := by decide +kernel
theorem dJ2_indexOf_4cfef_23 : decode cJ2_indexOf_4cfef 23 = .ok (.ldc 227, 2) := by decide +kernel
theorem dJ2_indexOf_4cfef_25 : decode cJ2_indexOf_4cfef 25 = .ok (.if_icmp .ge 11, 3) := by decide +kernel
theorem dJ2_indexOf_4cfef_28 : decode cJ2_indexOf_4cfef 28 = .ok (.aload_n 0, 1) := by decide +kernel
theorem dJ2_indexOf_4cfef_29 : decode cJ2_indexOf_4cfef 29 = .ok (.iload_n 1, 1) := by decide +kernel
theorem dJ2_indexOf_4cfef_30 : decode cJ2_indexOf_4cfef 30 = .ok (.iload_n 2, 1) := by decide +kernel
theorem dJ2_indexOf_4cfef_31 : decode cJ2_indexOf_4cfef 31 = .ok (.iload_n 3, 1) := by decide +kernel
theorem dJ2_indexOf_4cfef_32 : decode cJ2_indexOf_4cfef 32 = .ok (.invokestatic 228, 3) := by decide +kernel
theorem dJ2_indexOf_4cfef_35 : decode cJ2_indexOf_4cfef 35 = .ok (.ireturn, 1) := by decide +kernel
theorem dJ2_indexOf_4cfef_36 : decode cJ2_indexOf_4cfef 36 = .ok (.aload_n 0, 1) := by decide +kernel
theorem dJ2_indexOf_4cfef_37 : decode cJ2_indexOf_4cfef 37 = .ok (.iload_n 1, 1) := by decide +kernel
theorem dJ2_indexOf_4cfef_38 : decode cJ2_indexOf_4cfef 38 = .ok (.iload_n 2, 1) := by decide +kernel
theorem dJ2_indexOf_4cfef_39 : decode cJ2_indexOf_4cfef 39 = .ok (.iload_n 3, 1) := by decide +kernel
theorem dJ2_indexOf_4cfef_40 : decode cJ2_indexOf_4cfef 40 = .ok (.invokestatic 232, 3) := by decide +kernel
theorem dJ2_indexOf_4cfef_43 : decode cJ2_indexOf_4cfef 43 = .ok (.ireturn, 1) := by decide +kernel
set_option maxRecDepth 20000 in
theorem ggJ2_indexOfChar_4cfef_J2_checkBoundsBeginEnd_d044e : GoodIn wsJ2_indexOfChar_4cfef wsJ2_checkBoundsBeginEnd_d044e := goodIn_r _ [4, 5, 6, 3, 7, 8, 9, 10, 11, 12, 13, 14, 15, 16] (by decide +kernel) (by decide +kernel)
set_option maxRecDepth 20000 in
theorem gJ2_indexOfChar_4cfef_J2_checkBoundsBeginEnd_d044e : GoodIn wsJ2_indexOfChar_4cfef (va_wsS RJ2 96 yJ2_checkBoundsBeginEnd_d044e wsJ2_checkBoundsBeginEnd_d044e) := goodIn_app (goodIn_of _ (by decide +kernel)) ggJ2_indexOfChar_4cfef_J2_checkBoundsBeginEnd_d044e
set_option maxRecDepth 20000 in
theorem ggJ2_indexOfChar_4cfef_J2_indexOfCharUnsafe_4cfef : GoodIn wsJ2_indexOfChar_4cfef wsJ2_indexOfCharUnsafe_4cfef := goodIn_r _ [19, 20, 21, 3, 22, 23, 24, 25, 5, 6, 7] (by decide +kernel) (by decide +kernel)
set_option maxRecDepth 20000 in
theorem gJ2_indexOfChar_4cfef_J2_indexOfCharUnsafe_4cfef : GoodIn wsJ2_indexOfChar_4cfef (va_wsS RJ2 244 yJ2_indexOfCharUnsafe_4cfef wsJ2_indexOfCharUnsafe_4cfef) := goodIn_app (goodIn_of _ (by decide +kernel)) ggJ2_indexOfChar_4cfef_J2_indexOfCharUnsafe_4cfef
theorem dJ2_indexOfChar_4cfef_0 : decode cJ2_indexOfChar_4cfef 0 = .ok (.iload_n 2, 1) := by decide +kernel
theorem dJ2_indexOfChar_4cfef_1 : decode cJ2_indexOfChar_4cfef 1 = .ok (.iload_n 3, 1) := by decide +kernel
theorem dJ2_indexOfChar_4cfef_2 : decode cJ2_indexOfChar_4cfef 2 = .ok (.aload_n 0, 1) := by decide +kernel
theorem dJ2_indexOfChar_4cfef_3 : decode cJ2_indexOfChar_4cfef 3 = .ok (.invokestatic 96, 3) := by decide +kernel
theorem dJ2_indexOfChar_4cfef_6 : decode cJ2_indexOfChar_4cfef 6 = .ok (.aload_n 0, 1) := by decide +kernel
theorem dJ2_indexOfChar_4cfef_7 : decode cJ2_indexOfChar_4cfef 7 = .ok (.iload_n 1, 1) := by decide +kernel
theorem dJ2_indexOfChar_4cfef_8 : decode cJ2_indexOfChar_4cfef 8 = .ok (.iload_n 2, 1) := by decide +kernel
theorem dJ2_indexOfChar_4cfef_9 : decode cJ2_indexOfChar_4cfef 9 = .ok (.iload_n 3, 1) := by decide +kernel
theorem dJ2_indexOfChar_4cfef_10 : decode cJ2_indexOfChar_4cfef 10 = .ok (.invokestatic 244, 3) := by decide +kernel
theorem dJ2_indexOfChar_4cfef_13 : decode cJ2_indexOfChar_4cfef 13 = .ok (.ireturn, 1) := by decide +kernel
set_option maxRecDepth 20000 in
theorem ggJ2_indexOfCharUnsafe_4cfef_J2_getChar_3b067 : GoodIn wsJ2_indexOfCharUnsafe_4cfef wsJ2_getChar_3b067 := goodIn_r _ [4, 5, 6, 7, 8, 9, 3, 10] (by decide +kernel) (by decide +kernel)
set_option maxRecDepth 20000 in
theorem gJ2_indexOfCharUnsafe_4cfef_J2_getChar_3b067 : GoodIn wsJ2_indexOfCharUnsafe_4cfef (va_wsS RJ2 71 yJ2_getChar_3b067 wsJ2_getChar_3b067) := goodIn_app (goodIn_of _ (by decide +kernel)) ggJ2_indexOfCharUnsafe_4cfef_J2_getChar_3b067
theorem dJ2_indexOfCharUnsafe_4cfef_0 : decode cJ2_indexOfCharUnsafe_4cfef 0 = .ok (.iload_n 2, 1) := by decide +kernel
theorem dJ2_indexOfCharUnsafe_4cfef_1 : decode cJ2_indexOfCharUnsafe_4cfef 1 = .ok (.istore 4, 2) := by decide +kernel
theorem dJ2_indexOfCharUnsafe_4cfef_3 : decode cJ2_indexOfCharUnsafe_4cfef 3 = .ok (.iload 4, 2) := by decide +kernel
theorem dJ2_indexOfCharUnsafe_4cfef_5 : decode cJ2_indexOfCharUnsafe_4cfef 5 = .ok (.iload_n 3, 1) := by decide +kernel
theorem dJ2_indexOfCharUnsafe_4cfef_6 : decode cJ2_indexOfCharUnsafe_4cfef 6 = .ok (.if_icmp .ge 22, 3) := by decide +kernel
theorem dJ2_indexOfCharUnsafe_4cfef_9 : decode cJ2_indexOfCharUnsafe_4cfef 9 = .ok (.aload_n 0, 1) := by decide +kernel
theorem dJ2_indexOfCharUnsafe_4cfef_10 : decode cJ2_indexOfCharUnsafe_4cfef 10 = .ok (.iload 4, 2) := by decide +kernel
theorem dJ2_indexOfCharUnsafe_4cfef_12 : decode cJ2_indexOfCharUnsafe_4cfef 12 = .ok (.invokestatic 71, 3) := by decide +kernel
theorem dJ2_indexOfCharUnsafe_4cfef_15 : decode cJ2_indexOfCharUnsafe_4cfef 15 = .ok (.iload_n 1, 1) := by decide +kernel
theorem dJ2_indexOfCharUnsafe_4cfef_16 : decode cJ2_indexOfCharUnsafe_4cfef 16 = .ok (.if_icmp .ne 6, 3) := by decide +kernel
theorem dJ2_indexOfCharUnsafe_4cfef_19 : decode cJ2_indexOfCharUnsafe_4cfef 19 = .ok (.iload 4, 2) := by decide +kernel
theorem dJ2_indexOfCharUnsafe_4cfef_21 : decode cJ2_indexOfCharUnsafe_4cfef 21 = .ok (.ireturn, 1) := by decide +kernel
theorem dJ2_indexOfCharUnsafe_4cfef_22 : decode cJ2_indexOfCharUnsafe_4cfef 22 = .ok (.iinc 4 1, 3) := by decide +kernel
theorem dJ2_indexOfCharUnsafe_4cfef_25 : decode cJ2_indexOfCharUnsafe_4cfef 25 = .ok (.goto (-22), 3) := by decide +kernel
theorem dJ2_indexOfCharUnsafe_4cfef_28 : decode cJ2_indexOfCharUnsafe_4cfef 28 = .ok (.iconst (-1), 1) := by decide +kernel
theorem dJ2_indexOfCharUnsafe_4cfef_29 : decode cJ2_indexOfCharUnsafe_4cfef 29 = .ok (.ireturn, 1) := by decide +kernel
set_option maxRecDepth 20000 in
theorem ggJ2_indexOfSupplementary_4cfef_J11_isValidCodePoint_9a6ad : GoodIn wsJ2_indexOfSupplementary_4cfef wsJ11_isValidCodePoint_9a6ad := goodIn_r _ [4] (by decide +kernel) (by decide +kernel)
set_option maxRecDepth 20000 in
theorem gJ2_indexOfSupplementary_4cfef_J11_isValidCodePoint_9a6ad : GoodIn wsJ2_indexOfSupplementary_4cfef (va_wsS RJ2 164 yJ11_isValidCodePoint_9a6ad wsJ11_isValidCodePoint_9a6ad) := goodIn_app (goodIn_of _ (by decide +kernel)) ggJ2_indexOfSupplementary_4cfef_J11_isValidCodePoint_9a6ad
set_option maxRecDepth 20000 in
theorem ggJ2_indexOfSupplementary_4cfef_J11_highSurrogate_5068e : GoodIn wsJ2_indexOfSupplementary_4cfef wsJ11_highSurrogate_5068e := goodIn_r _ [7, 8] (by decide +kernel) (by decide +kernel)
set_option maxRecDepth 20000 in
theorem gJ2_indexOfSupplementary_4cfef_J11_highSurrogate_5068e : GoodIn wsJ2_indexOfSupplementary_4cfef (va_wsS RJ2 157 yJ11_highSurrogate_5068e wsJ11_highSurrogate_5068e) := goodIn_app (goodIn_of _ (by decide +kernel)) ggJ2_indexOfSupplementary_4cfef_J11_highSurrogate_5068e
set_option maxRecDepth 20000 in
theorem ggJ2_indexOfSupplementary_4cfef_J11_lowSurrogate_5068e : GoodIn wsJ2_indexOfSupplementary_4cfef wsJ11_lowSurrogate_5068e := goodIn_r _ [11, 12] (by decide +kernel) (by decide +kernel)
set_option maxRecDepth 20000 in
theorem gJ2_indexOfSupplementary_4cfef_J11_lowSurrogate_5068e : GoodIn wsJ2_indexOfSupplementary_4cfef (va_wsS RJ2 161 yJ11_lowSurrogate_5068e wsJ11_lowSurrogate_5068e) := goodIn_app (goodIn_of _ (by decide +kernel)) ggJ2_indexOfSupplementary_4cfef_J11_lowSurrogate_5068e
set_option maxRecDepth 20000 in
theorem ggJ2_indexOfSupplementary_4cfef_J2_checkBoundsBeginEnd_d044e : GoodIn wsJ2_indexOfSupplementary_4cfef wsJ2_checkBoundsBeginEnd_d044e := goodIn_r _ [16, 17, 18, 15, 19, 20, 21, 22, 23, 24, 25, 26, 27, 28] (by decide +kernel) (by decide +kernel)
set_option maxRecDepth 20000 in
theorem gJ2_indexOfSupplementary_4cfef_J2_checkBoundsBeginEnd_d044e : GoodIn wsJ2_indexOfSupplementary_4cfef (va_wsS RJ2 96 yJ2_checkBoundsBeginEnd_d044e wsJ2_checkBoundsBeginEnd_d044e) := goodIn_app (goodIn_of _ (by decide +kernel)) ggJ2_indexOfSupplementary_4cfef_J2_checkBoundsBeginEnd_d044e
set_option maxRecDepth 20000 in
theorem ggJ2_indexOfSupplementary_4cfef_J2_getChar_3b067 : GoodIn wsJ2_indexOfSupplementary_4cfef wsJ2_getChar_3b067 := goodIn_r _ [31, 32, 33, 34, 17, 18, 15, 19] (by decide +kernel) (by decide +kernel)
set_option maxRecDepth 20000 in
theorem gJ2_indexOfSupplementary_4cfef_J2_getChar_3b067 : GoodIn wsJ2_indexOfSupplementary_4cfef (va_wsS RJ2 71 yJ2_getChar_3b067 wsJ2_getChar_3b067) := goodIn_app (goodIn_of _ (by decide +kernel)) ggJ2_indexOfSupplementary_4cfef_J2_getChar_3b067
theorem dJ2_indexOfSupplementary_4cfef_0 : decode cJ2_indexOfSupplementary_4cfef 0 = .ok (.iload_n 1, 1) := by decide +kernel
theorem dJ2_indexOfSupplementary_4cfef_1 : decode cJ2_indexOfSupplementary_4cfef 1 = .ok (.invokestatic 164, 3) := by decide +kernel
theorem dJ2_indexOfSupplementary_4cfef_4 : decode cJ2_indexOfSupplementary_4cfef 4 = .ok (.ifCond .eq 65, 3) := by decide +kernel
theorem dJ2_indexOfSupplementary_4cfef_7 : decode cJ2_indexOfSupplementary_4cfef 7 = .ok (.iload_n 1, 1) := by decide +kernel
theorem dJ2_indexOfSupplementary_4cfef_8 : decode cJ2_indexOfSupplementary_4cfef 8 = .ok (.invokestatic 157, 3) := by decide +kernel
theorem dJ2_indexOfSupplementary_4cfef_11 : decode cJ2_indexOfSupplementary_4cfef 11 = .ok (.istore 4, 2) := by decide +kernel
theorem dJ2_indexOfSupplementary_4cfef_13 : decode cJ2_indexOfSupplementary_4cfef 13 = .ok (.iload_n 1, 1) := by decide +kernel
theorem dJ2_indexOfSupplementary_4cfef_14 : decode cJ2_indexOfSupplementary_4cfef 14 = .ok (.invokestatic 161, 3) := by decide +kernel
theorem dJ2_indexOfSupplementary_4cfef_17 : decode cJ2_indexOfSupplementary_4cfef 17 = .ok (.istore 5, 2) := by decide +kernel
theorem dJ2_indexOfSupplementary_4cfef_19 : decode cJ2_indexOfSupplementary_4cfef 19 = .ok (.iload_n 2, 1) := by decide +kernel
theorem dJ2_indexOfSupplementary_4cfef_20 : decode cJ2_indexOfSupplementary_4cfef 20 = .ok (.iload_n 3, 1) := by decide +kernel
theorem dJ2_indexOfSupplementary_4cfef_21 : decode cJ2_indexOfSupplementary_4cfef 21 = .ok (.aload_n 0, 1) := by decide +kernel
theorem dJ2_indexOfSupplementary_4cfef_22 : decode cJ2_indexOfSupplementary_4cfef 22 = .ok (.invokestatic 96, 3) := by decide +kernel
theorem dJ2_indexOfSupplementary_4cfef_25 : decode cJ2_indexOfSupplementary_4cfef 25 = .ok (.iload_n 2, 1) := by decide +kernel
theorem dJ2_indexOfSupplementary_4cfef_26 : decode cJ2_indexOfSupplementary_4cfef 26 = .ok (.istore 6, 2) := by decide +kernel
theorem dJ2_indexOfSupplementary_4cfef_28 : decode cJ2_indexOfSupplementary_4cfef 28 = .ok (.iload 6, 2) := by decide +kernel
theorem dJ2_indexOfSupplementary_4cfef_30 : decode cJ2_indexOfSupplementary_4cfef 30 = .ok (.iload_n 3, 1) := by decide +kernel
theorem dJ2_indexOfSupplementary_4cfef_31 : decode cJ2_indexOfSupplementary_4cfef 31 = .ok (.iconst 1, 1) := by decide +kernel
theorem dJ2_indexOfSupplementary_4cfef_32 : decode cJ2_indexOfSupplementary_4cfef 32 = .ok (.isub, 1) := by decide +kernel
theorem dJ2_indexOfSupplementary_4cfef_33 : decode cJ2_indexOfSupplementary_4cfef 33 = .ok (.if_icmp .ge 36, 3) := by decide +kernel
theorem dJ2_indexOfSupplementary_4cfef_36 : decode cJ2_indexOfSupplementary_4cfef 36 = .ok (.aload_n 0, 1) := by decide +kernel
theorem dJ2_indexOfSupplementary_4cfef_37 : decode cJ2_indexOfSupplementary_4cfef 37 = .ok (.iload 6, 2) := by decide +kernel
theorem dJ2_indexOfSupplementary_4cfef_39 : decode cJ2_indexOfSupplementary_4cfef 39 = .ok (.invokestatic 71, 3) := by decide +kernel
theorem dJ2_indexOfSupplementary_4cfef_42 : decode cJ2_indexOfSupplementary_4cfef 42 = .ok (.iload 4, 2) := by decide +kernel
end
section
theorem dJ2_indexOfSupplementary_4cfef_44 : decode cJ2_indexOfSupplementary_4cfef 44 = .ok (.if_icmp .ne 19, 3) := by decide +kernel
theorem dJ2_indexOfSupplementary_4cfef_47 : decode cJ2_indexOfSupplementary_4cfef 47 = .ok (.aload_n 0, 1) := by decide +kernel
theorem dJ2_indexOfSupplementary_4cfef_48 : decode cJ2_indexOfSupplementary_4cfef 48 = .ok (.iload 6, 2) := by decide +kernel
theorem dJ2_indexOfSupplementary_4cfef_50 : decode cJ2_indexOfSupplementary_4cfef 50 = .ok (.iconst 1, 1) := by decide +kernel
theorem dJ2_indexOfSupplementary_4cfef_51 : decode cJ2_indexOfSupplementary_4cfef 51 = .ok (.iadd, 1) := by decide +kernel
theorem dJ2_indexOfSupplementary_4cfef_52 : decode cJ2_indexOfSupplementary_4cfef 52 = .ok (.invokestatic 71, 3) := by decide +kernel
theorem dJ2_indexOfSupplementary_4cfef_55 : decode cJ2_indexOfSupplementary_4cfef 55 = .ok (.iload 5, 2) := by decide +kernel
theorem dJ2_indexOfSupplementary_4cfef_57 : decode cJ2_indexOfSupplementary_4cfef 57 = .ok (.if_icmp .ne 6, 3) := by decide +kernel
theorem dJ2_indexOfSupplementary_4cfef_60 : decode cJ2_indexOfSupplementary_4cfef 60 = .ok (.iload 6, 2) := by decide +kernel
theorem dJ2_indexOfSupplementary_4cfef_62 : decode cJ2_indexOfSupplementary_4cfef 62 = .ok (.ireturn, 1) := by decide +kernel
theorem dJ2_indexOfSupplementary_4cfef_63 : decode cJ2_indexOfSupplementary_4cfef 63 = .ok (.iinc 6 1, 3) := by decide +kernel
theorem dJ2_indexOfSupplementary_4cfef_66 : decode cJ2_indexOfSupplementary_4cfef 66 = .ok (.goto (-38), 3) := by decide +kernel
theorem dJ2_indexOfSupplementary_4cfef_69 : decode cJ2_indexOfSupplementary_4cfef 69 = .ok (.iconst (-1), 1) := by decide +kernel
theorem dJ2_indexOfSupplementary_4cfef_70 : decode cJ2_indexOfSupplementary_4cfef 70 = .ok (.ireturn, 1) := by decide +kernel
set_option maxRecDepth 20000 in
theorem ggJ2_checkBoundsBeginEnd_d044e_J2_length_9d52b : GoodIn wsJ2_checkBoundsBeginEnd_d044e wsJ2_length_9d52b := goodIn_r _ [4] (by decide +kernel) (by decide +kernel)
set_option maxRecDepth 20000 in
theorem gJ2_checkBoundsBeginEnd_d044e_J2_length_9d52b : GoodIn wsJ2_checkBoundsBeginEnd_d044e (va_wsS RJ2 48 yJ2_length_9d52b wsJ2_length_9d52b) := goodIn_app (goodIn_of _ (by decide +kernel)) ggJ2_checkBoundsBeginEnd_d044e_J2_length_9d52b
set_option maxRecDepth 20000 in
theorem ggJ2_checkBoundsBeginEnd_d044e_J0_checkBoundsBeginEnd_23922 : GoodIn wsJ2_checkBoundsBeginEnd_d044e wsJ0_checkBoundsBeginEnd_23922 := goodIn_r _ [8, 9, 10, 11, 12, 13] (by decide +kernel) (by decide +kernel)
set_option maxRecDepth 20000 in
theorem gJ2_checkBoundsBeginEnd_d044e_J0_checkBoundsBeginEnd_23922 : GoodIn wsJ2_checkBoundsBeginEnd_d044e (va_wsS RJ2 241 yJ0_checkBoundsBeginEnd_23922 wsJ0_checkBoundsBeginEnd_23922) := goodIn_app (goodIn_of _ (by decide +kernel)) ggJ2_checkBoundsBeginEnd_d044e_J0_checkBoundsBeginEnd_23922
theorem dJ2_checkBoundsBeginEnd_d044e_0 : decode cJ2_checkBoundsBeginEnd_d044e 0 = .ok (.iload_n 0, 1) := by decide +kernel
theorem dJ2_checkBoundsBeginEnd_d044e_1 : decode cJ2_checkBoundsBeginEnd_d044e 1 = .ok (.iload_n 1, 1) := by decide +kernel
theorem dJ2_checkBoundsBeginEnd_d044e_2 : decode cJ2_checkBoundsBeginEnd_d044e 2 = .ok (.aload_n 2, 1) := by decide +kernel
theorem dJ2_checkBoundsBeginEnd_d044e_3 : decode cJ2_checkBoundsBeginEnd_d044e 3 = .ok (.invokestatic 48, 3) := by decide +kernel
theorem dJ2_checkBoundsBeginEnd_d044e_6 : decode cJ2_checkBoundsBeginEnd_d044e 6 = .ok (.invokestatic 241, 3) := by decide +kernel
theorem dJ2_checkBoundsBeginEnd_d044e_9 : decode cJ2_checkBoundsBeginEnd_d044e 9 = .ok (.return_, 1) := by decide +kernel
theorem dJ3_checkFromToIndex_8c36e_0 : decode cJ3_checkFromToIndex_8c36e 0 = .ok (.iload_n 0, 1) := by decide +kernel
theorem dJ3_checkFromToIndex_8c36e_1 : decode cJ3_checkFromToIndex_8c36e 1 = .ok (.ifCond .lt 13, 3) := by decide +kernel
theorem dJ3_checkFromToIndex_8c36e_4 : decode cJ3_checkFromToIndex_8c36e 4 = .ok (.iload_n 0, 1) := by decide +kernel
theorem dJ3_checkFromToIndex_8c36e_5 : decode cJ3_checkFromToIndex_8c36e 5 = .ok (.iload_n 1, 1) := by decide +kernel
theorem dJ3_checkFromToIndex_8c36e_6 : decode cJ3_checkFromToIndex_8c36e 6 = .ok (.if_icmp .gt 8, 3) := by decide +kernel
theorem dJ3_checkFromToIndex_8c36e_9 : decode cJ3_checkFromToIndex_8c36e 9 = .ok (.iload_n 1, 1) := by decide +kernel
theorem dJ3_checkFromToIndex_8c36e_10 : decode cJ3_checkFromToIndex_8c36e 10 = .ok (.iload_n 2, 1) := by decide +kernel
theorem dJ3_checkFromToIndex_8c36e_11 : decode cJ3_checkFromToIndex_8c36e 11 = .ok (.if_icmp .le 11, 3) := by decide +kernel
theorem dJ3_checkFromToIndex_8c36e_14 : decode cJ3_checkFromToIndex_8c36e 14 = .ok (.aload_n 3, 1) := by decide +kernel
theorem dJ3_checkFromToIndex_8c36e_15 : decode cJ3_checkFromToIndex_8c36e 15 = .ok (.iload_n 0, 1) := by decide +kernel
theorem dJ3_checkFromToIndex_8c36e_16 : decode cJ3_checkFromToIndex_8c36e 16 = .ok (.iload_n 1, 1) := by decide +kernel
theorem dJ3_checkFromToIndex_8c36e_17 : decode cJ3_checkFromToIndex_8c36e 17 = .ok (.iload_n 2, 1) := by decide +kernel
theorem dJ3_checkFromToIndex_8c36e_18 : decode cJ3_checkFromToIndex_8c36e 18 = .ok (.invokestatic 99, 3) := by decide +kernel
theorem dJ3_checkFromToIndex_8c36e_21 : decode cJ3_checkFromToIndex_8c36e 21 = .ok (.athrow, 1) := by decide +kernel
theorem dJ3_checkFromToIndex_8c36e_22 : decode cJ3_checkFromToIndex_8c36e 22 = .ok (.iload_n 0, 1) := by decide +kernel
theorem dJ3_checkFromToIndex_8c36e_23 : decode cJ3_checkFromToIndex_8c36e 23 = .ok (.ireturn, 1) := by decide +kernel
abbrev vwCl : List vw_C := [(RX0, TX0, 4), (RX1, TX1, 1), (RX2, TX2, 5), (RX3, TX3, 5), (RX4, TX4, 2), (RX5, TX5, 9), (RX6, TX6, 33)]
end
section
/-! the frame of all contracts: loops as pure functions, worlds in place, calls, returns -/
def kIter {σ τ : Type} (step : (σ → Option τ) → σ → Option τ) : Nat → σ → Option τ
  | 0, _ => none
  | n + 1, z => step (kIter step n) z
theorem kIter_ind {σ τ : Type} {step : (σ → Option τ) → σ → Option τ} (G : σ → τ → Prop)
    (hs : ∀ rc : σ → Option τ, (∀ z r, rc z = some r → G z r) → ∀ z r, step rc z = some r → G z r) :
    ∀ n z r, kIter step n z = some r → G z r
  | 0, _, _, h => by cases h
  | n + 1, z, r, h => hs (kIter step n) (kIter_ind G hs n) z r h
theorem kIter_fix {σ τ : Type} {step : (σ → Option τ) → σ → Option τ} {r : τ} (G : σ → Prop)
    (hs : ∀ rc : σ → Option τ, (∀ z, rc z = some r → G z) → ∀ z, step rc z = some r → G z) :
    ∀ n z, kIter step n z = some r → G z
  | 0, _, h => by cases h
  | n + 1, z, h => hs (kIter step n) (kIter_fix G hs n) z h
/-- an int array's place read, and written -/
def kld (n : Nat) (f : Nat → Int32) (i : Int32) : Option Int32 := if i < 0 ∨ n ≤ i.toNatClampNeg then none else some (f i.toNatClampNeg)
def kst (n : Nat) (f : Nat → Int32) (i x : Int32) : Option (Nat → Int32) := if i < 0 ∨ n ≤ i.toNatClampNeg then none else some (upd f i.toNatClampNeg x)
def kdiv (x y : Int32) : Option Int32 := if y = 0 then none else some (x / y)
def krem (x y : Int32) : Option Int32 := if y = 0 then none else some (x - x / y * y)
/-- a boolean answer -/
def kz (v : Int32) : Option Int32 := if v = 0 ∨ v = 1 then some v else none
theorem kld_bind {n : Nat} {f : Nat → Int32} {i : Int32} {τ : Type} {K : Int32 → Option τ} {r : τ} (h : (kld n f i).bind K = some r) : vp_in i n ∧ K (f i.toNatClampNeg) = some r := by
  unfold kld at h
  by_cases hc : i < 0 ∨ n ≤ i.toNatClampNeg
  · rw [if_pos hc] at h; cases h
  · rw [if_neg hc] at h; exact ⟨hc, h⟩
theorem kst_bind {n : Nat} {f : Nat → Int32} {i x : Int32} {τ : Type} {K : (Nat → Int32) → Option τ} {r : τ} (h : (kst n f i x).bind K = some r) : vp_in i n ∧ K (upd f i.toNatClampNeg x) = some r := by
  unfold kst at h
  by_cases hc : i < 0 ∨ n ≤ i.toNatClampNeg
  · rw [if_pos hc] at h; cases h
  · rw [if_neg hc] at h; exact ⟨hc, h⟩
theorem kdiv_bind {x y : Int32} {τ : Type} {K : Int32 → Option τ} {r : τ} (h : (kdiv x y).bind K = some r) : ¬ y = 0 ∧ K (x / y) = some r := by
  unfold kdiv at h
  by_cases hc : y = 0
  · rw [if_pos hc] at h; cases h
  · rw [if_neg hc] at h; exact ⟨hc, h⟩
theorem krem_bind {x y : Int32} {τ : Type} {K : Int32 → Option τ} {r : τ} (h : (krem x y).bind K = some r) : ¬ y = 0 ∧ K (x - x / y * y) = some r := by
  unfold krem at h
  by_cases hc : y = 0
  · rw [if_pos hc] at h; cases h
  · rw [if_neg hc] at h; exact ⟨hc, h⟩
theorem kz_bind {v : Int32} {τ : Type} {K : Int32 → Option τ} {r : τ} (h : (kz v).bind K = some r) : narrow .boolean (.int v) = .int v ∧ K v = some r := by
  unfold kz at h
  by_cases hc : v = 0 ∨ v = 1
  · rw [if_pos hc] at h
    refine ⟨?_, h⟩
    rcases hc with rfl | rfl <;> decide
  · rw [if_neg hc] at h; cases h
/-- the links between nest mates -/
def kNwF : List (String × Nat × String × String × String × String) := [(RX5, 115, "ClappedWrong$Crowd", "armRows", "I", "ClappedWrong"), (RX5, 122, "ClappedWrong$Night", "barsGone", "I", "ClappedWrong"), (RX5, 132, "ClappedWrong$Night", "beatsLeftOut", "I", "ClappedWrong"), (RX5, 159, "ClappedWrong$Night", "recorded", "I", "ClappedWrong"), (RX5, 176, "ClappedWrong$Hall", "late", "I", "ClappedWrong"), (RX5, 252, "ClappedWrong$Draws", "seed", "I", "ClappedWrong"), (RX5, 62, "ClappedWrong$Page", "length", "I", "ClappedWrong"), (RX5, 84, "ClappedWrong$Hall", "rows", "I", "ClappedWrong"), (RX5, 98, "ClappedWrong$Night", "crowd", "LClappedWrong$Crowd;", "ClappedWrong"), (RX0, 34, "ClappedWrong$Hall", "rows", "I", "ClappedWrong"), (RX0, 74, "ClappedWrong$Hall", "palms", "[I", "ClappedWrong"), (RX2, 28, "ClappedWrong$Page", "length", "I", "ClappedWrong"), (RX3, 32, "ClappedWrong$Hall", "rows", "I", "ClappedWrong")]
def kNwM : List (String × Nat × MethodName × String) := [(RX0, 45, yX5_oneIf, "ClappedWrong"), (RX0, 77, yX5_swapped, "ClappedWrong"), (RX3, 45, yX5_within, "ClappedWrong"), (RX4, 19, yX5_within, "ClappedWrong")]
def kNW (U : State) : Prop := (∀ q ∈ kNwF, va_Nw (.fieldLinkNest q.1 q.2.1 q.2.2.1 q.2.2.2.1 q.2.2.2.2.1 q.2.2.2.2.2) U) ∧ ∀ q ∈ kNwM, va_Nw (.methodLinkNest q.1 q.2.1 q.2.2.1 q.2.2.2) U
theorem kNW.warm {s U : State} (hW : s.WarmedH U.vm) (h : kNW s) : kNW U := ⟨fun q hq => va_Nw.warmF hW (h.1 q hq), fun q hq => va_Nw.warmM hW (h.2 q hq)⟩
theorem kNW.same {u U : State} (hv : u.vm = U.vm) (h : kNW u) : kNW U := ⟨fun q hq => va_Nw.same rfl hv (h.1 q hq), fun q hq => va_Nw.same rfl hv (h.2 q hq)⟩
theorem kNW.f {s : State} (h : kNW s) (a : String) (i : Nat) (b n d t : String) (hq : (a, i, b, n, d, t) ∈ kNwF) {A : Array Value} : (Cond.fieldLinkNest a i b n d t).before A s = true := va_Nw.use rfl (h.1 _ hq)
theorem kNW.m {s : State} (h : kNW s) (a : String) (i : Nat) (y : MethodName) (t : String) (hq : (a, i, y, t) ∈ kNwM) : va_Nw (.methodLinkNest a i y t) s := h.2 _ hq
/-- cells laid in place -/
def kSet : va_W → List Nat → va_W → va_W
  | ws, i :: is, c :: cs => kSet (ws.set i c) is cs
  | ws, _, _ => ws
theorem kSet_get : ∀ (is : List Nat) (ws cs : va_W) (k : Nat) (q : Nat × va_E), is.length = cs.length → (kSet ws is cs)[k]? = some q → (∃ j : Nat, is[j]? = some k ∧ cs[j]? = some q) ∨ (k ∉ is ∧ ws[k]? = some q)
  | [], ws, [], k, q, _, h => Or.inr ⟨List.not_mem_nil, h⟩
  | i :: is, ws, c :: cs, k, q, hl, h => by
    have hl' : is.length = cs.length := by simpa using hl
    rcases kSet_get is (ws.set i c) cs k q hl' h with ⟨j, h1, h2⟩ | ⟨h1, h2⟩
    · exact Or.inl ⟨j + 1, by simpa using h1, by simpa using h2⟩
    · by_cases hk : k = i
      · subst hk
        have hlt : k < ws.length := by
          have := (List.getElem?_eq_some_iff.mp h2).1
          simpa using this
        rw [List.getElem?_set_self hlt] at h2
        exact Or.inl ⟨0, rfl, by simpa using h2⟩
      · rw [List.getElem?_set_ne (fun e => hk e.symm)] at h2
        refine Or.inr ⟨?_, h2⟩
        intro hm
        rcases List.mem_cons.mp hm with e | e
        · exact hk e
        · exact h1 e
/-- behind a call that keeps its cells' addresses: the callee's cells in their places, the rest as it was -/
theorem kSet_world {A : Nat → Prop} {D : va_G} {cl : List vw_C} {ws wc wc' : va_W} {H H1 : Heap} (hP : va_P D cl ws H) (hD : va_D A ws) (isC : List Nat) (hC : isC.map (fun i => ws[i]?) = wc.map some) (hadr : wc'.map Prod.fst = wc.map Prod.fst)
    (hk : ∀ q : Nat, q < H.size → ¬ va_A wc H.size q → H1[q]? = H[q]?) (hP1 : va_P D cl wc' H1) : va_P D cl (kSet ws isC wc') H1 ∧ va_D A (kSet ws isC wc') := by
  have hlen : isC.length = wc'.length := by
    have h1 := congrArg List.length hC
    have h2 := congrArg List.length hadr
    simp at h1 h2
    omega
  have at' : ∀ (j : Nat) (q : Nat × va_E), wc[j]? = some q → ∃ i : Nat, isC[j]? = some i ∧ ws[i]? = some q := by
    intro j q hq
    have h1 : (isC.map (fun i => ws[i]?))[j]? = some (some q) := by rw [hC, List.getElem?_map, hq]; rfl
    rw [List.getElem?_map] at h1
    cases hi : isC[j]? with
    | none => rw [hi] at h1; cases h1
    | some i => rw [hi] at h1; exact ⟨i, rfl, Option.some.inj h1⟩
  have adr : ∀ (k : Nat) (q : Nat × va_E), (kSet ws isC wc')[k]? = some q → ∃ q0, ws[k]? = some q0 ∧ q0.1 = q.1 := by
    intro k q hq
    rcases kSet_get isC ws wc' k q hlen hq with ⟨j, h1, h2⟩ | ⟨-, h2⟩
    · have h3 : (wc'.map Prod.fst)[j]? = some q.1 := by rw [List.getElem?_map, h2]; rfl
      rw [hadr, List.getElem?_map] at h3
      cases hw : wc[j]? with
      | none => rw [hw] at h3; cases h3
      | some q0 =>
        rw [hw] at h3
        obtain ⟨i, h4, h5⟩ := at' j q0 hw
        have : i = k := Option.some.inj (h4.symm.trans h1)
        subst this
        exact ⟨q0, h5, Option.some.inj h3⟩
    · exact ⟨q, h2, rfl⟩
  refine ⟨fun k q hq => ?_, fun i j x y hi hj hxy => ?_, fun k q hq => ?_⟩
  · rcases kSet_get isC ws wc' k q hlen hq with ⟨j, h1, h2⟩ | ⟨h1, h2⟩
    · exact hP1 j q h2
    · have hl := (hP k q h2).lt
      refine (hP k q h2).kept (hk q.1 hl fun h => ?_)
      rcases h with ⟨j, e, h⟩ | h
      · obtain ⟨i, h3, h4⟩ := at' j (q.1, e) h
        have hik := hD.1 i k (q.1, e) q h4 h2 rfl
        subst hik
        exact h1 (List.mem_of_getElem? h3)
      · omega
  · obtain ⟨x0, a1, a2⟩ := adr i x hi
    obtain ⟨y0, b1, b2⟩ := adr j y hj
    exact hD.1 i j x0 y0 a1 b1 (a2.trans (hxy.trans b2.symm))
  · obtain ⟨q0, a1, a2⟩ := adr k q hq
    rw [← a2]
    exact hD.2 k q0 a1
/-- a contract's start and end -/
def kPre (D : va_G) (cI : ClassId) (av : List Value) (ws : va_W) (sz : Nat) : Array Value → State → Prop :=
  va_Pc av (fun U => U.heap.size = sz ∧ va_P D vwCl ws U.heap ∧ va_K D vwCl [(cI, .int)] U ∧ va_D (fun _ => True) ws ∧ kNW U)
def kQi (D : va_G) (cI : ClassId) (r : Int32) (ws' : va_W) (A : Nat → Prop) : Array Value → State → Outcome → State → Prop := va_Qi (fun r' (_ : Unit) => r' = r) (fun _ t => va_P D vwCl ws' t.heap ∧ va_K D vwCl [(cI, .int)] t ∧ va_D A ws') A
def kQl (D : va_G) (cI : ClassId) (r : Int64) (ws' : va_W) (A : Nat → Prop) : Array Value → State → Outcome → State → Prop := va_Ql (fun r' (_ : Unit) => r' = r) (fun _ t => va_P D vwCl ws' t.heap ∧ va_K D vwCl [(cI, .int)] t ∧ va_D A ws') A
def kQv (D : va_G) (cI : ClassId) (ws' : va_W) (A : Nat → Prop) : Array Value → State → Outcome → State → Prop := va_Qv (fun (_ : Unit) => True) (fun _ t => va_P D vwCl ws' t.heap ∧ va_K D vwCl [(cI, .int)] t ∧ va_D A ws') A
theorem kPre_blind {D : va_G} {cI : ClassId} {av : List Value} {ws : va_W} {sz : Nat} : FrameBlind (kPre D cI av ws sz) := fun a U g mk q => by
  obtain ⟨q0, q1, qP, qK, qD, qN⟩ := q
  exact ⟨q0, q1, qP, va_K.moved (u := U) (U := U.calling g mk a) (Vm.Alike.refl U.vm) qK, qD, qN.same rfl⟩
theorem kStart {l : Launch} {y : MethodName} {ws ws' : List Cond} {cc : ByteArray} {maxL : Nat} {ret : Option FieldType} {rm : Room} {D : va_G} {cI : ClassId} {av : List Value} {wl : va_W} {sz mc ms : Nat} {Qc : (Nat → Prop) → Array Value → State → Outcome → State → Prop}
    (hy : plainName y.cls = true) (hw : ws = Cond.code y cc maxL ret :: ws') (hn : (lg_sl av).length ≤ maxL)
    (body : ∀ (p : Program) (e : Env) (s : State) (m : MethodId) (args : Array Value) (below : List Frame) (meth : Method) (c : Code) (A : Nat → Prop) (ls : Array Slot),
      p.tables.exec = Jvm.exec → c.code = cc → meth.sig.returnType = ret → (∀ w ∈ ws, w.before args s = true) → s.vm.findClass y.cls = some m.cls → meth.locks = false → meth.name = y.name → c.maxLocals = maxL → kNW s →
      (∀ q : Nat, s.heap.size ≤ q → A q) → va_S A s.heap s.heap [] → va_P D vwCl wl s.heap → va_K D vwCl [(cI, .int)] s → va_D A wl → lv_has ls maxL (lv_args 0 av) →
      W p l e rm s m args below meth c s.heap [] 0 0 (MQ below (Qc A) args s mc ms A) (F0 m 0 ls [])) :
    Met l y ws rm (kPre D cI av wl sz) (Qc (va_A wl sz)) mc ms (va_A wl sz) := by
  refine Met.ofW (cc := cc) (maxL := maxL) (ret := ret) hy hw ?_
  intro p e s m args below meth c s₁ B hml hv
  obtain ⟨rfl, hsz, hP, hK, hD0, hN⟩ := hv
  have hts := atoms_spec (ws := ws) B.pre
  have hown : s.vm.findClass y.cls = some m.cls := findClass_of_methodNamed B.named
  have hin : meth.name = y.name := (name_of_methodNamed B.named B.method).1
  subst hsz
  have hD := hD0.self (sz := s.heap.size)
  rw [lg_entry_eq]
  exact body p e s m _ below meth c _ _ B.exec B.bytes B.returns hts hown B.notSynchronized hin hml hN (fun q h => Or.inr h) va_S.rf hP hK hD (lv_entry av hn)
section KR
variable {p : Program} {l : Launch} {e : Env} {R : Room} {s : State} {m : MethodId} {args : Array Value} {below : List Frame} {meth : Method} {c : Code} {H : Heap} {locs : List Loc} {cells slots : Nat} {Q : State → Prop}
variable {cc : ByteArray} {pc : Nat} {ls : Array Slot} {rest : List Value} {D : va_G} {cI : ClassId} {A : Nat → Prop} {w' : va_W}
theorem k_iret {v : Int32} (hx : p.tables.exec = Jvm.exec) (hb : c.code = cc) (hr : meth.sig.returnType = some .int) (hlocks : meth.locks = false) (hK : va_K D vwCl [(cI, .int)] s) (hP : va_P D vwCl w' H) (hD : va_D A w') (hS : va_S A s.heap H locs) (hdg : decode cc pc = .ok (.ireturn, 1)) :
    W p l e R s m args below meth c H locs cells slots (MQ below (kQi D cI v w' A) args s cells slots A) (F0 m pc ls [.int v]) :=
  W.iret hx hb hr (fun t ht hW => ⟨⟨v, (), rfl, rfl, by rw [ht]; exact hP, va_K.moved hW.alike hK, hD⟩, hS.F ht⟩) hS.2.2 hdg hlocks
theorem k_zret {v : Int32} {ty : FieldType} (hx : p.tables.exec = Jvm.exec) (hb : c.code = cc) (hr : meth.sig.returnType = some ty) (hlocks : meth.locks = false) (hK : va_K D vwCl [(cI, .int)] s) (hv : narrow ty (.int v) = .int v) (hP : va_P D vwCl w' H) (hD : va_D A w') (hS : va_S A s.heap H locs) (hdg : decode cc pc = .ok (.ireturn, 1)) :
    W p l e R s m args below meth c H locs cells slots (MQ below (kQi D cI v w' A) args s cells slots A) (F0 m pc ls [.int v]) :=
  W.zret hx hb hr hv (fun t ht hW => ⟨⟨v, (), rfl, rfl, by rw [ht]; exact hP, va_K.moved hW.alike hK, hD⟩, hS.F ht⟩) hS.2.2 hdg hlocks
theorem k_lret {v : Int64} (hx : p.tables.exec = Jvm.exec) (hb : c.code = cc) (hr : meth.sig.returnType = some .long) (hlocks : meth.locks = false) (hK : va_K D vwCl [(cI, .int)] s) (hP : va_P D vwCl w' H) (hD : va_D A w') (hS : va_S A s.heap H locs) (hdg : decode cc pc = .ok (.lreturn, 1)) :
    W p l e R s m args below meth c H locs cells slots (MQ below (kQl D cI v w' A) args s cells slots A) (F0 m pc ls [.long v]) :=
  W.lret hx hb hr (fun t ht hW => ⟨⟨v, (), rfl, rfl, by rw [ht]; exact hP, va_K.moved hW.alike hK, hD⟩, hS.F ht⟩) hS.2.2 hdg hlocks
theorem k_vret (hx : p.tables.exec = Jvm.exec) (hb : c.code = cc) (hr : meth.sig.returnType = none) (hlocks : meth.locks = false) (hK : va_K D vwCl [(cI, .int)] s) (hP : va_P D vwCl w' H) (hD : va_D A w') (hS : va_S A s.heap H locs) (hdg : decode cc pc = .ok (.return_, 1)) :
    W p l e R s m args below meth c H locs cells slots (MQ below (kQv D cI w' A) args s cells slots A) (F0 m pc ls []) :=
  W.vret hx hb hr (fun t ht hW => ⟨⟨(), rfl, trivial, by rw [ht]; exact hP, va_K.moved hW.alike hK, hD⟩, hS.F ht⟩) hS.2.2 hdg hlocks
/-- an int array's place, read -/
theorem k_iald {ws : va_W} {a : Nat} (hx : p.tables.exec = Jvm.exec) (hb : c.code = cc) (hK : va_K D vwCl [(cI, .int)] s) (hP : va_P D vwCl ws H) (q0 : Nat) {n : Nat} {f : Nat → Int32} (ha : ws[q0]? = some (a, .inl (cI, n, .inl f))) {i : Int32} (hdg : decode cc pc = .ok (.iaload, 1))
    {τ : Type} {K : Int32 → Option τ} {r : τ} (h : (kld n f i).bind K = some r) (kk : ∀ v : Int32, K v = some r → W p l e R s m args below meth c H locs cells slots Q (F0 m (pc + 1) ls (.int v :: rest))) :
    W p l e R s m args below meth c H locs cells slots Q (F0 m pc ls (.int i :: .ref a :: rest)) := by
  obtain ⟨h1, h2⟩ := kld_bind h
  exact va_iald hx hb hK hP q0 0 ha rfl h1 hdg (kk _ h2)
/-- an int array's place, written -/
theorem k_iast {ws : va_W} {a : Nat} (hx : p.tables.exec = Jvm.exec) (hb : c.code = cc) (hK : va_K D vwCl [(cI, .int)] s) (hP : va_P D vwCl ws H) (hD : va_D A ws) (hS : va_S A s.heap H locs) (q0 : Nat) {n : Nat} {f : Nat → Int32} (ha : ws[q0]? = some (a, .inl (cI, n, .inl f))) {i x : Int32} (hdg : decode cc pc = .ok (.iastore, 1))
    {τ : Type} {K : (Nat → Int32) → Option τ} {r : τ} (h : (kst n f i x).bind K = some r) (w2 : (Nat → Int32) → va_W) (e2 : ∀ g, ws.set q0 (a, .inl (cI, n, .inl g)) = w2 g)
    (kk : ∀ (g : Nat → Int32) (H1 : Heap) (locs1 : List Loc), K g = some r → va_P D vwCl (w2 g) H1 → va_D A (w2 g) → va_S A s.heap H1 locs1 → W p l e R s m args below meth c H1 locs1 cells slots Q (F0 m (pc + 1) ls rest)) :
    W p l e R s m args below meth c H locs cells slots Q (F0 m pc ls (.int x :: .int i :: .ref a :: rest)) := by
  obtain ⟨h1, h2⟩ := kst_bind h
  refine va_iast hx hb hK hP hD hS q0 0 ha rfl h1 hdg (fun H1 locs1 hP1 hD1 hS1 => ?_)
  exact kk _ H1 locs1 h2 (by rw [← e2]; exact hP1) (by rw [← e2]; exact hD1) hS1
theorem k_idiv {x y : Int32} (hx : p.tables.exec = Jvm.exec) (hb : c.code = cc) (hdg : decode cc pc = .ok (.idiv, 1)) {τ : Type} {K : Int32 → Option τ} {r : τ} (h : (kdiv x y).bind K = some r) (kk : ∀ v : Int32, K v = some r → W p l e R s m args below meth c H locs cells slots Q (F0 m (pc + 1) ls (.int v :: rest))) :
    W p l e R s m args below meth c H locs cells slots Q (F0 m pc ls (.int y :: .int x :: rest)) := by
  obtain ⟨h1, h2⟩ := kdiv_bind h
  exact lv_idiv hx hb hdg h1 (kk _ h2)
theorem k_irem {x y : Int32} (hx : p.tables.exec = Jvm.exec) (hb : c.code = cc) (hdg : decode cc pc = .ok (.irem, 1)) {τ : Type} {K : Int32 → Option τ} {r : τ} (h : (krem x y).bind K = some r) (kk : ∀ v : Int32, K v = some r → W p l e R s m args below meth c H locs cells slots Q (F0 m (pc + 1) ls (.int v :: rest))) :
    W p l e R s m args below meth c H locs cells slots Q (F0 m pc ls (.int y :: .int x :: rest)) := by
  obtain ⟨h1, h2⟩ := krem_bind h
  exact lv_irem hx hb hdg h1 (kk _ h2)
variable {mc ms k2 n2 : Nat} {st0 : List Value} {ws wc wc' w2 : va_W} {a : Array Value}
theorem k_ci {r : Int32} (hr : va_Run p l e R s m args below meth c H locs cells slots mc ms (F0 m pc ls st0) rest (kQi D cI r wc' (va_A wc H.size) a) (va_A wc H.size)) (hP : va_P D vwCl ws H) (hD : va_D A ws) (hS : va_S A s.heap H locs) (hA : ∀ q : Nat, s.heap.size ≤ q → A q)
    (isC : List Nat) (hC : isC.map (fun i => ws[i]?) = wc.map some) (hadr : wc'.map Prod.fst = wc.map Prod.fst) (e2 : kSet ws isC wc' = w2) (hc2 : cells + mc = k2) (hs2 : slots + ms = n2)
    (kk : ∀ (H1 : Heap) (locs1 : List Loc), va_P D vwCl w2 H1 → va_D A w2 → va_S A s.heap H1 locs1 → W p l e R s m args below meth c H1 locs1 k2 n2 Q (F0 m (pc + 3) ls (.int r :: rest))) :
    W p l e R s m args below meth c H locs cells slots Q (F0 m pc ls st0) := by
  subst hc2; subst hs2; subst e2
  have hFc := va_free (wc := wc) hD hS hA isC hC
  refine va_calli hr hS (fun q _ h => hFc q h) hFc (fun r' u t H1 locs ht hvm hw hB hz1 hk1 hS => ?_)
  obtain ⟨hP1, hK1, hD1⟩ := hB
  rw [ht] at hP1
  cases hw
  obtain ⟨h1, h2⟩ := kSet_world hP hD isC hC hadr hk1 hP1
  exact kk H1 locs h1 h2 hS
theorem k_cl {r : Int64} (hr : va_Run p l e R s m args below meth c H locs cells slots mc ms (F0 m pc ls st0) rest (kQl D cI r wc' (va_A wc H.size) a) (va_A wc H.size)) (hP : va_P D vwCl ws H) (hD : va_D A ws) (hS : va_S A s.heap H locs) (hA : ∀ q : Nat, s.heap.size ≤ q → A q)
    (isC : List Nat) (hC : isC.map (fun i => ws[i]?) = wc.map some) (hadr : wc'.map Prod.fst = wc.map Prod.fst) (e2 : kSet ws isC wc' = w2) (hc2 : cells + mc = k2) (hs2 : slots + ms = n2)
    (kk : ∀ (H1 : Heap) (locs1 : List Loc), va_P D vwCl w2 H1 → va_D A w2 → va_S A s.heap H1 locs1 → W p l e R s m args below meth c H1 locs1 k2 n2 Q (F0 m (pc + 3) ls (.long r :: rest))) :
    W p l e R s m args below meth c H locs cells slots Q (F0 m pc ls st0) := by
  subst hc2; subst hs2; subst e2
  have hFc := va_free (wc := wc) hD hS hA isC hC
  refine va_calll hr hS (fun q _ h => hFc q h) hFc (fun r' u t H1 locs ht hvm hw hB hz1 hk1 hS => ?_)
  obtain ⟨hP1, hK1, hD1⟩ := hB
  rw [ht] at hP1
  cases hw
  obtain ⟨h1, h2⟩ := kSet_world hP hD isC hC hadr hk1 hP1
  exact kk H1 locs h1 h2 hS
theorem k_cv (hr : va_Run p l e R s m args below meth c H locs cells slots mc ms (F0 m pc ls st0) rest (kQv D cI wc' (va_A wc H.size) a) (va_A wc H.size)) (hP : va_P D vwCl ws H) (hD : va_D A ws) (hS : va_S A s.heap H locs) (hA : ∀ q : Nat, s.heap.size ≤ q → A q)
    (isC : List Nat) (hC : isC.map (fun i => ws[i]?) = wc.map some) (hadr : wc'.map Prod.fst = wc.map Prod.fst) (e2 : kSet ws isC wc' = w2) (hc2 : cells + mc = k2) (hs2 : slots + ms = n2)
    (kk : ∀ (H1 : Heap) (locs1 : List Loc), va_P D vwCl w2 H1 → va_D A w2 → va_S A s.heap H1 locs1 → W p l e R s m args below meth c H1 locs1 k2 n2 Q (F0 m (pc + 3) ls rest)) :
    W p l e R s m args below meth c H locs cells slots Q (F0 m pc ls st0) := by
  subst hc2; subst hs2; subst e2
  have hFc := va_free (wc := wc) hD hS hA isC hC
  refine va_callv hr hS (fun q _ h => hFc q h) hFc (fun u t H1 locs ht hvm hw hB hz1 hk1 hS => ?_)
  obtain ⟨hP1, hK1, hD1⟩ := hB
  rw [ht] at hP1
  obtain ⟨h1, h2⟩ := kSet_world hP hD isC hC hadr hk1 hP1
  exact kk H1 locs h1 h2 hS
theorem k_fm {α β : Type} {f : α → Option β} : ∀ {is : List α} {w : List β}, is.map f = w.map some → is.filterMap f = w
  | [], [], _ => rfl
  | i :: is, x :: w, h => by
    have h1 : f i = some x ∧ is.map f = w.map some := by simpa using h
    rw [List.filterMap_cons, h1.1, k_fm h1.2]
theorem k_pres {av : List Value} {isC : List Nat} (hN : kNW s) (hK : va_K D vwCl [(cI, .int)] s) (hP : va_P D vwCl ws H) (hD : va_D A ws) (hC : isC.map (fun i => ws[i]?) = wc.map some) (hn : va_nd isC = true) : PreS s H (kPre D cI av wc H.size) av :=
  ⟨kPre_blind, fun U hU hW => ⟨rfl, by rw [hU], by rw [hU]; exact hP.sub isC (k_fm hC), va_K.moved hW.alike hK, (hD.sub isC hn hC).weaken (fun _ _ _ _ => trivial), hN.warm hW⟩⟩
theorem k_prev {b : Nat} {As : List Value} {isC : List Nat} {ci : Nat} {q : vw_C} {fs : List Value} (hN : kNW s) (hK : va_K D vwCl [(cI, .int)] s) (hP : va_P D vwCl ws H) (hD : va_D A ws) (hC : isC.map (fun i => ws[i]?) = wc.map some) (hn : va_nd isC = true) (q0 : Nat) (hc : vwCl[ci]? = some q) (he : ws[q0]? = some (b, .inr (ci, fs))) : PreV s H q.1 b (kPre D cI (.ref b :: As) wc H.size) As :=
  ⟨kPre_blind, va_recv hK hP hc he, fun U hU hW => ⟨rfl, by rw [hU], by rw [hU]; exact hP.sub isC (k_fm hC), va_K.moved hW.alike hK, (hD.sub isC hn hC).weaken (fun _ _ _ _ => trivial), hN.warm hW⟩⟩
end KR
/-- what a loop's or a call's answer is, behind a bind -/
theorem k_bs {α β : Type} {o : Option α} {K : α → Option β} {r : β} (h : o.bind K = some r) : ∃ a, o = some a ∧ K a = some r := by
  cases o with
  | none => cases h
  | some a => exact ⟨a, rfl, h⟩
end
section
abbrev wT (cI : ClassId) (q0 q1 q2 q3 q4 q5 q6 q7 q8 q9 q10 q11 q12 q13 q14 q15 q16 q17 q18 q19 q20 q21 q22 : Nat) (s_isKept : Int32) (s_hallsRead : Int32) (s_turnedDone : Int32) (s_beganDone : Int32) (s_page_length : Int32) (s_page_codes : (Nat → Int32)) (s_room_rows : Int32) (s_room_late : Int32) (s_room_kinds : (Nat → Int32)) (s_room_palms : (Nat → Int32)) (s_room_strengths : (Nat → Int32)) (s_night_recorded : Int32) (s_night_barsGone : Int32) (s_night_beatsLeftOut : Int32) (s_night_crowd_armRows : Int32) (s_night_crowd_sounds : (Nat → Int32)) (s_night_crowd_clapped : (Nat → Int32)) (s_night_crowd_next : (Nat → Int32)) (s_night_rightBehindBar : (Nat → Int32)) (s_kept_recorded : Int32) (s_kept_barsGone : Int32) (s_kept_beatsLeftOut : Int32) (s_kept_crowd_armRows : Int32) (s_kept_crowd_sounds : (Nat → Int32)) (s_kept_crowd_clapped : (Nat → Int32)) (s_kept_crowd_next : (Nat → Int32)) (s_kept_rightBehindBar : (Nat → Int32)) (s_trial_armRows : Int32) (s_trial_sounds : (Nat → Int32)) (s_trial_clapped : (Nat → Int32)) (s_trial_next : (Nat → Int32)) : va_W := [(q0, .inr (5, [.ref q1, .ref q3, .ref q7, .ref q13, .ref q19, .int s_isKept, .int s_hallsRead, .int s_turnedDone, .int s_beganDone])), (q1, .inr (4, [.ref q2, .int s_page_length])), (q2, .inl (cI, 36, .inl s_page_codes)), (q3, .inr (2, [.ref q4, .ref q5, .ref q6, .int s_room_rows, .int s_room_late])), (q4, .inl (cI, 8, .inl s_room_kinds)), (q5, .inl (cI, 8, .inl s_room_palms)), (q6, .inl (cI, 8, .inl s_room_strengths)), (q7, .inr (3, [.ref q8, .ref q12, .int s_night_recorded, .int s_night_barsGone, .int s_night_beatsLeftOut])), (q8, .inr (0, [.ref q9, .ref q10, .ref q11, .int s_night_crowd_armRows])), (q9, .inl (cI, 8, .inl s_night_crowd_sounds)), (q10, .inl (cI, 8, .inl s_night_crowd_clapped)), (q11, .inl (cI, 8, .inl s_night_crowd_next)), (q12, .inl (cI, 8, .inl s_night_rightBehindBar)), (q13, .inr (3, [.ref q14, .ref q18, .int s_kept_recorded, .int s_kept_barsGone, .int s_kept_beatsLeftOut])), (q14, .inr (0, [.ref q15, .ref q16, .ref q17, .int s_kept_crowd_armRows])), (q15, .inl (cI, 8, .inl s_kept_crowd_sounds)), (q16, .inl (cI, 8, .inl s_kept_crowd_clapped)), (q17, .inl (cI, 8, .inl s_kept_crowd_next)), (q18, .inl (cI, 8, .inl s_kept_rightBehindBar)), (q19, .inr (0, [.ref q20, .ref q21, .ref q22, .int s_trial_armRows])), (q20, .inl (cI, 8, .inl s_trial_sounds)), (q21, .inl (cI, 8, .inl s_trial_clapped)), (q22, .inl (cI, 8, .inl s_trial_next))]
abbrev wM (cI : ClassId) (q0 q1 q2 q3 q4 q5 q6 q7 q8 q9 q10 q11 q12 : Nat) (s_pageMany : Int32) (s_readMany : Int32) (s_readLate : Int32) (s_state : Int32) (s_many : Int32) (s_late : Int32) (s_armNow : Int32) (s_barNow : Int32) (s_skips : Int32) (s_hallsRead : Int32) (s_nowArm : Int32) (s_turnedMany : Int32) (s_recordMany : Int32) (s_beganMany : Int32) (s_seedNow : Int32) (s_keptHall : Int32) (s_keptArm : Int32) (s_keptBar : Int32) (s_keptSkips : Int32) (s_keptRecordMany : Int32) (s_hash : Int64) (s_page : (Nat → Int32)) (s_read : (Nat → Int32)) (s_rows : (Nat → Int32)) (s_sounds : (Nat → Int32)) (s_clapped : (Nat → Int32)) (s_now : (Nat → Int32)) (s_nowLong : (Nat → Int32)) (s_ahead : (Nat → Int32)) (s_records : (Nat → Int32)) (s_keptSounds : (Nat → Int32)) (s_keptClapped : (Nat → Int32)) (s_keptRecords : (Nat → Int32)) : va_W := [(q0, .inr (6, [.ref q1, .int s_pageMany, .ref q2, .int s_readMany, .int s_readLate, .int s_state, .int s_many, .int s_late, .int s_armNow, .int s_barNow, .int s_skips, .int s_hallsRead, .ref q3, .ref q4, .ref q5, .ref q6, .ref q7, .ref q8, .int s_nowArm, .int s_turnedMany, .int s_recordMany, .ref q9, .int s_beganMany, .int s_seedNow, .int s_keptHall, .int s_keptArm, .int s_keptBar, .int s_keptSkips, .int s_keptRecordMany, .ref q10, .ref q11, .ref q12, .long s_hash])), (q1, .inl (cI, 36, .inl s_page)), (q2, .inl (cI, 24, .inl s_read)), (q3, .inl (cI, 24, .inl s_rows)), (q4, .inl (cI, 8, .inl s_sounds)), (q5, .inl (cI, 8, .inl s_clapped)), (q6, .inl (cI, 8, .inl s_now)), (q7, .inl (cI, 8, .inl s_nowLong)), (q8, .inl (cI, 8, .inl s_ahead)), (q9, .inl (cI, 8, .inl s_records)), (q10, .inl (cI, 8, .inl s_keptSounds)), (q11, .inl (cI, 8, .inl s_keptClapped)), (q12, .inl (cI, 8, .inl s_keptRecords))]
def fX0_let (s_sounds : (Nat → Int32)) (s_clapped : (Nat → Int32)) (p1 : Int32) (p2 : Int32) : Option ((Nat → Int32) × (Nat → Int32)) :=
  if p1 < 0 then
    some (s_sounds, s_clapped)
  else
    if p1 < 8 then
      (kst 8 s_sounds p1 p2).bind fun g1 =>
        if p2 = (0 : Int32) then
        (kst 8 s_clapped p1 0).bind fun g2 =>
          some (g1, g2)
      else
        some (g1, s_clapped)
    else
      some (s_sounds, s_clapped)
theorem iX0_let_X0 : ∀ w ∈ wsX00, w ∈ wsX0_let := by decide +kernel
def rX0_let : Room := { frames := 0, cells := 0, slots := 0, locals := 0 }
set_option maxHeartbeats 4000000 in
set_option maxRecDepth 100000 in
theorem mX0_let (l : Launch) (D : va_G) (cI : ClassId) (q0 q1 q2 q3 : Nat) (sz : Nat) (s_armRows : Int32) (s_sounds : (Nat → Int32)) (s_clapped : (Nat → Int32)) (s_next : (Nat → Int32)) (p1 : Int32) (p2 : Int32) (r : ((Nat → Int32) × (Nat → Int32))) (h : fX0_let s_sounds s_clapped p1 p2 = some r) : Met l yX0_let wsX0_let rX0_let (kPre D cI [.ref q0, .int p1, .int p2] [(q0, .inr (0, [.ref q1, .ref q2, .ref q3, .int s_armRows])), (q1, .inl (cI, 8, .inl s_sounds)), (q2, .inl (cI, 8, .inl s_clapped)), (q3, .inl (cI, 8, .inl s_next))] sz) (kQv D cI [(q0, .inr (0, [.ref q1, .ref q2, .ref q3, .int s_armRows])), (q1, .inl (cI, 8, .inl r.1)), (q2, .inl (cI, 8, .inl r.2)), (q3, .inl (cI, 8, .inl s_next))] (va_A [(q0, .inr (0, [.ref q1, .ref q2, .ref q3, .int s_armRows])), (q1, .inl (cI, 8, .inl s_sounds)), (q2, .inl (cI, 8, .inl s_clapped)), (q3, .inl (cI, 8, .inl s_next))] sz)) 0 0 (va_A [(q0, .inr (0, [.ref q1, .ref q2, .ref q3, .int s_armRows])), (q1, .inl (cI, 8, .inl s_sounds)), (q2, .inl (cI, 8, .inl s_clapped)), (q3, .inl (cI, 8, .inl s_next))] sz) := by
  refine kStart (cc := cX0_let) (maxL := 3) (ret := none) (Qc := fun A => kQv D cI [(q0, .inr (0, [.ref q1, .ref q2, .ref q3, .int s_armRows])), (q1, .inl (cI, 8, .inl r.1)), (q2, .inl (cI, 8, .inl r.2)), (q3, .inl (cI, 8, .inl s_next))] A) (by decide) rfl (Nat.le_of_ble_eq_true rfl) ?_
  intro p e s m args below meth c A ls hx hb hr hts hown hlocks hin hml hN hA hS hP hK hD hl
  have hl : lv_has ls 3 [(0, .ref q0), (1, .int p1), (2, .int p2)] := hl
  have hRet : ∀ (H : Heap) (locs : List Loc) (ls : Array Slot) (pc : Nat), va_P D vwCl [(q0, .inr (0, [.ref q1, .ref q2, .ref q3, .int s_armRows])), (q1, .inl (cI, 8, .inl r.1)), (q2, .inl (cI, 8, .inl r.2)), (q3, .inl (cI, 8, .inl s_next))] H → va_D A [(q0, .inr (0, [.ref q1, .ref q2, .ref q3, .int s_armRows])), (q1, .inl (cI, 8, .inl r.1)), (q2, .inl (cI, 8, .inl r.2)), (q3, .inl (cI, 8, .inl s_next))] → va_S A s.heap H locs → decode cX0_let pc = .ok (.return_, 1) → W p l e rX0_let s m args below meth c H locs 0 0 (MQ below (kQv D cI [(q0, .inr (0, [.ref q1, .ref q2, .ref q3, .int s_armRows])), (q1, .inl (cI, 8, .inl r.1)), (q2, .inl (cI, 8, .inl r.2)), (q3, .inl (cI, 8, .inl s_next))] A) args s 0 0 A) (F0 m pc ls []) := fun H locs ls pc hP hD hS hd => k_vret hx hb hr hlocks hK hP hD hS hd
  generalize MQ below (kQv D cI [(q0, .inr (0, [.ref q1, .ref q2, .ref q3, .int s_armRows])), (q1, .inl (cI, 8, .inl r.1)), (q2, .inl (cI, 8, .inl r.2)), (q3, .inl (cI, 8, .inl s_next))] A) args s 0 0 A = Q at hRet ⊢
  unfold fX0_let at h
  refine lv_iload_n hx hb dX0_let_0 rfl (lv_at hl 1 rfl) ?_
  refine lv_if_lt (tgt := 10) hx hb dX0_let_1 (by decide) (fun c0 => ?_) (fun c0 => ?_)
  · have h := (if_pos c0).symm.trans h
    have h := Option.some.inj h
    subst h
    exact hRet _ _ _ _ hP hD hS dX0_let_10
  · have h := (if_neg c0).symm.trans h
    refine lv_iload_n hx hb dX0_let_4 rfl (lv_at hl 1 rfl) ?_
    refine lv_bipush (v := 8) hx hb dX0_let_5 (by decide) ?_
    refine lv_icmp_lt (tgt := 11) hx hb dX0_let_7 (by decide) (fun c0 => ?_) (fun c0 => ?_)
    · have h := (if_pos c0).symm.trans h
      refine lv_aload_n hx hb dX0_let_11 rfl (lv_at hl 0 rfl) ?_
      refine va_get (D := D) (ci := 0) (v := .ref q1) (C := RX0) (T := TX0) (N := 4) hx hb hts iX0_let_X0 hown hK hP 0 rfl rfl 0 (by decide) (hts (.fieldLink RX0 9 "ClappedWrong$Crowd" "sounds" "[I") (by decide +kernel)) (fun _ h9 => h9) rfl dX0_let_12 ?_
      refine lv_iload_n hx hb dX0_let_15 rfl (lv_at hl 1 rfl) ?_
      refine lv_iload_n hx hb dX0_let_16 rfl (lv_at hl 2 rfl) ?_
      refine k_iast hx hb hK hP hD hS 1 rfl dX0_let_17 h (fun g1 => [(q0, .inr (0, [.ref q1, .ref q2, .ref q3, .int s_armRows])), (q1, .inl (cI, 8, .inl g1)), (q2, .inl (cI, 8, .inl s_clapped)), (q3, .inl (cI, 8, .inl s_next))]) (fun _ => rfl) (fun g1 H locs h hP hD hS => ?_)
      refine lv_iload_n hx hb dX0_let_18 rfl (lv_at hl 2 rfl) ?_
      refine lv_if_ne (tgt := 29) hx hb dX0_let_19 (by decide) (fun c0 => ?_) (fun c0 => ?_)
      · have h := (if_neg c0).symm.trans h
        have h := Option.some.inj h
        subst h
        exact hRet _ _ _ _ hP hD hS dX0_let_29
      · have h := (if_pos c0).symm.trans h
        refine lv_aload_n hx hb dX0_let_22 rfl (lv_at hl 0 rfl) ?_
        refine va_get (D := D) (ci := 0) (v := .ref q2) (C := RX0) (T := TX0) (N := 4) hx hb hts iX0_let_X0 hown hK hP 0 rfl rfl 1 (by decide) (hts (.fieldLink RX0 15 "ClappedWrong$Crowd" "clapped" "[I") (by decide +kernel)) (fun _ h9 => h9) rfl dX0_let_23 ?_
        refine lv_iload_n hx hb dX0_let_26 rfl (lv_at hl 1 rfl) ?_
        refine lv_iconst (v := 0) hx hb dX0_let_27 (by decide) ?_
        refine k_iast hx hb hK hP hD hS 2 rfl dX0_let_28 h (fun g2 => [(q0, .inr (0, [.ref q1, .ref q2, .ref q3, .int s_armRows])), (q1, .inl (cI, 8, .inl g1)), (q2, .inl (cI, 8, .inl g2)), (q3, .inl (cI, 8, .inl s_next))]) (fun _ => rfl) (fun g2 H locs h hP hD hS => ?_)
        have h := Option.some.inj h
        subst h
        exact hRet _ _ _ _ hP hD hS dX0_let_29
    · have h := (if_neg c0).symm.trans h
      have h := Option.some.inj h
      subst h
      exact hRet _ _ _ _ hP hD hS dX0_let_10
def fX2_strengthOf (s_strengths : (Nat → Int32)) (s_rows : Int32) (p1 : Int32) : Option Int32 :=
  if p1 < 0 then
    some 0
  else
    if s_rows ≤ p1 then
      some 0
    else
      (kld 8 s_strengths p1).bind fun v1 =>
        some v1
theorem iX2_strengthOf_X2 : ∀ w ∈ wsX20, w ∈ wsX2_strengthOf := by decide +kernel
def rX2_strengthOf : Room := { frames := 0, cells := 0, slots := 0, locals := 0 }
set_option maxHeartbeats 4000000 in
set_option maxRecDepth 100000 in
theorem mX2_strengthOf (l : Launch) (D : va_G) (cI : ClassId) (q0 q1 q2 q3 : Nat) (sz : Nat) (s_rows : Int32) (s_late : Int32) (s_kinds : (Nat → Int32)) (s_palms : (Nat → Int32)) (s_strengths : (Nat → Int32)) (p1 : Int32) (r : Int32) (h : fX2_strengthOf s_strengths s_rows p1 = some r) : Met l yX2_strengthOf wsX2_strengthOf rX2_strengthOf (kPre D cI [.ref q0, .int p1] [(q0, .inr (2, [.ref q1, .ref q2, .ref q3, .int s_rows, .int s_late])), (q1, .inl (cI, 8, .inl s_kinds)), (q2, .inl (cI, 8, .inl s_palms)), (q3, .inl (cI, 8, .inl s_strengths))] sz) (kQi D cI r [(q0, .inr (2, [.ref q1, .ref q2, .ref q3, .int s_rows, .int s_late])), (q1, .inl (cI, 8, .inl s_kinds)), (q2, .inl (cI, 8, .inl s_palms)), (q3, .inl (cI, 8, .inl s_strengths))] (va_A [(q0, .inr (2, [.ref q1, .ref q2, .ref q3, .int s_rows, .int s_late])), (q1, .inl (cI, 8, .inl s_kinds)), (q2, .inl (cI, 8, .inl s_palms)), (q3, .inl (cI, 8, .inl s_strengths))] sz)) 0 0 (va_A [(q0, .inr (2, [.ref q1, .ref q2, .ref q3, .int s_rows, .int s_late])), (q1, .inl (cI, 8, .inl s_kinds)), (q2, .inl (cI, 8, .inl s_palms)), (q3, .inl (cI, 8, .inl s_strengths))] sz) := by
  refine kStart (cc := cX2_strengthOf) (maxL := 2) (ret := (some .int)) (Qc := fun A => kQi D cI r [(q0, .inr (2, [.ref q1, .ref q2, .ref q3, .int s_rows, .int s_late])), (q1, .inl (cI, 8, .inl s_kinds)), (q2, .inl (cI, 8, .inl s_palms)), (q3, .inl (cI, 8, .inl s_strengths))] A) (by decide) rfl (Nat.le_of_ble_eq_true rfl) ?_
  intro p e s m args below meth c A ls hx hb hr hts hown hlocks hin hml hN hA hS hP hK hD hl
  have hl : lv_has ls 2 [(0, .ref q0), (1, .int p1)] := hl
  have hRet : ∀ (H : Heap) (locs : List Loc) (ls : Array Slot) (pc : Nat), va_P D vwCl [(q0, .inr (2, [.ref q1, .ref q2, .ref q3, .int s_rows, .int s_late])), (q1, .inl (cI, 8, .inl s_kinds)), (q2, .inl (cI, 8, .inl s_palms)), (q3, .inl (cI, 8, .inl s_strengths))] H → va_D A [(q0, .inr (2, [.ref q1, .ref q2, .ref q3, .int s_rows, .int s_late])), (q1, .inl (cI, 8, .inl s_kinds)), (q2, .inl (cI, 8, .inl s_palms)), (q3, .inl (cI, 8, .inl s_strengths))] → va_S A s.heap H locs → decode cX2_strengthOf pc = .ok (.ireturn, 1) → W p l e rX2_strengthOf s m args below meth c H locs 0 0 (MQ below (kQi D cI r [(q0, .inr (2, [.ref q1, .ref q2, .ref q3, .int s_rows, .int s_late])), (q1, .inl (cI, 8, .inl s_kinds)), (q2, .inl (cI, 8, .inl s_palms)), (q3, .inl (cI, 8, .inl s_strengths))] A) args s 0 0 A) (F0 m pc ls [.int r]) := fun H locs ls pc hP hD hS hd => k_iret hx hb hr hlocks hK hP hD hS hd
  generalize MQ below (kQi D cI r [(q0, .inr (2, [.ref q1, .ref q2, .ref q3, .int s_rows, .int s_late])), (q1, .inl (cI, 8, .inl s_kinds)), (q2, .inl (cI, 8, .inl s_palms)), (q3, .inl (cI, 8, .inl s_strengths))] A) args s 0 0 A = Q at hRet ⊢
  unfold fX2_strengthOf at h
  refine lv_iload_n hx hb dX2_strengthOf_0 rfl (lv_at hl 1 rfl) ?_
  refine lv_if_lt (tgt := 21) hx hb dX2_strengthOf_1 (by decide) (fun c0 => ?_) (fun c0 => ?_)
  · have h := (if_pos c0).symm.trans h
    refine lv_iconst (v := 0) hx hb dX2_strengthOf_21 (by decide) ?_
    have h := Option.some.inj h
    subst h
    exact hRet _ _ _ _ hP hD hS dX2_strengthOf_22
  · have h := (if_neg c0).symm.trans h
    refine lv_iload_n hx hb dX2_strengthOf_4 rfl (lv_at hl 1 rfl) ?_
    refine lv_aload_n hx hb dX2_strengthOf_5 rfl (lv_at hl 0 rfl) ?_
    refine va_get (D := D) (ci := 2) (v := .int s_rows) (C := RX2) (T := TX2) (N := 5) hx hb hts iX2_strengthOf_X2 hown hK hP 0 rfl rfl 3 (by decide) (hts (.fieldLink RX2 21 "ClappedWrong$Hall" "rows" "I") (by decide +kernel)) (fun _ h9 => h9) rfl dX2_strengthOf_6 ?_
    refine lv_icmp_ge (tgt := 21) hx hb dX2_strengthOf_9 (by decide) (fun c0 => ?_) (fun c0 => ?_)
    · have h := (if_pos c0).symm.trans h
      refine lv_iconst (v := 0) hx hb dX2_strengthOf_21 (by decide) ?_
      have h := Option.some.inj h
      subst h
      exact hRet _ _ _ _ hP hD hS dX2_strengthOf_22
    · have h := (if_neg c0).symm.trans h
      refine lv_aload_n hx hb dX2_strengthOf_12 rfl (lv_at hl 0 rfl) ?_
      refine va_get (D := D) (ci := 2) (v := .ref q3) (C := RX2) (T := TX2) (N := 5) hx hb hts iX2_strengthOf_X2 hown hK hP 0 rfl rfl 2 (by decide) (hts (.fieldLink RX2 18 "ClappedWrong$Hall" "strengths" "[I") (by decide +kernel)) (fun _ h9 => h9) rfl dX2_strengthOf_13 ?_
      refine lv_iload_n hx hb dX2_strengthOf_16 rfl (lv_at hl 1 rfl) ?_
      refine k_iald hx hb hK hP 3 rfl dX2_strengthOf_17 h (fun v1 h => ?_)
      refine lv_goto (tgt := 22) hx hb dX2_strengthOf_18 (by decide) ?_
      have h := Option.some.inj h
      subst h
      exact hRet _ _ _ _ hP hD hS dX2_strengthOf_22
def fX0_clappedOf (s_clapped : (Nat → Int32)) (p1 : Int32) : Option Int32 :=
  if p1 < 0 then
    some 0
  else
    if 8 ≤ p1 then
      some 0
    else
      (kld 8 s_clapped p1).bind fun v1 =>
        some v1
theorem iX0_clappedOf_X0 : ∀ w ∈ wsX00, w ∈ wsX0_clappedOf := by decide +kernel
def rX0_clappedOf : Room := { frames := 0, cells := 0, slots := 0, locals := 0 }
set_option maxHeartbeats 4000000 in
set_option maxRecDepth 100000 in
theorem mX0_clappedOf (l : Launch) (D : va_G) (cI : ClassId) (q0 q1 q2 q3 : Nat) (sz : Nat) (s_armRows : Int32) (s_sounds : (Nat → Int32)) (s_clapped : (Nat → Int32)) (s_next : (Nat → Int32)) (p1 : Int32) (r : Int32) (h : fX0_clappedOf s_clapped p1 = some r) : Met l yX0_clappedOf wsX0_clappedOf rX0_clappedOf (kPre D cI [.ref q0, .int p1] [(q0, .inr (0, [.ref q1, .ref q2, .ref q3, .int s_armRows])), (q1, .inl (cI, 8, .inl s_sounds)), (q2, .inl (cI, 8, .inl s_clapped)), (q3, .inl (cI, 8, .inl s_next))] sz) (kQi D cI r [(q0, .inr (0, [.ref q1, .ref q2, .ref q3, .int s_armRows])), (q1, .inl (cI, 8, .inl s_sounds)), (q2, .inl (cI, 8, .inl s_clapped)), (q3, .inl (cI, 8, .inl s_next))] (va_A [(q0, .inr (0, [.ref q1, .ref q2, .ref q3, .int s_armRows])), (q1, .inl (cI, 8, .inl s_sounds)), (q2, .inl (cI, 8, .inl s_clapped)), (q3, .inl (cI, 8, .inl s_next))] sz)) 0 0 (va_A [(q0, .inr (0, [.ref q1, .ref q2, .ref q3, .int s_armRows])), (q1, .inl (cI, 8, .inl s_sounds)), (q2, .inl (cI, 8, .inl s_clapped)), (q3, .inl (cI, 8, .inl s_next))] sz) := by
  refine kStart (cc := cX0_clappedOf) (maxL := 2) (ret := (some .int)) (Qc := fun A => kQi D cI r [(q0, .inr (0, [.ref q1, .ref q2, .ref q3, .int s_armRows])), (q1, .inl (cI, 8, .inl s_sounds)), (q2, .inl (cI, 8, .inl s_clapped)), (q3, .inl (cI, 8, .inl s_next))] A) (by decide) rfl (Nat.le_of_ble_eq_true rfl) ?_
  intro p e s m args below meth c A ls hx hb hr hts hown hlocks hin hml hN hA hS hP hK hD hl
  have hl : lv_has ls 2 [(0, .ref q0), (1, .int p1)] := hl
  have hRet : ∀ (H : Heap) (locs : List Loc) (ls : Array Slot) (pc : Nat), va_P D vwCl [(q0, .inr (0, [.ref q1, .ref q2, .ref q3, .int s_armRows])), (q1, .inl (cI, 8, .inl s_sounds)), (q2, .inl (cI, 8, .inl s_clapped)), (q3, .inl (cI, 8, .inl s_next))] H → va_D A [(q0, .inr (0, [.ref q1, .ref q2, .ref q3, .int s_armRows])), (q1, .inl (cI, 8, .inl s_sounds)), (q2, .inl (cI, 8, .inl s_clapped)), (q3, .inl (cI, 8, .inl s_next))] → va_S A s.heap H locs → decode cX0_clappedOf pc = .ok (.ireturn, 1) → W p l e rX0_clappedOf s m args below meth c H locs 0 0 (MQ below (kQi D cI r [(q0, .inr (0, [.ref q1, .ref q2, .ref q3, .int s_armRows])), (q1, .inl (cI, 8, .inl s_sounds)), (q2, .inl (cI, 8, .inl s_clapped)), (q3, .inl (cI, 8, .inl s_next))] A) args s 0 0 A) (F0 m pc ls [.int r]) := fun H locs ls pc hP hD hS hd => k_iret hx hb hr hlocks hK hP hD hS hd
  generalize MQ below (kQi D cI r [(q0, .inr (0, [.ref q1, .ref q2, .ref q3, .int s_armRows])), (q1, .inl (cI, 8, .inl s_sounds)), (q2, .inl (cI, 8, .inl s_clapped)), (q3, .inl (cI, 8, .inl s_next))] A) args s 0 0 A = Q at hRet ⊢
  unfold fX0_clappedOf at h
  refine lv_iload_n hx hb dX0_clappedOf_0 rfl (lv_at hl 1 rfl) ?_
  refine lv_if_lt (tgt := 19) hx hb dX0_clappedOf_1 (by decide) (fun c0 => ?_) (fun c0 => ?_)
  · have h := (if_pos c0).symm.trans h
    refine lv_iconst (v := 0) hx hb dX0_clappedOf_19 (by decide) ?_
    have h := Option.some.inj h
    subst h
    exact hRet _ _ _ _ hP hD hS dX0_clappedOf_20
  · have h := (if_neg c0).symm.trans h
    refine lv_iload_n hx hb dX0_clappedOf_4 rfl (lv_at hl 1 rfl) ?_
    refine lv_bipush (v := 8) hx hb dX0_clappedOf_5 (by decide) ?_
    refine lv_icmp_ge (tgt := 19) hx hb dX0_clappedOf_7 (by decide) (fun c0 => ?_) (fun c0 => ?_)
    · have h := (if_pos c0).symm.trans h
      refine lv_iconst (v := 0) hx hb dX0_clappedOf_19 (by decide) ?_
      have h := Option.some.inj h
      subst h
      exact hRet _ _ _ _ hP hD hS dX0_clappedOf_20
    · have h := (if_neg c0).symm.trans h
      refine lv_aload_n hx hb dX0_clappedOf_10 rfl (lv_at hl 0 rfl) ?_
      refine va_get (D := D) (ci := 0) (v := .ref q2) (C := RX0) (T := TX0) (N := 4) hx hb hts iX0_clappedOf_X0 hown hK hP 0 rfl rfl 1 (by decide) (hts (.fieldLink RX0 15 "ClappedWrong$Crowd" "clapped" "[I") (by decide +kernel)) (fun _ h9 => h9) rfl dX0_clappedOf_11 ?_
      refine lv_iload_n hx hb dX0_clappedOf_14 rfl (lv_at hl 1 rfl) ?_
      refine k_iald hx hb hK hP 2 rfl dX0_clappedOf_15 h (fun v1 h => ?_)
      refine lv_goto (tgt := 20) hx hb dX0_clappedOf_16 (by decide) ?_
      have h := Option.some.inj h
      subst h
      exact hRet _ _ _ _ hP hD hS dX0_clappedOf_20
def fX0_isTired (s_clapped : (Nat → Int32)) (s_hall_strengths : (Nat → Int32)) (s_hall_rows : Int32) (p2 : Int32) : Option Int32 :=
  (fX2_strengthOf s_hall_strengths s_hall_rows p2).bind fun u1 =>
    if u1 ≤ 0 then
    some 0
  else
    (fX0_clappedOf s_clapped p2).bind fun u2 =>
      if u2 < u1 then
      some 0
    else
      some 1
def rX0_isTired : Room := { frames := 1, cells := 0, slots := 0, locals := 21 }
set_option maxHeartbeats 4000000 in
set_option maxRecDepth 100000 in
theorem mX0_isTired (l : Launch) (D : va_G) (cI : ClassId) (q0 q1 q2 q3 q4 q5 q6 q7 : Nat) (sz : Nat) (s_armRows : Int32) (s_sounds : (Nat → Int32)) (s_clapped : (Nat → Int32)) (s_next : (Nat → Int32)) (s_hall_rows : Int32) (s_hall_late : Int32) (s_hall_kinds : (Nat → Int32)) (s_hall_palms : (Nat → Int32)) (s_hall_strengths : (Nat → Int32)) (p2 : Int32) (r : Int32) (h : fX0_isTired s_clapped s_hall_strengths s_hall_rows p2 = some r) : Met l yX0_isTired wsX0_isTired rX0_isTired (kPre D cI [.ref q0, .ref q4, .int p2] [(q0, .inr (0, [.ref q1, .ref q2, .ref q3, .int s_armRows])), (q1, .inl (cI, 8, .inl s_sounds)), (q2, .inl (cI, 8, .inl s_clapped)), (q3, .inl (cI, 8, .inl s_next)), (q4, .inr (2, [.ref q5, .ref q6, .ref q7, .int s_hall_rows, .int s_hall_late])), (q5, .inl (cI, 8, .inl s_hall_kinds)), (q6, .inl (cI, 8, .inl s_hall_palms)), (q7, .inl (cI, 8, .inl s_hall_strengths))] sz) (kQi D cI r [(q0, .inr (0, [.ref q1, .ref q2, .ref q3, .int s_armRows])), (q1, .inl (cI, 8, .inl s_sounds)), (q2, .inl (cI, 8, .inl s_clapped)), (q3, .inl (cI, 8, .inl s_next)), (q4, .inr (2, [.ref q5, .ref q6, .ref q7, .int s_hall_rows, .int s_hall_late])), (q5, .inl (cI, 8, .inl s_hall_kinds)), (q6, .inl (cI, 8, .inl s_hall_palms)), (q7, .inl (cI, 8, .inl s_hall_strengths))] (va_A [(q0, .inr (0, [.ref q1, .ref q2, .ref q3, .int s_armRows])), (q1, .inl (cI, 8, .inl s_sounds)), (q2, .inl (cI, 8, .inl s_clapped)), (q3, .inl (cI, 8, .inl s_next)), (q4, .inr (2, [.ref q5, .ref q6, .ref q7, .int s_hall_rows, .int s_hall_late])), (q5, .inl (cI, 8, .inl s_hall_kinds)), (q6, .inl (cI, 8, .inl s_hall_palms)), (q7, .inl (cI, 8, .inl s_hall_strengths))] sz)) 0 0 (va_A [(q0, .inr (0, [.ref q1, .ref q2, .ref q3, .int s_armRows])), (q1, .inl (cI, 8, .inl s_sounds)), (q2, .inl (cI, 8, .inl s_clapped)), (q3, .inl (cI, 8, .inl s_next)), (q4, .inr (2, [.ref q5, .ref q6, .ref q7, .int s_hall_rows, .int s_hall_late])), (q5, .inl (cI, 8, .inl s_hall_kinds)), (q6, .inl (cI, 8, .inl s_hall_palms)), (q7, .inl (cI, 8, .inl s_hall_strengths))] sz) := by
  refine kStart (cc := cX0_isTired) (maxL := 4) (ret := (some .boolean)) (Qc := fun A => kQi D cI r [(q0, .inr (0, [.ref q1, .ref q2, .ref q3, .int s_armRows])), (q1, .inl (cI, 8, .inl s_sounds)), (q2, .inl (cI, 8, .inl s_clapped)), (q3, .inl (cI, 8, .inl s_next)), (q4, .inr (2, [.ref q5, .ref q6, .ref q7, .int s_hall_rows, .int s_hall_late])), (q5, .inl (cI, 8, .inl s_hall_kinds)), (q6, .inl (cI, 8, .inl s_hall_palms)), (q7, .inl (cI, 8, .inl s_hall_strengths))] A) (by decide) rfl (Nat.le_of_ble_eq_true rfl) ?_
  intro p e s m args below meth c A ls hx hb hr hts hown hlocks hin hml hN hA hS hP hK hD hl
  have hl : lv_has ls 4 [(0, .ref q0), (1, .ref q4), (2, .int p2)] := hl
  have hRet : ∀ (H : Heap) (locs : List Loc) (ls : Array Slot) (pc : Nat), narrow .boolean (.int r) = .int r → va_P D vwCl [(q0, .inr (0, [.ref q1, .ref q2, .ref q3, .int s_armRows])), (q1, .inl (cI, 8, .inl s_sounds)), (q2, .inl (cI, 8, .inl s_clapped)), (q3, .inl (cI, 8, .inl s_next)), (q4, .inr (2, [.ref q5, .ref q6, .ref q7, .int s_hall_rows, .int s_hall_late])), (q5, .inl (cI, 8, .inl s_hall_kinds)), (q6, .inl (cI, 8, .inl s_hall_palms)), (q7, .inl (cI, 8, .inl s_hall_strengths))] H → va_D A [(q0, .inr (0, [.ref q1, .ref q2, .ref q3, .int s_armRows])), (q1, .inl (cI, 8, .inl s_sounds)), (q2, .inl (cI, 8, .inl s_clapped)), (q3, .inl (cI, 8, .inl s_next)), (q4, .inr (2, [.ref q5, .ref q6, .ref q7, .int s_hall_rows, .int s_hall_late])), (q5, .inl (cI, 8, .inl s_hall_kinds)), (q6, .inl (cI, 8, .inl s_hall_palms)), (q7, .inl (cI, 8, .inl s_hall_strengths))] → va_S A s.heap H locs → decode cX0_isTired pc = .ok (.ireturn, 1) → W p l e rX0_isTired s m args below meth c H locs 0 0 (MQ below (kQi D cI r [(q0, .inr (0, [.ref q1, .ref q2, .ref q3, .int s_armRows])), (q1, .inl (cI, 8, .inl s_sounds)), (q2, .inl (cI, 8, .inl s_clapped)), (q3, .inl (cI, 8, .inl s_next)), (q4, .inr (2, [.ref q5, .ref q6, .ref q7, .int s_hall_rows, .int s_hall_late])), (q5, .inl (cI, 8, .inl s_hall_kinds)), (q6, .inl (cI, 8, .inl s_hall_palms)), (q7, .inl (cI, 8, .inl s_hall_strengths))] A) args s 0 0 A) (F0 m pc ls [.int r]) := fun H locs ls pc hz hP hD hS hd => k_zret hx hb hr hlocks hK hz hP hD hS hd
  generalize MQ below (kQi D cI r [(q0, .inr (0, [.ref q1, .ref q2, .ref q3, .int s_armRows])), (q1, .inl (cI, 8, .inl s_sounds)), (q2, .inl (cI, 8, .inl s_clapped)), (q3, .inl (cI, 8, .inl s_next)), (q4, .inr (2, [.ref q5, .ref q6, .ref q7, .int s_hall_rows, .int s_hall_late])), (q5, .inl (cI, 8, .inl s_hall_kinds)), (q6, .inl (cI, 8, .inl s_hall_palms)), (q7, .inl (cI, 8, .inl s_hall_strengths))] A) args s 0 0 A = Q at hRet ⊢
  unfold fX0_isTired at h
  refine lv_aload_n hx hb dX0_isTired_0 rfl (lv_at hl 1 rfl) ?_
  refine lv_iload_n hx hb dX0_isTired_1 rfl (lv_at hl 2 rfl) ?_
  obtain ⟨u1, hu1, h⟩ := k_bs h
  refine k_ci (r := u1) (wc := [(q4, .inr (2, [.ref q5, .ref q6, .ref q7, .int s_hall_rows, .int s_hall_late])), (q5, .inl (cI, 8, .inl s_hall_kinds)), (q6, .inl (cI, 8, .inl s_hall_palms)), (q7, .inl (cI, 8, .inl s_hall_strengths))]) (wc' := [(q4, .inr (2, [.ref q5, .ref q6, .ref q7, .int s_hall_rows, .int s_hall_late])), (q5, .inl (cI, 8, .inl s_hall_kinds)), (q6, .inl (cI, 8, .inl s_hall_palms)), (q7, .inl (cI, 8, .inl s_hall_strengths))]) (w2 := [(q0, .inr (0, [.ref q1, .ref q2, .ref q3, .int s_armRows])), (q1, .inl (cI, 8, .inl s_sounds)), (q2, .inl (cI, 8, .inl s_clapped)), (q3, .inl (cI, 8, .inl s_next)), (q4, .inr (2, [.ref q5, .ref q6, .ref q7, .int s_hall_rows, .int s_hall_late])), (q5, .inl (cI, 8, .inl s_hall_kinds)), (q6, .inl (cI, 8, .inl s_hall_palms)), (q7, .inl (cI, 8, .inl s_hall_strengths))]) (va_runV (C := RX2) (As := [.int p2]) (rest := []) ⟨hx, hb, hml, hown, hts⟩ (mX2_strengthOf l D cI q4 q5 q6 q7 _ s_hall_rows s_hall_late s_hall_kinds s_hall_palms s_hall_strengths p2 u1 hu1) (cwV 1 hts gX0_isTired_X2_strengthOf rfl rfl rfl (by decide +kernel) ⟨Nat.le_of_ble_eq_true rfl, Nat.le_of_ble_eq_true rfl⟩) (k_prev (q := (RX2, TX2, 5)) hN hK hP hD (isC := [4, 5, 6, 7]) rfl rfl 4 (ci := 2) rfl rfl) rfl rfl hl.1 rfl (lv_room (Nat.le_of_ble_eq_true rfl)) dX0_isTired_2 ⟨Nat.le_of_ble_eq_true rfl, Nat.le_of_ble_eq_true rfl⟩) hP hD hS hA [4, 5, 6, 7] rfl rfl rfl rfl rfl (fun H locs hP hD hS => ?_)
  refine lv_istore_n (lv' := [(3, .int u1), (0, .ref q0), (1, .ref q4), (2, .int p2)]) hx hb dX0_isTired_5 rfl hl (by decide) rfl (fun ls hl => ?_)
  refine lv_iload_n hx hb dX0_isTired_6 rfl (lv_at hl 0 rfl) ?_
  refine lv_if_le (tgt := 23) hx hb dX0_isTired_7 (by decide) (fun c0 => ?_) (fun c0 => ?_)
  · have h := (if_pos c0).symm.trans h
    refine lv_iconst (v := 0) hx hb dX0_isTired_23 (by decide) ?_
    have h := Option.some.inj h
    subst h
    exact hRet _ _ _ _ (by decide) hP hD hS dX0_isTired_24
  · have h := (if_neg c0).symm.trans h
    refine lv_aload_n hx hb dX0_isTired_10 rfl (lv_at hl 1 rfl) ?_
    refine lv_iload_n hx hb dX0_isTired_11 rfl (lv_at hl 3 rfl) ?_
    obtain ⟨u2, hu2, h⟩ := k_bs h
    refine k_ci (r := u2) (wc := [(q0, .inr (0, [.ref q1, .ref q2, .ref q3, .int s_armRows])), (q1, .inl (cI, 8, .inl s_sounds)), (q2, .inl (cI, 8, .inl s_clapped)), (q3, .inl (cI, 8, .inl s_next))]) (wc' := [(q0, .inr (0, [.ref q1, .ref q2, .ref q3, .int s_armRows])), (q1, .inl (cI, 8, .inl s_sounds)), (q2, .inl (cI, 8, .inl s_clapped)), (q3, .inl (cI, 8, .inl s_next))]) (w2 := [(q0, .inr (0, [.ref q1, .ref q2, .ref q3, .int s_armRows])), (q1, .inl (cI, 8, .inl s_sounds)), (q2, .inl (cI, 8, .inl s_clapped)), (q3, .inl (cI, 8, .inl s_next)), (q4, .inr (2, [.ref q5, .ref q6, .ref q7, .int s_hall_rows, .int s_hall_late])), (q5, .inl (cI, 8, .inl s_hall_kinds)), (q6, .inl (cI, 8, .inl s_hall_palms)), (q7, .inl (cI, 8, .inl s_hall_strengths))]) (va_runV (C := RX0) (As := [.int p2]) (rest := []) ⟨hx, hb, hml, hown, hts⟩ (mX0_clappedOf l D cI q0 q1 q2 q3 _ s_armRows s_sounds s_clapped s_next p2 u2 hu2) (cwV 1 hts gX0_isTired_X0_clappedOf rfl rfl rfl (by decide +kernel) ⟨Nat.le_of_ble_eq_true rfl, Nat.le_of_ble_eq_true rfl⟩) (k_prev (q := (RX0, TX0, 4)) hN hK hP hD (isC := [0, 1, 2, 3]) rfl rfl 0 (ci := 0) rfl rfl) rfl rfl hl.1 rfl (lv_room (Nat.le_of_ble_eq_true rfl)) dX0_isTired_12 ⟨Nat.le_of_ble_eq_true rfl, Nat.le_of_ble_eq_true rfl⟩) hP hD hS hA [0, 1, 2, 3] rfl rfl rfl rfl rfl (fun H locs hP hD hS => ?_)
    refine lv_iload_n hx hb dX0_isTired_15 rfl (lv_at hl 0 rfl) ?_
    refine lv_icmp_lt (tgt := 23) hx hb dX0_isTired_16 (by decide) (fun c0 => ?_) (fun c0 => ?_)
    · have h := (if_pos c0).symm.trans h
      refine lv_iconst (v := 0) hx hb dX0_isTired_23 (by decide) ?_
      have h := Option.some.inj h
      subst h
      exact hRet _ _ _ _ (by decide) hP hD hS dX0_isTired_24
    · have h := (if_neg c0).symm.trans h
      refine lv_iconst (v := 1) hx hb dX0_isTired_19 (by decide) ?_
      refine lv_goto (tgt := 24) hx hb dX0_isTired_20 (by decide) ?_
      have h := Option.some.inj h
      subst h
      exact hRet _ _ _ _ (by decide) hP hD hS dX0_isTired_24
def fX0_soundOf (s_sounds : (Nat → Int32)) (p1 : Int32) : Option Int32 :=
  if p1 < 0 then
    some 0
  else
    if 8 ≤ p1 then
      some 0
    else
      (kld 8 s_sounds p1).bind fun v1 =>
        some v1
theorem iX0_soundOf_X0 : ∀ w ∈ wsX00, w ∈ wsX0_soundOf := by decide +kernel
def rX0_soundOf : Room := { frames := 0, cells := 0, slots := 0, locals := 0 }
set_option maxHeartbeats 4000000 in
set_option maxRecDepth 100000 in
theorem mX0_soundOf (l : Launch) (D : va_G) (cI : ClassId) (q0 q1 q2 q3 : Nat) (sz : Nat) (s_armRows : Int32) (s_sounds : (Nat → Int32)) (s_clapped : (Nat → Int32)) (s_next : (Nat → Int32)) (p1 : Int32) (r : Int32) (h : fX0_soundOf s_sounds p1 = some r) : Met l yX0_soundOf wsX0_soundOf rX0_soundOf (kPre D cI [.ref q0, .int p1] [(q0, .inr (0, [.ref q1, .ref q2, .ref q3, .int s_armRows])), (q1, .inl (cI, 8, .inl s_sounds)), (q2, .inl (cI, 8, .inl s_clapped)), (q3, .inl (cI, 8, .inl s_next))] sz) (kQi D cI r [(q0, .inr (0, [.ref q1, .ref q2, .ref q3, .int s_armRows])), (q1, .inl (cI, 8, .inl s_sounds)), (q2, .inl (cI, 8, .inl s_clapped)), (q3, .inl (cI, 8, .inl s_next))] (va_A [(q0, .inr (0, [.ref q1, .ref q2, .ref q3, .int s_armRows])), (q1, .inl (cI, 8, .inl s_sounds)), (q2, .inl (cI, 8, .inl s_clapped)), (q3, .inl (cI, 8, .inl s_next))] sz)) 0 0 (va_A [(q0, .inr (0, [.ref q1, .ref q2, .ref q3, .int s_armRows])), (q1, .inl (cI, 8, .inl s_sounds)), (q2, .inl (cI, 8, .inl s_clapped)), (q3, .inl (cI, 8, .inl s_next))] sz) := by
  refine kStart (cc := cX0_soundOf) (maxL := 2) (ret := (some .int)) (Qc := fun A => kQi D cI r [(q0, .inr (0, [.ref q1, .ref q2, .ref q3, .int s_armRows])), (q1, .inl (cI, 8, .inl s_sounds)), (q2, .inl (cI, 8, .inl s_clapped)), (q3, .inl (cI, 8, .inl s_next))] A) (by decide) rfl (Nat.le_of_ble_eq_true rfl) ?_
  intro p e s m args below meth c A ls hx hb hr hts hown hlocks hin hml hN hA hS hP hK hD hl
  have hl : lv_has ls 2 [(0, .ref q0), (1, .int p1)] := hl
  have hRet : ∀ (H : Heap) (locs : List Loc) (ls : Array Slot) (pc : Nat), va_P D vwCl [(q0, .inr (0, [.ref q1, .ref q2, .ref q3, .int s_armRows])), (q1, .inl (cI, 8, .inl s_sounds)), (q2, .inl (cI, 8, .inl s_clapped)), (q3, .inl (cI, 8, .inl s_next))] H → va_D A [(q0, .inr (0, [.ref q1, .ref q2, .ref q3, .int s_armRows])), (q1, .inl (cI, 8, .inl s_sounds)), (q2, .inl (cI, 8, .inl s_clapped)), (q3, .inl (cI, 8, .inl s_next))] → va_S A s.heap H locs → decode cX0_soundOf pc = .ok (.ireturn, 1) → W p l e rX0_soundOf s m args below meth c H locs 0 0 (MQ below (kQi D cI r [(q0, .inr (0, [.ref q1, .ref q2, .ref q3, .int s_armRows])), (q1, .inl (cI, 8, .inl s_sounds)), (q2, .inl (cI, 8, .inl s_clapped)), (q3, .inl (cI, 8, .inl s_next))] A) args s 0 0 A) (F0 m pc ls [.int r]) := fun H locs ls pc hP hD hS hd => k_iret hx hb hr hlocks hK hP hD hS hd
  generalize MQ below (kQi D cI r [(q0, .inr (0, [.ref q1, .ref q2, .ref q3, .int s_armRows])), (q1, .inl (cI, 8, .inl s_sounds)), (q2, .inl (cI, 8, .inl s_clapped)), (q3, .inl (cI, 8, .inl s_next))] A) args s 0 0 A = Q at hRet ⊢
  unfold fX0_soundOf at h
  refine lv_iload_n hx hb dX0_soundOf_0 rfl (lv_at hl 1 rfl) ?_
  refine lv_if_lt (tgt := 19) hx hb dX0_soundOf_1 (by decide) (fun c0 => ?_) (fun c0 => ?_)
  · have h := (if_pos c0).symm.trans h
    refine lv_iconst (v := 0) hx hb dX0_soundOf_19 (by decide) ?_
    have h := Option.some.inj h
    subst h
    exact hRet _ _ _ _ hP hD hS dX0_soundOf_20
  · have h := (if_neg c0).symm.trans h
    refine lv_iload_n hx hb dX0_soundOf_4 rfl (lv_at hl 1 rfl) ?_
    refine lv_bipush (v := 8) hx hb dX0_soundOf_5 (by decide) ?_
    refine lv_icmp_ge (tgt := 19) hx hb dX0_soundOf_7 (by decide) (fun c0 => ?_) (fun c0 => ?_)
    · have h := (if_pos c0).symm.trans h
      refine lv_iconst (v := 0) hx hb dX0_soundOf_19 (by decide) ?_
      have h := Option.some.inj h
      subst h
      exact hRet _ _ _ _ hP hD hS dX0_soundOf_20
    · have h := (if_neg c0).symm.trans h
      refine lv_aload_n hx hb dX0_soundOf_10 rfl (lv_at hl 0 rfl) ?_
      refine va_get (D := D) (ci := 0) (v := .ref q1) (C := RX0) (T := TX0) (N := 4) hx hb hts iX0_soundOf_X0 hown hK hP 0 rfl rfl 0 (by decide) (hts (.fieldLink RX0 9 "ClappedWrong$Crowd" "sounds" "[I") (by decide +kernel)) (fun _ h9 => h9) rfl dX0_soundOf_11 ?_
      refine lv_iload_n hx hb dX0_soundOf_14 rfl (lv_at hl 1 rfl) ?_
      refine k_iald hx hb hK hP 1 rfl dX0_soundOf_15 h (fun v1 h => ?_)
      refine lv_goto (tgt := 20) hx hb dX0_soundOf_16 (by decide) ?_
      have h := Option.some.inj h
      subst h
      exact hRet _ _ _ _ hP hD hS dX0_soundOf_20
def fX2_kindOf (s_kinds : (Nat → Int32)) (s_rows : Int32) (p1 : Int32) : Option Int32 :=
  if p1 < 0 then
    some (-1)
  else
    if s_rows ≤ p1 then
      some (-1)
    else
      (kld 8 s_kinds p1).bind fun v1 =>
        some v1
theorem iX2_kindOf_X2 : ∀ w ∈ wsX20, w ∈ wsX2_kindOf := by decide +kernel
def rX2_kindOf : Room := { frames := 0, cells := 0, slots := 0, locals := 0 }
set_option maxHeartbeats 4000000 in
set_option maxRecDepth 100000 in
theorem mX2_kindOf (l : Launch) (D : va_G) (cI : ClassId) (q0 q1 q2 q3 : Nat) (sz : Nat) (s_rows : Int32) (s_late : Int32) (s_kinds : (Nat → Int32)) (s_palms : (Nat → Int32)) (s_strengths : (Nat → Int32)) (p1 : Int32) (r : Int32) (h : fX2_kindOf s_kinds s_rows p1 = some r) : Met l yX2_kindOf wsX2_kindOf rX2_kindOf (kPre D cI [.ref q0, .int p1] [(q0, .inr (2, [.ref q1, .ref q2, .ref q3, .int s_rows, .int s_late])), (q1, .inl (cI, 8, .inl s_kinds)), (q2, .inl (cI, 8, .inl s_palms)), (q3, .inl (cI, 8, .inl s_strengths))] sz) (kQi D cI r [(q0, .inr (2, [.ref q1, .ref q2, .ref q3, .int s_rows, .int s_late])), (q1, .inl (cI, 8, .inl s_kinds)), (q2, .inl (cI, 8, .inl s_palms)), (q3, .inl (cI, 8, .inl s_strengths))] (va_A [(q0, .inr (2, [.ref q1, .ref q2, .ref q3, .int s_rows, .int s_late])), (q1, .inl (cI, 8, .inl s_kinds)), (q2, .inl (cI, 8, .inl s_palms)), (q3, .inl (cI, 8, .inl s_strengths))] sz)) 0 0 (va_A [(q0, .inr (2, [.ref q1, .ref q2, .ref q3, .int s_rows, .int s_late])), (q1, .inl (cI, 8, .inl s_kinds)), (q2, .inl (cI, 8, .inl s_palms)), (q3, .inl (cI, 8, .inl s_strengths))] sz) := by
  refine kStart (cc := cX2_kindOf) (maxL := 2) (ret := (some .int)) (Qc := fun A => kQi D cI r [(q0, .inr (2, [.ref q1, .ref q2, .ref q3, .int s_rows, .int s_late])), (q1, .inl (cI, 8, .inl s_kinds)), (q2, .inl (cI, 8, .inl s_palms)), (q3, .inl (cI, 8, .inl s_strengths))] A) (by decide) rfl (Nat.le_of_ble_eq_true rfl) ?_
  intro p e s m args below meth c A ls hx hb hr hts hown hlocks hin hml hN hA hS hP hK hD hl
  have hl : lv_has ls 2 [(0, .ref q0), (1, .int p1)] := hl
  have hRet : ∀ (H : Heap) (locs : List Loc) (ls : Array Slot) (pc : Nat), va_P D vwCl [(q0, .inr (2, [.ref q1, .ref q2, .ref q3, .int s_rows, .int s_late])), (q1, .inl (cI, 8, .inl s_kinds)), (q2, .inl (cI, 8, .inl s_palms)), (q3, .inl (cI, 8, .inl s_strengths))] H → va_D A [(q0, .inr (2, [.ref q1, .ref q2, .ref q3, .int s_rows, .int s_late])), (q1, .inl (cI, 8, .inl s_kinds)), (q2, .inl (cI, 8, .inl s_palms)), (q3, .inl (cI, 8, .inl s_strengths))] → va_S A s.heap H locs → decode cX2_kindOf pc = .ok (.ireturn, 1) → W p l e rX2_kindOf s m args below meth c H locs 0 0 (MQ below (kQi D cI r [(q0, .inr (2, [.ref q1, .ref q2, .ref q3, .int s_rows, .int s_late])), (q1, .inl (cI, 8, .inl s_kinds)), (q2, .inl (cI, 8, .inl s_palms)), (q3, .inl (cI, 8, .inl s_strengths))] A) args s 0 0 A) (F0 m pc ls [.int r]) := fun H locs ls pc hP hD hS hd => k_iret hx hb hr hlocks hK hP hD hS hd
  generalize MQ below (kQi D cI r [(q0, .inr (2, [.ref q1, .ref q2, .ref q3, .int s_rows, .int s_late])), (q1, .inl (cI, 8, .inl s_kinds)), (q2, .inl (cI, 8, .inl s_palms)), (q3, .inl (cI, 8, .inl s_strengths))] A) args s 0 0 A = Q at hRet ⊢
  unfold fX2_kindOf at h
  refine lv_iload_n hx hb dX2_kindOf_0 rfl (lv_at hl 1 rfl) ?_
  refine lv_if_lt (tgt := 21) hx hb dX2_kindOf_1 (by decide) (fun c0 => ?_) (fun c0 => ?_)
  · have h := (if_pos c0).symm.trans h
    refine lv_iconst (v := (-1)) hx hb dX2_kindOf_21 (by decide) ?_
    have h := Option.some.inj h
    subst h
    exact hRet _ _ _ _ hP hD hS dX2_kindOf_22
  · have h := (if_neg c0).symm.trans h
    refine lv_iload_n hx hb dX2_kindOf_4 rfl (lv_at hl 1 rfl) ?_
    refine lv_aload_n hx hb dX2_kindOf_5 rfl (lv_at hl 0 rfl) ?_
    refine va_get (D := D) (ci := 2) (v := .int s_rows) (C := RX2) (T := TX2) (N := 5) hx hb hts iX2_kindOf_X2 hown hK hP 0 rfl rfl 3 (by decide) (hts (.fieldLink RX2 21 "ClappedWrong$Hall" "rows" "I") (by decide +kernel)) (fun _ h9 => h9) rfl dX2_kindOf_6 ?_
    refine lv_icmp_ge (tgt := 21) hx hb dX2_kindOf_9 (by decide) (fun c0 => ?_) (fun c0 => ?_)
    · have h := (if_pos c0).symm.trans h
      refine lv_iconst (v := (-1)) hx hb dX2_kindOf_21 (by decide) ?_
      have h := Option.some.inj h
      subst h
      exact hRet _ _ _ _ hP hD hS dX2_kindOf_22
    · have h := (if_neg c0).symm.trans h
      refine lv_aload_n hx hb dX2_kindOf_12 rfl (lv_at hl 0 rfl) ?_
      refine va_get (D := D) (ci := 2) (v := .ref q1) (C := RX2) (T := TX2) (N := 5) hx hb hts iX2_kindOf_X2 hown hK hP 0 rfl rfl 0 (by decide) (hts (.fieldLink RX2 9 "ClappedWrong$Hall" "kinds" "[I") (by decide +kernel)) (fun _ h9 => h9) rfl dX2_kindOf_13 ?_
      refine lv_iload_n hx hb dX2_kindOf_16 rfl (lv_at hl 1 rfl) ?_
      refine k_iald hx hb hK hP 1 rfl dX2_kindOf_17 h (fun v1 h => ?_)
      refine lv_goto (tgt := 22) hx hb dX2_kindOf_18 (by decide) ?_
      have h := Option.some.inj h
      subst h
      exact hRet _ _ _ _ hP hD hS dX2_kindOf_22
def fX2_isOf (s_kinds : (Nat → Int32)) (s_rows : Int32) (p1 : Int32) (p2 : Int32) : Option Int32 :=
  (fX2_kindOf s_kinds s_rows p1).bind fun u1 =>
    if p2 = (0 : Int32) then
    some 1
  else
    if p2 = u1 then
      some 1
    else
      if p2 = (1 : Int32) then
        if u1 = (4 : Int32) then
          some 1
        else
          some 0
      else
        some 0
def rX2_isOf : Room := { frames := 1, cells := 0, slots := 0, locals := 21 }
set_option maxHeartbeats 4000000 in
set_option maxRecDepth 100000 in
theorem mX2_isOf (l : Launch) (D : va_G) (cI : ClassId) (q0 q1 q2 q3 : Nat) (sz : Nat) (s_rows : Int32) (s_late : Int32) (s_kinds : (Nat → Int32)) (s_palms : (Nat → Int32)) (s_strengths : (Nat → Int32)) (p1 : Int32) (p2 : Int32) (r : Int32) (h : fX2_isOf s_kinds s_rows p1 p2 = some r) : Met l yX2_isOf wsX2_isOf rX2_isOf (kPre D cI [.ref q0, .int p1, .int p2] [(q0, .inr (2, [.ref q1, .ref q2, .ref q3, .int s_rows, .int s_late])), (q1, .inl (cI, 8, .inl s_kinds)), (q2, .inl (cI, 8, .inl s_palms)), (q3, .inl (cI, 8, .inl s_strengths))] sz) (kQi D cI r [(q0, .inr (2, [.ref q1, .ref q2, .ref q3, .int s_rows, .int s_late])), (q1, .inl (cI, 8, .inl s_kinds)), (q2, .inl (cI, 8, .inl s_palms)), (q3, .inl (cI, 8, .inl s_strengths))] (va_A [(q0, .inr (2, [.ref q1, .ref q2, .ref q3, .int s_rows, .int s_late])), (q1, .inl (cI, 8, .inl s_kinds)), (q2, .inl (cI, 8, .inl s_palms)), (q3, .inl (cI, 8, .inl s_strengths))] sz)) 0 0 (va_A [(q0, .inr (2, [.ref q1, .ref q2, .ref q3, .int s_rows, .int s_late])), (q1, .inl (cI, 8, .inl s_kinds)), (q2, .inl (cI, 8, .inl s_palms)), (q3, .inl (cI, 8, .inl s_strengths))] sz) := by
  refine kStart (cc := cX2_isOf) (maxL := 4) (ret := (some .boolean)) (Qc := fun A => kQi D cI r [(q0, .inr (2, [.ref q1, .ref q2, .ref q3, .int s_rows, .int s_late])), (q1, .inl (cI, 8, .inl s_kinds)), (q2, .inl (cI, 8, .inl s_palms)), (q3, .inl (cI, 8, .inl s_strengths))] A) (by decide) rfl (Nat.le_of_ble_eq_true rfl) ?_
  intro p e s m args below meth c A ls hx hb hr hts hown hlocks hin hml hN hA hS hP hK hD hl
  have hl : lv_has ls 4 [(0, .ref q0), (1, .int p1), (2, .int p2)] := hl
  have hRet : ∀ (H : Heap) (locs : List Loc) (ls : Array Slot) (pc : Nat), narrow .boolean (.int r) = .int r → va_P D vwCl [(q0, .inr (2, [.ref q1, .ref q2, .ref q3, .int s_rows, .int s_late])), (q1, .inl (cI, 8, .inl s_kinds)), (q2, .inl (cI, 8, .inl s_palms)), (q3, .inl (cI, 8, .inl s_strengths))] H → va_D A [(q0, .inr (2, [.ref q1, .ref q2, .ref q3, .int s_rows, .int s_late])), (q1, .inl (cI, 8, .inl s_kinds)), (q2, .inl (cI, 8, .inl s_palms)), (q3, .inl (cI, 8, .inl s_strengths))] → va_S A s.heap H locs → decode cX2_isOf pc = .ok (.ireturn, 1) → W p l e rX2_isOf s m args below meth c H locs 0 0 (MQ below (kQi D cI r [(q0, .inr (2, [.ref q1, .ref q2, .ref q3, .int s_rows, .int s_late])), (q1, .inl (cI, 8, .inl s_kinds)), (q2, .inl (cI, 8, .inl s_palms)), (q3, .inl (cI, 8, .inl s_strengths))] A) args s 0 0 A) (F0 m pc ls [.int r]) := fun H locs ls pc hz hP hD hS hd => k_zret hx hb hr hlocks hK hz hP hD hS hd
  generalize MQ below (kQi D cI r [(q0, .inr (2, [.ref q1, .ref q2, .ref q3, .int s_rows, .int s_late])), (q1, .inl (cI, 8, .inl s_kinds)), (q2, .inl (cI, 8, .inl s_palms)), (q3, .inl (cI, 8, .inl s_strengths))] A) args s 0 0 A = Q at hRet ⊢
  unfold fX2_isOf at h
  refine lv_aload_n hx hb dX2_isOf_0 rfl (lv_at hl 0 rfl) ?_
  refine lv_iload_n hx hb dX2_isOf_1 rfl (lv_at hl 1 rfl) ?_
  obtain ⟨u1, hu1, h⟩ := k_bs h
  refine k_ci (r := u1) (wc := [(q0, .inr (2, [.ref q1, .ref q2, .ref q3, .int s_rows, .int s_late])), (q1, .inl (cI, 8, .inl s_kinds)), (q2, .inl (cI, 8, .inl s_palms)), (q3, .inl (cI, 8, .inl s_strengths))]) (wc' := [(q0, .inr (2, [.ref q1, .ref q2, .ref q3, .int s_rows, .int s_late])), (q1, .inl (cI, 8, .inl s_kinds)), (q2, .inl (cI, 8, .inl s_palms)), (q3, .inl (cI, 8, .inl s_strengths))]) (w2 := [(q0, .inr (2, [.ref q1, .ref q2, .ref q3, .int s_rows, .int s_late])), (q1, .inl (cI, 8, .inl s_kinds)), (q2, .inl (cI, 8, .inl s_palms)), (q3, .inl (cI, 8, .inl s_strengths))]) (va_runV (C := RX2) (As := [.int p1]) (rest := []) ⟨hx, hb, hml, hown, hts⟩ (mX2_kindOf l D cI q0 q1 q2 q3 _ s_rows s_late s_kinds s_palms s_strengths p1 u1 hu1) (cwV 1 hts gX2_isOf_X2_kindOf rfl rfl rfl (by decide +kernel) ⟨Nat.le_of_ble_eq_true rfl, Nat.le_of_ble_eq_true rfl⟩) (k_prev (q := (RX2, TX2, 5)) hN hK hP hD (isC := [0, 1, 2, 3]) rfl rfl 0 (ci := 2) rfl rfl) rfl rfl hl.1 rfl (lv_room (Nat.le_of_ble_eq_true rfl)) dX2_isOf_2 ⟨Nat.le_of_ble_eq_true rfl, Nat.le_of_ble_eq_true rfl⟩) hP hD hS hA [0, 1, 2, 3] rfl rfl rfl rfl rfl (fun H locs hP hD hS => ?_)
  refine lv_istore_n (lv' := [(3, .int u1), (0, .ref q0), (1, .int p1), (2, .int p2)]) hx hb dX2_isOf_5 rfl hl (by decide) rfl (fun ls hl => ?_)
  refine lv_iload_n hx hb dX2_isOf_6 rfl (lv_at hl 3 rfl) ?_
  refine lv_if_eq (tgt := 25) hx hb dX2_isOf_7 (by decide) (fun c0 => ?_) (fun c0 => ?_)
  · have h := (if_pos c0).symm.trans h
    refine lv_iconst (v := 1) hx hb dX2_isOf_25 (by decide) ?_
    refine lv_goto (tgt := 30) hx hb dX2_isOf_26 (by decide) ?_
    have h := Option.some.inj h
    subst h
    exact hRet _ _ _ _ (by decide) hP hD hS dX2_isOf_30
  · have h := (if_neg c0).symm.trans h
    refine lv_iload_n hx hb dX2_isOf_10 rfl (lv_at hl 3 rfl) ?_
    refine lv_iload_n hx hb dX2_isOf_11 rfl (lv_at hl 0 rfl) ?_
    refine lv_icmp_eq (tgt := 25) hx hb dX2_isOf_12 (by decide) (fun c0 => ?_) (fun c0 => ?_)
    · have h := (if_pos c0).symm.trans h
      refine lv_iconst (v := 1) hx hb dX2_isOf_25 (by decide) ?_
      refine lv_goto (tgt := 30) hx hb dX2_isOf_26 (by decide) ?_
      have h := Option.some.inj h
      subst h
      exact hRet _ _ _ _ (by decide) hP hD hS dX2_isOf_30
    · have h := (if_neg c0).symm.trans h
      refine lv_iload_n hx hb dX2_isOf_15 rfl (lv_at hl 3 rfl) ?_
      refine lv_iconst (v := 1) hx hb dX2_isOf_16 (by decide) ?_
      refine lv_icmp_ne (tgt := 29) hx hb dX2_isOf_17 (by decide) (fun c0 => ?_) (fun c0 => ?_)
      · have h := (if_neg c0).symm.trans h
        refine lv_iconst (v := 0) hx hb dX2_isOf_29 (by decide) ?_
        have h := Option.some.inj h
        subst h
        exact hRet _ _ _ _ (by decide) hP hD hS dX2_isOf_30
      · have h := (if_pos c0).symm.trans h
        refine lv_iload_n hx hb dX2_isOf_20 rfl (lv_at hl 0 rfl) ?_
        refine lv_iconst (v := 4) hx hb dX2_isOf_21 (by decide) ?_
        refine lv_icmp_ne (tgt := 29) hx hb dX2_isOf_22 (by decide) (fun c0 => ?_) (fun c0 => ?_)
        · have h := (if_neg c0).symm.trans h
          refine lv_iconst (v := 0) hx hb dX2_isOf_29 (by decide) ?_
          have h := Option.some.inj h
          subst h
          exact hRet _ _ _ _ (by decide) hP hD hS dX2_isOf_30
        · have h := (if_pos c0).symm.trans h
          refine lv_iconst (v := 1) hx hb dX2_isOf_25 (by decide) ?_
          refine lv_goto (tgt := 30) hx hb dX2_isOf_26 (by decide) ?_
          have h := Option.some.inj h
          subst h
          exact hRet _ _ _ _ (by decide) hP hD hS dX2_isOf_30
def fX0_palmsThatSound (s_sounds : (Nat → Int32)) (s_hall_palms : (Nat → Int32)) (s_hall_rows : Int32) (p2 : Int32) (p3 : Int32) : Option Int32 :=
  if p2 < 0 then
    some 0
  else
    if p2 < s_hall_rows then
      (kld 8 s_sounds p2).bind fun v1 =>
        if (v1 &&& p3) = (0 : Int32) then
        some 0
      else
        (kld 8 s_hall_palms p2).bind fun v2 =>
          some v2
    else
      some 0
theorem iX0_palmsThatSound_X0 : ∀ w ∈ wsX00, w ∈ wsX0_palmsThatSound := by decide +kernel
theorem iX0_palmsThatSound_X2 : ∀ w ∈ wsX20, w ∈ wsX0_palmsThatSound := by decide +kernel
def rX0_palmsThatSound : Room := { frames := 0, cells := 0, slots := 0, locals := 0 }
set_option maxHeartbeats 4000000 in
set_option maxRecDepth 100000 in
theorem mX0_palmsThatSound (l : Launch) (D : va_G) (cI : ClassId) (q0 q1 q2 q3 q4 q5 q6 q7 : Nat) (sz : Nat) (s_armRows : Int32) (s_sounds : (Nat → Int32)) (s_clapped : (Nat → Int32)) (s_next : (Nat → Int32)) (s_hall_rows : Int32) (s_hall_late : Int32) (s_hall_kinds : (Nat → Int32)) (s_hall_palms : (Nat → Int32)) (s_hall_strengths : (Nat → Int32)) (p2 : Int32) (p3 : Int32) (r : Int32) (h : fX0_palmsThatSound s_sounds s_hall_palms s_hall_rows p2 p3 = some r) : Met l yX0_palmsThatSound wsX0_palmsThatSound rX0_palmsThatSound (kPre D cI [.ref q0, .ref q4, .int p2, .int p3] [(q0, .inr (0, [.ref q1, .ref q2, .ref q3, .int s_armRows])), (q1, .inl (cI, 8, .inl s_sounds)), (q2, .inl (cI, 8, .inl s_clapped)), (q3, .inl (cI, 8, .inl s_next)), (q4, .inr (2, [.ref q5, .ref q6, .ref q7, .int s_hall_rows, .int s_hall_late])), (q5, .inl (cI, 8, .inl s_hall_kinds)), (q6, .inl (cI, 8, .inl s_hall_palms)), (q7, .inl (cI, 8, .inl s_hall_strengths))] sz) (kQi D cI r [(q0, .inr (0, [.ref q1, .ref q2, .ref q3, .int s_armRows])), (q1, .inl (cI, 8, .inl s_sounds)), (q2, .inl (cI, 8, .inl s_clapped)), (q3, .inl (cI, 8, .inl s_next)), (q4, .inr (2, [.ref q5, .ref q6, .ref q7, .int s_hall_rows, .int s_hall_late])), (q5, .inl (cI, 8, .inl s_hall_kinds)), (q6, .inl (cI, 8, .inl s_hall_palms)), (q7, .inl (cI, 8, .inl s_hall_strengths))] (va_A [(q0, .inr (0, [.ref q1, .ref q2, .ref q3, .int s_armRows])), (q1, .inl (cI, 8, .inl s_sounds)), (q2, .inl (cI, 8, .inl s_clapped)), (q3, .inl (cI, 8, .inl s_next)), (q4, .inr (2, [.ref q5, .ref q6, .ref q7, .int s_hall_rows, .int s_hall_late])), (q5, .inl (cI, 8, .inl s_hall_kinds)), (q6, .inl (cI, 8, .inl s_hall_palms)), (q7, .inl (cI, 8, .inl s_hall_strengths))] sz)) 0 0 (va_A [(q0, .inr (0, [.ref q1, .ref q2, .ref q3, .int s_armRows])), (q1, .inl (cI, 8, .inl s_sounds)), (q2, .inl (cI, 8, .inl s_clapped)), (q3, .inl (cI, 8, .inl s_next)), (q4, .inr (2, [.ref q5, .ref q6, .ref q7, .int s_hall_rows, .int s_hall_late])), (q5, .inl (cI, 8, .inl s_hall_kinds)), (q6, .inl (cI, 8, .inl s_hall_palms)), (q7, .inl (cI, 8, .inl s_hall_strengths))] sz) := by
  refine kStart (cc := cX0_palmsThatSound) (maxL := 4) (ret := (some .int)) (Qc := fun A => kQi D cI r [(q0, .inr (0, [.ref q1, .ref q2, .ref q3, .int s_armRows])), (q1, .inl (cI, 8, .inl s_sounds)), (q2, .inl (cI, 8, .inl s_clapped)), (q3, .inl (cI, 8, .inl s_next)), (q4, .inr (2, [.ref q5, .ref q6, .ref q7, .int s_hall_rows, .int s_hall_late])), (q5, .inl (cI, 8, .inl s_hall_kinds)), (q6, .inl (cI, 8, .inl s_hall_palms)), (q7, .inl (cI, 8, .inl s_hall_strengths))] A) (by decide) rfl (Nat.le_of_ble_eq_true rfl) ?_
  intro p e s m args below meth c A ls hx hb hr hts hown hlocks hin hml hN hA hS hP hK hD hl
  have hl : lv_has ls 4 [(0, .ref q0), (1, .ref q4), (2, .int p2), (3, .int p3)] := hl
  have hRet : ∀ (H : Heap) (locs : List Loc) (ls : Array Slot) (pc : Nat), va_P D vwCl [(q0, .inr (0, [.ref q1, .ref q2, .ref q3, .int s_armRows])), (q1, .inl (cI, 8, .inl s_sounds)), (q2, .inl (cI, 8, .inl s_clapped)), (q3, .inl (cI, 8, .inl s_next)), (q4, .inr (2, [.ref q5, .ref q6, .ref q7, .int s_hall_rows, .int s_hall_late])), (q5, .inl (cI, 8, .inl s_hall_kinds)), (q6, .inl (cI, 8, .inl s_hall_palms)), (q7, .inl (cI, 8, .inl s_hall_strengths))] H → va_D A [(q0, .inr (0, [.ref q1, .ref q2, .ref q3, .int s_armRows])), (q1, .inl (cI, 8, .inl s_sounds)), (q2, .inl (cI, 8, .inl s_clapped)), (q3, .inl (cI, 8, .inl s_next)), (q4, .inr (2, [.ref q5, .ref q6, .ref q7, .int s_hall_rows, .int s_hall_late])), (q5, .inl (cI, 8, .inl s_hall_kinds)), (q6, .inl (cI, 8, .inl s_hall_palms)), (q7, .inl (cI, 8, .inl s_hall_strengths))] → va_S A s.heap H locs → decode cX0_palmsThatSound pc = .ok (.ireturn, 1) → W p l e rX0_palmsThatSound s m args below meth c H locs 0 0 (MQ below (kQi D cI r [(q0, .inr (0, [.ref q1, .ref q2, .ref q3, .int s_armRows])), (q1, .inl (cI, 8, .inl s_sounds)), (q2, .inl (cI, 8, .inl s_clapped)), (q3, .inl (cI, 8, .inl s_next)), (q4, .inr (2, [.ref q5, .ref q6, .ref q7, .int s_hall_rows, .int s_hall_late])), (q5, .inl (cI, 8, .inl s_hall_kinds)), (q6, .inl (cI, 8, .inl s_hall_palms)), (q7, .inl (cI, 8, .inl s_hall_strengths))] A) args s 0 0 A) (F0 m pc ls [.int r]) := fun H locs ls pc hP hD hS hd => k_iret hx hb hr hlocks hK hP hD hS hd
  generalize MQ below (kQi D cI r [(q0, .inr (0, [.ref q1, .ref q2, .ref q3, .int s_armRows])), (q1, .inl (cI, 8, .inl s_sounds)), (q2, .inl (cI, 8, .inl s_clapped)), (q3, .inl (cI, 8, .inl s_next)), (q4, .inr (2, [.ref q5, .ref q6, .ref q7, .int s_hall_rows, .int s_hall_late])), (q5, .inl (cI, 8, .inl s_hall_kinds)), (q6, .inl (cI, 8, .inl s_hall_palms)), (q7, .inl (cI, 8, .inl s_hall_strengths))] A) args s 0 0 A = Q at hRet ⊢
  unfold fX0_palmsThatSound at h
  refine lv_iload_n hx hb dX0_palmsThatSound_0 rfl (lv_at hl 2 rfl) ?_
  refine lv_if_lt (tgt := 12) hx hb dX0_palmsThatSound_1 (by decide) (fun c0 => ?_) (fun c0 => ?_)
  · have h := (if_pos c0).symm.trans h
    refine lv_iconst (v := 0) hx hb dX0_palmsThatSound_12 (by decide) ?_
    have h := Option.some.inj h
    subst h
    exact hRet _ _ _ _ hP hD hS dX0_palmsThatSound_13
  · have h := (if_neg c0).symm.trans h
    refine lv_iload_n hx hb dX0_palmsThatSound_4 rfl (lv_at hl 2 rfl) ?_
    refine lv_aload_n hx hb dX0_palmsThatSound_5 rfl (lv_at hl 1 rfl) ?_
    refine va_getN (D := D) (ci := 2) (v := .int s_hall_rows) (C := RX2) (T := TX2) (N := 5) hx hb hts iX0_palmsThatSound_X2 hown hK hP 4 rfl rfl 3 (by decide) (hN.f RX0 34 "ClappedWrong$Hall" "rows" "I" "ClappedWrong" (by decide +kernel)) (fun _ h9 => h9) rfl dX0_palmsThatSound_6 ?_
    refine lv_icmp_lt (tgt := 14) hx hb dX0_palmsThatSound_9 (by decide) (fun c0 => ?_) (fun c0 => ?_)
    · have h := (if_pos c0).symm.trans h
      refine lv_aload_n hx hb dX0_palmsThatSound_14 rfl (lv_at hl 0 rfl) ?_
      refine va_get (D := D) (ci := 0) (v := .ref q1) (C := RX0) (T := TX0) (N := 4) hx hb hts iX0_palmsThatSound_X0 hown hK hP 0 rfl rfl 0 (by decide) (hts (.fieldLink RX0 9 "ClappedWrong$Crowd" "sounds" "[I") (by decide +kernel)) (fun _ h9 => h9) rfl dX0_palmsThatSound_15 ?_
      refine lv_iload_n hx hb dX0_palmsThatSound_18 rfl (lv_at hl 2 rfl) ?_
      refine k_iald hx hb hK hP 1 rfl dX0_palmsThatSound_19 h (fun v1 h => ?_)
      refine lv_iload_n hx hb dX0_palmsThatSound_20 rfl (lv_at hl 3 rfl) ?_
      refine lv_iand hx hb dX0_palmsThatSound_21 ?_
      refine lv_if_eq (tgt := 34) hx hb dX0_palmsThatSound_22 (by decide) (fun c0 => ?_) (fun c0 => ?_)
      · have h := (if_pos c0).symm.trans h
        refine lv_iconst (v := 0) hx hb dX0_palmsThatSound_34 (by decide) ?_
        have h := Option.some.inj h
        subst h
        exact hRet _ _ _ _ hP hD hS dX0_palmsThatSound_35
      · have h := (if_neg c0).symm.trans h
        refine lv_aload_n hx hb dX0_palmsThatSound_25 rfl (lv_at hl 1 rfl) ?_
        refine va_getN (D := D) (ci := 2) (v := .ref q6) (C := RX2) (T := TX2) (N := 5) hx hb hts iX0_palmsThatSound_X2 hown hK hP 4 rfl rfl 1 (by decide) (hN.f RX0 74 "ClappedWrong$Hall" "palms" "[I" "ClappedWrong" (by decide +kernel)) (fun _ h9 => h9) rfl dX0_palmsThatSound_26 ?_
        refine lv_iload_n hx hb dX0_palmsThatSound_29 rfl (lv_at hl 2 rfl) ?_
        refine k_iald hx hb hK hP 6 rfl dX0_palmsThatSound_30 h (fun v2 h => ?_)
        refine lv_goto (tgt := 35) hx hb dX0_palmsThatSound_31 (by decide) ?_
        have h := Option.some.inj h
        subst h
        exact hRet _ _ _ _ hP hD hS dX0_palmsThatSound_35
    · have h := (if_neg c0).symm.trans h
      refine lv_iconst (v := 0) hx hb dX0_palmsThatSound_12 (by decide) ?_
      have h := Option.some.inj h
      subst h
      exact hRet _ _ _ _ hP hD hS dX0_palmsThatSound_13
def fX0_soundOfMore_L1 (s_sounds : (Nat → Int32)) (s_hall_palms : (Nat → Int32)) (s_hall_rows : Int32) (p2 : Int32) (rc1 : ((Int32 × Int32 × Int32) → Option (Int32 × Int32 × Int32))) (z1 : (Int32 × Int32 × Int32)) : Option (Int32 × Int32 × Int32) :=
  if (p2 + 1) < z1.2.2 then
    some (z1.1, z1.2.1, z1.2.2)
  else
    (fX0_palmsThatSound s_sounds s_hall_palms s_hall_rows z1.2.2 1).bind fun u3 =>
      (fX0_palmsThatSound s_sounds s_hall_palms s_hall_rows z1.2.2 2).bind fun u4 =>
      rc1 ((z1.1 + u3), (z1.2.1 + u4), (z1.2.2 + 1))
def fX0_soundOfMore (s_sounds : (Nat → Int32)) (s_hall_kinds : (Nat → Int32)) (s_hall_palms : (Nat → Int32)) (s_hall_rows : Int32) (p2 : Int32) : Option Int32 :=
  (kIter (fX0_soundOfMore_L1 s_sounds s_hall_palms s_hall_rows p2) 300 (0, 0, (p2 - 1))).bind fun u2 =>
    if u2.1 = u2.2.1 then
    (fX2_kindOf s_hall_kinds s_hall_rows p2).bind fun u5 =>
      if u5 = (3 : Int32) then
      some 3
    else
      (fX0_soundOf s_sounds p2).bind fun u6 =>
        some u6
  else
    if u2.1 ≤ u2.2.1 then
      some 2
    else
      some 1
def rX0_soundOfMore : Room := { frames := 1, cells := 0, slots := 0, locals := 23 }
set_option maxHeartbeats 4000000 in
set_option maxRecDepth 100000 in
theorem mX0_soundOfMore (l : Launch) (D : va_G) (cI : ClassId) (q0 q1 q2 q3 q4 q5 q6 q7 : Nat) (sz : Nat) (s_armRows : Int32) (s_sounds : (Nat → Int32)) (s_clapped : (Nat → Int32)) (s_next : (Nat → Int32)) (s_hall_rows : Int32) (s_hall_late : Int32) (s_hall_kinds : (Nat → Int32)) (s_hall_palms : (Nat → Int32)) (s_hall_strengths : (Nat → Int32)) (p2 : Int32) (r : Int32) (h : fX0_soundOfMore s_sounds s_hall_kinds s_hall_palms s_hall_rows p2 = some r) : Met l yX0_soundOfMore wsX0_soundOfMore rX0_soundOfMore (kPre D cI [.ref q0, .ref q4, .int p2] [(q0, .inr (0, [.ref q1, .ref q2, .ref q3, .int s_armRows])), (q1, .inl (cI, 8, .inl s_sounds)), (q2, .inl (cI, 8, .inl s_clapped)), (q3, .inl (cI, 8, .inl s_next)), (q4, .inr (2, [.ref q5, .ref q6, .ref q7, .int s_hall_rows, .int s_hall_late])), (q5, .inl (cI, 8, .inl s_hall_kinds)), (q6, .inl (cI, 8, .inl s_hall_palms)), (q7, .inl (cI, 8, .inl s_hall_strengths))] sz) (kQi D cI r [(q0, .inr (0, [.ref q1, .ref q2, .ref q3, .int s_armRows])), (q1, .inl (cI, 8, .inl s_sounds)), (q2, .inl (cI, 8, .inl s_clapped)), (q3, .inl (cI, 8, .inl s_next)), (q4, .inr (2, [.ref q5, .ref q6, .ref q7, .int s_hall_rows, .int s_hall_late])), (q5, .inl (cI, 8, .inl s_hall_kinds)), (q6, .inl (cI, 8, .inl s_hall_palms)), (q7, .inl (cI, 8, .inl s_hall_strengths))] (va_A [(q0, .inr (0, [.ref q1, .ref q2, .ref q3, .int s_armRows])), (q1, .inl (cI, 8, .inl s_sounds)), (q2, .inl (cI, 8, .inl s_clapped)), (q3, .inl (cI, 8, .inl s_next)), (q4, .inr (2, [.ref q5, .ref q6, .ref q7, .int s_hall_rows, .int s_hall_late])), (q5, .inl (cI, 8, .inl s_hall_kinds)), (q6, .inl (cI, 8, .inl s_hall_palms)), (q7, .inl (cI, 8, .inl s_hall_strengths))] sz)) 0 0 (va_A [(q0, .inr (0, [.ref q1, .ref q2, .ref q3, .int s_armRows])), (q1, .inl (cI, 8, .inl s_sounds)), (q2, .inl (cI, 8, .inl s_clapped)), (q3, .inl (cI, 8, .inl s_next)), (q4, .inr (2, [.ref q5, .ref q6, .ref q7, .int s_hall_rows, .int s_hall_late])), (q5, .inl (cI, 8, .inl s_hall_kinds)), (q6, .inl (cI, 8, .inl s_hall_palms)), (q7, .inl (cI, 8, .inl s_hall_strengths))] sz) := by
  refine kStart (cc := cX0_soundOfMore) (maxL := 6) (ret := (some .int)) (Qc := fun A => kQi D cI r [(q0, .inr (0, [.ref q1, .ref q2, .ref q3, .int s_armRows])), (q1, .inl (cI, 8, .inl s_sounds)), (q2, .inl (cI, 8, .inl s_clapped)), (q3, .inl (cI, 8, .inl s_next)), (q4, .inr (2, [.ref q5, .ref q6, .ref q7, .int s_hall_rows, .int s_hall_late])), (q5, .inl (cI, 8, .inl s_hall_kinds)), (q6, .inl (cI, 8, .inl s_hall_palms)), (q7, .inl (cI, 8, .inl s_hall_strengths))] A) (by decide) rfl (Nat.le_of_ble_eq_true rfl) ?_
  intro p e s m args below meth c A ls hx hb hr hts hown hlocks hin hml hN hA hS hP hK hD hl
  have hl : lv_has ls 6 [(0, .ref q0), (1, .ref q4), (2, .int p2)] := hl
  have hRet : ∀ (H : Heap) (locs : List Loc) (ls : Array Slot) (pc : Nat), va_P D vwCl [(q0, .inr (0, [.ref q1, .ref q2, .ref q3, .int s_armRows])), (q1, .inl (cI, 8, .inl s_sounds)), (q2, .inl (cI, 8, .inl s_clapped)), (q3, .inl (cI, 8, .inl s_next)), (q4, .inr (2, [.ref q5, .ref q6, .ref q7, .int s_hall_rows, .int s_hall_late])), (q5, .inl (cI, 8, .inl s_hall_kinds)), (q6, .inl (cI, 8, .inl s_hall_palms)), (q7, .inl (cI, 8, .inl s_hall_strengths))] H → va_D A [(q0, .inr (0, [.ref q1, .ref q2, .ref q3, .int s_armRows])), (q1, .inl (cI, 8, .inl s_sounds)), (q2, .inl (cI, 8, .inl s_clapped)), (q3, .inl (cI, 8, .inl s_next)), (q4, .inr (2, [.ref q5, .ref q6, .ref q7, .int s_hall_rows, .int s_hall_late])), (q5, .inl (cI, 8, .inl s_hall_kinds)), (q6, .inl (cI, 8, .inl s_hall_palms)), (q7, .inl (cI, 8, .inl s_hall_strengths))] → va_S A s.heap H locs → decode cX0_soundOfMore pc = .ok (.ireturn, 1) → W p l e rX0_soundOfMore s m args below meth c H locs 0 0 (MQ below (kQi D cI r [(q0, .inr (0, [.ref q1, .ref q2, .ref q3, .int s_armRows])), (q1, .inl (cI, 8, .inl s_sounds)), (q2, .inl (cI, 8, .inl s_clapped)), (q3, .inl (cI, 8, .inl s_next)), (q4, .inr (2, [.ref q5, .ref q6, .ref q7, .int s_hall_rows, .int s_hall_late])), (q5, .inl (cI, 8, .inl s_hall_kinds)), (q6, .inl (cI, 8, .inl s_hall_palms)), (q7, .inl (cI, 8, .inl s_hall_strengths))] A) args s 0 0 A) (F0 m pc ls [.int r]) := fun H locs ls pc hP hD hS hd => k_iret hx hb hr hlocks hK hP hD hS hd
  generalize MQ below (kQi D cI r [(q0, .inr (0, [.ref q1, .ref q2, .ref q3, .int s_armRows])), (q1, .inl (cI, 8, .inl s_sounds)), (q2, .inl (cI, 8, .inl s_clapped)), (q3, .inl (cI, 8, .inl s_next)), (q4, .inr (2, [.ref q5, .ref q6, .ref q7, .int s_hall_rows, .int s_hall_late])), (q5, .inl (cI, 8, .inl s_hall_kinds)), (q6, .inl (cI, 8, .inl s_hall_palms)), (q7, .inl (cI, 8, .inl s_hall_strengths))] A) args s 0 0 A = Q at hRet ⊢
  unfold fX0_soundOfMore at h
  refine lv_iconst (v := 0) hx hb dX0_soundOfMore_0 (by decide) ?_
  refine lv_istore_n (lv' := [(3, .int 0), (0, .ref q0), (1, .ref q4), (2, .int p2)]) hx hb dX0_soundOfMore_1 rfl hl (by decide) rfl (fun ls hl => ?_)
  refine lv_iconst (v := 0) hx hb dX0_soundOfMore_2 (by decide) ?_
  refine lv_istore (lv' := [(4, .int 0), (3, .int 0), (0, .ref q0), (1, .ref q4), (2, .int p2)]) hx hb dX0_soundOfMore_3 hl (by decide) rfl (fun ls hl => ?_)
  refine lv_iload_n hx hb dX0_soundOfMore_5 rfl (lv_at hl 4 rfl) ?_
  refine lv_iconst (v := 1) hx hb dX0_soundOfMore_6 (by decide) ?_
  refine lv_isub hx hb dX0_soundOfMore_7 ?_
  refine lv_istore (lv' := [(5, .int (p2 - 1)), (4, .int 0), (3, .int 0), (0, .ref q0), (1, .ref q4), (2, .int p2)]) hx hb dX0_soundOfMore_8 hl (by decide) rfl (fun ls hl => ?_)
  obtain ⟨u2, hu2, h⟩ := k_bs h
  refine kIter_ind (fun (z1 : (Int32 × Int32 × Int32)) (u2 : (Int32 × Int32 × Int32)) => ∀ (H : Heap) (locs : List Loc) (ls : Array Slot), va_P D vwCl [(q0, .inr (0, [.ref q1, .ref q2, .ref q3, .int s_armRows])), (q1, .inl (cI, 8, .inl s_sounds)), (q2, .inl (cI, 8, .inl s_clapped)), (q3, .inl (cI, 8, .inl s_next)), (q4, .inr (2, [.ref q5, .ref q6, .ref q7, .int s_hall_rows, .int s_hall_late])), (q5, .inl (cI, 8, .inl s_hall_kinds)), (q6, .inl (cI, 8, .inl s_hall_palms)), (q7, .inl (cI, 8, .inl s_hall_strengths))] H → va_D A [(q0, .inr (0, [.ref q1, .ref q2, .ref q3, .int s_armRows])), (q1, .inl (cI, 8, .inl s_sounds)), (q2, .inl (cI, 8, .inl s_clapped)), (q3, .inl (cI, 8, .inl s_next)), (q4, .inr (2, [.ref q5, .ref q6, .ref q7, .int s_hall_rows, .int s_hall_late])), (q5, .inl (cI, 8, .inl s_hall_kinds)), (q6, .inl (cI, 8, .inl s_hall_palms)), (q7, .inl (cI, 8, .inl s_hall_strengths))] → va_S A s.heap H locs → lv_has ls 6 [(0, .ref q0), (1, .ref q4), (2, .int p2), (3, .int z1.1), (4, .int z1.2.1), (5, .int z1.2.2)] → (∀ (H : Heap) (locs : List Loc) (ls : Array Slot), va_P D vwCl [(q0, .inr (0, [.ref q1, .ref q2, .ref q3, .int s_armRows])), (q1, .inl (cI, 8, .inl s_sounds)), (q2, .inl (cI, 8, .inl s_clapped)), (q3, .inl (cI, 8, .inl s_next)), (q4, .inr (2, [.ref q5, .ref q6, .ref q7, .int s_hall_rows, .int s_hall_late])), (q5, .inl (cI, 8, .inl s_hall_kinds)), (q6, .inl (cI, 8, .inl s_hall_palms)), (q7, .inl (cI, 8, .inl s_hall_strengths))] H → va_D A [(q0, .inr (0, [.ref q1, .ref q2, .ref q3, .int s_armRows])), (q1, .inl (cI, 8, .inl s_sounds)), (q2, .inl (cI, 8, .inl s_clapped)), (q3, .inl (cI, 8, .inl s_next)), (q4, .inr (2, [.ref q5, .ref q6, .ref q7, .int s_hall_rows, .int s_hall_late])), (q5, .inl (cI, 8, .inl s_hall_kinds)), (q6, .inl (cI, 8, .inl s_hall_palms)), (q7, .inl (cI, 8, .inl s_hall_strengths))] → va_S A s.heap H locs → lv_has ls 6 [(0, .ref q0), (1, .ref q4), (2, .int p2), (3, .int u2.1), (4, .int u2.2.1), (5, .int u2.2.2)] → W p l e rX0_soundOfMore s m args below meth c H locs 0 0 Q (F0 m 48 ls [])) → W p l e rX0_soundOfMore s m args below meth c H locs 0 0 Q (F0 m 10 ls [])) ?_ _ _ _ hu2 _ _ _ hP hD hS (lv_sub hl [3, 4, 5, 2, 1, 0] rfl) ?_
  · intro rc1 ih1 z1 u2 h H locs ls hP hD hS hl kx1
    unfold fX0_soundOfMore_L1 at h
    refine lv_iload hx hb dX0_soundOfMore_10 (lv_at hl 5 rfl) ?_
    refine lv_iload_n hx hb dX0_soundOfMore_12 rfl (lv_at hl 2 rfl) ?_
    refine lv_iconst (v := 1) hx hb dX0_soundOfMore_13 (by decide) ?_
    refine lv_iadd hx hb dX0_soundOfMore_14 ?_
    refine lv_icmp_gt (tgt := 48) hx hb dX0_soundOfMore_15 (by decide) (fun c0 => ?_) (fun c0 => ?_)
    · have h := (if_pos c0).symm.trans h
      have h := Option.some.inj h
      subst h
      exact kx1 _ _ _ hP hD hS (lv_sub hl [0, 1, 2, 3, 4, 5] rfl)
    · have h := (if_neg c0).symm.trans h
      refine lv_iload_n hx hb dX0_soundOfMore_18 rfl (lv_at hl 3 rfl) ?_
      refine lv_aload_n hx hb dX0_soundOfMore_19 rfl (lv_at hl 0 rfl) ?_
      refine lv_aload_n hx hb dX0_soundOfMore_20 rfl (lv_at hl 1 rfl) ?_
      refine lv_iload hx hb dX0_soundOfMore_21 (lv_at hl 5 rfl) ?_
      refine lv_iconst (v := 1) hx hb dX0_soundOfMore_23 (by decide) ?_
      obtain ⟨u3, hu3, h⟩ := k_bs h
      refine k_ci (r := u3) (wc := [(q0, .inr (0, [.ref q1, .ref q2, .ref q3, .int s_armRows])), (q1, .inl (cI, 8, .inl s_sounds)), (q2, .inl (cI, 8, .inl s_clapped)), (q3, .inl (cI, 8, .inl s_next)), (q4, .inr (2, [.ref q5, .ref q6, .ref q7, .int s_hall_rows, .int s_hall_late])), (q5, .inl (cI, 8, .inl s_hall_kinds)), (q6, .inl (cI, 8, .inl s_hall_palms)), (q7, .inl (cI, 8, .inl s_hall_strengths))]) (wc' := [(q0, .inr (0, [.ref q1, .ref q2, .ref q3, .int s_armRows])), (q1, .inl (cI, 8, .inl s_sounds)), (q2, .inl (cI, 8, .inl s_clapped)), (q3, .inl (cI, 8, .inl s_next)), (q4, .inr (2, [.ref q5, .ref q6, .ref q7, .int s_hall_rows, .int s_hall_late])), (q5, .inl (cI, 8, .inl s_hall_kinds)), (q6, .inl (cI, 8, .inl s_hall_palms)), (q7, .inl (cI, 8, .inl s_hall_strengths))]) (w2 := [(q0, .inr (0, [.ref q1, .ref q2, .ref q3, .int s_armRows])), (q1, .inl (cI, 8, .inl s_sounds)), (q2, .inl (cI, 8, .inl s_clapped)), (q3, .inl (cI, 8, .inl s_next)), (q4, .inr (2, [.ref q5, .ref q6, .ref q7, .int s_hall_rows, .int s_hall_late])), (q5, .inl (cI, 8, .inl s_hall_kinds)), (q6, .inl (cI, 8, .inl s_hall_palms)), (q7, .inl (cI, 8, .inl s_hall_strengths))]) (va_runV (C := RX0) (As := [.ref q4, .int z1.2.2, .int 1]) (rest := [.int z1.1]) ⟨hx, hb, hml, hown, hts⟩ (mX0_palmsThatSound l D cI q0 q1 q2 q3 q4 q5 q6 q7 _ s_armRows s_sounds s_clapped s_next s_hall_rows s_hall_late s_hall_kinds s_hall_palms s_hall_strengths z1.2.2 1 u3 hu3) (cwV 3 hts gX0_soundOfMore_X0_palmsThatSound rfl rfl rfl (by decide +kernel) ⟨Nat.le_of_ble_eq_true rfl, Nat.le_of_ble_eq_true rfl⟩) (k_prev (q := (RX0, TX0, 4)) hN hK hP hD (isC := [0, 1, 2, 3, 4, 5, 6, 7]) rfl rfl 0 (ci := 0) rfl rfl) rfl rfl hl.1 rfl (lv_room (Nat.le_of_ble_eq_true rfl)) dX0_soundOfMore_24 ⟨Nat.le_of_ble_eq_true rfl, Nat.le_of_ble_eq_true rfl⟩) hP hD hS hA [0, 1, 2, 3, 4, 5, 6, 7] rfl rfl rfl rfl rfl (fun H locs hP hD hS => ?_)
      refine lv_iadd hx hb dX0_soundOfMore_27 ?_
      refine lv_istore_n (lv' := [(3, .int (z1.1 + u3)), (0, .ref q0), (1, .ref q4), (2, .int p2), (4, .int z1.2.1), (5, .int z1.2.2)]) hx hb dX0_soundOfMore_28 rfl hl (by decide) rfl (fun ls hl => ?_)
      refine lv_iload hx hb dX0_soundOfMore_29 (lv_at hl 4 rfl) ?_
      refine lv_aload_n hx hb dX0_soundOfMore_31 rfl (lv_at hl 1 rfl) ?_
      refine lv_aload_n hx hb dX0_soundOfMore_32 rfl (lv_at hl 2 rfl) ?_
      refine lv_iload hx hb dX0_soundOfMore_33 (lv_at hl 5 rfl) ?_
      refine lv_iconst (v := 2) hx hb dX0_soundOfMore_35 (by decide) ?_
      obtain ⟨u4, hu4, h⟩ := k_bs h
      refine k_ci (r := u4) (wc := [(q0, .inr (0, [.ref q1, .ref q2, .ref q3, .int s_armRows])), (q1, .inl (cI, 8, .inl s_sounds)), (q2, .inl (cI, 8, .inl s_clapped)), (q3, .inl (cI, 8, .inl s_next)), (q4, .inr (2, [.ref q5, .ref q6, .ref q7, .int s_hall_rows, .int s_hall_late])), (q5, .inl (cI, 8, .inl s_hall_kinds)), (q6, .inl (cI, 8, .inl s_hall_palms)), (q7, .inl (cI, 8, .inl s_hall_strengths))]) (wc' := [(q0, .inr (0, [.ref q1, .ref q2, .ref q3, .int s_armRows])), (q1, .inl (cI, 8, .inl s_sounds)), (q2, .inl (cI, 8, .inl s_clapped)), (q3, .inl (cI, 8, .inl s_next)), (q4, .inr (2, [.ref q5, .ref q6, .ref q7, .int s_hall_rows, .int s_hall_late])), (q5, .inl (cI, 8, .inl s_hall_kinds)), (q6, .inl (cI, 8, .inl s_hall_palms)), (q7, .inl (cI, 8, .inl s_hall_strengths))]) (w2 := [(q0, .inr (0, [.ref q1, .ref q2, .ref q3, .int s_armRows])), (q1, .inl (cI, 8, .inl s_sounds)), (q2, .inl (cI, 8, .inl s_clapped)), (q3, .inl (cI, 8, .inl s_next)), (q4, .inr (2, [.ref q5, .ref q6, .ref q7, .int s_hall_rows, .int s_hall_late])), (q5, .inl (cI, 8, .inl s_hall_kinds)), (q6, .inl (cI, 8, .inl s_hall_palms)), (q7, .inl (cI, 8, .inl s_hall_strengths))]) (va_runV (C := RX0) (As := [.ref q4, .int z1.2.2, .int 2]) (rest := [.int z1.2.1]) ⟨hx, hb, hml, hown, hts⟩ (mX0_palmsThatSound l D cI q0 q1 q2 q3 q4 q5 q6 q7 _ s_armRows s_sounds s_clapped s_next s_hall_rows s_hall_late s_hall_kinds s_hall_palms s_hall_strengths z1.2.2 2 u4 hu4) (cwV 3 hts gX0_soundOfMore_X0_palmsThatSound rfl rfl rfl (by decide +kernel) ⟨Nat.le_of_ble_eq_true rfl, Nat.le_of_ble_eq_true rfl⟩) (k_prev (q := (RX0, TX0, 4)) hN hK hP hD (isC := [0, 1, 2, 3, 4, 5, 6, 7]) rfl rfl 0 (ci := 0) rfl rfl) rfl rfl hl.1 rfl (lv_room (Nat.le_of_ble_eq_true rfl)) dX0_soundOfMore_36 ⟨Nat.le_of_ble_eq_true rfl, Nat.le_of_ble_eq_true rfl⟩) hP hD hS hA [0, 1, 2, 3, 4, 5, 6, 7] rfl rfl rfl rfl rfl (fun H locs hP hD hS => ?_)
      refine lv_iadd hx hb dX0_soundOfMore_39 ?_
      refine lv_istore (lv' := [(4, .int (z1.2.1 + u4)), (3, .int (z1.1 + u3)), (0, .ref q0), (1, .ref q4), (2, .int p2), (5, .int z1.2.2)]) hx hb dX0_soundOfMore_40 hl (by decide) rfl (fun ls hl => ?_)
      refine lv_iinc (v := (z1.2.2 + 1)) (lv' := [(5, .int (z1.2.2 + 1)), (4, .int (z1.2.1 + u4)), (3, .int (z1.1 + u3)), (0, .ref q0), (1, .ref q4), (2, .int p2)]) hx hb dX0_soundOfMore_42 hl (k := 5) rfl rfl (by decide) rfl (fun ls hl => ?_)
      refine lv_goto (tgt := 10) hx hb dX0_soundOfMore_45 (by decide) ?_
      exact ih1 _ _ h _ _ _ hP hD hS (lv_sub hl [3, 4, 5, 2, 1, 0] rfl) kx1
  · intro H locs ls hP hD hS hl
    refine lv_iload_n hx hb dX0_soundOfMore_48 rfl (lv_at hl 3 rfl) ?_
    refine lv_iload hx hb dX0_soundOfMore_49 (lv_at hl 4 rfl) ?_
    refine lv_icmp_eq (tgt := 66) hx hb dX0_soundOfMore_51 (by decide) (fun c0 => ?_) (fun c0 => ?_)
    · have h := (if_pos c0).symm.trans h
      refine lv_aload_n hx hb dX0_soundOfMore_66 rfl (lv_at hl 1 rfl) ?_
      refine lv_iload_n hx hb dX0_soundOfMore_67 rfl (lv_at hl 2 rfl) ?_
      obtain ⟨u5, hu5, h⟩ := k_bs h
      refine k_ci (r := u5) (wc := [(q4, .inr (2, [.ref q5, .ref q6, .ref q7, .int s_hall_rows, .int s_hall_late])), (q5, .inl (cI, 8, .inl s_hall_kinds)), (q6, .inl (cI, 8, .inl s_hall_palms)), (q7, .inl (cI, 8, .inl s_hall_strengths))]) (wc' := [(q4, .inr (2, [.ref q5, .ref q6, .ref q7, .int s_hall_rows, .int s_hall_late])), (q5, .inl (cI, 8, .inl s_hall_kinds)), (q6, .inl (cI, 8, .inl s_hall_palms)), (q7, .inl (cI, 8, .inl s_hall_strengths))]) (w2 := [(q0, .inr (0, [.ref q1, .ref q2, .ref q3, .int s_armRows])), (q1, .inl (cI, 8, .inl s_sounds)), (q2, .inl (cI, 8, .inl s_clapped)), (q3, .inl (cI, 8, .inl s_next)), (q4, .inr (2, [.ref q5, .ref q6, .ref q7, .int s_hall_rows, .int s_hall_late])), (q5, .inl (cI, 8, .inl s_hall_kinds)), (q6, .inl (cI, 8, .inl s_hall_palms)), (q7, .inl (cI, 8, .inl s_hall_strengths))]) (va_runV (C := RX2) (As := [.int p2]) (rest := []) ⟨hx, hb, hml, hown, hts⟩ (mX2_kindOf l D cI q4 q5 q6 q7 _ s_hall_rows s_hall_late s_hall_kinds s_hall_palms s_hall_strengths p2 u5 hu5) (cwV 1 hts gX0_soundOfMore_X2_kindOf rfl rfl rfl (by decide +kernel) ⟨Nat.le_of_ble_eq_true rfl, Nat.le_of_ble_eq_true rfl⟩) (k_prev (q := (RX2, TX2, 5)) hN hK hP hD (isC := [4, 5, 6, 7]) rfl rfl 4 (ci := 2) rfl rfl) rfl rfl hl.1 rfl (lv_room (Nat.le_of_ble_eq_true rfl)) dX0_soundOfMore_68 ⟨Nat.le_of_ble_eq_true rfl, Nat.le_of_ble_eq_true rfl⟩) hP hD hS hA [4, 5, 6, 7] rfl rfl rfl rfl rfl (fun H locs hP hD hS => ?_)
      refine lv_iconst (v := 3) hx hb dX0_soundOfMore_71 (by decide) ?_
      refine lv_icmp_ne (tgt := 79) hx hb dX0_soundOfMore_72 (by decide) (fun c0 => ?_) (fun c0 => ?_)
      · have h := (if_neg c0).symm.trans h
        refine lv_aload_n hx hb dX0_soundOfMore_79 rfl (lv_at hl 0 rfl) ?_
        refine lv_iload_n hx hb dX0_soundOfMore_80 rfl (lv_at hl 2 rfl) ?_
        obtain ⟨u6, hu6, h⟩ := k_bs h
        refine k_ci (r := u6) (wc := [(q0, .inr (0, [.ref q1, .ref q2, .ref q3, .int s_armRows])), (q1, .inl (cI, 8, .inl s_sounds)), (q2, .inl (cI, 8, .inl s_clapped)), (q3, .inl (cI, 8, .inl s_next))]) (wc' := [(q0, .inr (0, [.ref q1, .ref q2, .ref q3, .int s_armRows])), (q1, .inl (cI, 8, .inl s_sounds)), (q2, .inl (cI, 8, .inl s_clapped)), (q3, .inl (cI, 8, .inl s_next))]) (w2 := [(q0, .inr (0, [.ref q1, .ref q2, .ref q3, .int s_armRows])), (q1, .inl (cI, 8, .inl s_sounds)), (q2, .inl (cI, 8, .inl s_clapped)), (q3, .inl (cI, 8, .inl s_next)), (q4, .inr (2, [.ref q5, .ref q6, .ref q7, .int s_hall_rows, .int s_hall_late])), (q5, .inl (cI, 8, .inl s_hall_kinds)), (q6, .inl (cI, 8, .inl s_hall_palms)), (q7, .inl (cI, 8, .inl s_hall_strengths))]) (va_runV (C := RX0) (As := [.int p2]) (rest := []) ⟨hx, hb, hml, hown, hts⟩ (mX0_soundOf l D cI q0 q1 q2 q3 _ s_armRows s_sounds s_clapped s_next p2 u6 hu6) (cwV 1 hts gX0_soundOfMore_X0_soundOf rfl rfl rfl (by decide +kernel) ⟨Nat.le_of_ble_eq_true rfl, Nat.le_of_ble_eq_true rfl⟩) (k_prev (q := (RX0, TX0, 4)) hN hK hP hD (isC := [0, 1, 2, 3]) rfl rfl 0 (ci := 0) rfl rfl) rfl rfl hl.1 rfl (lv_room (Nat.le_of_ble_eq_true rfl)) dX0_soundOfMore_81 ⟨Nat.le_of_ble_eq_true rfl, Nat.le_of_ble_eq_true rfl⟩) hP hD hS hA [0, 1, 2, 3] rfl rfl rfl rfl rfl (fun H locs hP hD hS => ?_)
        have h := Option.some.inj h
        subst h
        exact hRet _ _ _ _ hP hD hS dX0_soundOfMore_84
      · have h := (if_pos c0).symm.trans h
        refine lv_iconst (v := 3) hx hb dX0_soundOfMore_75 (by decide) ?_
        refine lv_goto (tgt := 84) hx hb dX0_soundOfMore_76 (by decide) ?_
        have h := Option.some.inj h
        subst h
        exact hRet _ _ _ _ hP hD hS dX0_soundOfMore_84
    · have h := (if_neg c0).symm.trans h
      refine lv_iload_n hx hb dX0_soundOfMore_54 rfl (lv_at hl 3 rfl) ?_
      refine lv_iload hx hb dX0_soundOfMore_55 (lv_at hl 4 rfl) ?_
      refine lv_icmp_le (tgt := 64) hx hb dX0_soundOfMore_57 (by decide) (fun c0 => ?_) (fun c0 => ?_)
      · have h := (if_pos c0).symm.trans h
        refine lv_iconst (v := 2) hx hb dX0_soundOfMore_64 (by decide) ?_
        have h := Option.some.inj h
        subst h
        exact hRet _ _ _ _ hP hD hS dX0_soundOfMore_65
      · have h := (if_neg c0).symm.trans h
        refine lv_iconst (v := 1) hx hb dX0_soundOfMore_60 (by decide) ?_
        refine lv_goto (tgt := 65) hx hb dX0_soundOfMore_61 (by decide) ?_
        have h := Option.some.inj h
        subst h
        exact hRet _ _ _ _ hP hD hS dX0_soundOfMore_65
def fX0_seesArm (s_armRows : Int32) (p1 : Int32) : Option Int32 :=
  if s_armRows ≤ p1 then
    some 0
  else
    some 1
theorem iX0_seesArm_X0 : ∀ w ∈ wsX00, w ∈ wsX0_seesArm := by decide +kernel
def rX0_seesArm : Room := { frames := 0, cells := 0, slots := 0, locals := 0 }
set_option maxHeartbeats 4000000 in
set_option maxRecDepth 100000 in
theorem mX0_seesArm (l : Launch) (D : va_G) (cI : ClassId) (q0 q1 q2 q3 : Nat) (sz : Nat) (s_armRows : Int32) (s_sounds : (Nat → Int32)) (s_clapped : (Nat → Int32)) (s_next : (Nat → Int32)) (p1 : Int32) (r : Int32) (h : fX0_seesArm s_armRows p1 = some r) : Met l yX0_seesArm wsX0_seesArm rX0_seesArm (kPre D cI [.ref q0, .int p1] [(q0, .inr (0, [.ref q1, .ref q2, .ref q3, .int s_armRows])), (q1, .inl (cI, 8, .inl s_sounds)), (q2, .inl (cI, 8, .inl s_clapped)), (q3, .inl (cI, 8, .inl s_next))] sz) (kQi D cI r [(q0, .inr (0, [.ref q1, .ref q2, .ref q3, .int s_armRows])), (q1, .inl (cI, 8, .inl s_sounds)), (q2, .inl (cI, 8, .inl s_clapped)), (q3, .inl (cI, 8, .inl s_next))] (va_A [(q0, .inr (0, [.ref q1, .ref q2, .ref q3, .int s_armRows])), (q1, .inl (cI, 8, .inl s_sounds)), (q2, .inl (cI, 8, .inl s_clapped)), (q3, .inl (cI, 8, .inl s_next))] sz)) 0 0 (va_A [(q0, .inr (0, [.ref q1, .ref q2, .ref q3, .int s_armRows])), (q1, .inl (cI, 8, .inl s_sounds)), (q2, .inl (cI, 8, .inl s_clapped)), (q3, .inl (cI, 8, .inl s_next))] sz) := by
  refine kStart (cc := cX0_seesArm) (maxL := 2) (ret := (some .boolean)) (Qc := fun A => kQi D cI r [(q0, .inr (0, [.ref q1, .ref q2, .ref q3, .int s_armRows])), (q1, .inl (cI, 8, .inl s_sounds)), (q2, .inl (cI, 8, .inl s_clapped)), (q3, .inl (cI, 8, .inl s_next))] A) (by decide) rfl (Nat.le_of_ble_eq_true rfl) ?_
  intro p e s m args below meth c A ls hx hb hr hts hown hlocks hin hml hN hA hS hP hK hD hl
  have hl : lv_has ls 2 [(0, .ref q0), (1, .int p1)] := hl
  have hRet : ∀ (H : Heap) (locs : List Loc) (ls : Array Slot) (pc : Nat), narrow .boolean (.int r) = .int r → va_P D vwCl [(q0, .inr (0, [.ref q1, .ref q2, .ref q3, .int s_armRows])), (q1, .inl (cI, 8, .inl s_sounds)), (q2, .inl (cI, 8, .inl s_clapped)), (q3, .inl (cI, 8, .inl s_next))] H → va_D A [(q0, .inr (0, [.ref q1, .ref q2, .ref q3, .int s_armRows])), (q1, .inl (cI, 8, .inl s_sounds)), (q2, .inl (cI, 8, .inl s_clapped)), (q3, .inl (cI, 8, .inl s_next))] → va_S A s.heap H locs → decode cX0_seesArm pc = .ok (.ireturn, 1) → W p l e rX0_seesArm s m args below meth c H locs 0 0 (MQ below (kQi D cI r [(q0, .inr (0, [.ref q1, .ref q2, .ref q3, .int s_armRows])), (q1, .inl (cI, 8, .inl s_sounds)), (q2, .inl (cI, 8, .inl s_clapped)), (q3, .inl (cI, 8, .inl s_next))] A) args s 0 0 A) (F0 m pc ls [.int r]) := fun H locs ls pc hz hP hD hS hd => k_zret hx hb hr hlocks hK hz hP hD hS hd
  generalize MQ below (kQi D cI r [(q0, .inr (0, [.ref q1, .ref q2, .ref q3, .int s_armRows])), (q1, .inl (cI, 8, .inl s_sounds)), (q2, .inl (cI, 8, .inl s_clapped)), (q3, .inl (cI, 8, .inl s_next))] A) args s 0 0 A = Q at hRet ⊢
  unfold fX0_seesArm at h
  refine lv_iload_n hx hb dX0_seesArm_0 rfl (lv_at hl 1 rfl) ?_
  refine lv_aload_n hx hb dX0_seesArm_1 rfl (lv_at hl 0 rfl) ?_
  refine va_get (D := D) (ci := 0) (v := .int s_armRows) (C := RX0) (T := TX0) (N := 4) hx hb hts iX0_seesArm_X0 hown hK hP 0 rfl rfl 3 (by decide) (hts (.fieldLink RX0 21 "ClappedWrong$Crowd" "armRows" "I") (by decide +kernel)) (fun _ h9 => h9) rfl dX0_seesArm_2 ?_
  refine lv_icmp_ge (tgt := 12) hx hb dX0_seesArm_5 (by decide) (fun c0 => ?_) (fun c0 => ?_)
  · have h := (if_pos c0).symm.trans h
    refine lv_iconst (v := 0) hx hb dX0_seesArm_12 (by decide) ?_
    have h := Option.some.inj h
    subst h
    exact hRet _ _ _ _ (by decide) hP hD hS dX0_seesArm_13
  · have h := (if_neg c0).symm.trans h
    refine lv_iconst (v := 1) hx hb dX0_seesArm_8 (by decide) ?_
    refine lv_goto (tgt := 13) hx hb dX0_seesArm_9 (by decide) ?_
    have h := Option.some.inj h
    subst h
    exact hRet _ _ _ _ (by decide) hP hD hS dX0_seesArm_13
def fX0_soundNext (s_sounds : (Nat → Int32)) (s_clapped : (Nat → Int32)) (s_armRows : Int32) (s_hall_kinds : (Nat → Int32)) (s_hall_palms : (Nat → Int32)) (s_hall_strengths : (Nat → Int32)) (s_hall_rows : Int32) (p2 : Int32) : Option Int32 :=
  (fX0_isTired s_clapped s_hall_strengths s_hall_rows p2).bind fun u1 =>
    if u1 = (0 : Int32) then
    (fX0_soundOf s_sounds p2).bind fun u2 =>
      if u2 = (0 : Int32) then
      some 3
    else
      (fX2_isOf s_hall_kinds s_hall_rows p2 1).bind fun u3 =>
        if u3 = (0 : Int32) then
        (fX2_kindOf s_hall_kinds s_hall_rows p2).bind fun u4 =>
          if u4 = (2 : Int32) then
          (fX0_seesArm s_armRows p2).bind fun u6 =>
            if u6 = (0 : Int32) then
            (fX0_soundOfMore s_sounds s_hall_kinds s_hall_palms s_hall_rows p2).bind fun u7 =>
              some u7
          else
            some 2
        else
          (fX0_soundOfMore s_sounds s_hall_kinds s_hall_palms s_hall_rows p2).bind fun u5 =>
            some u5
      else
        some u2
  else
    some 0
def rX0_soundNext : Room := { frames := 2, cells := 0, slots := 0, locals := 48 }
set_option maxHeartbeats 4000000 in
set_option maxRecDepth 100000 in
theorem mX0_soundNext (l : Launch) (D : va_G) (cI : ClassId) (q0 q1 q2 q3 q4 q5 q6 q7 : Nat) (sz : Nat) (s_armRows : Int32) (s_sounds : (Nat → Int32)) (s_clapped : (Nat → Int32)) (s_next : (Nat → Int32)) (s_hall_rows : Int32) (s_hall_late : Int32) (s_hall_kinds : (Nat → Int32)) (s_hall_palms : (Nat → Int32)) (s_hall_strengths : (Nat → Int32)) (p2 : Int32) (r : Int32) (h : fX0_soundNext s_sounds s_clapped s_armRows s_hall_kinds s_hall_palms s_hall_strengths s_hall_rows p2 = some r) : Met l yX0_soundNext wsX0_soundNext rX0_soundNext (kPre D cI [.ref q0, .ref q4, .int p2] [(q0, .inr (0, [.ref q1, .ref q2, .ref q3, .int s_armRows])), (q1, .inl (cI, 8, .inl s_sounds)), (q2, .inl (cI, 8, .inl s_clapped)), (q3, .inl (cI, 8, .inl s_next)), (q4, .inr (2, [.ref q5, .ref q6, .ref q7, .int s_hall_rows, .int s_hall_late])), (q5, .inl (cI, 8, .inl s_hall_kinds)), (q6, .inl (cI, 8, .inl s_hall_palms)), (q7, .inl (cI, 8, .inl s_hall_strengths))] sz) (kQi D cI r [(q0, .inr (0, [.ref q1, .ref q2, .ref q3, .int s_armRows])), (q1, .inl (cI, 8, .inl s_sounds)), (q2, .inl (cI, 8, .inl s_clapped)), (q3, .inl (cI, 8, .inl s_next)), (q4, .inr (2, [.ref q5, .ref q6, .ref q7, .int s_hall_rows, .int s_hall_late])), (q5, .inl (cI, 8, .inl s_hall_kinds)), (q6, .inl (cI, 8, .inl s_hall_palms)), (q7, .inl (cI, 8, .inl s_hall_strengths))] (va_A [(q0, .inr (0, [.ref q1, .ref q2, .ref q3, .int s_armRows])), (q1, .inl (cI, 8, .inl s_sounds)), (q2, .inl (cI, 8, .inl s_clapped)), (q3, .inl (cI, 8, .inl s_next)), (q4, .inr (2, [.ref q5, .ref q6, .ref q7, .int s_hall_rows, .int s_hall_late])), (q5, .inl (cI, 8, .inl s_hall_kinds)), (q6, .inl (cI, 8, .inl s_hall_palms)), (q7, .inl (cI, 8, .inl s_hall_strengths))] sz)) 0 0 (va_A [(q0, .inr (0, [.ref q1, .ref q2, .ref q3, .int s_armRows])), (q1, .inl (cI, 8, .inl s_sounds)), (q2, .inl (cI, 8, .inl s_clapped)), (q3, .inl (cI, 8, .inl s_next)), (q4, .inr (2, [.ref q5, .ref q6, .ref q7, .int s_hall_rows, .int s_hall_late])), (q5, .inl (cI, 8, .inl s_hall_kinds)), (q6, .inl (cI, 8, .inl s_hall_palms)), (q7, .inl (cI, 8, .inl s_hall_strengths))] sz) := by
  refine kStart (cc := cX0_soundNext) (maxL := 4) (ret := (some .int)) (Qc := fun A => kQi D cI r [(q0, .inr (0, [.ref q1, .ref q2, .ref q3, .int s_armRows])), (q1, .inl (cI, 8, .inl s_sounds)), (q2, .inl (cI, 8, .inl s_clapped)), (q3, .inl (cI, 8, .inl s_next)), (q4, .inr (2, [.ref q5, .ref q6, .ref q7, .int s_hall_rows, .int s_hall_late])), (q5, .inl (cI, 8, .inl s_hall_kinds)), (q6, .inl (cI, 8, .inl s_hall_palms)), (q7, .inl (cI, 8, .inl s_hall_strengths))] A) (by decide) rfl (Nat.le_of_ble_eq_true rfl) ?_
  intro p e s m args below meth c A ls hx hb hr hts hown hlocks hin hml hN hA hS hP hK hD hl
  have hl : lv_has ls 4 [(0, .ref q0), (1, .ref q4), (2, .int p2)] := hl
  have hRet : ∀ (H : Heap) (locs : List Loc) (ls : Array Slot) (pc : Nat), va_P D vwCl [(q0, .inr (0, [.ref q1, .ref q2, .ref q3, .int s_armRows])), (q1, .inl (cI, 8, .inl s_sounds)), (q2, .inl (cI, 8, .inl s_clapped)), (q3, .inl (cI, 8, .inl s_next)), (q4, .inr (2, [.ref q5, .ref q6, .ref q7, .int s_hall_rows, .int s_hall_late])), (q5, .inl (cI, 8, .inl s_hall_kinds)), (q6, .inl (cI, 8, .inl s_hall_palms)), (q7, .inl (cI, 8, .inl s_hall_strengths))] H → va_D A [(q0, .inr (0, [.ref q1, .ref q2, .ref q3, .int s_armRows])), (q1, .inl (cI, 8, .inl s_sounds)), (q2, .inl (cI, 8, .inl s_clapped)), (q3, .inl (cI, 8, .inl s_next)), (q4, .inr (2, [.ref q5, .ref q6, .ref q7, .int s_hall_rows, .int s_hall_late])), (q5, .inl (cI, 8, .inl s_hall_kinds)), (q6, .inl (cI, 8, .inl s_hall_palms)), (q7, .inl (cI, 8, .inl s_hall_strengths))] → va_S A s.heap H locs → decode cX0_soundNext pc = .ok (.ireturn, 1) → W p l e rX0_soundNext s m args below meth c H locs 0 0 (MQ below (kQi D cI r [(q0, .inr (0, [.ref q1, .ref q2, .ref q3, .int s_armRows])), (q1, .inl (cI, 8, .inl s_sounds)), (q2, .inl (cI, 8, .inl s_clapped)), (q3, .inl (cI, 8, .inl s_next)), (q4, .inr (2, [.ref q5, .ref q6, .ref q7, .int s_hall_rows, .int s_hall_late])), (q5, .inl (cI, 8, .inl s_hall_kinds)), (q6, .inl (cI, 8, .inl s_hall_palms)), (q7, .inl (cI, 8, .inl s_hall_strengths))] A) args s 0 0 A) (F0 m pc ls [.int r]) := fun H locs ls pc hP hD hS hd => k_iret hx hb hr hlocks hK hP hD hS hd
  generalize MQ below (kQi D cI r [(q0, .inr (0, [.ref q1, .ref q2, .ref q3, .int s_armRows])), (q1, .inl (cI, 8, .inl s_sounds)), (q2, .inl (cI, 8, .inl s_clapped)), (q3, .inl (cI, 8, .inl s_next)), (q4, .inr (2, [.ref q5, .ref q6, .ref q7, .int s_hall_rows, .int s_hall_late])), (q5, .inl (cI, 8, .inl s_hall_kinds)), (q6, .inl (cI, 8, .inl s_hall_palms)), (q7, .inl (cI, 8, .inl s_hall_strengths))] A) args s 0 0 A = Q at hRet ⊢
  unfold fX0_soundNext at h
  refine lv_aload_n hx hb dX0_soundNext_0 rfl (lv_at hl 0 rfl) ?_
  refine lv_aload_n hx hb dX0_soundNext_1 rfl (lv_at hl 1 rfl) ?_
  refine lv_iload_n hx hb dX0_soundNext_2 rfl (lv_at hl 2 rfl) ?_
  obtain ⟨u1, hu1, h⟩ := k_bs h
  refine k_ci (r := u1) (wc := [(q0, .inr (0, [.ref q1, .ref q2, .ref q3, .int s_armRows])), (q1, .inl (cI, 8, .inl s_sounds)), (q2, .inl (cI, 8, .inl s_clapped)), (q3, .inl (cI, 8, .inl s_next)), (q4, .inr (2, [.ref q5, .ref q6, .ref q7, .int s_hall_rows, .int s_hall_late])), (q5, .inl (cI, 8, .inl s_hall_kinds)), (q6, .inl (cI, 8, .inl s_hall_palms)), (q7, .inl (cI, 8, .inl s_hall_strengths))]) (wc' := [(q0, .inr (0, [.ref q1, .ref q2, .ref q3, .int s_armRows])), (q1, .inl (cI, 8, .inl s_sounds)), (q2, .inl (cI, 8, .inl s_clapped)), (q3, .inl (cI, 8, .inl s_next)), (q4, .inr (2, [.ref q5, .ref q6, .ref q7, .int s_hall_rows, .int s_hall_late])), (q5, .inl (cI, 8, .inl s_hall_kinds)), (q6, .inl (cI, 8, .inl s_hall_palms)), (q7, .inl (cI, 8, .inl s_hall_strengths))]) (w2 := [(q0, .inr (0, [.ref q1, .ref q2, .ref q3, .int s_armRows])), (q1, .inl (cI, 8, .inl s_sounds)), (q2, .inl (cI, 8, .inl s_clapped)), (q3, .inl (cI, 8, .inl s_next)), (q4, .inr (2, [.ref q5, .ref q6, .ref q7, .int s_hall_rows, .int s_hall_late])), (q5, .inl (cI, 8, .inl s_hall_kinds)), (q6, .inl (cI, 8, .inl s_hall_palms)), (q7, .inl (cI, 8, .inl s_hall_strengths))]) (va_runV (C := RX0) (As := [.ref q4, .int p2]) (rest := []) ⟨hx, hb, hml, hown, hts⟩ (mX0_isTired l D cI q0 q1 q2 q3 q4 q5 q6 q7 _ s_armRows s_sounds s_clapped s_next s_hall_rows s_hall_late s_hall_kinds s_hall_palms s_hall_strengths p2 u1 hu1) (cwV 2 hts gX0_soundNext_X0_isTired rfl rfl rfl (by decide +kernel) ⟨Nat.le_of_ble_eq_true rfl, Nat.le_of_ble_eq_true rfl⟩) (k_prev (q := (RX0, TX0, 4)) hN hK hP hD (isC := [0, 1, 2, 3, 4, 5, 6, 7]) rfl rfl 0 (ci := 0) rfl rfl) rfl rfl hl.1 rfl (lv_room (Nat.le_of_ble_eq_true rfl)) dX0_soundNext_3 ⟨Nat.le_of_ble_eq_true rfl, Nat.le_of_ble_eq_true rfl⟩) hP hD hS hA [0, 1, 2, 3, 4, 5, 6, 7] rfl rfl rfl rfl rfl (fun H locs hP hD hS => ?_)
  refine lv_if_eq (tgt := 11) hx hb dX0_soundNext_6 (by decide) (fun c0 => ?_) (fun c0 => ?_)
  · have h := (if_pos c0).symm.trans h
    refine lv_aload_n hx hb dX0_soundNext_11 rfl (lv_at hl 0 rfl) ?_
    refine lv_iload_n hx hb dX0_soundNext_12 rfl (lv_at hl 2 rfl) ?_
    obtain ⟨u2, hu2, h⟩ := k_bs h
    refine k_ci (r := u2) (wc := [(q0, .inr (0, [.ref q1, .ref q2, .ref q3, .int s_armRows])), (q1, .inl (cI, 8, .inl s_sounds)), (q2, .inl (cI, 8, .inl s_clapped)), (q3, .inl (cI, 8, .inl s_next))]) (wc' := [(q0, .inr (0, [.ref q1, .ref q2, .ref q3, .int s_armRows])), (q1, .inl (cI, 8, .inl s_sounds)), (q2, .inl (cI, 8, .inl s_clapped)), (q3, .inl (cI, 8, .inl s_next))]) (w2 := [(q0, .inr (0, [.ref q1, .ref q2, .ref q3, .int s_armRows])), (q1, .inl (cI, 8, .inl s_sounds)), (q2, .inl (cI, 8, .inl s_clapped)), (q3, .inl (cI, 8, .inl s_next)), (q4, .inr (2, [.ref q5, .ref q6, .ref q7, .int s_hall_rows, .int s_hall_late])), (q5, .inl (cI, 8, .inl s_hall_kinds)), (q6, .inl (cI, 8, .inl s_hall_palms)), (q7, .inl (cI, 8, .inl s_hall_strengths))]) (va_runV (C := RX0) (As := [.int p2]) (rest := []) ⟨hx, hb, hml, hown, hts⟩ (mX0_soundOf l D cI q0 q1 q2 q3 _ s_armRows s_sounds s_clapped s_next p2 u2 hu2) (cwV 1 hts gX0_soundNext_X0_soundOf rfl rfl rfl (by decide +kernel) ⟨Nat.le_of_ble_eq_true rfl, Nat.le_of_ble_eq_true rfl⟩) (k_prev (q := (RX0, TX0, 4)) hN hK hP hD (isC := [0, 1, 2, 3]) rfl rfl 0 (ci := 0) rfl rfl) rfl rfl hl.1 rfl (lv_room (Nat.le_of_ble_eq_true rfl)) dX0_soundNext_13 ⟨Nat.le_of_ble_eq_true rfl, Nat.le_of_ble_eq_true rfl⟩) hP hD hS hA [0, 1, 2, 3] rfl rfl rfl rfl rfl (fun H locs hP hD hS => ?_)
    refine lv_istore_n (lv' := [(3, .int u2), (0, .ref q0), (1, .ref q4), (2, .int p2)]) hx hb dX0_soundNext_16 rfl hl (by decide) rfl (fun ls hl => ?_)
    refine lv_iload_n hx hb dX0_soundNext_17 rfl (lv_at hl 0 rfl) ?_
    refine lv_if_ne (tgt := 23) hx hb dX0_soundNext_18 (by decide) (fun c0 => ?_) (fun c0 => ?_)
    · have h := (if_neg c0).symm.trans h
      refine lv_aload_n hx hb dX0_soundNext_23 rfl (lv_at hl 2 rfl) ?_
      refine lv_iload_n hx hb dX0_soundNext_24 rfl (lv_at hl 3 rfl) ?_
      refine lv_iconst (v := 1) hx hb dX0_soundNext_25 (by decide) ?_
      obtain ⟨u3, hu3, h⟩ := k_bs h
      refine k_ci (r := u3) (wc := [(q4, .inr (2, [.ref q5, .ref q6, .ref q7, .int s_hall_rows, .int s_hall_late])), (q5, .inl (cI, 8, .inl s_hall_kinds)), (q6, .inl (cI, 8, .inl s_hall_palms)), (q7, .inl (cI, 8, .inl s_hall_strengths))]) (wc' := [(q4, .inr (2, [.ref q5, .ref q6, .ref q7, .int s_hall_rows, .int s_hall_late])), (q5, .inl (cI, 8, .inl s_hall_kinds)), (q6, .inl (cI, 8, .inl s_hall_palms)), (q7, .inl (cI, 8, .inl s_hall_strengths))]) (w2 := [(q0, .inr (0, [.ref q1, .ref q2, .ref q3, .int s_armRows])), (q1, .inl (cI, 8, .inl s_sounds)), (q2, .inl (cI, 8, .inl s_clapped)), (q3, .inl (cI, 8, .inl s_next)), (q4, .inr (2, [.ref q5, .ref q6, .ref q7, .int s_hall_rows, .int s_hall_late])), (q5, .inl (cI, 8, .inl s_hall_kinds)), (q6, .inl (cI, 8, .inl s_hall_palms)), (q7, .inl (cI, 8, .inl s_hall_strengths))]) (va_runV (C := RX2) (As := [.int p2, .int 1]) (rest := []) ⟨hx, hb, hml, hown, hts⟩ (mX2_isOf l D cI q4 q5 q6 q7 _ s_hall_rows s_hall_late s_hall_kinds s_hall_palms s_hall_strengths p2 1 u3 hu3) (cwV 2 hts gX0_soundNext_X2_isOf rfl rfl rfl (by decide +kernel) ⟨Nat.le_of_ble_eq_true rfl, Nat.le_of_ble_eq_true rfl⟩) (k_prev (q := (RX2, TX2, 5)) hN hK hP hD (isC := [4, 5, 6, 7]) rfl rfl 4 (ci := 2) rfl rfl) rfl rfl hl.1 rfl (lv_room (Nat.le_of_ble_eq_true rfl)) dX0_soundNext_26 ⟨Nat.le_of_ble_eq_true rfl, Nat.le_of_ble_eq_true rfl⟩) hP hD hS hA [4, 5, 6, 7] rfl rfl rfl rfl rfl (fun H locs hP hD hS => ?_)
      refine lv_if_eq (tgt := 34) hx hb dX0_soundNext_29 (by decide) (fun c0 => ?_) (fun c0 => ?_)
      · have h := (if_pos c0).symm.trans h
        refine lv_aload_n hx hb dX0_soundNext_34 rfl (lv_at hl 2 rfl) ?_
        refine lv_iload_n hx hb dX0_soundNext_35 rfl (lv_at hl 3 rfl) ?_
        obtain ⟨u4, hu4, h⟩ := k_bs h
        refine k_ci (r := u4) (wc := [(q4, .inr (2, [.ref q5, .ref q6, .ref q7, .int s_hall_rows, .int s_hall_late])), (q5, .inl (cI, 8, .inl s_hall_kinds)), (q6, .inl (cI, 8, .inl s_hall_palms)), (q7, .inl (cI, 8, .inl s_hall_strengths))]) (wc' := [(q4, .inr (2, [.ref q5, .ref q6, .ref q7, .int s_hall_rows, .int s_hall_late])), (q5, .inl (cI, 8, .inl s_hall_kinds)), (q6, .inl (cI, 8, .inl s_hall_palms)), (q7, .inl (cI, 8, .inl s_hall_strengths))]) (w2 := [(q0, .inr (0, [.ref q1, .ref q2, .ref q3, .int s_armRows])), (q1, .inl (cI, 8, .inl s_sounds)), (q2, .inl (cI, 8, .inl s_clapped)), (q3, .inl (cI, 8, .inl s_next)), (q4, .inr (2, [.ref q5, .ref q6, .ref q7, .int s_hall_rows, .int s_hall_late])), (q5, .inl (cI, 8, .inl s_hall_kinds)), (q6, .inl (cI, 8, .inl s_hall_palms)), (q7, .inl (cI, 8, .inl s_hall_strengths))]) (va_runV (C := RX2) (As := [.int p2]) (rest := []) ⟨hx, hb, hml, hown, hts⟩ (mX2_kindOf l D cI q4 q5 q6 q7 _ s_hall_rows s_hall_late s_hall_kinds s_hall_palms s_hall_strengths p2 u4 hu4) (cwV 1 hts gX0_soundNext_X2_kindOf rfl rfl rfl (by decide +kernel) ⟨Nat.le_of_ble_eq_true rfl, Nat.le_of_ble_eq_true rfl⟩) (k_prev (q := (RX2, TX2, 5)) hN hK hP hD (isC := [4, 5, 6, 7]) rfl rfl 4 (ci := 2) rfl rfl) rfl rfl hl.1 rfl (lv_room (Nat.le_of_ble_eq_true rfl)) dX0_soundNext_36 ⟨Nat.le_of_ble_eq_true rfl, Nat.le_of_ble_eq_true rfl⟩) hP hD hS hA [4, 5, 6, 7] rfl rfl rfl rfl rfl (fun H locs hP hD hS => ?_)
        refine lv_iconst (v := 2) hx hb dX0_soundNext_39 (by decide) ?_
        refine lv_icmp_ne (tgt := 53) hx hb dX0_soundNext_40 (by decide) (fun c0 => ?_) (fun c0 => ?_)
        · have h := (if_neg c0).symm.trans h
          refine lv_aload_n hx hb dX0_soundNext_53 rfl (lv_at hl 1 rfl) ?_
          refine lv_aload_n hx hb dX0_soundNext_54 rfl (lv_at hl 2 rfl) ?_
          refine lv_iload_n hx hb dX0_soundNext_55 rfl (lv_at hl 3 rfl) ?_
          obtain ⟨u5, hu5, h⟩ := k_bs h
          refine k_ci (r := u5) (wc := [(q0, .inr (0, [.ref q1, .ref q2, .ref q3, .int s_armRows])), (q1, .inl (cI, 8, .inl s_sounds)), (q2, .inl (cI, 8, .inl s_clapped)), (q3, .inl (cI, 8, .inl s_next)), (q4, .inr (2, [.ref q5, .ref q6, .ref q7, .int s_hall_rows, .int s_hall_late])), (q5, .inl (cI, 8, .inl s_hall_kinds)), (q6, .inl (cI, 8, .inl s_hall_palms)), (q7, .inl (cI, 8, .inl s_hall_strengths))]) (wc' := [(q0, .inr (0, [.ref q1, .ref q2, .ref q3, .int s_armRows])), (q1, .inl (cI, 8, .inl s_sounds)), (q2, .inl (cI, 8, .inl s_clapped)), (q3, .inl (cI, 8, .inl s_next)), (q4, .inr (2, [.ref q5, .ref q6, .ref q7, .int s_hall_rows, .int s_hall_late])), (q5, .inl (cI, 8, .inl s_hall_kinds)), (q6, .inl (cI, 8, .inl s_hall_palms)), (q7, .inl (cI, 8, .inl s_hall_strengths))]) (w2 := [(q0, .inr (0, [.ref q1, .ref q2, .ref q3, .int s_armRows])), (q1, .inl (cI, 8, .inl s_sounds)), (q2, .inl (cI, 8, .inl s_clapped)), (q3, .inl (cI, 8, .inl s_next)), (q4, .inr (2, [.ref q5, .ref q6, .ref q7, .int s_hall_rows, .int s_hall_late])), (q5, .inl (cI, 8, .inl s_hall_kinds)), (q6, .inl (cI, 8, .inl s_hall_palms)), (q7, .inl (cI, 8, .inl s_hall_strengths))]) (va_runV (C := RX0) (As := [.ref q4, .int p2]) (rest := []) ⟨hx, hb, hml, hown, hts⟩ (mX0_soundOfMore l D cI q0 q1 q2 q3 q4 q5 q6 q7 _ s_armRows s_sounds s_clapped s_next s_hall_rows s_hall_late s_hall_kinds s_hall_palms s_hall_strengths p2 u5 hu5) (cwV 2 hts gX0_soundNext_X0_soundOfMore rfl rfl rfl (by decide +kernel) ⟨Nat.le_of_ble_eq_true rfl, Nat.le_of_ble_eq_true rfl⟩) (k_prev (q := (RX0, TX0, 4)) hN hK hP hD (isC := [0, 1, 2, 3, 4, 5, 6, 7]) rfl rfl 0 (ci := 0) rfl rfl) rfl rfl hl.1 rfl (lv_room (Nat.le_of_ble_eq_true rfl)) dX0_soundNext_56 ⟨Nat.le_of_ble_eq_true rfl, Nat.le_of_ble_eq_true rfl⟩) hP hD hS hA [0, 1, 2, 3, 4, 5, 6, 7] rfl rfl rfl rfl rfl (fun H locs hP hD hS => ?_)
          have h := Option.some.inj h
          subst h
          exact hRet _ _ _ _ hP hD hS dX0_soundNext_59
        · have h := (if_pos c0).symm.trans h
          refine lv_aload_n hx hb dX0_soundNext_43 rfl (lv_at hl 1 rfl) ?_
          refine lv_iload_n hx hb dX0_soundNext_44 rfl (lv_at hl 3 rfl) ?_
          obtain ⟨u6, hu6, h⟩ := k_bs h
          refine k_ci (r := u6) (wc := [(q0, .inr (0, [.ref q1, .ref q2, .ref q3, .int s_armRows])), (q1, .inl (cI, 8, .inl s_sounds)), (q2, .inl (cI, 8, .inl s_clapped)), (q3, .inl (cI, 8, .inl s_next))]) (wc' := [(q0, .inr (0, [.ref q1, .ref q2, .ref q3, .int s_armRows])), (q1, .inl (cI, 8, .inl s_sounds)), (q2, .inl (cI, 8, .inl s_clapped)), (q3, .inl (cI, 8, .inl s_next))]) (w2 := [(q0, .inr (0, [.ref q1, .ref q2, .ref q3, .int s_armRows])), (q1, .inl (cI, 8, .inl s_sounds)), (q2, .inl (cI, 8, .inl s_clapped)), (q3, .inl (cI, 8, .inl s_next)), (q4, .inr (2, [.ref q5, .ref q6, .ref q7, .int s_hall_rows, .int s_hall_late])), (q5, .inl (cI, 8, .inl s_hall_kinds)), (q6, .inl (cI, 8, .inl s_hall_palms)), (q7, .inl (cI, 8, .inl s_hall_strengths))]) (va_runV (C := RX0) (As := [.int p2]) (rest := []) ⟨hx, hb, hml, hown, hts⟩ (mX0_seesArm l D cI q0 q1 q2 q3 _ s_armRows s_sounds s_clapped s_next p2 u6 hu6) (cwV 1 hts gX0_soundNext_X0_seesArm rfl rfl rfl (by decide +kernel) ⟨Nat.le_of_ble_eq_true rfl, Nat.le_of_ble_eq_true rfl⟩) (k_prev (q := (RX0, TX0, 4)) hN hK hP hD (isC := [0, 1, 2, 3]) rfl rfl 0 (ci := 0) rfl rfl) rfl rfl hl.1 rfl (lv_room (Nat.le_of_ble_eq_true rfl)) dX0_soundNext_45 ⟨Nat.le_of_ble_eq_true rfl, Nat.le_of_ble_eq_true rfl⟩) hP hD hS hA [0, 1, 2, 3] rfl rfl rfl rfl rfl (fun H locs hP hD hS => ?_)
          refine lv_if_eq (tgt := 53) hx hb dX0_soundNext_48 (by decide) (fun c0 => ?_) (fun c0 => ?_)
          · have h := (if_pos c0).symm.trans h
            refine lv_aload_n hx hb dX0_soundNext_53 rfl (lv_at hl 1 rfl) ?_
            refine lv_aload_n hx hb dX0_soundNext_54 rfl (lv_at hl 2 rfl) ?_
            refine lv_iload_n hx hb dX0_soundNext_55 rfl (lv_at hl 3 rfl) ?_
            obtain ⟨u7, hu7, h⟩ := k_bs h
            refine k_ci (r := u7) (wc := [(q0, .inr (0, [.ref q1, .ref q2, .ref q3, .int s_armRows])), (q1, .inl (cI, 8, .inl s_sounds)), (q2, .inl (cI, 8, .inl s_clapped)), (q3, .inl (cI, 8, .inl s_next)), (q4, .inr (2, [.ref q5, .ref q6, .ref q7, .int s_hall_rows, .int s_hall_late])), (q5, .inl (cI, 8, .inl s_hall_kinds)), (q6, .inl (cI, 8, .inl s_hall_palms)), (q7, .inl (cI, 8, .inl s_hall_strengths))]) (wc' := [(q0, .inr (0, [.ref q1, .ref q2, .ref q3, .int s_armRows])), (q1, .inl (cI, 8, .inl s_sounds)), (q2, .inl (cI, 8, .inl s_clapped)), (q3, .inl (cI, 8, .inl s_next)), (q4, .inr (2, [.ref q5, .ref q6, .ref q7, .int s_hall_rows, .int s_hall_late])), (q5, .inl (cI, 8, .inl s_hall_kinds)), (q6, .inl (cI, 8, .inl s_hall_palms)), (q7, .inl (cI, 8, .inl s_hall_strengths))]) (w2 := [(q0, .inr (0, [.ref q1, .ref q2, .ref q3, .int s_armRows])), (q1, .inl (cI, 8, .inl s_sounds)), (q2, .inl (cI, 8, .inl s_clapped)), (q3, .inl (cI, 8, .inl s_next)), (q4, .inr (2, [.ref q5, .ref q6, .ref q7, .int s_hall_rows, .int s_hall_late])), (q5, .inl (cI, 8, .inl s_hall_kinds)), (q6, .inl (cI, 8, .inl s_hall_palms)), (q7, .inl (cI, 8, .inl s_hall_strengths))]) (va_runV (C := RX0) (As := [.ref q4, .int p2]) (rest := []) ⟨hx, hb, hml, hown, hts⟩ (mX0_soundOfMore l D cI q0 q1 q2 q3 q4 q5 q6 q7 _ s_armRows s_sounds s_clapped s_next s_hall_rows s_hall_late s_hall_kinds s_hall_palms s_hall_strengths p2 u7 hu7) (cwV 2 hts gX0_soundNext_X0_soundOfMore rfl rfl rfl (by decide +kernel) ⟨Nat.le_of_ble_eq_true rfl, Nat.le_of_ble_eq_true rfl⟩) (k_prev (q := (RX0, TX0, 4)) hN hK hP hD (isC := [0, 1, 2, 3, 4, 5, 6, 7]) rfl rfl 0 (ci := 0) rfl rfl) rfl rfl hl.1 rfl (lv_room (Nat.le_of_ble_eq_true rfl)) dX0_soundNext_56 ⟨Nat.le_of_ble_eq_true rfl, Nat.le_of_ble_eq_true rfl⟩) hP hD hS hA [0, 1, 2, 3, 4, 5, 6, 7] rfl rfl rfl rfl rfl (fun H locs hP hD hS => ?_)
            have h := Option.some.inj h
            subst h
            exact hRet _ _ _ _ hP hD hS dX0_soundNext_59
          · have h := (if_neg c0).symm.trans h
            refine lv_iconst (v := 2) hx hb dX0_soundNext_51 (by decide) ?_
            have h := Option.some.inj h
            subst h
            exact hRet _ _ _ _ hP hD hS dX0_soundNext_52
      · have h := (if_neg c0).symm.trans h
        refine lv_iload_n hx hb dX0_soundNext_32 rfl (lv_at hl 0 rfl) ?_
        have h := Option.some.inj h
        subst h
        exact hRet _ _ _ _ hP hD hS dX0_soundNext_33
    · have h := (if_pos c0).symm.trans h
      refine lv_iconst (v := 3) hx hb dX0_soundNext_21 (by decide) ?_
      have h := Option.some.inj h
      subst h
      exact hRet _ _ _ _ hP hD hS dX0_soundNext_22
  · have h := (if_neg c0).symm.trans h
    refine lv_iconst (v := 0) hx hb dX0_soundNext_9 (by decide) ?_
    have h := Option.some.inj h
    subst h
    exact hRet _ _ _ _ hP hD hS dX0_soundNext_10
def fX5_oneIf (p0 : Int32) : Option Int32 :=
  if p0 = (0 : Int32) then
    some 0
  else
    some 1
def rX5_oneIf : Room := { frames := 0, cells := 0, slots := 0, locals := 0 }
set_option maxHeartbeats 4000000 in
set_option maxRecDepth 100000 in
theorem mX5_oneIf (l : Launch) (D : va_G) (cI : ClassId) (sz : Nat) (p0 : Int32) (r : Int32) (h : fX5_oneIf p0 = some r) : Met l yX5_oneIf wsX5_oneIf rX5_oneIf (kPre D cI [.int p0] [] sz) (kQi D cI r [] (va_A [] sz)) 0 0 (va_A [] sz) := by
  refine kStart (cc := cX5_oneIf) (maxL := 1) (ret := (some .int)) (Qc := fun A => kQi D cI r [] A) (by decide) rfl (Nat.le_of_ble_eq_true rfl) ?_
  intro p e s m args below meth c A ls hx hb hr hts hown hlocks hin hml hN hA hS hP hK hD hl
  have hl : lv_has ls 1 [(0, .int p0)] := hl
  have hRet : ∀ (H : Heap) (locs : List Loc) (ls : Array Slot) (pc : Nat), va_P D vwCl [] H → va_D A [] → va_S A s.heap H locs → decode cX5_oneIf pc = .ok (.ireturn, 1) → W p l e rX5_oneIf s m args below meth c H locs 0 0 (MQ below (kQi D cI r [] A) args s 0 0 A) (F0 m pc ls [.int r]) := fun H locs ls pc hP hD hS hd => k_iret hx hb hr hlocks hK hP hD hS hd
  generalize MQ below (kQi D cI r [] A) args s 0 0 A = Q at hRet ⊢
  unfold fX5_oneIf at h
  refine lv_iload_n hx hb dX5_oneIf_0 rfl (lv_at hl 0 rfl) ?_
  refine lv_if_eq (tgt := 8) hx hb dX5_oneIf_1 (by decide) (fun c0 => ?_) (fun c0 => ?_)
  · have h := (if_pos c0).symm.trans h
    refine lv_iconst (v := 0) hx hb dX5_oneIf_8 (by decide) ?_
    have h := Option.some.inj h
    subst h
    exact hRet _ _ _ _ hP hD hS dX5_oneIf_9
  · have h := (if_neg c0).symm.trans h
    refine lv_iconst (v := 1) hx hb dX5_oneIf_4 (by decide) ?_
    refine lv_goto (tgt := 9) hx hb dX5_oneIf_5 (by decide) ?_
    have h := Option.some.inj h
    subst h
    exact hRet _ _ _ _ hP hD hS dX5_oneIf_9
def fX0_goOn_L1 (s_sounds : (Nat → Int32)) (s_clapped : (Nat → Int32)) (s_armRows : Int32) (s_hall_kinds : (Nat → Int32)) (s_hall_palms : (Nat → Int32)) (s_hall_strengths : (Nat → Int32)) (s_hall_rows : Int32) (rc1 : ((Int32 × (Nat → Int32)) → Option (Int32 × (Nat → Int32)))) (z1 : (Int32 × (Nat → Int32))) : Option (Int32 × (Nat → Int32)) :=
  if s_hall_rows ≤ z1.1 then
    some (z1.1, z1.2)
  else
    (fX0_soundNext s_sounds s_clapped s_armRows s_hall_kinds s_hall_palms s_hall_strengths s_hall_rows z1.1).bind fun u3 =>
      (kst 8 z1.2 z1.1 u3).bind fun g4 =>
      rc1 ((z1.1 + 1), g4)
def fX0_goOn_L2 (s_hall_rows : Int32) (u2 : (Int32 × (Nat → Int32))) (rc5 : ((Int32 × Int32 × (Nat → Int32) × (Nat → Int32)) → Option (Int32 × Int32 × (Nat → Int32) × (Nat → Int32)))) (z5 : (Int32 × Int32 × (Nat → Int32) × (Nat → Int32))) : Option (Int32 × Int32 × (Nat → Int32) × (Nat → Int32)) :=
  if s_hall_rows ≤ z5.2.1 then
    some (z5.1, z5.2.1, z5.2.2.1, z5.2.2.2)
  else
    (if z5.1 = (0 : Int32) then
      (kld 8 u2.2 z5.2.1).bind fun v8 =>
        (kld 8 z5.2.2.1 z5.2.1).bind fun v9 =>
        if v8 = v9 then
        some 0
      else
        some 1
    else
      some 1).bind fun u7 =>
      (kld 8 u2.2 z5.2.1).bind fun v10 =>
      (fX0_let z5.2.2.1 z5.2.2.2 z5.2.1 v10).bind fun u11 =>
      (kld 8 u11.2 z5.2.1).bind fun v12 =>
      (kld 8 u2.2 z5.2.1).bind fun v13 =>
      if v13 = (0 : Int32) then
      (fX5_oneIf 0).bind fun u14 =>
        (kst 8 u11.2 z5.2.1 (v12 + u14)).bind fun g15 =>
        rc5 (u7, (z5.2.1 + 1), u11.1, g15)
    else
      (fX5_oneIf 1).bind fun u16 =>
        (kst 8 u11.2 z5.2.1 (v12 + u16)).bind fun g17 =>
        rc5 (u7, (z5.2.1 + 1), u11.1, g17)
def fX0_goOn (s_sounds : (Nat → Int32)) (s_clapped : (Nat → Int32)) (s_next : (Nat → Int32)) (s_armRows : Int32) (s_hall_kinds : (Nat → Int32)) (s_hall_palms : (Nat → Int32)) (s_hall_strengths : (Nat → Int32)) (s_hall_rows : Int32) : Option (Int32 × (Nat → Int32) × (Nat → Int32) × (Nat → Int32)) :=
  (kIter (fX0_goOn_L1 s_sounds s_clapped s_armRows s_hall_kinds s_hall_palms s_hall_strengths s_hall_rows) 300 (0, s_next)).bind fun u2 =>
    (kIter (fX0_goOn_L2 s_hall_rows u2) 300 (0, 0, s_sounds, s_clapped)).bind fun u6 =>
    (kz u6.1).bind fun b18 =>
    some (b18, u6.2.2.1, u6.2.2.2, u2.2)
theorem iX0_goOn_X0 : ∀ w ∈ wsX00, w ∈ wsX0_goOn := by decide +kernel
theorem iX0_goOn_X2 : ∀ w ∈ wsX20, w ∈ wsX0_goOn := by decide +kernel
def rX0_goOn : Room := { frames := 3, cells := 0, slots := 0, locals := 71 }
set_option maxHeartbeats 4000000 in
set_option maxRecDepth 100000 in
theorem mX0_goOn (l : Launch) (D : va_G) (cI : ClassId) (q0 q1 q2 q3 q4 q5 q6 q7 : Nat) (sz : Nat) (s_armRows : Int32) (s_sounds : (Nat → Int32)) (s_clapped : (Nat → Int32)) (s_next : (Nat → Int32)) (s_hall_rows : Int32) (s_hall_late : Int32) (s_hall_kinds : (Nat → Int32)) (s_hall_palms : (Nat → Int32)) (s_hall_strengths : (Nat → Int32)) (r : (Int32 × (Nat → Int32) × (Nat → Int32) × (Nat → Int32))) (h : fX0_goOn s_sounds s_clapped s_next s_armRows s_hall_kinds s_hall_palms s_hall_strengths s_hall_rows = some r) : Met l yX0_goOn wsX0_goOn rX0_goOn (kPre D cI [.ref q0, .ref q4] [(q0, .inr (0, [.ref q1, .ref q2, .ref q3, .int s_armRows])), (q1, .inl (cI, 8, .inl s_sounds)), (q2, .inl (cI, 8, .inl s_clapped)), (q3, .inl (cI, 8, .inl s_next)), (q4, .inr (2, [.ref q5, .ref q6, .ref q7, .int s_hall_rows, .int s_hall_late])), (q5, .inl (cI, 8, .inl s_hall_kinds)), (q6, .inl (cI, 8, .inl s_hall_palms)), (q7, .inl (cI, 8, .inl s_hall_strengths))] sz) (kQi D cI r.1 [(q0, .inr (0, [.ref q1, .ref q2, .ref q3, .int s_armRows])), (q1, .inl (cI, 8, .inl r.2.1)), (q2, .inl (cI, 8, .inl r.2.2.1)), (q3, .inl (cI, 8, .inl r.2.2.2)), (q4, .inr (2, [.ref q5, .ref q6, .ref q7, .int s_hall_rows, .int s_hall_late])), (q5, .inl (cI, 8, .inl s_hall_kinds)), (q6, .inl (cI, 8, .inl s_hall_palms)), (q7, .inl (cI, 8, .inl s_hall_strengths))] (va_A [(q0, .inr (0, [.ref q1, .ref q2, .ref q3, .int s_armRows])), (q1, .inl (cI, 8, .inl s_sounds)), (q2, .inl (cI, 8, .inl s_clapped)), (q3, .inl (cI, 8, .inl s_next)), (q4, .inr (2, [.ref q5, .ref q6, .ref q7, .int s_hall_rows, .int s_hall_late])), (q5, .inl (cI, 8, .inl s_hall_kinds)), (q6, .inl (cI, 8, .inl s_hall_palms)), (q7, .inl (cI, 8, .inl s_hall_strengths))] sz)) 0 0 (va_A [(q0, .inr (0, [.ref q1, .ref q2, .ref q3, .int s_armRows])), (q1, .inl (cI, 8, .inl s_sounds)), (q2, .inl (cI, 8, .inl s_clapped)), (q3, .inl (cI, 8, .inl s_next)), (q4, .inr (2, [.ref q5, .ref q6, .ref q7, .int s_hall_rows, .int s_hall_late])), (q5, .inl (cI, 8, .inl s_hall_kinds)), (q6, .inl (cI, 8, .inl s_hall_palms)), (q7, .inl (cI, 8, .inl s_hall_strengths))] sz) := by
  refine kStart (cc := cX0_goOn) (maxL := 4) (ret := (some .boolean)) (Qc := fun A => kQi D cI r.1 [(q0, .inr (0, [.ref q1, .ref q2, .ref q3, .int s_armRows])), (q1, .inl (cI, 8, .inl r.2.1)), (q2, .inl (cI, 8, .inl r.2.2.1)), (q3, .inl (cI, 8, .inl r.2.2.2)), (q4, .inr (2, [.ref q5, .ref q6, .ref q7, .int s_hall_rows, .int s_hall_late])), (q5, .inl (cI, 8, .inl s_hall_kinds)), (q6, .inl (cI, 8, .inl s_hall_palms)), (q7, .inl (cI, 8, .inl s_hall_strengths))] A) (by decide) rfl (Nat.le_of_ble_eq_true rfl) ?_
  intro p e s m args below meth c A ls hx hb hr hts hown hlocks hin hml hN hA hS hP hK hD hl
  have hl : lv_has ls 4 [(0, .ref q0), (1, .ref q4)] := hl
  have hRet : ∀ (H : Heap) (locs : List Loc) (ls : Array Slot) (pc : Nat), narrow .boolean (.int r.1) = .int r.1 → va_P D vwCl [(q0, .inr (0, [.ref q1, .ref q2, .ref q3, .int s_armRows])), (q1, .inl (cI, 8, .inl r.2.1)), (q2, .inl (cI, 8, .inl r.2.2.1)), (q3, .inl (cI, 8, .inl r.2.2.2)), (q4, .inr (2, [.ref q5, .ref q6, .ref q7, .int s_hall_rows, .int s_hall_late])), (q5, .inl (cI, 8, .inl s_hall_kinds)), (q6, .inl (cI, 8, .inl s_hall_palms)), (q7, .inl (cI, 8, .inl s_hall_strengths))] H → va_D A [(q0, .inr (0, [.ref q1, .ref q2, .ref q3, .int s_armRows])), (q1, .inl (cI, 8, .inl r.2.1)), (q2, .inl (cI, 8, .inl r.2.2.1)), (q3, .inl (cI, 8, .inl r.2.2.2)), (q4, .inr (2, [.ref q5, .ref q6, .ref q7, .int s_hall_rows, .int s_hall_late])), (q5, .inl (cI, 8, .inl s_hall_kinds)), (q6, .inl (cI, 8, .inl s_hall_palms)), (q7, .inl (cI, 8, .inl s_hall_strengths))] → va_S A s.heap H locs → decode cX0_goOn pc = .ok (.ireturn, 1) → W p l e rX0_goOn s m args below meth c H locs 0 0 (MQ below (kQi D cI r.1 [(q0, .inr (0, [.ref q1, .ref q2, .ref q3, .int s_armRows])), (q1, .inl (cI, 8, .inl r.2.1)), (q2, .inl (cI, 8, .inl r.2.2.1)), (q3, .inl (cI, 8, .inl r.2.2.2)), (q4, .inr (2, [.ref q5, .ref q6, .ref q7, .int s_hall_rows, .int s_hall_late])), (q5, .inl (cI, 8, .inl s_hall_kinds)), (q6, .inl (cI, 8, .inl s_hall_palms)), (q7, .inl (cI, 8, .inl s_hall_strengths))] A) args s 0 0 A) (F0 m pc ls [.int r.1]) := fun H locs ls pc hz hP hD hS hd => k_zret hx hb hr hlocks hK hz hP hD hS hd
  generalize MQ below (kQi D cI r.1 [(q0, .inr (0, [.ref q1, .ref q2, .ref q3, .int s_armRows])), (q1, .inl (cI, 8, .inl r.2.1)), (q2, .inl (cI, 8, .inl r.2.2.1)), (q3, .inl (cI, 8, .inl r.2.2.2)), (q4, .inr (2, [.ref q5, .ref q6, .ref q7, .int s_hall_rows, .int s_hall_late])), (q5, .inl (cI, 8, .inl s_hall_kinds)), (q6, .inl (cI, 8, .inl s_hall_palms)), (q7, .inl (cI, 8, .inl s_hall_strengths))] A) args s 0 0 A = Q at hRet ⊢
  unfold fX0_goOn at h
  refine lv_iconst (v := 0) hx hb dX0_goOn_0 (by decide) ?_
  refine lv_istore_n (lv' := [(2, .int 0), (0, .ref q0), (1, .ref q4)]) hx hb dX0_goOn_1 rfl hl (by decide) rfl (fun ls hl => ?_)
  obtain ⟨u2, hu2, h⟩ := k_bs h
  refine kIter_ind (fun (z1 : (Int32 × (Nat → Int32))) (u2 : (Int32 × (Nat → Int32))) => ∀ (H : Heap) (locs : List Loc) (ls : Array Slot), va_P D vwCl [(q0, .inr (0, [.ref q1, .ref q2, .ref q3, .int s_armRows])), (q1, .inl (cI, 8, .inl s_sounds)), (q2, .inl (cI, 8, .inl s_clapped)), (q3, .inl (cI, 8, .inl z1.2)), (q4, .inr (2, [.ref q5, .ref q6, .ref q7, .int s_hall_rows, .int s_hall_late])), (q5, .inl (cI, 8, .inl s_hall_kinds)), (q6, .inl (cI, 8, .inl s_hall_palms)), (q7, .inl (cI, 8, .inl s_hall_strengths))] H → va_D A [(q0, .inr (0, [.ref q1, .ref q2, .ref q3, .int s_armRows])), (q1, .inl (cI, 8, .inl s_sounds)), (q2, .inl (cI, 8, .inl s_clapped)), (q3, .inl (cI, 8, .inl z1.2)), (q4, .inr (2, [.ref q5, .ref q6, .ref q7, .int s_hall_rows, .int s_hall_late])), (q5, .inl (cI, 8, .inl s_hall_kinds)), (q6, .inl (cI, 8, .inl s_hall_palms)), (q7, .inl (cI, 8, .inl s_hall_strengths))] → va_S A s.heap H locs → lv_has ls 4 [(0, .ref q0), (1, .ref q4), (2, .int z1.1)] → (∀ (H : Heap) (locs : List Loc) (ls : Array Slot), va_P D vwCl [(q0, .inr (0, [.ref q1, .ref q2, .ref q3, .int s_armRows])), (q1, .inl (cI, 8, .inl s_sounds)), (q2, .inl (cI, 8, .inl s_clapped)), (q3, .inl (cI, 8, .inl u2.2)), (q4, .inr (2, [.ref q5, .ref q6, .ref q7, .int s_hall_rows, .int s_hall_late])), (q5, .inl (cI, 8, .inl s_hall_kinds)), (q6, .inl (cI, 8, .inl s_hall_palms)), (q7, .inl (cI, 8, .inl s_hall_strengths))] H → va_D A [(q0, .inr (0, [.ref q1, .ref q2, .ref q3, .int s_armRows])), (q1, .inl (cI, 8, .inl s_sounds)), (q2, .inl (cI, 8, .inl s_clapped)), (q3, .inl (cI, 8, .inl u2.2)), (q4, .inr (2, [.ref q5, .ref q6, .ref q7, .int s_hall_rows, .int s_hall_late])), (q5, .inl (cI, 8, .inl s_hall_kinds)), (q6, .inl (cI, 8, .inl s_hall_palms)), (q7, .inl (cI, 8, .inl s_hall_strengths))] → va_S A s.heap H locs → lv_has ls 4 [(0, .ref q0), (1, .ref q4), (2, .int u2.1)] → W p l e rX0_goOn s m args below meth c H locs 0 0 Q (F0 m 28 ls [])) → W p l e rX0_goOn s m args below meth c H locs 0 0 Q (F0 m 2 ls [])) ?_ _ _ _ hu2 _ _ _ hP hD hS (lv_sub hl [1, 2, 0] rfl) ?_
  · intro rc1 ih1 z1 u2 h H locs ls hP hD hS hl kx1
    unfold fX0_goOn_L1 at h
    refine lv_iload_n hx hb dX0_goOn_2 rfl (lv_at hl 2 rfl) ?_
    refine lv_aload_n hx hb dX0_goOn_3 rfl (lv_at hl 1 rfl) ?_
    refine va_getN (D := D) (ci := 2) (v := .int s_hall_rows) (C := RX2) (T := TX2) (N := 5) hx hb hts iX0_goOn_X2 hown hK hP 4 rfl rfl 3 (by decide) (hN.f RX0 34 "ClappedWrong$Hall" "rows" "I" "ClappedWrong" (by decide +kernel)) (fun _ h9 => h9) rfl dX0_goOn_4 ?_
    refine lv_icmp_ge (tgt := 28) hx hb dX0_goOn_7 (by decide) (fun c0 => ?_) (fun c0 => ?_)
    · have h := (if_pos c0).symm.trans h
      have h := Option.some.inj h
      subst h
      exact kx1 _ _ _ hP hD hS (lv_sub hl [0, 1, 2] rfl)
    · have h := (if_neg c0).symm.trans h
      refine lv_aload_n hx hb dX0_goOn_10 rfl (lv_at hl 0 rfl) ?_
      refine va_get (D := D) (ci := 0) (v := .ref q3) (C := RX0) (T := TX0) (N := 4) hx hb hts iX0_goOn_X0 hown hK hP 0 rfl rfl 2 (by decide) (hts (.fieldLink RX0 18 "ClappedWrong$Crowd" "next" "[I") (by decide +kernel)) (fun _ h9 => h9) rfl dX0_goOn_11 ?_
      refine lv_iload_n hx hb dX0_goOn_14 rfl (lv_at hl 2 rfl) ?_
      refine lv_aload_n hx hb dX0_goOn_15 rfl (lv_at hl 0 rfl) ?_
      refine lv_aload_n hx hb dX0_goOn_16 rfl (lv_at hl 1 rfl) ?_
      refine lv_iload_n hx hb dX0_goOn_17 rfl (lv_at hl 2 rfl) ?_
      obtain ⟨u3, hu3, h⟩ := k_bs h
      refine k_ci (r := u3) (wc := [(q0, .inr (0, [.ref q1, .ref q2, .ref q3, .int s_armRows])), (q1, .inl (cI, 8, .inl s_sounds)), (q2, .inl (cI, 8, .inl s_clapped)), (q3, .inl (cI, 8, .inl z1.2)), (q4, .inr (2, [.ref q5, .ref q6, .ref q7, .int s_hall_rows, .int s_hall_late])), (q5, .inl (cI, 8, .inl s_hall_kinds)), (q6, .inl (cI, 8, .inl s_hall_palms)), (q7, .inl (cI, 8, .inl s_hall_strengths))]) (wc' := [(q0, .inr (0, [.ref q1, .ref q2, .ref q3, .int s_armRows])), (q1, .inl (cI, 8, .inl s_sounds)), (q2, .inl (cI, 8, .inl s_clapped)), (q3, .inl (cI, 8, .inl z1.2)), (q4, .inr (2, [.ref q5, .ref q6, .ref q7, .int s_hall_rows, .int s_hall_late])), (q5, .inl (cI, 8, .inl s_hall_kinds)), (q6, .inl (cI, 8, .inl s_hall_palms)), (q7, .inl (cI, 8, .inl s_hall_strengths))]) (w2 := [(q0, .inr (0, [.ref q1, .ref q2, .ref q3, .int s_armRows])), (q1, .inl (cI, 8, .inl s_sounds)), (q2, .inl (cI, 8, .inl s_clapped)), (q3, .inl (cI, 8, .inl z1.2)), (q4, .inr (2, [.ref q5, .ref q6, .ref q7, .int s_hall_rows, .int s_hall_late])), (q5, .inl (cI, 8, .inl s_hall_kinds)), (q6, .inl (cI, 8, .inl s_hall_palms)), (q7, .inl (cI, 8, .inl s_hall_strengths))]) (va_runV (C := RX0) (As := [.ref q4, .int z1.1]) (rest := [.int z1.1, .ref q3]) ⟨hx, hb, hml, hown, hts⟩ (mX0_soundNext l D cI q0 q1 q2 q3 q4 q5 q6 q7 _ s_armRows s_sounds s_clapped z1.2 s_hall_rows s_hall_late s_hall_kinds s_hall_palms s_hall_strengths z1.1 u3 hu3) (cwV 2 hts gX0_goOn_X0_soundNext rfl rfl rfl (by decide +kernel) ⟨Nat.le_of_ble_eq_true rfl, Nat.le_of_ble_eq_true rfl⟩) (k_prev (q := (RX0, TX0, 4)) hN hK hP hD (isC := [0, 1, 2, 3, 4, 5, 6, 7]) rfl rfl 0 (ci := 0) rfl rfl) rfl rfl hl.1 rfl (lv_room (Nat.le_of_ble_eq_true rfl)) dX0_goOn_18 ⟨Nat.le_of_ble_eq_true rfl, Nat.le_of_ble_eq_true rfl⟩) hP hD hS hA [0, 1, 2, 3, 4, 5, 6, 7] rfl rfl rfl rfl rfl (fun H locs hP hD hS => ?_)
      refine k_iast hx hb hK hP hD hS 3 rfl dX0_goOn_21 h (fun g4 => [(q0, .inr (0, [.ref q1, .ref q2, .ref q3, .int s_armRows])), (q1, .inl (cI, 8, .inl s_sounds)), (q2, .inl (cI, 8, .inl s_clapped)), (q3, .inl (cI, 8, .inl g4)), (q4, .inr (2, [.ref q5, .ref q6, .ref q7, .int s_hall_rows, .int s_hall_late])), (q5, .inl (cI, 8, .inl s_hall_kinds)), (q6, .inl (cI, 8, .inl s_hall_palms)), (q7, .inl (cI, 8, .inl s_hall_strengths))]) (fun _ => rfl) (fun g4 H locs h hP hD hS => ?_)
      refine lv_iinc (v := (z1.1 + 1)) (lv' := [(2, .int (z1.1 + 1)), (0, .ref q0), (1, .ref q4)]) hx hb dX0_goOn_22 hl (k := 2) rfl rfl (by decide) rfl (fun ls hl => ?_)
      refine lv_goto (tgt := 2) hx hb dX0_goOn_25 (by decide) ?_
      exact ih1 _ _ h _ _ _ hP hD hS (lv_sub hl [1, 2, 0] rfl) kx1
  · intro H locs ls hP hD hS hl
    refine lv_iconst (v := 0) hx hb dX0_goOn_28 (by decide) ?_
    refine lv_istore_n (lv' := [(2, .int 0), (0, .ref q0), (1, .ref q4)]) hx hb dX0_goOn_29 rfl hl (by decide) rfl (fun ls hl => ?_)
    refine lv_iconst (v := 0) hx hb dX0_goOn_30 (by decide) ?_
    refine lv_istore_n (lv' := [(3, .int 0), (2, .int 0), (0, .ref q0), (1, .ref q4)]) hx hb dX0_goOn_31 rfl hl (by decide) rfl (fun ls hl => ?_)
    obtain ⟨u6, hu6, h⟩ := k_bs h
    refine kIter_ind (fun (z5 : (Int32 × Int32 × (Nat → Int32) × (Nat → Int32))) (u6 : (Int32 × Int32 × (Nat → Int32) × (Nat → Int32))) => ∀ (H : Heap) (locs : List Loc) (ls : Array Slot), va_P D vwCl [(q0, .inr (0, [.ref q1, .ref q2, .ref q3, .int s_armRows])), (q1, .inl (cI, 8, .inl z5.2.2.1)), (q2, .inl (cI, 8, .inl z5.2.2.2)), (q3, .inl (cI, 8, .inl u2.2)), (q4, .inr (2, [.ref q5, .ref q6, .ref q7, .int s_hall_rows, .int s_hall_late])), (q5, .inl (cI, 8, .inl s_hall_kinds)), (q6, .inl (cI, 8, .inl s_hall_palms)), (q7, .inl (cI, 8, .inl s_hall_strengths))] H → va_D A [(q0, .inr (0, [.ref q1, .ref q2, .ref q3, .int s_armRows])), (q1, .inl (cI, 8, .inl z5.2.2.1)), (q2, .inl (cI, 8, .inl z5.2.2.2)), (q3, .inl (cI, 8, .inl u2.2)), (q4, .inr (2, [.ref q5, .ref q6, .ref q7, .int s_hall_rows, .int s_hall_late])), (q5, .inl (cI, 8, .inl s_hall_kinds)), (q6, .inl (cI, 8, .inl s_hall_palms)), (q7, .inl (cI, 8, .inl s_hall_strengths))] → va_S A s.heap H locs → lv_has ls 4 [(0, .ref q0), (1, .ref q4), (2, .int z5.1), (3, .int z5.2.1)] → (∀ (H : Heap) (locs : List Loc) (ls : Array Slot), va_P D vwCl [(q0, .inr (0, [.ref q1, .ref q2, .ref q3, .int s_armRows])), (q1, .inl (cI, 8, .inl u6.2.2.1)), (q2, .inl (cI, 8, .inl u6.2.2.2)), (q3, .inl (cI, 8, .inl u2.2)), (q4, .inr (2, [.ref q5, .ref q6, .ref q7, .int s_hall_rows, .int s_hall_late])), (q5, .inl (cI, 8, .inl s_hall_kinds)), (q6, .inl (cI, 8, .inl s_hall_palms)), (q7, .inl (cI, 8, .inl s_hall_strengths))] H → va_D A [(q0, .inr (0, [.ref q1, .ref q2, .ref q3, .int s_armRows])), (q1, .inl (cI, 8, .inl u6.2.2.1)), (q2, .inl (cI, 8, .inl u6.2.2.2)), (q3, .inl (cI, 8, .inl u2.2)), (q4, .inr (2, [.ref q5, .ref q6, .ref q7, .int s_hall_rows, .int s_hall_late])), (q5, .inl (cI, 8, .inl s_hall_kinds)), (q6, .inl (cI, 8, .inl s_hall_palms)), (q7, .inl (cI, 8, .inl s_hall_strengths))] → va_S A s.heap H locs → lv_has ls 4 [(0, .ref q0), (1, .ref q4), (2, .int u6.1), (3, .int u6.2.1)] → W p l e rX0_goOn s m args below meth c H locs 0 0 Q (F0 m 108 ls [])) → W p l e rX0_goOn s m args below meth c H locs 0 0 Q (F0 m 32 ls [])) ?_ _ _ _ hu6 _ _ _ hP hD hS (lv_sub hl [2, 3, 1, 0] rfl) ?_
    · intro rc5 ih5 z5 u6 h H locs ls hP hD hS hl kx5
      unfold fX0_goOn_L2 at h
      refine lv_iload_n hx hb dX0_goOn_32 rfl (lv_at hl 3 rfl) ?_
      refine lv_aload_n hx hb dX0_goOn_33 rfl (lv_at hl 1 rfl) ?_
      refine va_getN (D := D) (ci := 2) (v := .int s_hall_rows) (C := RX2) (T := TX2) (N := 5) hx hb hts iX0_goOn_X2 hown hK hP 4 rfl rfl 3 (by decide) (hN.f RX0 34 "ClappedWrong$Hall" "rows" "I" "ClappedWrong" (by decide +kernel)) (fun _ h9 => h9) rfl dX0_goOn_34 ?_
      refine lv_icmp_ge (tgt := 108) hx hb dX0_goOn_37 (by decide) (fun c0 => ?_) (fun c0 => ?_)
      · have h := (if_pos c0).symm.trans h
        have h := Option.some.inj h
        subst h
        exact kx5 _ _ _ hP hD hS (lv_sub hl [0, 1, 2, 3] rfl)
      · have h := (if_neg c0).symm.trans h
        refine lv_iload_n hx hb dX0_goOn_40 rfl (lv_at hl 2 rfl) ?_
        obtain ⟨u7, hu7, h⟩ := k_bs h
        have J7 : ∀ (H : Heap) (locs : List Loc) (ls : Array Slot), va_P D vwCl [(q0, .inr (0, [.ref q1, .ref q2, .ref q3, .int s_armRows])), (q1, .inl (cI, 8, .inl z5.2.2.1)), (q2, .inl (cI, 8, .inl z5.2.2.2)), (q3, .inl (cI, 8, .inl u2.2)), (q4, .inr (2, [.ref q5, .ref q6, .ref q7, .int s_hall_rows, .int s_hall_late])), (q5, .inl (cI, 8, .inl s_hall_kinds)), (q6, .inl (cI, 8, .inl s_hall_palms)), (q7, .inl (cI, 8, .inl s_hall_strengths))] H → va_D A [(q0, .inr (0, [.ref q1, .ref q2, .ref q3, .int s_armRows])), (q1, .inl (cI, 8, .inl z5.2.2.1)), (q2, .inl (cI, 8, .inl z5.2.2.2)), (q3, .inl (cI, 8, .inl u2.2)), (q4, .inr (2, [.ref q5, .ref q6, .ref q7, .int s_hall_rows, .int s_hall_late])), (q5, .inl (cI, 8, .inl s_hall_kinds)), (q6, .inl (cI, 8, .inl s_hall_palms)), (q7, .inl (cI, 8, .inl s_hall_strengths))] → va_S A s.heap H locs → lv_has ls 4 [(0, .ref q0), (1, .ref q4), (2, .int z5.1), (3, .int z5.2.1)] → W p l e rX0_goOn s m args below meth c H locs 0 0 Q (F0 m 64 ls [.int u7]) := by
          intro H locs ls hP hD hS hl
          refine lv_istore_n (lv' := [(2, .int u7), (0, .ref q0), (1, .ref q4), (3, .int z5.2.1)]) hx hb dX0_goOn_64 rfl hl (by decide) rfl (fun ls hl => ?_)
          refine lv_aload_n hx hb dX0_goOn_65 rfl (lv_at hl 1 rfl) ?_
          refine lv_iload_n hx hb dX0_goOn_66 rfl (lv_at hl 3 rfl) ?_
          refine lv_aload_n hx hb dX0_goOn_67 rfl (lv_at hl 1 rfl) ?_
          refine va_get (D := D) (ci := 0) (v := .ref q3) (C := RX0) (T := TX0) (N := 4) hx hb hts iX0_goOn_X0 hown hK hP 0 rfl rfl 2 (by decide) (hts (.fieldLink RX0 18 "ClappedWrong$Crowd" "next" "[I") (by decide +kernel)) (fun _ h9 => h9) rfl dX0_goOn_68 ?_
          refine lv_iload_n hx hb dX0_goOn_71 rfl (lv_at hl 3 rfl) ?_
          refine k_iald hx hb hK hP 3 rfl dX0_goOn_72 h (fun v10 h => ?_)
          obtain ⟨u11, hu11, h⟩ := k_bs h
          refine k_cv (wc := [(q0, .inr (0, [.ref q1, .ref q2, .ref q3, .int s_armRows])), (q1, .inl (cI, 8, .inl z5.2.2.1)), (q2, .inl (cI, 8, .inl z5.2.2.2)), (q3, .inl (cI, 8, .inl u2.2))]) (wc' := [(q0, .inr (0, [.ref q1, .ref q2, .ref q3, .int s_armRows])), (q1, .inl (cI, 8, .inl u11.1)), (q2, .inl (cI, 8, .inl u11.2)), (q3, .inl (cI, 8, .inl u2.2))]) (w2 := [(q0, .inr (0, [.ref q1, .ref q2, .ref q3, .int s_armRows])), (q1, .inl (cI, 8, .inl u11.1)), (q2, .inl (cI, 8, .inl u11.2)), (q3, .inl (cI, 8, .inl u2.2)), (q4, .inr (2, [.ref q5, .ref q6, .ref q7, .int s_hall_rows, .int s_hall_late])), (q5, .inl (cI, 8, .inl s_hall_kinds)), (q6, .inl (cI, 8, .inl s_hall_palms)), (q7, .inl (cI, 8, .inl s_hall_strengths))]) (va_runV (C := RX0) (As := [.int z5.2.1, .int v10]) (rest := []) ⟨hx, hb, hml, hown, hts⟩ (mX0_let l D cI q0 q1 q2 q3 _ s_armRows z5.2.2.1 z5.2.2.2 u2.2 z5.2.1 v10 u11 hu11) (cwV 2 hts gX0_goOn_X0_let rfl rfl rfl (by decide +kernel) ⟨Nat.le_of_ble_eq_true rfl, Nat.le_of_ble_eq_true rfl⟩) (k_prev (q := (RX0, TX0, 4)) hN hK hP hD (isC := [0, 1, 2, 3]) rfl rfl 0 (ci := 0) rfl rfl) rfl rfl hl.1 rfl (lv_room (Nat.le_of_ble_eq_true rfl)) dX0_goOn_73 ⟨Nat.le_of_ble_eq_true rfl, Nat.le_of_ble_eq_true rfl⟩) hP hD hS hA [0, 1, 2, 3] rfl rfl rfl rfl rfl (fun H locs hP hD hS => ?_)
          refine lv_aload_n hx hb dX0_goOn_76 rfl (lv_at hl 1 rfl) ?_
          refine va_get (D := D) (ci := 0) (v := .ref q2) (C := RX0) (T := TX0) (N := 4) hx hb hts iX0_goOn_X0 hown hK hP 0 rfl rfl 1 (by decide) (hts (.fieldLink RX0 15 "ClappedWrong$Crowd" "clapped" "[I") (by decide +kernel)) (fun _ h9 => h9) rfl dX0_goOn_77 ?_
          refine lv_iload_n hx hb dX0_goOn_80 rfl (lv_at hl 3 rfl) ?_
          refine lv_dup2_11 hx hb dX0_goOn_81 rfl rfl ?_
          refine k_iald hx hb hK hP 2 rfl dX0_goOn_82 h (fun v12 h => ?_)
          refine lv_aload_n hx hb dX0_goOn_83 rfl (lv_at hl 1 rfl) ?_
          refine va_get (D := D) (ci := 0) (v := .ref q3) (C := RX0) (T := TX0) (N := 4) hx hb hts iX0_goOn_X0 hown hK hP 0 rfl rfl 2 (by decide) (hts (.fieldLink RX0 18 "ClappedWrong$Crowd" "next" "[I") (by decide +kernel)) (fun _ h9 => h9) rfl dX0_goOn_84 ?_
          refine lv_iload_n hx hb dX0_goOn_87 rfl (lv_at hl 3 rfl) ?_
          refine k_iald hx hb hK hP 3 rfl dX0_goOn_88 h (fun v13 h => ?_)
          refine lv_if_eq (tgt := 96) hx hb dX0_goOn_89 (by decide) (fun c0 => ?_) (fun c0 => ?_)
          · have h := (if_pos c0).symm.trans h
            refine lv_iconst (v := 0) hx hb dX0_goOn_96 (by decide) ?_
            obtain ⟨u14, hu14, h⟩ := k_bs h
            refine k_ci (r := u14) (wc := []) (wc' := []) (w2 := [(q0, .inr (0, [.ref q1, .ref q2, .ref q3, .int s_armRows])), (q1, .inl (cI, 8, .inl u11.1)), (q2, .inl (cI, 8, .inl u11.2)), (q3, .inl (cI, 8, .inl u2.2)), (q4, .inr (2, [.ref q5, .ref q6, .ref q7, .int s_hall_rows, .int s_hall_late])), (q5, .inl (cI, 8, .inl s_hall_kinds)), (q6, .inl (cI, 8, .inl s_hall_palms)), (q7, .inl (cI, 8, .inl s_hall_strengths))]) (va_runSN (host := "ClappedWrong") (As := [.int 0]) (rest := [.int v12, .int z5.2.1, .ref q2]) ⟨hx, hb, hml, hown, hts⟩ (mX5_oneIf l D cI _ 0 u14 hu14) ⟨va_cnB 1 hts gX0_goOn_X5_oneIf_n45 rfl rfl rfl (hN.m RX0 45 yX5_oneIf "ClappedWrong" (by decide +kernel)) (hts (.initialized RX5) (by decide +kernel)) (by decide +kernel) ⟨Nat.le_of_ble_eq_true rfl, Nat.le_of_ble_eq_true rfl⟩, hts (.static yX5_oneIf) (by decide +kernel), trivial⟩ (k_pres hN hK hP hD (isC := []) rfl rfl) rfl rfl hl.1 rfl (lv_room (Nat.le_of_ble_eq_true rfl)) dX0_goOn_97 ⟨Nat.le_of_ble_eq_true rfl, Nat.le_of_ble_eq_true rfl⟩) hP hD hS hA [] rfl rfl rfl rfl rfl (fun H locs hP hD hS => ?_)
            refine lv_iadd hx hb dX0_goOn_100 ?_
            refine k_iast hx hb hK hP hD hS 2 rfl dX0_goOn_101 h (fun g15 => [(q0, .inr (0, [.ref q1, .ref q2, .ref q3, .int s_armRows])), (q1, .inl (cI, 8, .inl u11.1)), (q2, .inl (cI, 8, .inl g15)), (q3, .inl (cI, 8, .inl u2.2)), (q4, .inr (2, [.ref q5, .ref q6, .ref q7, .int s_hall_rows, .int s_hall_late])), (q5, .inl (cI, 8, .inl s_hall_kinds)), (q6, .inl (cI, 8, .inl s_hall_palms)), (q7, .inl (cI, 8, .inl s_hall_strengths))]) (fun _ => rfl) (fun g15 H locs h hP hD hS => ?_)
            refine lv_iinc (v := (z5.2.1 + 1)) (lv' := [(3, .int (z5.2.1 + 1)), (2, .int u7), (0, .ref q0), (1, .ref q4)]) hx hb dX0_goOn_102 hl (k := 3) rfl rfl (by decide) rfl (fun ls hl => ?_)
            refine lv_goto (tgt := 32) hx hb dX0_goOn_105 (by decide) ?_
            exact ih5 _ _ h _ _ _ hP hD hS (lv_sub hl [2, 3, 1, 0] rfl) kx5
          · have h := (if_neg c0).symm.trans h
            refine lv_iconst (v := 1) hx hb dX0_goOn_92 (by decide) ?_
            refine lv_goto (tgt := 97) hx hb dX0_goOn_93 (by decide) ?_
            obtain ⟨u16, hu16, h⟩ := k_bs h
            refine k_ci (r := u16) (wc := []) (wc' := []) (w2 := [(q0, .inr (0, [.ref q1, .ref q2, .ref q3, .int s_armRows])), (q1, .inl (cI, 8, .inl u11.1)), (q2, .inl (cI, 8, .inl u11.2)), (q3, .inl (cI, 8, .inl u2.2)), (q4, .inr (2, [.ref q5, .ref q6, .ref q7, .int s_hall_rows, .int s_hall_late])), (q5, .inl (cI, 8, .inl s_hall_kinds)), (q6, .inl (cI, 8, .inl s_hall_palms)), (q7, .inl (cI, 8, .inl s_hall_strengths))]) (va_runSN (host := "ClappedWrong") (As := [.int 1]) (rest := [.int v12, .int z5.2.1, .ref q2]) ⟨hx, hb, hml, hown, hts⟩ (mX5_oneIf l D cI _ 1 u16 hu16) ⟨va_cnB 1 hts gX0_goOn_X5_oneIf_n45 rfl rfl rfl (hN.m RX0 45 yX5_oneIf "ClappedWrong" (by decide +kernel)) (hts (.initialized RX5) (by decide +kernel)) (by decide +kernel) ⟨Nat.le_of_ble_eq_true rfl, Nat.le_of_ble_eq_true rfl⟩, hts (.static yX5_oneIf) (by decide +kernel), trivial⟩ (k_pres hN hK hP hD (isC := []) rfl rfl) rfl rfl hl.1 rfl (lv_room (Nat.le_of_ble_eq_true rfl)) dX0_goOn_97 ⟨Nat.le_of_ble_eq_true rfl, Nat.le_of_ble_eq_true rfl⟩) hP hD hS hA [] rfl rfl rfl rfl rfl (fun H locs hP hD hS => ?_)
            refine lv_iadd hx hb dX0_goOn_100 ?_
            refine k_iast hx hb hK hP hD hS 2 rfl dX0_goOn_101 h (fun g17 => [(q0, .inr (0, [.ref q1, .ref q2, .ref q3, .int s_armRows])), (q1, .inl (cI, 8, .inl u11.1)), (q2, .inl (cI, 8, .inl g17)), (q3, .inl (cI, 8, .inl u2.2)), (q4, .inr (2, [.ref q5, .ref q6, .ref q7, .int s_hall_rows, .int s_hall_late])), (q5, .inl (cI, 8, .inl s_hall_kinds)), (q6, .inl (cI, 8, .inl s_hall_palms)), (q7, .inl (cI, 8, .inl s_hall_strengths))]) (fun _ => rfl) (fun g17 H locs h hP hD hS => ?_)
            refine lv_iinc (v := (z5.2.1 + 1)) (lv' := [(3, .int (z5.2.1 + 1)), (2, .int u7), (0, .ref q0), (1, .ref q4)]) hx hb dX0_goOn_102 hl (k := 3) rfl rfl (by decide) rfl (fun ls hl => ?_)
            refine lv_goto (tgt := 32) hx hb dX0_goOn_105 (by decide) ?_
            exact ih5 _ _ h _ _ _ hP hD hS (lv_sub hl [2, 3, 1, 0] rfl) kx5
        clear h
        have h := hu7
        refine lv_if_ne (tgt := 59) hx hb dX0_goOn_41 (by decide) (fun c0 => ?_) (fun c0 => ?_)
        · have h := (if_neg c0).symm.trans h
          refine lv_iconst (v := 1) hx hb dX0_goOn_59 (by decide) ?_
          refine lv_goto (tgt := 64) hx hb dX0_goOn_60 (by decide) ?_
          have h := Option.some.inj h
          subst h
          exact J7 _ _ _ hP hD hS (lv_sub hl [0, 1, 2, 3] rfl)
        · have h := (if_pos c0).symm.trans h
          refine lv_aload_n hx hb dX0_goOn_44 rfl (lv_at hl 0 rfl) ?_
          refine va_get (D := D) (ci := 0) (v := .ref q3) (C := RX0) (T := TX0) (N := 4) hx hb hts iX0_goOn_X0 hown hK hP 0 rfl rfl 2 (by decide) (hts (.fieldLink RX0 18 "ClappedWrong$Crowd" "next" "[I") (by decide +kernel)) (fun _ h9 => h9) rfl dX0_goOn_45 ?_
          refine lv_iload_n hx hb dX0_goOn_48 rfl (lv_at hl 3 rfl) ?_
          refine k_iald hx hb hK hP 3 rfl dX0_goOn_49 h (fun v8 h => ?_)
          refine lv_aload_n hx hb dX0_goOn_50 rfl (lv_at hl 0 rfl) ?_
          refine va_get (D := D) (ci := 0) (v := .ref q1) (C := RX0) (T := TX0) (N := 4) hx hb hts iX0_goOn_X0 hown hK hP 0 rfl rfl 0 (by decide) (hts (.fieldLink RX0 9 "ClappedWrong$Crowd" "sounds" "[I") (by decide +kernel)) (fun _ h9 => h9) rfl dX0_goOn_51 ?_
          refine lv_iload_n hx hb dX0_goOn_54 rfl (lv_at hl 3 rfl) ?_
          refine k_iald hx hb hK hP 1 rfl dX0_goOn_55 h (fun v9 h => ?_)
          refine lv_icmp_eq (tgt := 63) hx hb dX0_goOn_56 (by decide) (fun c0 => ?_) (fun c0 => ?_)
          · have h := (if_pos c0).symm.trans h
            refine lv_iconst (v := 0) hx hb dX0_goOn_63 (by decide) ?_
            have h := Option.some.inj h
            subst h
            exact J7 _ _ _ hP hD hS (lv_sub hl [0, 1, 2, 3] rfl)
          · have h := (if_neg c0).symm.trans h
            refine lv_iconst (v := 1) hx hb dX0_goOn_59 (by decide) ?_
            refine lv_goto (tgt := 64) hx hb dX0_goOn_60 (by decide) ?_
            have h := Option.some.inj h
            subst h
            exact J7 _ _ _ hP hD hS (lv_sub hl [0, 1, 2, 3] rfl)
    · intro H locs ls hP hD hS hl
      refine lv_iload_n hx hb dX0_goOn_108 rfl (lv_at hl 2 rfl) ?_
      obtain ⟨hz, h⟩ := kz_bind h
      have h := Option.some.inj h
      subst h
      exact hRet _ _ _ _ hz hP hD hS dX0_goOn_109
end
