-- ===== PART A: goes FIRST, ahead of the names: the tables' words, and 'selects' of the private methods out of them =====
/-- a private method of a class that the tables say can be made, by its rows of tables_1 -/
def lw_okq (q : MethodName × Nat) : Prop := (q.1.cls ≠ "java/lang/invoke/MethodHandle" ∧ q.1.cls ≠ "java/lang/invoke/VarHandle") ∧ Cond.instantiable q.1.cls q.2 ∈ tables_1 ∧ Cond.privateMethod q.1 ∈ tables_1 ∧ Cond.instanceMethod q.1 ∈ tables_1
theorem lw_p0 : lw_okq (⟨"HatchLights", "startAsTold", "()V"⟩, 15) := ⟨⟨by decide +kernel, by decide +kernel⟩, List.mem_of_getElem? (i := 22) (by decide +kernel), List.mem_of_getElem? (i := 396) (by decide +kernel), List.mem_of_getElem? (i := 397) (by decide +kernel)⟩
theorem lw_p1 : lw_okq (⟨"HatchLights$Scene", "join", "(II)V"⟩, 13) := ⟨⟨by decide +kernel, by decide +kernel⟩, List.mem_of_getElem? (i := 231) (by decide +kernel), List.mem_of_getElem? (i := 407) (by decide +kernel), List.mem_of_getElem? (i := 408) (by decide +kernel)⟩
theorem lw_p2 : lw_okq (⟨"HatchLights$Tokens", "skipBlanks", "(LHatchLights$Tape;I)I"⟩, 4) := ⟨⟨by decide +kernel, by decide +kernel⟩, List.mem_of_getElem? (i := 165) (by decide +kernel), List.mem_of_getElem? (i := 497) (by decide +kernel), List.mem_of_getElem? (i := 498) (by decide +kernel)⟩
theorem lw_p3 : lw_okq (⟨"HatchLights$Tokens", "cutOne", "(LHatchLights$Tape;I)I"⟩, 4) := ⟨⟨by decide +kernel, by decide +kernel⟩, List.mem_of_getElem? (i := 165) (by decide +kernel), List.mem_of_getElem? (i := 501) (by decide +kernel), List.mem_of_getElem? (i := 502) (by decide +kernel)⟩
theorem lw_p4 : lw_okq (⟨"HatchLights$Tokens", "cutWord", "(LHatchLights$Tape;I)I"⟩, 4) := ⟨⟨by decide +kernel, by decide +kernel⟩, List.mem_of_getElem? (i := 165) (by decide +kernel), List.mem_of_getElem? (i := 508) (by decide +kernel), List.mem_of_getElem? (i := 509) (by decide +kernel)⟩
theorem lw_p5 : lw_okq (⟨"HatchLights$Tokens", "kindOfWord", "(LHatchLights$Tape;II)I"⟩, 4) := ⟨⟨by decide +kernel, by decide +kernel⟩, List.mem_of_getElem? (i := 165) (by decide +kernel), List.mem_of_getElem? (i := 513) (by decide +kernel), List.mem_of_getElem? (i := 514) (by decide +kernel)⟩
theorem lw_p6 : lw_okq (⟨"HatchLights$Tokens", "cutNumber", "(LHatchLights$Tape;I)I"⟩, 4) := ⟨⟨by decide +kernel, by decide +kernel⟩, List.mem_of_getElem? (i := 165) (by decide +kernel), List.mem_of_getElem? (i := 561) (by decide +kernel), List.mem_of_getElem? (i := 562) (by decide +kernel)⟩
theorem lw_p7 : lw_okq (⟨"HatchLights$Tokens", "cutEnd", "()I"⟩, 4) := ⟨⟨by decide +kernel, by decide +kernel⟩, List.mem_of_getElem? (i := 165) (by decide +kernel), List.mem_of_getElem? (i := 632) (by decide +kernel), List.mem_of_getElem? (i := 633) (by decide +kernel)⟩
theorem lw_p8 : lw_okq (⟨"HatchLights$Reader", "readLine", "()Z"⟩, 12) := ⟨⟨by decide +kernel, by decide +kernel⟩, List.mem_of_getElem? (i := 47) (by decide +kernel), List.mem_of_getElem? (i := 636) (by decide +kernel), List.mem_of_getElem? (i := 637) (by decide +kernel)⟩
theorem lw_p9 : lw_okq (⟨"HatchLights$Reader", "mayTell", "(I)Z"⟩, 12) := ⟨⟨by decide +kernel, by decide +kernel⟩, List.mem_of_getElem? (i := 47) (by decide +kernel), List.mem_of_getElem? (i := 640) (by decide +kernel), List.mem_of_getElem? (i := 641) (by decide +kernel)⟩
theorem lw_p10 : lw_okq (⟨"HatchLights$Reader", "refuse", "(I)Z"⟩, 12) := ⟨⟨by decide +kernel, by decide +kernel⟩, List.mem_of_getElem? (i := 47) (by decide +kernel), List.mem_of_getElem? (i := 644) (by decide +kernel), List.mem_of_getElem? (i := 645) (by decide +kernel)⟩
theorem lw_p11 : lw_okq (⟨"HatchLights$Reader", "goOn", "()V"⟩, 12) := ⟨⟨by decide +kernel, by decide +kernel⟩, List.mem_of_getElem? (i := 47) (by decide +kernel), List.mem_of_getElem? (i := 648) (by decide +kernel), List.mem_of_getElem? (i := 649) (by decide +kernel)⟩
theorem lw_p12 : lw_okq (⟨"HatchLights$Reader", "readNumber", "(II)Z"⟩, 12) := ⟨⟨by decide +kernel, by decide +kernel⟩, List.mem_of_getElem? (i := 47) (by decide +kernel), List.mem_of_getElem? (i := 652) (by decide +kernel), List.mem_of_getElem? (i := 653) (by decide +kernel)⟩
theorem lw_p13 : lw_okq (⟨"HatchLights$Reader", "readWord", "()Z"⟩, 12) := ⟨⟨by decide +kernel, by decide +kernel⟩, List.mem_of_getElem? (i := 47) (by decide +kernel), List.mem_of_getElem? (i := 656) (by decide +kernel), List.mem_of_getElem? (i := 657) (by decide +kernel)⟩
theorem lw_p14 : lw_okq (⟨"HatchLights$Reader", "readNewName", "([JI)Z"⟩, 12) := ⟨⟨by decide +kernel, by decide +kernel⟩, List.mem_of_getElem? (i := 47) (by decide +kernel), List.mem_of_getElem? (i := 660) (by decide +kernel), List.mem_of_getElem? (i := 661) (by decide +kernel)⟩
theorem lw_p15 : lw_okq (⟨"HatchLights$Reader", "readKind", "(I)Z"⟩, 12) := ⟨⟨by decide +kernel, by decide +kernel⟩, List.mem_of_getElem? (i := 47) (by decide +kernel), List.mem_of_getElem? (i := 667) (by decide +kernel), List.mem_of_getElem? (i := 668) (by decide +kernel)⟩
def lw_privs_1 : List (MethodName × Nat) := [(⟨"HatchLights", "startAsTold", "()V"⟩, 15), (⟨"HatchLights$Scene", "join", "(II)V"⟩, 13), (⟨"HatchLights$Tokens", "skipBlanks", "(LHatchLights$Tape;I)I"⟩, 4), (⟨"HatchLights$Tokens", "cutOne", "(LHatchLights$Tape;I)I"⟩, 4), (⟨"HatchLights$Tokens", "cutWord", "(LHatchLights$Tape;I)I"⟩, 4), (⟨"HatchLights$Tokens", "kindOfWord", "(LHatchLights$Tape;II)I"⟩, 4), (⟨"HatchLights$Tokens", "cutNumber", "(LHatchLights$Tape;I)I"⟩, 4), (⟨"HatchLights$Tokens", "cutEnd", "()I"⟩, 4), (⟨"HatchLights$Reader", "readLine", "()Z"⟩, 12), (⟨"HatchLights$Reader", "mayTell", "(I)Z"⟩, 12), (⟨"HatchLights$Reader", "refuse", "(I)Z"⟩, 12), (⟨"HatchLights$Reader", "goOn", "()V"⟩, 12), (⟨"HatchLights$Reader", "readNumber", "(II)Z"⟩, 12), (⟨"HatchLights$Reader", "readWord", "()Z"⟩, 12), (⟨"HatchLights$Reader", "readNewName", "([JI)Z"⟩, 12), (⟨"HatchLights$Reader", "readKind", "(I)Z"⟩, 12)]
theorem lw_r1 : ∀ q ∈ lw_privs_1, lw_okq q := List.forall_mem_cons.mpr ⟨lw_p0, List.forall_mem_cons.mpr ⟨lw_p1, List.forall_mem_cons.mpr ⟨lw_p2, List.forall_mem_cons.mpr ⟨lw_p3, List.forall_mem_cons.mpr ⟨lw_p4, List.forall_mem_cons.mpr ⟨lw_p5, List.forall_mem_cons.mpr ⟨lw_p6, List.forall_mem_cons.mpr ⟨lw_p7, List.forall_mem_cons.mpr ⟨lw_p8, List.forall_mem_cons.mpr ⟨lw_p9, List.forall_mem_cons.mpr ⟨lw_p10, List.forall_mem_cons.mpr ⟨lw_p11, List.forall_mem_cons.mpr ⟨lw_p12, List.forall_mem_cons.mpr ⟨lw_p13, List.forall_mem_cons.mpr ⟨lw_p14, List.forall_mem_cons.mpr ⟨lw_p15, fun _ h => absurd h List.not_mem_nil⟩⟩⟩⟩⟩⟩⟩⟩⟩⟩⟩⟩⟩⟩⟩⟩
theorem lw_p16 : lw_okq (⟨"HatchLights$Reader", "readComer", "()Z"⟩, 12) := ⟨⟨by decide +kernel, by decide +kernel⟩, List.mem_of_getElem? (i := 47) (by decide +kernel), List.mem_of_getElem? (i := 671) (by decide +kernel), List.mem_of_getElem? (i := 672) (by decide +kernel)⟩
theorem lw_p17 : lw_okq (⟨"HatchLights$Reader", "readSaid", "(I)Z"⟩, 12) := ⟨⟨by decide +kernel, by decide +kernel⟩, List.mem_of_getElem? (i := 47) (by decide +kernel), List.mem_of_getElem? (i := 675) (by decide +kernel), List.mem_of_getElem? (i := 676) (by decide +kernel)⟩
theorem lw_p18 : lw_okq (⟨"HatchLights$Reader", "readFormula", "(LHatchLights$Formula;)Z"⟩, 12) := ⟨⟨by decide +kernel, by decide +kernel⟩, List.mem_of_getElem? (i := 47) (by decide +kernel), List.mem_of_getElem? (i := 685) (by decide +kernel), List.mem_of_getElem? (i := 686) (by decide +kernel)⟩
theorem lw_p19 : lw_okq (⟨"HatchLights$Reader", "readLevel", "(II)Z"⟩, 12) := ⟨⟨by decide +kernel, by decide +kernel⟩, List.mem_of_getElem? (i := 47) (by decide +kernel), List.mem_of_getElem? (i := 690) (by decide +kernel), List.mem_of_getElem? (i := 691) (by decide +kernel)⟩
theorem lw_p20 : lw_okq (⟨"HatchLights$Reader", "readUnit", "(I)Z"⟩, 12) := ⟨⟨by decide +kernel, by decide +kernel⟩, List.mem_of_getElem? (i := 47) (by decide +kernel), List.mem_of_getElem? (i := 694) (by decide +kernel), List.mem_of_getElem? (i := 695) (by decide +kernel)⟩
theorem lw_p21 : lw_okq (⟨"HatchLights$Reader", "readNot", "(I)Z"⟩, 12) := ⟨⟨by decide +kernel, by decide +kernel⟩, List.mem_of_getElem? (i := 47) (by decide +kernel), List.mem_of_getElem? (i := 702) (by decide +kernel), List.mem_of_getElem? (i := 703) (by decide +kernel)⟩
theorem lw_p22 : lw_okq (⟨"HatchLights", "isWord", "(I)Z"⟩, 15) := ⟨⟨by decide +kernel, by decide +kernel⟩, List.mem_of_getElem? (i := 22) (by decide +kernel), List.mem_of_getElem? (i := 727) (by decide +kernel), List.mem_of_getElem? (i := 728) (by decide +kernel)⟩
theorem lw_p23 : lw_okq (⟨"HatchLights", "isComer", "(I)Z"⟩, 15) := ⟨⟨by decide +kernel, by decide +kernel⟩, List.mem_of_getElem? (i := 22) (by decide +kernel), List.mem_of_getElem? (i := 739) (by decide +kernel), List.mem_of_getElem? (i := 740) (by decide +kernel)⟩
theorem lw_p24 : lw_okq (⟨"HatchLights", "isWaiting", "(I)Z"⟩, 15) := ⟨⟨by decide +kernel, by decide +kernel⟩, List.mem_of_getElem? (i := 22) (by decide +kernel), List.mem_of_getElem? (i := 747) (by decide +kernel), List.mem_of_getElem? (i := 748) (by decide +kernel)⟩
theorem lw_p25 : lw_okq (⟨"HatchLights$Scene", "factsOf", "(II)LHatchLights$Facts;"⟩, 13) := ⟨⟨by decide +kernel, by decide +kernel⟩, List.mem_of_getElem? (i := 231) (by decide +kernel), List.mem_of_getElem? (i := 755) (by decide +kernel), List.mem_of_getElem? (i := 756) (by decide +kernel)⟩
theorem lw_p26 : lw_okq (⟨"HatchLights", "isRoad", "(I)Z"⟩, 15) := ⟨⟨by decide +kernel, by decide +kernel⟩, List.mem_of_getElem? (i := 22) (by decide +kernel), List.mem_of_getElem? (i := 790) (by decide +kernel), List.mem_of_getElem? (i := 791) (by decide +kernel)⟩
theorem lw_p27 : lw_okq (⟨"HatchLights", "openInEarnest", "(I)I"⟩, 15) := ⟨⟨by decide +kernel, by decide +kernel⟩, List.mem_of_getElem? (i := 22) (by decide +kernel), List.mem_of_getElem? (i := 827) (by decide +kernel), List.mem_of_getElem? (i := 828) (by decide +kernel)⟩
theorem lw_p28 : lw_okq (⟨"HatchLights$Scene", "firstOf", "(I)I"⟩, 13) := ⟨⟨by decide +kernel, by decide +kernel⟩, List.mem_of_getElem? (i := 231) (by decide +kernel), List.mem_of_getElem? (i := 839) (by decide +kernel), List.mem_of_getElem? (i := 840) (by decide +kernel)⟩
theorem lw_p29 : lw_okq (⟨"HatchLights$Scene", "listen", "(IZ)V"⟩, 13) := ⟨⟨by decide +kernel, by decide +kernel⟩, List.mem_of_getElem? (i := 231) (by decide +kernel), List.mem_of_getElem? (i := 843) (by decide +kernel), List.mem_of_getElem? (i := 844) (by decide +kernel)⟩
theorem lw_p30 : lw_okq (⟨"HatchLights$Scene", "leave", "(I)V"⟩, 13) := ⟨⟨by decide +kernel, by decide +kernel⟩, List.mem_of_getElem? (i := 231) (by decide +kernel), List.mem_of_getElem? (i := 847) (by decide +kernel), List.mem_of_getElem? (i := 848) (by decide +kernel)⟩
theorem lw_p31 : lw_okq (⟨"HatchLights$Acts", "current", "()LHatchLights$Scene;"⟩, 4) := ⟨⟨by decide +kernel, by decide +kernel⟩, List.mem_of_getElem? (i := 322) (by decide +kernel), List.mem_of_getElem? (i := 855) (by decide +kernel), List.mem_of_getElem? (i := 856) (by decide +kernel)⟩
def lw_privs_2 : List (MethodName × Nat) := [(⟨"HatchLights$Reader", "readComer", "()Z"⟩, 12), (⟨"HatchLights$Reader", "readSaid", "(I)Z"⟩, 12), (⟨"HatchLights$Reader", "readFormula", "(LHatchLights$Formula;)Z"⟩, 12), (⟨"HatchLights$Reader", "readLevel", "(II)Z"⟩, 12), (⟨"HatchLights$Reader", "readUnit", "(I)Z"⟩, 12), (⟨"HatchLights$Reader", "readNot", "(I)Z"⟩, 12), (⟨"HatchLights", "isWord", "(I)Z"⟩, 15), (⟨"HatchLights", "isComer", "(I)Z"⟩, 15), (⟨"HatchLights", "isWaiting", "(I)Z"⟩, 15), (⟨"HatchLights$Scene", "factsOf", "(II)LHatchLights$Facts;"⟩, 13), (⟨"HatchLights", "isRoad", "(I)Z"⟩, 15), (⟨"HatchLights", "openInEarnest", "(I)I"⟩, 15), (⟨"HatchLights$Scene", "firstOf", "(I)I"⟩, 13), (⟨"HatchLights$Scene", "listen", "(IZ)V"⟩, 13), (⟨"HatchLights$Scene", "leave", "(I)V"⟩, 13), (⟨"HatchLights$Acts", "current", "()LHatchLights$Scene;"⟩, 4)]
theorem lw_r2 : ∀ q ∈ lw_privs_2, lw_okq q := List.forall_mem_cons.mpr ⟨lw_p16, List.forall_mem_cons.mpr ⟨lw_p17, List.forall_mem_cons.mpr ⟨lw_p18, List.forall_mem_cons.mpr ⟨lw_p19, List.forall_mem_cons.mpr ⟨lw_p20, List.forall_mem_cons.mpr ⟨lw_p21, List.forall_mem_cons.mpr ⟨lw_p22, List.forall_mem_cons.mpr ⟨lw_p23, List.forall_mem_cons.mpr ⟨lw_p24, List.forall_mem_cons.mpr ⟨lw_p25, List.forall_mem_cons.mpr ⟨lw_p26, List.forall_mem_cons.mpr ⟨lw_p27, List.forall_mem_cons.mpr ⟨lw_p28, List.forall_mem_cons.mpr ⟨lw_p29, List.forall_mem_cons.mpr ⟨lw_p30, List.forall_mem_cons.mpr ⟨lw_p31, fun _ h => absurd h List.not_mem_nil⟩⟩⟩⟩⟩⟩⟩⟩⟩⟩⟩⟩⟩⟩⟩⟩
theorem lw_p32 : lw_okq (⟨"HatchLights", "isReason", "(I)Z"⟩, 15) := ⟨⟨by decide +kernel, by decide +kernel⟩, List.mem_of_getElem? (i := 22) (by decide +kernel), List.mem_of_getElem? (i := 867) (by decide +kernel), List.mem_of_getElem? (i := 868) (by decide +kernel)⟩
theorem lw_p33 : lw_okq (⟨"HatchLights", "hatchesTill", "(I)I"⟩, 15) := ⟨⟨by decide +kernel, by decide +kernel⟩, List.mem_of_getElem? (i := 22) (by decide +kernel), List.mem_of_getElem? (i := 930) (by decide +kernel), List.mem_of_getElem? (i := 931) (by decide +kernel)⟩
theorem lw_p34 : lw_okq (⟨"HatchLights", "lookAhead", "(I)V"⟩, 15) := ⟨⟨by decide +kernel, by decide +kernel⟩, List.mem_of_getElem? (i := 22) (by decide +kernel), List.mem_of_getElem? (i := 938) (by decide +kernel), List.mem_of_getElem? (i := 939) (by decide +kernel)⟩
theorem lw_p35 : lw_okq (⟨"HatchLights", "pressOfTrial", "(I)I"⟩, 15) := ⟨⟨by decide +kernel, by decide +kernel⟩, List.mem_of_getElem? (i := 22) (by decide +kernel), List.mem_of_getElem? (i := 962) (by decide +kernel), List.mem_of_getElem? (i := 963) (by decide +kernel)⟩
theorem lw_p36 : lw_okq (⟨"HatchLights", "allByWithin", "(II)Z"⟩, 15) := ⟨⟨by decide +kernel, by decide +kernel⟩, List.mem_of_getElem? (i := 22) (by decide +kernel), List.mem_of_getElem? (i := 994) (by decide +kernel), List.mem_of_getElem? (i := 995) (by decide +kernel)⟩
theorem lw_p37 : lw_okq (⟨"HatchLights", "tryRivals", "(IIII)V"⟩, 15) := ⟨⟨by decide +kernel, by decide +kernel⟩, List.mem_of_getElem? (i := 22) (by decide +kernel), List.mem_of_getElem? (i := 1002) (by decide +kernel), List.mem_of_getElem? (i := 1003) (by decide +kernel)⟩
theorem lw_p38 : lw_okq (⟨"HatchLights", "isRest", "(II)Z"⟩, 15) := ⟨⟨by decide +kernel, by decide +kernel⟩, List.mem_of_getElem? (i := 22) (by decide +kernel), List.mem_of_getElem? (i := 1006) (by decide +kernel), List.mem_of_getElem? (i := 1007) (by decide +kernel)⟩
theorem lw_p39 : lw_okq (⟨"HatchLights", "fewestWords", "(III)I"⟩, 15) := ⟨⟨by decide +kernel, by decide +kernel⟩, List.mem_of_getElem? (i := 22) (by decide +kernel), List.mem_of_getElem? (i := 1014) (by decide +kernel), List.mem_of_getElem? (i := 1015) (by decide +kernel)⟩
theorem lw_p40 : lw_okq (⟨"HatchLights", "mostWorth", "(III)I"⟩, 15) := ⟨⟨by decide +kernel, by decide +kernel⟩, List.mem_of_getElem? (i := 22) (by decide +kernel), List.mem_of_getElem? (i := 1030) (by decide +kernel), List.mem_of_getElem? (i := 1031) (by decide +kernel)⟩
theorem lw_p41 : lw_okq (⟨"HatchLights$Sightings", "makeBy", "()V"⟩, 13) := ⟨⟨by decide +kernel, by decide +kernel⟩, List.mem_of_getElem? (i := 345) (by decide +kernel), List.mem_of_getElem? (i := 1086) (by decide +kernel), List.mem_of_getElem? (i := 1087) (by decide +kernel)⟩
theorem lw_p42 : lw_okq (⟨"HatchLights$Sightings", "isFitting", "(II)Z"⟩, 13) := ⟨⟨by decide +kernel, by decide +kernel⟩, List.mem_of_getElem? (i := 345) (by decide +kernel), List.mem_of_getElem? (i := 1093) (by decide +kernel), List.mem_of_getElem? (i := 1094) (by decide +kernel)⟩
theorem lw_p43 : lw_okq (⟨"HatchLightsModel", "clearBank", "()V"⟩, 68) := ⟨⟨by decide +kernel, by decide +kernel⟩, List.mem_of_getElem? (i := 1111) (by decide +kernel), List.mem_of_getElem? (i := 1117) (by decide +kernel), List.mem_of_getElem? (i := 1118) (by decide +kernel)⟩
theorem lw_p44 : lw_okq (⟨"HatchLightsModel", "startAnew", "()V"⟩, 68) := ⟨⟨by decide +kernel, by decide +kernel⟩, List.mem_of_getElem? (i := 1111) (by decide +kernel), List.mem_of_getElem? (i := 1121) (by decide +kernel), List.mem_of_getElem? (i := 1122) (by decide +kernel)⟩
theorem lw_p45 : lw_okq (⟨"HatchLightsModel", "layTold", "()V"⟩, 68) := ⟨⟨by decide +kernel, by decide +kernel⟩, List.mem_of_getElem? (i := 1111) (by decide +kernel), List.mem_of_getElem? (i := 1125) (by decide +kernel), List.mem_of_getElem? (i := 1126) (by decide +kernel)⟩
theorem lw_p46 : lw_okq (⟨"HatchLightsModel", "kinds", "()I"⟩, 68) := ⟨⟨by decide +kernel, by decide +kernel⟩, List.mem_of_getElem? (i := 1111) (by decide +kernel), List.mem_of_getElem? (i := 1129) (by decide +kernel), List.mem_of_getElem? (i := 1130) (by decide +kernel)⟩
theorem lw_p47 : lw_okq (⟨"HatchLightsModel", "many", "()I"⟩, 68) := ⟨⟨by decide +kernel, by decide +kernel⟩, List.mem_of_getElem? (i := 1111) (by decide +kernel), List.mem_of_getElem? (i := 1133) (by decide +kernel), List.mem_of_getElem? (i := 1134) (by decide +kernel)⟩
def lw_privs_3 : List (MethodName × Nat) := [(⟨"HatchLights", "isReason", "(I)Z"⟩, 15), (⟨"HatchLights", "hatchesTill", "(I)I"⟩, 15), (⟨"HatchLights", "lookAhead", "(I)V"⟩, 15), (⟨"HatchLights", "pressOfTrial", "(I)I"⟩, 15), (⟨"HatchLights", "allByWithin", "(II)Z"⟩, 15), (⟨"HatchLights", "tryRivals", "(IIII)V"⟩, 15), (⟨"HatchLights", "isRest", "(II)Z"⟩, 15), (⟨"HatchLights", "fewestWords", "(III)I"⟩, 15), (⟨"HatchLights", "mostWorth", "(III)I"⟩, 15), (⟨"HatchLights$Sightings", "makeBy", "()V"⟩, 13), (⟨"HatchLights$Sightings", "isFitting", "(II)Z"⟩, 13), (⟨"HatchLightsModel", "clearBank", "()V"⟩, 68), (⟨"HatchLightsModel", "startAnew", "()V"⟩, 68), (⟨"HatchLightsModel", "layTold", "()V"⟩, 68), (⟨"HatchLightsModel", "kinds", "()I"⟩, 68), (⟨"HatchLightsModel", "many", "()I"⟩, 68)]
theorem lw_r3 : ∀ q ∈ lw_privs_3, lw_okq q := List.forall_mem_cons.mpr ⟨lw_p32, List.forall_mem_cons.mpr ⟨lw_p33, List.forall_mem_cons.mpr ⟨lw_p34, List.forall_mem_cons.mpr ⟨lw_p35, List.forall_mem_cons.mpr ⟨lw_p36, List.forall_mem_cons.mpr ⟨lw_p37, List.forall_mem_cons.mpr ⟨lw_p38, List.forall_mem_cons.mpr ⟨lw_p39, List.forall_mem_cons.mpr ⟨lw_p40, List.forall_mem_cons.mpr ⟨lw_p41, List.forall_mem_cons.mpr ⟨lw_p42, List.forall_mem_cons.mpr ⟨lw_p43, List.forall_mem_cons.mpr ⟨lw_p44, List.forall_mem_cons.mpr ⟨lw_p45, List.forall_mem_cons.mpr ⟨lw_p46, List.forall_mem_cons.mpr ⟨lw_p47, fun _ h => absurd h List.not_mem_nil⟩⟩⟩⟩⟩⟩⟩⟩⟩⟩⟩⟩⟩⟩⟩⟩
theorem lw_p48 : lw_okq (⟨"HatchLightsModel", "goOn", "()V"⟩, 68) := ⟨⟨by decide +kernel, by decide +kernel⟩, List.mem_of_getElem? (i := 1111) (by decide +kernel), List.mem_of_getElem? (i := 1346) (by decide +kernel), List.mem_of_getElem? (i := 1347) (by decide +kernel)⟩
theorem lw_p49 : lw_okq (⟨"HatchLightsModel", "sign", "(I)I"⟩, 68) := ⟨⟨by decide +kernel, by decide +kernel⟩, List.mem_of_getElem? (i := 1111) (by decide +kernel), List.mem_of_getElem? (i := 1350) (by decide +kernel), List.mem_of_getElem? (i := 1351) (by decide +kernel)⟩
theorem lw_p50 : lw_okq (⟨"HatchLightsModel", "isGood", "()Z"⟩, 68) := ⟨⟨by decide +kernel, by decide +kernel⟩, List.mem_of_getElem? (i := 1111) (by decide +kernel), List.mem_of_getElem? (i := 1386) (by decide +kernel), List.mem_of_getElem? (i := 1387) (by decide +kernel)⟩
theorem lw_p51 : lw_okq (⟨"HatchLightsModel", "readLine", "()V"⟩, 68) := ⟨⟨by decide +kernel, by decide +kernel⟩, List.mem_of_getElem? (i := 1111) (by decide +kernel), List.mem_of_getElem? (i := 1390) (by decide +kernel), List.mem_of_getElem? (i := 1391) (by decide +kernel)⟩
theorem lw_p52 : lw_okq (⟨"HatchLightsModel", "isFull", "()Z"⟩, 68) := ⟨⟨by decide +kernel, by decide +kernel⟩, List.mem_of_getElem? (i := 1111) (by decide +kernel), List.mem_of_getElem? (i := 1394) (by decide +kernel), List.mem_of_getElem? (i := 1395) (by decide +kernel)⟩
theorem lw_p53 : lw_okq (⟨"HatchLightsModel", "isWord", "(J)Z"⟩, 68) := ⟨⟨by decide +kernel, by decide +kernel⟩, List.mem_of_getElem? (i := 1111) (by decide +kernel), List.mem_of_getElem? (i := 1398) (by decide +kernel), List.mem_of_getElem? (i := 1399) (by decide +kernel)⟩
theorem lw_p54 : lw_okq (⟨"HatchLightsModel", "misplaced", "()V"⟩, 68) := ⟨⟨by decide +kernel, by decide +kernel⟩, List.mem_of_getElem? (i := 1111) (by decide +kernel), List.mem_of_getElem? (i := 1405) (by decide +kernel), List.mem_of_getElem? (i := 1406) (by decide +kernel)⟩
theorem lw_p55 : lw_okq (⟨"HatchLightsModel", "fails", "(II)V"⟩, 68) := ⟨⟨by decide +kernel, by decide +kernel⟩, List.mem_of_getElem? (i := 1111) (by decide +kernel), List.mem_of_getElem? (i := 1409) (by decide +kernel), List.mem_of_getElem? (i := 1410) (by decide +kernel)⟩
theorem lw_p56 : lw_okq (⟨"HatchLightsModel", "numeral", "(II)I"⟩, 68) := ⟨⟨by decide +kernel, by decide +kernel⟩, List.mem_of_getElem? (i := 1111) (by decide +kernel), List.mem_of_getElem? (i := 1413) (by decide +kernel), List.mem_of_getElem? (i := 1414) (by decide +kernel)⟩
theorem lw_p57 : lw_okq (⟨"HatchLightsModel", "readWord", "()V"⟩, 68) := ⟨⟨by decide +kernel, by decide +kernel⟩, List.mem_of_getElem? (i := 1111) (by decide +kernel), List.mem_of_getElem? (i := 1417) (by decide +kernel), List.mem_of_getElem? (i := 1418) (by decide +kernel)⟩
theorem lw_p58 : lw_okq (⟨"HatchLightsModel", "wordNamed", "()I"⟩, 68) := ⟨⟨by decide +kernel, by decide +kernel⟩, List.mem_of_getElem? (i := 1111) (by decide +kernel), List.mem_of_getElem? (i := 1421) (by decide +kernel), List.mem_of_getElem? (i := 1422) (by decide +kernel)⟩
theorem lw_p59 : lw_okq (⟨"HatchLightsModel", "here", "([JII)I"⟩, 68) := ⟨⟨by decide +kernel, by decide +kernel⟩, List.mem_of_getElem? (i := 1111) (by decide +kernel), List.mem_of_getElem? (i := 1425) (by decide +kernel), List.mem_of_getElem? (i := 1426) (by decide +kernel)⟩
theorem lw_p60 : lw_okq (⟨"HatchLightsModel", "fresh", "(I)J"⟩, 68) := ⟨⟨by decide +kernel, by decide +kernel⟩, List.mem_of_getElem? (i := 1111) (by decide +kernel), List.mem_of_getElem? (i := 1429) (by decide +kernel), List.mem_of_getElem? (i := 1430) (by decide +kernel)⟩
theorem lw_p61 : lw_okq (⟨"HatchLightsModel", "after", "(JII)I"⟩, 68) := ⟨⟨by decide +kernel, by decide +kernel⟩, List.mem_of_getElem? (i := 1111) (by decide +kernel), List.mem_of_getElem? (i := 1433) (by decide +kernel), List.mem_of_getElem? (i := 1434) (by decide +kernel)⟩
theorem lw_p62 : lw_okq (⟨"HatchLightsModel", "must", "(Z)V"⟩, 68) := ⟨⟨by decide +kernel, by decide +kernel⟩, List.mem_of_getElem? (i := 1111) (by decide +kernel), List.mem_of_getElem? (i := 1437) (by decide +kernel), List.mem_of_getElem? (i := 1438) (by decide +kernel)⟩
theorem lw_p63 : lw_okq (⟨"HatchLightsModel", "readComer", "()V"⟩, 68) := ⟨⟨by decide +kernel, by decide +kernel⟩, List.mem_of_getElem? (i := 1111) (by decide +kernel), List.mem_of_getElem? (i := 1441) (by decide +kernel), List.mem_of_getElem? (i := 1442) (by decide +kernel)⟩
def lw_privs_4 : List (MethodName × Nat) := [(⟨"HatchLightsModel", "goOn", "()V"⟩, 68), (⟨"HatchLightsModel", "sign", "(I)I"⟩, 68), (⟨"HatchLightsModel", "isGood", "()Z"⟩, 68), (⟨"HatchLightsModel", "readLine", "()V"⟩, 68), (⟨"HatchLightsModel", "isFull", "()Z"⟩, 68), (⟨"HatchLightsModel", "isWord", "(J)Z"⟩, 68), (⟨"HatchLightsModel", "misplaced", "()V"⟩, 68), (⟨"HatchLightsModel", "fails", "(II)V"⟩, 68), (⟨"HatchLightsModel", "numeral", "(II)I"⟩, 68), (⟨"HatchLightsModel", "readWord", "()V"⟩, 68), (⟨"HatchLightsModel", "wordNamed", "()I"⟩, 68), (⟨"HatchLightsModel", "here", "([JII)I"⟩, 68), (⟨"HatchLightsModel", "fresh", "(I)J"⟩, 68), (⟨"HatchLightsModel", "after", "(JII)I"⟩, 68), (⟨"HatchLightsModel", "must", "(Z)V"⟩, 68), (⟨"HatchLightsModel", "readComer", "()V"⟩, 68)]
theorem lw_r4 : ∀ q ∈ lw_privs_4, lw_okq q := List.forall_mem_cons.mpr ⟨lw_p48, List.forall_mem_cons.mpr ⟨lw_p49, List.forall_mem_cons.mpr ⟨lw_p50, List.forall_mem_cons.mpr ⟨lw_p51, List.forall_mem_cons.mpr ⟨lw_p52, List.forall_mem_cons.mpr ⟨lw_p53, List.forall_mem_cons.mpr ⟨lw_p54, List.forall_mem_cons.mpr ⟨lw_p55, List.forall_mem_cons.mpr ⟨lw_p56, List.forall_mem_cons.mpr ⟨lw_p57, List.forall_mem_cons.mpr ⟨lw_p58, List.forall_mem_cons.mpr ⟨lw_p59, List.forall_mem_cons.mpr ⟨lw_p60, List.forall_mem_cons.mpr ⟨lw_p61, List.forall_mem_cons.mpr ⟨lw_p62, List.forall_mem_cons.mpr ⟨lw_p63, fun _ h => absurd h List.not_mem_nil⟩⟩⟩⟩⟩⟩⟩⟩⟩⟩⟩⟩⟩⟩⟩⟩
theorem lw_p64 : lw_okq (⟨"HatchLightsModel", "once", "(II)I"⟩, 68) := ⟨⟨by decide +kernel, by decide +kernel⟩, List.mem_of_getElem? (i := 1111) (by decide +kernel), List.mem_of_getElem? (i := 1448) (by decide +kernel), List.mem_of_getElem? (i := 1449) (by decide +kernel)⟩
theorem lw_p65 : lw_okq (⟨"HatchLightsModel", "readRule", "(I)V"⟩, 68) := ⟨⟨by decide +kernel, by decide +kernel⟩, List.mem_of_getElem? (i := 1111) (by decide +kernel), List.mem_of_getElem? (i := 1452) (by decide +kernel), List.mem_of_getElem? (i := 1453) (by decide +kernel)⟩
theorem lw_p66 : lw_okq (⟨"HatchLightsModel", "e", "()V"⟩, 68) := ⟨⟨by decide +kernel, by decide +kernel⟩, List.mem_of_getElem? (i := 1111) (by decide +kernel), List.mem_of_getElem? (i := 1456) (by decide +kernel), List.mem_of_getElem? (i := 1457) (by decide +kernel)⟩
theorem lw_p67 : lw_okq (⟨"HatchLightsModel", "pushE", "(II)V"⟩, 68) := ⟨⟨by decide +kernel, by decide +kernel⟩, List.mem_of_getElem? (i := 1111) (by decide +kernel), List.mem_of_getElem? (i := 1460) (by decide +kernel), List.mem_of_getElem? (i := 1461) (by decide +kernel)⟩
theorem lw_p68 : lw_okq (⟨"HatchLightsModel", "unit", "()Z"⟩, 68) := ⟨⟨by decide +kernel, by decide +kernel⟩, List.mem_of_getElem? (i := 1111) (by decide +kernel), List.mem_of_getElem? (i := 1464) (by decide +kernel), List.mem_of_getElem? (i := 1465) (by decide +kernel)⟩
theorem lw_p69 : lw_okq (⟨"HatchLightsModel", "isSignHere", "(I)Z"⟩, 68) := ⟨⟨by decide +kernel, by decide +kernel⟩, List.mem_of_getElem? (i := 1111) (by decide +kernel), List.mem_of_getElem? (i := 1468) (by decide +kernel), List.mem_of_getElem? (i := 1469) (by decide +kernel)⟩
theorem lw_p70 : lw_okq (⟨"HatchLightsModel", "wordHere", "()I"⟩, 68) := ⟨⟨by decide +kernel, by decide +kernel⟩, List.mem_of_getElem? (i := 1111) (by decide +kernel), List.mem_of_getElem? (i := 1472) (by decide +kernel), List.mem_of_getElem? (i := 1473) (by decide +kernel)⟩
theorem lw_p71 : lw_okq (⟨"HatchLightsModel", "emit", "(II)V"⟩, 68) := ⟨⟨by decide +kernel, by decide +kernel⟩, List.mem_of_getElem? (i := 1111) (by decide +kernel), List.mem_of_getElem? (i := 1476) (by decide +kernel), List.mem_of_getElem? (i := 1477) (by decide +kernel)⟩
theorem lw_p72 : lw_okq (⟨"HatchLightsModel", "behindUnit", "()Z"⟩, 68) := ⟨⟨by decide +kernel, by decide +kernel⟩, List.mem_of_getElem? (i := 1111) (by decide +kernel), List.mem_of_getElem? (i := 1480) (by decide +kernel), List.mem_of_getElem? (i := 1481) (by decide +kernel)⟩
theorem lw_p73 : lw_okq (⟨"HatchLightsModel", "rankHere", "()I"⟩, 68) := ⟨⟨by decide +kernel, by decide +kernel⟩, List.mem_of_getElem? (i := 1111) (by decide +kernel), List.mem_of_getElem? (i := 1484) (by decide +kernel), List.mem_of_getElem? (i := 1485) (by decide +kernel)⟩
theorem lw_p74 : lw_okq (⟨"HatchLightsModel", "isCompared", "()Z"⟩, 68) := ⟨⟨by decide +kernel, by decide +kernel⟩, List.mem_of_getElem? (i := 1111) (by decide +kernel), List.mem_of_getElem? (i := 1488) (by decide +kernel), List.mem_of_getElem? (i := 1489) (by decide +kernel)⟩
theorem lw_p75 : lw_okq (⟨"HatchLightsModel", "isWordNumber", "(I)Z"⟩, 68) := ⟨⟨by decide +kernel, by decide +kernel⟩, List.mem_of_getElem? (i := 1111) (by decide +kernel), List.mem_of_getElem? (i := 1500) (by decide +kernel), List.mem_of_getElem? (i := 1501) (by decide +kernel)⟩
theorem lw_p76 : lw_okq (⟨"HatchLightsModel", "sayers", "(I)I"⟩, 68) := ⟨⟨by decide +kernel, by decide +kernel⟩, List.mem_of_getElem? (i := 1111) (by decide +kernel), List.mem_of_getElem? (i := 1507) (by decide +kernel), List.mem_of_getElem? (i := 1508) (by decide +kernel)⟩
theorem lw_p77 : lw_okq (⟨"HatchLightsModel", "isBy", "(I)Z"⟩, 68) := ⟨⟨by decide +kernel, by decide +kernel⟩, List.mem_of_getElem? (i := 1111) (by decide +kernel), List.mem_of_getElem? (i := 1511) (by decide +kernel), List.mem_of_getElem? (i := 1512) (by decide +kernel)⟩
theorem lw_p78 : lw_okq (⟨"HatchLightsModel", "isComer", "(I)Z"⟩, 68) := ⟨⟨by decide +kernel, by decide +kernel⟩, List.mem_of_getElem? (i := 1111) (by decide +kernel), List.mem_of_getElem? (i := 1519) (by decide +kernel), List.mem_of_getElem? (i := 1520) (by decide +kernel)⟩
theorem lw_p79 : lw_okq (⟨"HatchLightsModel", "placeOf", "(I)I"⟩, 68) := ⟨⟨by decide +kernel, by decide +kernel⟩, List.mem_of_getElem? (i := 1111) (by decide +kernel), List.mem_of_getElem? (i := 1523) (by decide +kernel), List.mem_of_getElem? (i := 1524) (by decide +kernel)⟩
def lw_privs_5 : List (MethodName × Nat) := [(⟨"HatchLightsModel", "once", "(II)I"⟩, 68), (⟨"HatchLightsModel", "readRule", "(I)V"⟩, 68), (⟨"HatchLightsModel", "e", "()V"⟩, 68), (⟨"HatchLightsModel", "pushE", "(II)V"⟩, 68), (⟨"HatchLightsModel", "unit", "()Z"⟩, 68), (⟨"HatchLightsModel", "isSignHere", "(I)Z"⟩, 68), (⟨"HatchLightsModel", "wordHere", "()I"⟩, 68), (⟨"HatchLightsModel", "emit", "(II)V"⟩, 68), (⟨"HatchLightsModel", "behindUnit", "()Z"⟩, 68), (⟨"HatchLightsModel", "rankHere", "()I"⟩, 68), (⟨"HatchLightsModel", "isCompared", "()Z"⟩, 68), (⟨"HatchLightsModel", "isWordNumber", "(I)Z"⟩, 68), (⟨"HatchLightsModel", "sayers", "(I)I"⟩, 68), (⟨"HatchLightsModel", "isBy", "(I)Z"⟩, 68), (⟨"HatchLightsModel", "isComer", "(I)Z"⟩, 68), (⟨"HatchLightsModel", "placeOf", "(I)I"⟩, 68)]
theorem lw_r5 : ∀ q ∈ lw_privs_5, lw_okq q := List.forall_mem_cons.mpr ⟨lw_p64, List.forall_mem_cons.mpr ⟨lw_p65, List.forall_mem_cons.mpr ⟨lw_p66, List.forall_mem_cons.mpr ⟨lw_p67, List.forall_mem_cons.mpr ⟨lw_p68, List.forall_mem_cons.mpr ⟨lw_p69, List.forall_mem_cons.mpr ⟨lw_p70, List.forall_mem_cons.mpr ⟨lw_p71, List.forall_mem_cons.mpr ⟨lw_p72, List.forall_mem_cons.mpr ⟨lw_p73, List.forall_mem_cons.mpr ⟨lw_p74, List.forall_mem_cons.mpr ⟨lw_p75, List.forall_mem_cons.mpr ⟨lw_p76, List.forall_mem_cons.mpr ⟨lw_p77, List.forall_mem_cons.mpr ⟨lw_p78, List.forall_mem_cons.mpr ⟨lw_p79, fun _ h => absurd h List.not_mem_nil⟩⟩⟩⟩⟩⟩⟩⟩⟩⟩⟩⟩⟩⟩⟩⟩
theorem lw_p80 : lw_okq (⟨"HatchLightsModel", "isThere", "(I)Z"⟩, 68) := ⟨⟨by decide +kernel, by decide +kernel⟩, List.mem_of_getElem? (i := 1111) (by decide +kernel), List.mem_of_getElem? (i := 1531) (by decide +kernel), List.mem_of_getElem? (i := 1532) (by decide +kernel)⟩
theorem lw_p81 : lw_okq (⟨"HatchLightsModel", "worthOf", "(I)I"⟩, 68) := ⟨⟨by decide +kernel, by decide +kernel⟩, List.mem_of_getElem? (i := 1111) (by decide +kernel), List.mem_of_getElem? (i := 1535) (by decide +kernel), List.mem_of_getElem? (i := 1536) (by decide +kernel)⟩
theorem lw_p82 : lw_okq (⟨"HatchLightsModel", "worthBy", "(II)I"⟩, 68) := ⟨⟨by decide +kernel, by decide +kernel⟩, List.mem_of_getElem? (i := 1111) (by decide +kernel), List.mem_of_getElem? (i := 1539) (by decide +kernel), List.mem_of_getElem? (i := 1540) (by decide +kernel)⟩
theorem lw_p83 : lw_okq (⟨"HatchLightsModel", "layAsked", "(II)V"⟩, 68) := ⟨⟨by decide +kernel, by decide +kernel⟩, List.mem_of_getElem? (i := 1111) (by decide +kernel), List.mem_of_getElem? (i := 1543) (by decide +kernel), List.mem_of_getElem? (i := 1544) (by decide +kernel)⟩
theorem lw_p84 : lw_okq (⟨"HatchLightsModel", "movedBy", "(I)I"⟩, 68) := ⟨⟨by decide +kernel, by decide +kernel⟩, List.mem_of_getElem? (i := 1111) (by decide +kernel), List.mem_of_getElem? (i := 1547) (by decide +kernel), List.mem_of_getElem? (i := 1548) (by decide +kernel)⟩
theorem lw_p85 : lw_okq (⟨"HatchLightsModel", "rowOf", "(I)I"⟩, 68) := ⟨⟨by decide +kernel, by decide +kernel⟩, List.mem_of_getElem? (i := 1111) (by decide +kernel), List.mem_of_getElem? (i := 1551) (by decide +kernel), List.mem_of_getElem? (i := 1552) (by decide +kernel)⟩
theorem lw_p86 : lw_okq (⟨"HatchLightsModel", "comes", "(I)I"⟩, 68) := ⟨⟨by decide +kernel, by decide +kernel⟩, List.mem_of_getElem? (i := 1111) (by decide +kernel), List.mem_of_getElem? (i := 1555) (by decide +kernel), List.mem_of_getElem? (i := 1556) (by decide +kernel)⟩
theorem lw_p87 : lw_okq (⟨"HatchLightsModel", "asked", "(II)I"⟩, 68) := ⟨⟨by decide +kernel, by decide +kernel⟩, List.mem_of_getElem? (i := 1111) (by decide +kernel), List.mem_of_getElem? (i := 1559) (by decide +kernel), List.mem_of_getElem? (i := 1560) (by decide +kernel)⟩
theorem lw_p88 : lw_okq (⟨"HatchLightsModel", "keptBy", "(I)I"⟩, 68) := ⟨⟨by decide +kernel, by decide +kernel⟩, List.mem_of_getElem? (i := 1111) (by decide +kernel), List.mem_of_getElem? (i := 1571) (by decide +kernel), List.mem_of_getElem? (i := 1572) (by decide +kernel)⟩
theorem lw_p89 : lw_okq (⟨"HatchLightsModel", "isRoad", "(I)Z"⟩, 68) := ⟨⟨by decide +kernel, by decide +kernel⟩, List.mem_of_getElem? (i := 1111) (by decide +kernel), List.mem_of_getElem? (i := 1582) (by decide +kernel), List.mem_of_getElem? (i := 1583) (by decide +kernel)⟩
theorem lw_p90 : lw_okq (⟨"HatchLightsModel", "firstOf", "(I)I"⟩, 68) := ⟨⟨by decide +kernel, by decide +kernel⟩, List.mem_of_getElem? (i := 1111) (by decide +kernel), List.mem_of_getElem? (i := 1590) (by decide +kernel), List.mem_of_getElem? (i := 1591) (by decide +kernel)⟩
theorem lw_p91 : lw_okq (⟨"HatchLightsModel", "keepAct", "()V"⟩, 68) := ⟨⟨by decide +kernel, by decide +kernel⟩, List.mem_of_getElem? (i := 1111) (by decide +kernel), List.mem_of_getElem? (i := 1610) (by decide +kernel), List.mem_of_getElem? (i := 1611) (by decide +kernel)⟩
theorem lw_p92 : lw_okq (⟨"HatchLightsModel", "goInEarnest", "(I)I"⟩, 68) := ⟨⟨by decide +kernel, by decide +kernel⟩, List.mem_of_getElem? (i := 1111) (by decide +kernel), List.mem_of_getElem? (i := 1614) (by decide +kernel), List.mem_of_getElem? (i := 1615) (by decide +kernel)⟩
theorem lw_p93 : lw_okq (⟨"HatchLightsModel", "goHatch", "(IZ)I"⟩, 68) := ⟨⟨by decide +kernel, by decide +kernel⟩, List.mem_of_getElem? (i := 1111) (by decide +kernel), List.mem_of_getElem? (i := 1618) (by decide +kernel), List.mem_of_getElem? (i := 1619) (by decide +kernel)⟩
theorem lw_p94 : lw_okq (⟨"HatchLightsModel", "goBehind", "(I)V"⟩, 68) := ⟨⟨by decide +kernel, by decide +kernel⟩, List.mem_of_getElem? (i := 1111) (by decide +kernel), List.mem_of_getElem? (i := 1622) (by decide +kernel), List.mem_of_getElem? (i := 1623) (by decide +kernel)⟩
theorem lw_p95 : lw_okq (⟨"HatchLightsModel", "swapAll", "()V"⟩, 68) := ⟨⟨by decide +kernel, by decide +kernel⟩, List.mem_of_getElem? (i := 1111) (by decide +kernel), List.mem_of_getElem? (i := 1651) (by decide +kernel), List.mem_of_getElem? (i := 1652) (by decide +kernel)⟩
def lw_privs_6 : List (MethodName × Nat) := [(⟨"HatchLightsModel", "isThere", "(I)Z"⟩, 68), (⟨"HatchLightsModel", "worthOf", "(I)I"⟩, 68), (⟨"HatchLightsModel", "worthBy", "(II)I"⟩, 68), (⟨"HatchLightsModel", "layAsked", "(II)V"⟩, 68), (⟨"HatchLightsModel", "movedBy", "(I)I"⟩, 68), (⟨"HatchLightsModel", "rowOf", "(I)I"⟩, 68), (⟨"HatchLightsModel", "comes", "(I)I"⟩, 68), (⟨"HatchLightsModel", "asked", "(II)I"⟩, 68), (⟨"HatchLightsModel", "keptBy", "(I)I"⟩, 68), (⟨"HatchLightsModel", "isRoad", "(I)Z"⟩, 68), (⟨"HatchLightsModel", "firstOf", "(I)I"⟩, 68), (⟨"HatchLightsModel", "keepAct", "()V"⟩, 68), (⟨"HatchLightsModel", "goInEarnest", "(I)I"⟩, 68), (⟨"HatchLightsModel", "goHatch", "(IZ)I"⟩, 68), (⟨"HatchLightsModel", "goBehind", "(I)V"⟩, 68), (⟨"HatchLightsModel", "swapAll", "()V"⟩, 68)]
theorem lw_r6 : ∀ q ∈ lw_privs_6, lw_okq q := List.forall_mem_cons.mpr ⟨lw_p80, List.forall_mem_cons.mpr ⟨lw_p81, List.forall_mem_cons.mpr ⟨lw_p82, List.forall_mem_cons.mpr ⟨lw_p83, List.forall_mem_cons.mpr ⟨lw_p84, List.forall_mem_cons.mpr ⟨lw_p85, List.forall_mem_cons.mpr ⟨lw_p86, List.forall_mem_cons.mpr ⟨lw_p87, List.forall_mem_cons.mpr ⟨lw_p88, List.forall_mem_cons.mpr ⟨lw_p89, List.forall_mem_cons.mpr ⟨lw_p90, List.forall_mem_cons.mpr ⟨lw_p91, List.forall_mem_cons.mpr ⟨lw_p92, List.forall_mem_cons.mpr ⟨lw_p93, List.forall_mem_cons.mpr ⟨lw_p94, List.forall_mem_cons.mpr ⟨lw_p95, fun _ h => absurd h List.not_mem_nil⟩⟩⟩⟩⟩⟩⟩⟩⟩⟩⟩⟩⟩⟩⟩⟩
theorem lw_p96 : lw_okq (⟨"HatchLightsModel", "keepNow", "()V"⟩, 68) := ⟨⟨by decide +kernel, by decide +kernel⟩, List.mem_of_getElem? (i := 1111) (by decide +kernel), List.mem_of_getElem? (i := 1670) (by decide +kernel), List.mem_of_getElem? (i := 1671) (by decide +kernel)⟩
theorem lw_p97 : lw_okq (⟨"HatchLightsModel", "goOnce", "()I"⟩, 68) := ⟨⟨by decide +kernel, by decide +kernel⟩, List.mem_of_getElem? (i := 1111) (by decide +kernel), List.mem_of_getElem? (i := 1674) (by decide +kernel), List.mem_of_getElem? (i := 1675) (by decide +kernel)⟩
theorem lw_p98 : lw_okq (⟨"HatchLightsModel", "thoseBy", "()I"⟩, 68) := ⟨⟨by decide +kernel, by decide +kernel⟩, List.mem_of_getElem? (i := 1111) (by decide +kernel), List.mem_of_getElem? (i := 1678) (by decide +kernel), List.mem_of_getElem? (i := 1679) (by decide +kernel)⟩
theorem lw_p99 : lw_okq (⟨"HatchLightsModel", "bringBack", "()V"⟩, 68) := ⟨⟨by decide +kernel, by decide +kernel⟩, List.mem_of_getElem? (i := 1111) (by decide +kernel), List.mem_of_getElem? (i := 1682) (by decide +kernel), List.mem_of_getElem? (i := 1683) (by decide +kernel)⟩
theorem lw_p100 : lw_okq (⟨"HatchLightsModel", "goHatches", "(III)V"⟩, 68) := ⟨⟨by decide +kernel, by decide +kernel⟩, List.mem_of_getElem? (i := 1111) (by decide +kernel), List.mem_of_getElem? (i := 1690) (by decide +kernel), List.mem_of_getElem? (i := 1691) (by decide +kernel)⟩
theorem lw_p101 : lw_okq (⟨"HatchLightsModel", "pressIn", "(I)I"⟩, 68) := ⟨⟨by decide +kernel, by decide +kernel⟩, List.mem_of_getElem? (i := 1111) (by decide +kernel), List.mem_of_getElem? (i := 1702) (by decide +kernel), List.mem_of_getElem? (i := 1703) (by decide +kernel)⟩
theorem lw_p102 : lw_okq (⟨"HatchLightsModel", "byBehind", "(II)I"⟩, 68) := ⟨⟨by decide +kernel, by decide +kernel⟩, List.mem_of_getElem? (i := 1111) (by decide +kernel), List.mem_of_getElem? (i := 1714) (by decide +kernel), List.mem_of_getElem? (i := 1715) (by decide +kernel)⟩
theorem lw_p103 : lw_okq (⟨"HatchLightsModel", "areAllBy", "(II)Z"⟩, 68) := ⟨⟨by decide +kernel, by decide +kernel⟩, List.mem_of_getElem? (i := 1111) (by decide +kernel), List.mem_of_getElem? (i := 1745) (by decide +kernel), List.mem_of_getElem? (i := 1746) (by decide +kernel)⟩
theorem lw_p104 : lw_okq (⟨"HatchLightsModel", "fewestOf", "(III)I"⟩, 68) := ⟨⟨by decide +kernel, by decide +kernel⟩, List.mem_of_getElem? (i := 1111) (by decide +kernel), List.mem_of_getElem? (i := 1753) (by decide +kernel), List.mem_of_getElem? (i := 1754) (by decide +kernel)⟩
theorem lw_p105 : lw_okq (⟨"HatchLightsModel", "laySooner", "(II)V"⟩, 68) := ⟨⟨by decide +kernel, by decide +kernel⟩, List.mem_of_getElem? (i := 1111) (by decide +kernel), List.mem_of_getElem? (i := 1781) (by decide +kernel), List.mem_of_getElem? (i := 1782) (by decide +kernel)⟩
theorem lw_p106 : lw_okq (⟨"HatchLightsModel", "isRest", "(I)Z"⟩, 68) := ⟨⟨by decide +kernel, by decide +kernel⟩, List.mem_of_getElem? (i := 1111) (by decide +kernel), List.mem_of_getElem? (i := 1785) (by decide +kernel), List.mem_of_getElem? (i := 1786) (by decide +kernel)⟩
theorem lw_p107 : lw_okq (⟨"HatchLightsModel", "layBy", "()V"⟩, 68) := ⟨⟨by decide +kernel, by decide +kernel⟩, List.mem_of_getElem? (i := 1111) (by decide +kernel), List.mem_of_getElem? (i := 1813) (by decide +kernel), List.mem_of_getElem? (i := 1814) (by decide +kernel)⟩
theorem lw_p108 : lw_okq (⟨"HatchLightsModel", "doesFit", "(II)Z"⟩, 68) := ⟨⟨by decide +kernel, by decide +kernel⟩, List.mem_of_getElem? (i := 1111) (by decide +kernel), List.mem_of_getElem? (i := 1817) (by decide +kernel), List.mem_of_getElem? (i := 1818) (by decide +kernel)⟩
theorem lw_p109 : lw_okq (⟨"HatchLightsModel", "mostBehind", "(II)I"⟩, 68) := ⟨⟨by decide +kernel, by decide +kernel⟩, List.mem_of_getElem? (i := 1111) (by decide +kernel), List.mem_of_getElem? (i := 1830) (by decide +kernel), List.mem_of_getElem? (i := 1831) (by decide +kernel)⟩
def lw_privs_7 : List (MethodName × Nat) := [(⟨"HatchLightsModel", "keepNow", "()V"⟩, 68), (⟨"HatchLightsModel", "goOnce", "()I"⟩, 68), (⟨"HatchLightsModel", "thoseBy", "()I"⟩, 68), (⟨"HatchLightsModel", "bringBack", "()V"⟩, 68), (⟨"HatchLightsModel", "goHatches", "(III)V"⟩, 68), (⟨"HatchLightsModel", "pressIn", "(I)I"⟩, 68), (⟨"HatchLightsModel", "byBehind", "(II)I"⟩, 68), (⟨"HatchLightsModel", "areAllBy", "(II)Z"⟩, 68), (⟨"HatchLightsModel", "fewestOf", "(III)I"⟩, 68), (⟨"HatchLightsModel", "laySooner", "(II)V"⟩, 68), (⟨"HatchLightsModel", "isRest", "(I)Z"⟩, 68), (⟨"HatchLightsModel", "layBy", "()V"⟩, 68), (⟨"HatchLightsModel", "doesFit", "(II)Z"⟩, 68), (⟨"HatchLightsModel", "mostBehind", "(II)I"⟩, 68)]
theorem lw_r7 : ∀ q ∈ lw_privs_7, lw_okq q := List.forall_mem_cons.mpr ⟨lw_p96, List.forall_mem_cons.mpr ⟨lw_p97, List.forall_mem_cons.mpr ⟨lw_p98, List.forall_mem_cons.mpr ⟨lw_p99, List.forall_mem_cons.mpr ⟨lw_p100, List.forall_mem_cons.mpr ⟨lw_p101, List.forall_mem_cons.mpr ⟨lw_p102, List.forall_mem_cons.mpr ⟨lw_p103, List.forall_mem_cons.mpr ⟨lw_p104, List.forall_mem_cons.mpr ⟨lw_p105, List.forall_mem_cons.mpr ⟨lw_p106, List.forall_mem_cons.mpr ⟨lw_p107, List.forall_mem_cons.mpr ⟨lw_p108, List.forall_mem_cons.mpr ⟨lw_p109, fun _ h => absurd h List.not_mem_nil⟩⟩⟩⟩⟩⟩⟩⟩⟩⟩⟩⟩⟩⟩
def lw_privs : List (MethodName × Nat) := lw_privs_1 ++ (lw_privs_2 ++ (lw_privs_3 ++ (lw_privs_4 ++ (lw_privs_5 ++ (lw_privs_6 ++ (lw_privs_7))))))
def lw_tbl : List Cond := k2_sels lw_privs ++ tables_1
theorem lw_privs_ok : ∀ q ∈ lw_privs, lw_okq q := by
  show ∀ q ∈ lw_privs_1 ++ (lw_privs_2 ++ (lw_privs_3 ++ (lw_privs_4 ++ (lw_privs_5 ++ (lw_privs_6 ++ (lw_privs_7)))))), lw_okq q
  exact List.forall_mem_append.mpr ⟨lw_r1, List.forall_mem_append.mpr ⟨lw_r2, List.forall_mem_append.mpr ⟨lw_r3, List.forall_mem_append.mpr ⟨lw_r4, List.forall_mem_append.mpr ⟨lw_r5, List.forall_mem_append.mpr ⟨lw_r6, lw_r7⟩⟩⟩⟩⟩⟩
theorem goodIn_r {big : List Cond} (ws : List Cond) (ps : List Nat) (hp : ws = ps.filterMap (fun i => big[i]?)) (h : ws.all goodWord = true) : GoodIn big ws := by
  intro w hw
  have h1 := List.all_eq_true.mp h w hw
  rw [hp] at hw
  obtain ⟨i, -, hi⟩ := List.mem_filterMap.mp hw
  have hm : w ∈ big := by first | exact List.mem_of_getElem? hi | exact List.getElem?_mem hi
  exact ⟨hm, good_of_word h1⟩
def RX0 : String := "HatchLights$Acts"
def TX0 : u_T := fun k => match k with
  | 0 => ("HatchLights$Acts", "done", "I", false)
  | 1 => ("HatchLights$Acts", "kept", "I", false)
  | 2 => ("HatchLights$Acts", "scenes", "[LHatchLights$Scene;", true)
  | _ => ("HatchLights$Acts", "oldest", "I", false)
def tyX0 : Nat → FieldType := fun k => match k with
  | 0 => .int
  | 1 => .int
  | 2 => .array (.object "HatchLights$Scene")
  | _ => .int
abbrev wsX00 : List Cond := u_ws RX0 TX0 4
theorem nmX0 : ∀ a, a < 4 → ∀ b, b < 4 → a ≠ b → (TX0 a).2.1 ≠ (TX0 b).2.1 := by decide +kernel
theorem tyX0_ok : ∀ k, k < 4 → parseFieldDescriptor (TX0 k).2.2.1 = some (tyX0 k) := by decide +kernel
def RX1 : String := "HatchLights$Facts"
def TX1 : u_T := fun k => match k with
  | 0 => ("HatchLights$Facts", "moved", "I", false)
  | 1 => ("HatchLights$Facts", "many", "I", false)
  | 2 => ("HatchLights$Facts", "waited", "I", false)
  | 3 => ("HatchLights$Facts", "behind", "I", false)
  | 4 => ("HatchLights$Facts", "mood", "I", false)
  | _ => ("HatchLights$Facts", "hatch", "I", false)
def tyX1 : Nat → FieldType := fun k => match k with
  | 0 => .int
  | 1 => .int
  | 2 => .int
  | 3 => .int
  | 4 => .int
  | _ => .int
abbrev wsX10 : List Cond := u_ws RX1 TX1 6
theorem nmX1 : ∀ a, a < 6 → ∀ b, b < 6 → a ≠ b → (TX1 a).2.1 ≠ (TX1 b).2.1 := by decide +kernel
theorem tyX1_ok : ∀ k, k < 6 → parseFieldDescriptor (TX1 k).2.2.1 = some (tyX1 k) := by decide +kernel
def RX2 : String := "HatchLights$Formula"
def TX2 : u_T := fun k => match k with
  | 0 => ("HatchLights$Formula", "kinds", "[I", true)
  | 1 => ("HatchLights$Formula", "numbers", "[I", true)
  | 2 => ("HatchLights$Formula", "stack", "[I", true)
  | _ => ("HatchLights$Formula", "size", "I", false)
def tyX2 : Nat → FieldType := fun k => match k with
  | 0 => .array .int
  | 1 => .array .int
  | 2 => .array .int
  | _ => .int
abbrev wsX20 : List Cond := u_ws RX2 TX2 4
theorem nmX2 : ∀ a, a < 4 → ∀ b, b < 4 → a ≠ b → (TX2 a).2.1 ≠ (TX2 b).2.1 := by decide +kernel
theorem tyX2_ok : ∀ k, k < 4 → parseFieldDescriptor (TX2 k).2.2.1 = some (tyX2 k) := by decide +kernel
def RX3 : String := "HatchLights$Reader"
def TX3 : u_T := fun k => match k with
  | 0 => ("HatchLights$Reader", "draft", "LHatchLights$Told;", true)
  | 1 => ("HatchLights$Reader", "fault", "I", false)
  | 2 => ("HatchLights$Reader", "place", "I", false)
  | 3 => ("HatchLights$Reader", "tokens", "LHatchLights$Tokens;", true)
  | 4 => ("HatchLights$Reader", "wordNames", "[J", true)
  | 5 => ("HatchLights$Reader", "comerNames", "[J", true)
  | 6 => ("HatchLights$Reader", "at", "I", false)
  | 7 => ("HatchLights$Reader", "kind", "I", false)
  | 8 => ("HatchLights$Reader", "number", "I", false)
  | 9 => ("HatchLights$Reader", "linesTold", "I", false)
  | 10 => ("HatchLights$Reader", "unitsHere", "I", false)
  | _ => ("HatchLights$Reader", "formula", "LHatchLights$Formula;", false)
def tyX3 : Nat → FieldType := fun k => match k with
  | 0 => .object "HatchLights$Told"
  | 1 => .int
  | 2 => .int
  | 3 => .object "HatchLights$Tokens"
  | 4 => .array .long
  | 5 => .array .long
  | 6 => .int
  | 7 => .int
  | 8 => .int
  | 9 => .int
  | 10 => .int
  | _ => .object "HatchLights$Formula"
abbrev wsX30 : List Cond := u_ws RX3 TX3 12
theorem nmX3 : ∀ a, a < 12 → ∀ b, b < 12 → a ≠ b → (TX3 a).2.1 ≠ (TX3 b).2.1 := by decide +kernel
theorem tyX3_ok : ∀ k, k < 12 → parseFieldDescriptor (TX3 k).2.2.1 = some (tyX3 k) := by decide +kernel
def RX4 : String := "HatchLights$Scene"
def TX4 : u_T := fun k => match k with
  | 0 => ("HatchLights$Scene", "road", "[I", true)
  | 1 => ("HatchLights$Scene", "place", "[I", true)
  | 2 => ("HatchLights$Scene", "reason", "[I", true)
  | 3 => ("HatchLights$Scene", "waited", "[I", true)
  | 4 => ("HatchLights$Scene", "moves", "[I", true)
  | 5 => ("HatchLights$Scene", "size", "[I", true)
  | 6 => ("HatchLights$Scene", "mood", "I", false)
  | 7 => ("HatchLights$Scene", "minutes", "I", false)
  | 8 => ("HatchLights$Scene", "hatches", "I", false)
  | 9 => ("HatchLights$Scene", "hand", "I", false)
  | 10 => ("HatchLights$Scene", "seed", "I", false)
  | 11 => ("HatchLights$Scene", "told", "LHatchLights$Told;", true)
  | _ => ("HatchLights$Scene", "facts", "LHatchLights$Facts;", true)
def tyX4 : Nat → FieldType := fun k => match k with
  | 0 => .array .int
  | 1 => .array .int
  | 2 => .array .int
  | 3 => .array .int
  | 4 => .array .int
  | 5 => .array .int
  | 6 => .int
  | 7 => .int
  | 8 => .int
  | 9 => .int
  | 10 => .int
  | 11 => .object "HatchLights$Told"
  | _ => .object "HatchLights$Facts"
abbrev wsX40 : List Cond := u_ws RX4 TX4 13
theorem nmX4 : ∀ a, a < 13 → ∀ b, b < 13 → a ≠ b → (TX4 a).2.1 ≠ (TX4 b).2.1 := by decide +kernel
theorem tyX4_ok : ∀ k, k < 13 → parseFieldDescriptor (TX4 k).2.2.1 = some (tyX4 k) := by decide +kernel
def RX5 : String := "HatchLights$Sightings"
def TX5 : u_T := fun k => match k with
  | 0 => ("HatchLights$Sightings", "count", "I", false)
  | 1 => ("HatchLights$Sightings", "fitting", "[I", true)
  | 2 => ("HatchLights$Sightings", "told", "LHatchLights$Told;", true)
  | 3 => ("HatchLights$Sightings", "scene", "LHatchLights$Scene;", true)
  | 4 => ("HatchLights$Sightings", "hatches", "[I", true)
  | 5 => ("HatchLights$Sightings", "comers", "[I", true)
  | 6 => ("HatchLights$Sightings", "was", "[Z", true)
  | 7 => ("HatchLights$Sightings", "toldAt", "[I", true)
  | 8 => ("HatchLights$Sightings", "untoldAt", "[I", true)
  | 9 => ("HatchLights$Sightings", "untold", "[Z", true)
  | 10 => ("HatchLights$Sightings", "by", "[I", true)
  | 11 => ("HatchLights$Sightings", "made", "Z", false)
  | _ => ("HatchLights$Sightings", "alike", "[I", true)
def tyX5 : Nat → FieldType := fun k => match k with
  | 0 => .int
  | 1 => .array .int
  | 2 => .object "HatchLights$Told"
  | 3 => .object "HatchLights$Scene"
  | 4 => .array .int
  | 5 => .array .int
  | 6 => .array .boolean
  | 7 => .array .int
  | 8 => .array .int
  | 9 => .array .boolean
  | 10 => .array .int
  | 11 => .boolean
  | _ => .array .int
abbrev wsX50 : List Cond := u_ws RX5 TX5 13
theorem nmX5 : ∀ a, a < 13 → ∀ b, b < 13 → a ≠ b → (TX5 a).2.1 ≠ (TX5 b).2.1 := by decide +kernel
theorem tyX5_ok : ∀ k, k < 13 → parseFieldDescriptor (TX5 k).2.2.1 = some (tyX5 k) := by decide +kernel
def RX6 : String := "HatchLights$Tape"
def TX6 : u_T := fun k => match k with
  | 0 => ("HatchLights$Tape", "bytes", "[B", true)
  | _ => ("HatchLights$Tape", "length", "I", false)
def tyX6 : Nat → FieldType := fun k => match k with
  | 0 => .array .byte
  | _ => .int
abbrev wsX60 : List Cond := u_ws RX6 TX6 2
theorem nmX6 : ∀ a, a < 2 → ∀ b, b < 2 → a ≠ b → (TX6 a).2.1 ≠ (TX6 b).2.1 := by decide +kernel
theorem tyX6_ok : ∀ k, k < 2 → parseFieldDescriptor (TX6 k).2.2.1 = some (tyX6 k) := by decide +kernel
def RX7 : String := "HatchLights$Tokens"
def TX7 : u_T := fun k => match k with
  | 0 => ("HatchLights$Tokens", "kinds", "[I", true)
  | 1 => ("HatchLights$Tokens", "places", "[I", true)
  | 2 => ("HatchLights$Tokens", "values", "[J", true)
  | _ => ("HatchLights$Tokens", "count", "I", false)
def tyX7 : Nat → FieldType := fun k => match k with
  | 0 => .array .int
  | 1 => .array .int
  | 2 => .array .long
  | _ => .int
abbrev wsX70 : List Cond := u_ws RX7 TX7 4
theorem nmX7 : ∀ a, a < 4 → ∀ b, b < 4 → a ≠ b → (TX7 a).2.1 ≠ (TX7 b).2.1 := by decide +kernel
theorem tyX7_ok : ∀ k, k < 4 → parseFieldDescriptor (TX7 k).2.2.1 = some (tyX7 k) := by decide +kernel
def RX8 : String := "HatchLights$Told"
def TX8 : u_T := fun k => match k with
  | 0 => ("HatchLights$Told", "roads", "I", false)
  | 1 => ("HatchLights$Told", "words", "I", false)
  | 2 => ("HatchLights$Told", "comers", "I", false)
  | 3 => ("HatchLights$Told", "mood", "I", false)
  | 4 => ("HatchLights$Told", "whim", "I", false)
  | 5 => ("HatchLights$Told", "draw", "I", false)
  | 6 => ("HatchLights$Told", "units", "I", false)
  | 7 => ("HatchLights$Told", "moves", "[I", true)
  | 8 => ("HatchLights$Told", "tires", "[I", true)
  | 9 => ("HatchLights$Told", "road", "[I", true)
  | 10 => ("HatchLights$Told", "reason", "[I", true)
  | 11 => ("HatchLights$Told", "worth", "LHatchLights$Formula;", true)
  | _ => ("HatchLights$Told", "keeps", "LHatchLights$Formula;", true)
def tyX8 : Nat → FieldType := fun k => match k with
  | 0 => .int
  | 1 => .int
  | 2 => .int
  | 3 => .int
  | 4 => .int
  | 5 => .int
  | 6 => .int
  | 7 => .array .int
  | 8 => .array .int
  | 9 => .array .int
  | 10 => .array .int
  | 11 => .object "HatchLights$Formula"
  | _ => .object "HatchLights$Formula"
abbrev wsX80 : List Cond := u_ws RX8 TX8 13
theorem nmX8 : ∀ a, a < 13 → ∀ b, b < 13 → a ≠ b → (TX8 a).2.1 ≠ (TX8 b).2.1 := by decide +kernel
theorem tyX8_ok : ∀ k, k < 13 → parseFieldDescriptor (TX8 k).2.2.1 = some (tyX8 k) := by decide +kernel
def RX9 : String := "HatchLights"
def TX9 : u_T := fun k => match k with
  | 0 => ("HatchLights", "tape", "LHatchLights$Tape;", true)
  | 1 => ("HatchLights", "reader", "LHatchLights$Reader;", true)
  | 2 => ("HatchLights", "told", "LHatchLights$Told;", true)
  | 3 => ("HatchLights", "now", "LHatchLights$Scene;", true)
  | 4 => ("HatchLights", "trial", "LHatchLights$Scene;", true)
  | 5 => ("HatchLights", "path", "[LHatchLights$Scene;", true)
  | 6 => ("HatchLights", "acts", "LHatchLights$Acts;", true)
  | 7 => ("HatchLights", "boxes", "[LHatchLights$Scene;", true)
  | 8 => ("HatchLights", "boxFull", "[Z", true)
  | 9 => ("HatchLights", "sightings", "LHatchLights$Sightings;", true)
  | 10 => ("HatchLights", "lying", "[I", true)
  | 11 => ("HatchLights", "delays", "[I", true)
  | 12 => ("HatchLights", "otherDelays", "[I", true)
  | 13 => ("HatchLights", "lyingCount", "I", false)
  | _ => ("HatchLights", "time", "I", false)
def tyX9 : Nat → FieldType := fun k => match k with
  | 0 => .object "HatchLights$Tape"
  | 1 => .object "HatchLights$Reader"
  | 2 => .object "HatchLights$Told"
  | 3 => .object "HatchLights$Scene"
  | 4 => .object "HatchLights$Scene"
  | 5 => .array (.object "HatchLights$Scene")
  | 6 => .object "HatchLights$Acts"
  | 7 => .array (.object "HatchLights$Scene")
  | 8 => .array .boolean
  | 9 => .object "HatchLights$Sightings"
  | 10 => .array .int
  | 11 => .array .int
  | 12 => .array .int
  | 13 => .int
  | _ => .int
abbrev wsX90 : List Cond := u_ws RX9 TX9 15
theorem nmX9 : ∀ a, a < 15 → ∀ b, b < 15 → a ≠ b → (TX9 a).2.1 ≠ (TX9 b).2.1 := by decide +kernel
theorem tyX9_ok : ∀ k, k < 15 → parseFieldDescriptor (TX9 k).2.2.1 = some (tyX9 k) := by decide +kernel
def RX10 : String := "HatchLightsModel"
def TX10 : u_T := fun k => match k with
  | 0 => ("HatchLightsModel", "tape", "[B", true)
  | 1 => ("HatchLightsModel", "text", "[B", true)
  | 2 => ("HatchLightsModel", "taped", "I", false)
  | 3 => ("HatchLightsModel", "size", "I", false)
  | 4 => ("HatchLightsModel", "faultKind", "I", false)
  | 5 => ("HatchLightsModel", "faultPlace", "I", false)
  | 6 => ("HatchLightsModel", "at", "I", false)
  | 7 => ("HatchLightsModel", "end", "I", false)
  | 8 => ("HatchLightsModel", "token", "I", false)
  | 9 => ("HatchLightsModel", "number", "I", false)
  | 10 => ("HatchLightsModel", "name", "J", false)
  | 11 => ("HatchLightsModel", "roads", "[I", true)
  | 12 => ("HatchLightsModel", "lines", "[I", true)
  | 13 => ("HatchLightsModel", "words", "[I", true)
  | 14 => ("HatchLightsModel", "comers", "[I", true)
  | 15 => ("HatchLightsModel", "units", "[I", true)
  | 16 => ("HatchLightsModel", "mood", "[I", true)
  | 17 => ("HatchLightsModel", "whim", "[I", true)
  | 18 => ("HatchLightsModel", "draw", "[I", true)
  | 19 => ("HatchLightsModel", "told", "[I", true)
  | 20 => ("HatchLightsModel", "movesTold", "[I", true)
  | 21 => ("HatchLightsModel", "tires", "[I", true)
  | 22 => ("HatchLightsModel", "roadTold", "[I", true)
  | 23 => ("HatchLightsModel", "reasonTold", "[I", true)
  | 24 => ("HatchLightsModel", "ruleFrom", "[I", true)
  | 25 => ("HatchLightsModel", "ruleTo", "[I", true)
  | 26 => ("HatchLightsModel", "wName", "[J", true)
  | 27 => ("HatchLightsModel", "cName", "[J", true)
  | 28 => ("HatchLightsModel", "code", "[I", true)
  | 29 => ("HatchLightsModel", "codeNumber", "[I", true)
  | 30 => ("HatchLightsModel", "eWhat", "[I", true)
  | 31 => ("HatchLightsModel", "eSign", "[I", true)
  | 32 => ("HatchLightsModel", "pile", "[I", true)
  | 33 => ("HatchLightsModel", "bank", "I", false)
  | 34 => ("HatchLightsModel", "rb", "I", false)
  | 35 => ("HatchLightsModel", "codes", "I", false)
  | 36 => ("HatchLightsModel", "within", "I", false)
  | 37 => ("HatchLightsModel", "piled", "I", false)
  | 38 => ("HatchLightsModel", "unitsInRule", "I", false)
  | 39 => ("HatchLightsModel", "askMoved", "I", false)
  | 40 => ("HatchLightsModel", "askMany", "I", false)
  | 41 => ("HatchLightsModel", "askWaited", "I", false)
  | 42 => ("HatchLightsModel", "askBehind", "I", false)
  | 43 => ("HatchLightsModel", "all", "[I", true)
  | 44 => ("HatchLightsModel", "thought", "I", false)
  | 45 => ("HatchLightsModel", "heard", "I", false)
  | 46 => ("HatchLightsModel", "waiting", "I", false)
  | 47 => ("HatchLightsModel", "was", "[I", true)
  | 48 => ("HatchLightsModel", "acts", "I", false)
  | 49 => ("HatchLightsModel", "undone", "I", false)
  | 50 => ("HatchLightsModel", "kept", "[I", true)
  | 51 => ("HatchLightsModel", "laidRow", "[I", true)
  | 52 => ("HatchLightsModel", "laid", "I", false)
  | 53 => ("HatchLightsModel", "waits", "I", false)
  | 54 => ("HatchLightsModel", "ownMinutes", "I", false)
  | 55 => ("HatchLightsModel", "timesHeard", "I", false)
  | 56 => ("HatchLightsModel", "sooner", "[I", true)
  | 57 => ("HatchLightsModel", "byThen", "[I", true)
  | 58 => ("HatchLightsModel", "sHatches", "[I", true)
  | 59 => ("HatchLightsModel", "sComer", "[I", true)
  | 60 => ("HatchLightsModel", "sIs", "[I", true)
  | 61 => ("HatchLightsModel", "sTold", "[I", true)
  | 62 => ("HatchLightsModel", "sUntold", "[I", true)
  | 63 => ("HatchLightsModel", "parts", "[I", true)
  | 64 => ("HatchLightsModel", "seens", "I", false)
  | 65 => ("HatchLightsModel", "time", "I", false)
  | 66 => ("HatchLightsModel", "boxAll", "[I", true)
  | _ => ("HatchLightsModel", "isBoxed", "[Z", true)
def tyX10 : Nat → FieldType := fun k => match k with
  | 0 => .array .byte
  | 1 => .array .byte
  | 2 => .int
  | 3 => .int
  | 4 => .int
  | 5 => .int
  | 6 => .int
  | 7 => .int
  | 8 => .int
  | 9 => .int
  | 10 => .long
  | 11 => .array .int
  | 12 => .array .int
  | 13 => .array .int
  | 14 => .array .int
  | 15 => .array .int
  | 16 => .array .int
  | 17 => .array .int
  | 18 => .array .int
  | 19 => .array .int
  | 20 => .array .int
  | 21 => .array .int
  | 22 => .array .int
  | 23 => .array .int
  | 24 => .array .int
  | 25 => .array .int
  | 26 => .array .long
  | 27 => .array .long
  | 28 => .array .int
  | 29 => .array .int
  | 30 => .array .int
  | 31 => .array .int
  | 32 => .array .int
  | 33 => .int
  | 34 => .int
  | 35 => .int
  | 36 => .int
  | 37 => .int
  | 38 => .int
  | 39 => .int
  | 40 => .int
  | 41 => .int
  | 42 => .int
  | 43 => .array .int
  | 44 => .int
  | 45 => .int
  | 46 => .int
  | 47 => .array .int
  | 48 => .int
  | 49 => .int
  | 50 => .array .int
  | 51 => .array .int
  | 52 => .int
  | 53 => .int
  | 54 => .int
  | 55 => .int
  | 56 => .array .int
  | 57 => .array .int
  | 58 => .array .int
  | 59 => .array .int
  | 60 => .array .int
  | 61 => .array .int
  | 62 => .array .int
  | 63 => .array .int
  | 64 => .int
  | 65 => .int
  | 66 => .array .int
  | _ => .array .boolean
abbrev wsX100 : List Cond := u_ws RX10 TX10 68
theorem nmX10 : ∀ a, a < 68 → ∀ b, b < 68 → a ≠ b → (TX10 a).2.1 ≠ (TX10 b).2.1 := by decide +kernel
theorem tyX10_ok : ∀ k, k < 68 → parseFieldDescriptor (TX10 k).2.2.1 = some (tyX10 k) := by decide +kernel
def RL : String := "HatchLightsLaw"
def RJ11 : String := "java/lang/Character"
def RJ6 : String := "java/lang/Integer"
def RJ9 : String := "java/lang/Math"
def RJ0 : String := "java/lang/String"
def RJ1 : String := "java/lang/StringLatin1"
def RJ2 : String := "java/lang/StringUTF16"
def RJ10 : String := "java/lang/System"
def RJ3 : String := "jdk/internal/util/Preconditions"
def RJ7 : String := "java/util/Arrays"
abbrev cX0_init : ByteArray := prog_2_method_1_code
def yX0_init : MethodName := ⟨RX0, "<init>", "(LHatchLights$Told;)V"⟩
abbrev cX0_forget : ByteArray := prog_2_method_2_code
def yX0_forget : MethodName := ⟨RX0, "forget", "(LHatchLights$Scene;)V"⟩
abbrev cX0_add : ByteArray := prog_2_method_3_code
def yX0_add : MethodName := ⟨RX0, "add", "(LHatchLights$Scene;)V"⟩
abbrev cX0_takeBack : ByteArray := prog_2_method_4_code
def yX0_takeBack : MethodName := ⟨RX0, "takeBack", "(LHatchLights$Scene;)Z"⟩
abbrev cX0_doAgain : ByteArray := prog_2_method_5_code
def yX0_doAgain : MethodName := ⟨RX0, "doAgain", "(LHatchLights$Scene;)Z"⟩
abbrev cX0_current : ByteArray := prog_2_method_6_code
def yX0_current : MethodName := ⟨RX0, "current", "()LHatchLights$Scene;"⟩
abbrev cX1_init : ByteArray := prog_3_method_1_code
def yX1_init : MethodName := ⟨RX1, "<init>", "()V"⟩
abbrev cX1_get : ByteArray := prog_3_method_2_code
def yX1_get : MethodName := ⟨RX1, "get", "(I)I"⟩
abbrev cX2_init : ByteArray := prog_4_method_1_code
def yX2_init : MethodName := ⟨RX2, "<init>", "()V"⟩
abbrev cX2_clear : ByteArray := prog_4_method_2_code
def yX2_clear : MethodName := ⟨RX2, "clear", "()V"⟩
abbrev cX2_add : ByteArray := prog_4_method_3_code
def yX2_add : MethodName := ⟨RX2, "add", "(II)V"⟩
abbrev cX2_copy : ByteArray := prog_4_method_4_code
def yX2_copy : MethodName := ⟨RX2, "copy", "(LHatchLights$Formula;)V"⟩
abbrev cX2_valueBy : ByteArray := prog_4_method_5_code
def yX2_valueBy : MethodName := ⟨RX2, "valueBy", "(LHatchLights$Facts;)I"⟩
abbrev cX2_levelOf : ByteArray := prog_4_method_6_code
def yX2_levelOf : MethodName := ⟨RX2, "levelOf", "(I)I"⟩
abbrev cX2_join : ByteArray := prog_4_method_7_code
def yX2_join : MethodName := ⟨RX2, "join", "(III)I"⟩
abbrev cX3_init : ByteArray := prog_5_method_1_code
def yX3_init : MethodName := ⟨RX3, "<init>", "()V"⟩
abbrev cX3_read : ByteArray := prog_5_method_2_code
def yX3_read : MethodName := ⟨RX3, "read", "(LHatchLights$Tape;)Z"⟩
abbrev cX3_goOn : ByteArray := prog_5_method_3_code
def yX3_goOn : MethodName := ⟨RX3, "goOn", "()V"⟩
abbrev cX3_refuse : ByteArray := prog_5_method_4_code
def yX3_refuse : MethodName := ⟨RX3, "refuse", "(I)Z"⟩
abbrev cX3_readLine : ByteArray := prog_5_method_5_code
def yX3_readLine : MethodName := ⟨RX3, "readLine", "()Z"⟩
abbrev cX3_mayTell : ByteArray := prog_5_method_6_code
def yX3_mayTell : MethodName := ⟨RX3, "mayTell", "(I)Z"⟩
abbrev cX3_readKind : ByteArray := prog_5_method_7_code
def yX3_readKind : MethodName := ⟨RX3, "readKind", "(I)Z"⟩
abbrev cX3_readNumber : ByteArray := prog_5_method_8_code
def yX3_readNumber : MethodName := ⟨RX3, "readNumber", "(II)Z"⟩
abbrev cX3_readNewName : ByteArray := prog_5_method_9_code
def yX3_readNewName : MethodName := ⟨RX3, "readNewName", "([JI)Z"⟩
abbrev cX3_indexOf : ByteArray := prog_5_method_10_code
def yX3_indexOf : MethodName := ⟨RX3, "indexOf", "(J[JI)I"⟩
abbrev cX3_readWord : ByteArray := prog_5_method_11_code
def yX3_readWord : MethodName := ⟨RX3, "readWord", "()Z"⟩
abbrev cX3_readComer : ByteArray := prog_5_method_12_code
def yX3_readComer : MethodName := ⟨RX3, "readComer", "()Z"⟩
abbrev cX3_readSaid : ByteArray := prog_5_method_13_code
def yX3_readSaid : MethodName := ⟨RX3, "readSaid", "(I)Z"⟩
abbrev cX3_readFormula : ByteArray := prog_5_method_14_code
def yX3_readFormula : MethodName := ⟨RX3, "readFormula", "(LHatchLights$Formula;)Z"⟩
abbrev cX3_readLevel : ByteArray := prog_5_method_15_code
def yX3_readLevel : MethodName := ⟨RX3, "readLevel", "(II)Z"⟩
abbrev cX3_readNot : ByteArray := prog_5_method_16_code
def yX3_readNot : MethodName := ⟨RX3, "readNot", "(I)Z"⟩
abbrev cX3_readUnit : ByteArray := prog_5_method_17_code
def yX3_readUnit : MethodName := ⟨RX3, "readUnit", "(I)Z"⟩
abbrev cX3_isUnitStart : ByteArray := prog_5_method_18_code
def yX3_isUnitStart : MethodName := ⟨RX3, "isUnitStart", "(I)Z"⟩
abbrev cX4_init : ByteArray := prog_6_method_1_code
def yX4_init : MethodName := ⟨RX4, "<init>", "(LHatchLights$Told;)V"⟩
abbrev cX4_begin : ByteArray := prog_6_method_2_code
def yX4_begin : MethodName := ⟨RX4, "begin", "()V"⟩
abbrev cX4_copy : ByteArray := prog_6_method_3_code
def yX4_copy : MethodName := ⟨RX4, "copy", "(LHatchLights$Scene;)V"⟩
abbrev cX4_whoIsBy : ByteArray := prog_6_method_4_code
def yX4_whoIsBy : MethodName := ⟨RX4, "whoIsBy", "()I"⟩
abbrev cX4_waiting : ByteArray := prog_6_method_5_code
def yX4_waiting : MethodName := ⟨RX4, "waiting", "()I"⟩
abbrev cX4_sayers : ByteArray := prog_6_method_6_code
def yX4_sayers : MethodName := ⟨RX4, "sayers", "(I)I"⟩
abbrev cX4_worthOf : ByteArray := prog_6_method_7_code
def yX4_worthOf : MethodName := ⟨RX4, "worthOf", "(I)I"⟩
abbrev cX4_worthSaying : ByteArray := prog_6_method_8_code
def yX4_worthSaying : MethodName := ⟨RX4, "worthSaying", "(II)I"⟩
abbrev cX4_worthInMood : ByteArray := prog_6_method_9_code
def yX4_worthInMood : MethodName := ⟨RX4, "worthInMood", "(II)I"⟩
abbrev cX4_keepsOf : ByteArray := prog_6_method_10_code
def yX4_keepsOf : MethodName := ⟨RX4, "keepsOf", "(I)I"⟩
abbrev cX4_withinKept : ByteArray := prog_6_method_11_code
def yX4_withinKept : MethodName := ⟨RX4, "withinKept", "(I)I"⟩
abbrev cX4_factsOf : ByteArray := prog_6_method_12_code
def yX4_factsOf : MethodName := ⟨RX4, "factsOf", "(II)LHatchLights$Facts;"⟩
abbrev cX4_drawWhim : ByteArray := prog_6_method_13_code
def yX4_drawWhim : MethodName := ⟨RX4, "drawWhim", "()Z"⟩
abbrev cX4_openTo : ByteArray := prog_6_method_14_code
def yX4_openTo : MethodName := ⟨RX4, "openTo", "(IZ)I"⟩
abbrev cX4_firstOf : ByteArray := prog_6_method_15_code
def yX4_firstOf : MethodName := ⟨RX4, "firstOf", "(I)I"⟩
abbrev cX4_listen : ByteArray := prog_6_method_16_code
def yX4_listen : MethodName := ⟨RX4, "listen", "(IZ)V"⟩
abbrev cX4_takeRoad : ByteArray := prog_6_method_17_code
def yX4_takeRoad : MethodName := ⟨RX4, "takeRoad", "(II)V"⟩
abbrev cX4_leave : ByteArray := prog_6_method_18_code
def yX4_leave : MethodName := ⟨RX4, "leave", "(I)V"⟩
abbrev cX4_join : ByteArray := prog_6_method_19_code
def yX4_join : MethodName := ⟨RX4, "join", "(II)V"⟩
abbrev cX4_exchange : ByteArray := prog_6_method_20_code
def yX4_exchange : MethodName := ⟨RX4, "exchange", "(II)V"⟩
abbrev cX5_init : ByteArray := prog_7_method_1_code
def yX5_init : MethodName := ⟨RX5, "<init>", "(LHatchLights$Told;)V"⟩
abbrev cX5_forget : ByteArray := prog_7_method_2_code
def yX5_forget : MethodName := ⟨RX5, "forget", "()V"⟩
abbrev cX5_add : ByteArray := prog_7_method_3_code
def yX5_add : MethodName := ⟨RX5, "add", "(IIZI)I"⟩
abbrev cX5_takeBack : ByteArray := prog_7_method_4_code
def yX5_takeBack : MethodName := ⟨RX5, "takeBack", "(II)Z"⟩
abbrev cX5_findFitting : ByteArray := prog_7_method_5_code
def yX5_findFitting : MethodName := ⟨RX5, "findFitting", "(I)I"⟩
abbrev cX5_isFitting : ByteArray := prog_7_method_6_code
def yX5_isFitting : MethodName := ⟨RX5, "isFitting", "(II)Z"⟩
abbrev cX5_makeBy : ByteArray := prog_7_method_7_code
def yX5_makeBy : MethodName := ⟨RX5, "makeBy", "()V"⟩
abbrev cX5_mostAlike : ByteArray := prog_7_method_8_code
def yX5_mostAlike : MethodName := ⟨RX5, "mostAlike", "(II)I"⟩
abbrev cX6_init : ByteArray := prog_8_method_1_code
def yX6_init : MethodName := ⟨RX6, "<init>", "()V"⟩
abbrev cX6_put : ByteArray := prog_8_method_2_code
def yX6_put : MethodName := ⟨RX6, "put", "(I)V"⟩
abbrev cX7_init : ByteArray := prog_9_method_1_code
def yX7_init : MethodName := ⟨RX7, "<init>", "()V"⟩
abbrev cX7_cut : ByteArray := prog_9_method_2_code
def yX7_cut : MethodName := ⟨RX7, "cut", "(LHatchLights$Tape;)V"⟩
abbrev cX7_skipBlanks : ByteArray := prog_9_method_3_code
def yX7_skipBlanks : MethodName := ⟨RX7, "skipBlanks", "(LHatchLights$Tape;I)I"⟩
abbrev cX7_cutEnd : ByteArray := prog_9_method_4_code
def yX7_cutEnd : MethodName := ⟨RX7, "cutEnd", "()I"⟩
abbrev cX7_cutOne : ByteArray := prog_9_method_5_code
def yX7_cutOne : MethodName := ⟨RX7, "cutOne", "(LHatchLights$Tape;I)I"⟩
abbrev cX7_cutWord : ByteArray := prog_9_method_6_code
def yX7_cutWord : MethodName := ⟨RX7, "cutWord", "(LHatchLights$Tape;I)I"⟩
abbrev cX7_kindOfWord : ByteArray := prog_9_method_7_code
def yX7_kindOfWord : MethodName := ⟨RX7, "kindOfWord", "(LHatchLights$Tape;II)I"⟩
abbrev cX7_cutNumber : ByteArray := prog_9_method_8_code
def yX7_cutNumber : MethodName := ⟨RX7, "cutNumber", "(LHatchLights$Tape;I)I"⟩
abbrev cX7_isLetter : ByteArray := prog_9_method_9_code
def yX7_isLetter : MethodName := ⟨RX7, "isLetter", "(I)Z"⟩
abbrev cX7_isDigit : ByteArray := prog_9_method_10_code
def yX7_isDigit : MethodName := ⟨RX7, "isDigit", "(I)Z"⟩
abbrev cX8_init : ByteArray := prog_10_method_1_code
def yX8_init : MethodName := ⟨RX8, "<init>", "()V"⟩
abbrev cX8_clear : ByteArray := prog_10_method_2_code
def yX8_clear : MethodName := ⟨RX8, "clear", "()V"⟩
abbrev cX8_copy : ByteArray := prog_10_method_3_code
def yX8_copy : MethodName := ⟨RX8, "copy", "(LHatchLights$Told;)V"⟩
abbrev cX8_allWords : ByteArray := prog_10_method_4_code
def yX8_allWords : MethodName := ⟨RX8, "allWords", "()I"⟩
abbrev cX8_allComers : ByteArray := prog_10_method_5_code
def yX8_allComers : MethodName := ⟨RX8, "allComers", "()I"⟩
abbrev cX9_init : ByteArray := prog_1_method_1_code
def yX9_init : MethodName := ⟨RX9, "<init>", "()V"⟩
abbrev cX9_feed : ByteArray := prog_1_method_2_code
def yX9_feed : MethodName := ⟨RX9, "feed", "(IIIII)I"⟩
abbrev cX9_end : ByteArray := prog_1_method_3_code
def yX9_end : MethodName := ⟨RX9, "end", "(I)I"⟩
abbrev cX9_crossing : ByteArray := prog_1_method_4_code
def yX9_crossing : MethodName := ⟨RX9, "crossing", "()I"⟩
abbrev cX9_fault : ByteArray := prog_1_method_5_code
def yX9_fault : MethodName := ⟨RX9, "fault", "(I)I"⟩
abbrev cX9_startAsTold : ByteArray := prog_1_method_6_code
def yX9_startAsTold : MethodName := ⟨RX9, "startAsTold", "()V"⟩
abbrev cX9_word : ByteArray := prog_1_method_7_code
def yX9_word : MethodName := ⟨RX9, "word", "(II)I"⟩
abbrev cX9_comer : ByteArray := prog_1_method_8_code
def yX9_comer : MethodName := ⟨RX9, "comer", "(II)I"⟩
abbrev cX9_worth : ByteArray := prog_1_method_9_code
def yX9_worth : MethodName := ⟨RX9, "worth", "(I)I"⟩
abbrev cX9_keeps : ByteArray := prog_1_method_10_code
def yX9_keeps : MethodName := ⟨RX9, "keeps", "(I)I"⟩
abbrev cX9_row : ByteArray := prog_1_method_11_code
def yX9_row : MethodName := ⟨RX9, "row", "(I)I"⟩
abbrev cX9_ready : ByteArray := prog_1_method_12_code
def yX9_ready : MethodName := ⟨RX9, "ready", "()I"⟩
abbrev cX9_oldest : ByteArray := prog_1_method_13_code
def yX9_oldest : MethodName := ⟨RX9, "oldest", "()I"⟩
abbrev cX9_fashion : ByteArray := prog_1_method_14_code
def yX9_fashion : MethodName := ⟨RX9, "fashion", "()I"⟩
abbrev cX9_lull : ByteArray := prog_1_method_15_code
def yX9_lull : MethodName := ⟨RX9, "lull", "(I)I"⟩
abbrev cX9_lies : ByteArray := prog_1_method_16_code
def yX9_lies : MethodName := ⟨RX9, "lies", "(I)I"⟩
abbrev cX9_about : ByteArray := prog_1_method_17_code
def yX9_about : MethodName := ⟨RX9, "about", "(I)I"⟩
abbrev cX9_isComer : ByteArray := prog_1_method_18_code
def yX9_isComer : MethodName := ⟨RX9, "isComer", "(I)Z"⟩
abbrev cX9_isWaiting : ByteArray := prog_1_method_19_code
def yX9_isWaiting : MethodName := ⟨RX9, "isWaiting", "(I)Z"⟩
abbrev cX9_isWord : ByteArray := prog_1_method_20_code
def yX9_isWord : MethodName := ⟨RX9, "isWord", "(I)Z"⟩
abbrev cX9_isRoad : ByteArray := prog_1_method_21_code
def yX9_isRoad : MethodName := ⟨RX9, "isRoad", "(I)Z"⟩
abbrev cX9_isAhead : ByteArray := prog_1_method_22_code
def yX9_isAhead : MethodName := ⟨RX9, "isAhead", "(I)Z"⟩
abbrev cX9_isEither : ByteArray := prog_1_method_23_code
def yX9_isEither : MethodName := ⟨RX9, "isEither", "(I)Z"⟩
abbrev cX9_hatch : ByteArray := prog_1_method_24_code
def yX9_hatch : MethodName := ⟨RX9, "hatch", "()I"⟩
abbrev cX9_open : ByteArray := prog_1_method_25_code
def yX9_open : MethodName := ⟨RX9, "open", "(I)I"⟩
abbrev cX9_openInEarnest : ByteArray := prog_1_method_26_code
def yX9_openInEarnest : MethodName := ⟨RX9, "openInEarnest", "(I)I"⟩
abbrev cX9_rehearse : ByteArray := prog_1_method_27_code
def yX9_rehearse : MethodName := ⟨RX9, "rehearse", "(II)I"⟩
abbrev cX9_isReason : ByteArray := prog_1_method_28_code
def yX9_isReason : MethodName := ⟨RX9, "isReason", "(I)Z"⟩
abbrev cX9_turn : ByteArray := prog_1_method_29_code
def yX9_turn : MethodName := ⟨RX9, "turn", "(II)I"⟩
abbrev cX9_revive : ByteArray := prog_1_method_30_code
def yX9_revive : MethodName := ⟨RX9, "revive", "(I)I"⟩
abbrev cX9_humour : ByteArray := prog_1_method_31_code
def yX9_humour : MethodName := ⟨RX9, "humour", "(I)I"⟩
abbrev cX9_undo : ByteArray := prog_1_method_32_code
def yX9_undo : MethodName := ⟨RX9, "undo", "()Z"⟩
abbrev cX9_redo : ByteArray := prog_1_method_33_code
def yX9_redo : MethodName := ⟨RX9, "redo", "()Z"⟩
abbrev cX9_image : ByteArray := prog_1_method_34_code
def yX9_image : MethodName := ⟨RX9, "image", "(I)I"⟩
abbrev cX9_back : ByteArray := prog_1_method_35_code
def yX9_back : MethodName := ⟨RX9, "back", "(I)I"⟩
abbrev cX9_will : ByteArray := prog_1_method_36_code
def yX9_will : MethodName := ⟨RX9, "will", "(II)I"⟩
abbrev cX9_when : ByteArray := prog_1_method_37_code
def yX9_when : MethodName := ⟨RX9, "when", "(I)I"⟩
abbrev cX9_hatchesTill : ByteArray := prog_1_method_38_code
def yX9_hatchesTill : MethodName := ⟨RX9, "hatchesTill", "(I)I"⟩
abbrev cX9_lookAhead : ByteArray := prog_1_method_39_code
def yX9_lookAhead : MethodName := ⟨RX9, "lookAhead", "(I)V"⟩
abbrev cX9_clock : ByteArray := prog_1_method_40_code
def yX9_clock : MethodName := ⟨RX9, "clock", "(I)I"⟩
abbrev cX9_temper : ByteArray := prog_1_method_41_code
def yX9_temper : MethodName := ⟨RX9, "temper", "(I)I"⟩
abbrev cX9_clears : ByteArray := prog_1_method_42_code
def yX9_clears : MethodName := ⟨RX9, "clears", "(II)I"⟩
abbrev cX9_jam : ByteArray := prog_1_method_43_code
def yX9_jam : MethodName := ⟨RX9, "jam", "()I"⟩
abbrev cX9_press : ByteArray := prog_1_method_44_code
def yX9_press : MethodName := ⟨RX9, "press", "(I)I"⟩
abbrev cX9_pressOfTrial : ByteArray := prog_1_method_45_code
def yX9_pressOfTrial : MethodName := ⟨RX9, "pressOfTrial", "(I)I"⟩
abbrev cX9_reorder : ByteArray := prog_1_method_46_code
def yX9_reorder : MethodName := ⟨RX9, "reorder", "(II)I"⟩
abbrev cX9_spends : ByteArray := prog_1_method_47_code
def yX9_spends : MethodName := ⟨RX9, "spends", "(I)I"⟩
abbrev cX9_echoes : ByteArray := prog_1_method_48_code
def yX9_echoes : MethodName := ⟨RX9, "echoes", "(II)I"⟩
abbrev cX9_best : ByteArray := prog_1_method_49_code
def yX9_best : MethodName := ⟨RX9, "best", "(II)I"⟩
abbrev cX9_soonest : ByteArray := prog_1_method_50_code
def yX9_soonest : MethodName := ⟨RX9, "soonest", "()I"⟩
abbrev cX9_allByWithin : ByteArray := prog_1_method_51_code
def yX9_allByWithin : MethodName := ⟨RX9, "allByWithin", "(II)Z"⟩
abbrev cX9_rivals : ByteArray := prog_1_method_52_code
def yX9_rivals : MethodName := ⟨RX9, "rivals", "(II)I"⟩
abbrev cX9_tryRivals : ByteArray := prog_1_method_53_code
def yX9_tryRivals : MethodName := ⟨RX9, "tryRivals", "(IIII)V"⟩
abbrev cX9_isRest : ByteArray := prog_1_method_54_code
def yX9_isRest : MethodName := ⟨RX9, "isRest", "(II)Z"⟩
abbrev cX9_shortest : ByteArray := prog_1_method_55_code
def yX9_shortest : MethodName := ⟨RX9, "shortest", "(II)I"⟩
abbrev cX9_honest : ByteArray := prog_1_method_56_code
def yX9_honest : MethodName := ⟨RX9, "honest", "(II)I"⟩
abbrev cX9_fewestWords : ByteArray := prog_1_method_57_code
def yX9_fewestWords : MethodName := ⟨RX9, "fewestWords", "(III)I"⟩
abbrev cX9_spark : ByteArray := prog_1_method_58_code
def yX9_spark : MethodName := ⟨RX9, "spark", "(II)I"⟩
abbrev cX9_drop : ByteArray := prog_1_method_59_code
def yX9_drop : MethodName := ⟨RX9, "drop", "(II)I"⟩
abbrev cX9_mostWorth : ByteArray := prog_1_method_60_code
def yX9_mostWorth : MethodName := ⟨RX9, "mostWorth", "(III)I"⟩
abbrev cX9_coax : ByteArray := prog_1_method_61_code
def yX9_coax : MethodName := ⟨RX9, "coax", "(I)I"⟩
abbrev cX9_law : ByteArray := prog_1_method_62_code
def yX9_law : MethodName := ⟨RX9, "law", "(I)I"⟩
abbrev cX9_odds : ByteArray := prog_1_method_63_code
def yX9_odds : MethodName := ⟨RX9, "odds", "(II)I"⟩
abbrev cX9_commonDivisor : ByteArray := prog_1_method_64_code
def yX9_commonDivisor : MethodName := ⟨RX9, "commonDivisor", "(II)I"⟩
abbrev cX9_seen : ByteArray := prog_1_method_65_code
def yX9_seen : MethodName := ⟨RX9, "seen", "(IIZ)I"⟩
abbrev cX9_untell : ByteArray := prog_1_method_66_code
def yX9_untell : MethodName := ⟨RX9, "untell", "(I)Z"⟩
abbrev cX9_later : ByteArray := prog_1_method_67_code
def yX9_later : MethodName := ⟨RX9, "later", "(I)I"⟩
abbrev cX9_fits : ByteArray := prog_1_method_68_code
def yX9_fits : MethodName := ⟨RX9, "fits", "(I)I"⟩
abbrev cX9_sure : ByteArray := prog_1_method_69_code
def yX9_sure : MethodName := ⟨RX9, "sure", "(II)I"⟩
abbrev cX9_ask : ByteArray := prog_1_method_70_code
def yX9_ask : MethodName := ⟨RX9, "ask", "(II)I"⟩
abbrev cX10_init : ByteArray := prog_12_method_1_code
def yX10_init : MethodName := ⟨RX10, "<init>", "()V"⟩
abbrev cX10_sign : ByteArray := prog_12_method_2_code
def yX10_sign : MethodName := ⟨RX10, "sign", "(I)I"⟩
abbrev cX10_isLetter : ByteArray := prog_12_method_3_code
def yX10_isLetter : MethodName := ⟨RX10, "isLetter", "(I)Z"⟩
abbrev cX10_isDigit : ByteArray := prog_12_method_4_code
def yX10_isDigit : MethodName := ⟨RX10, "isDigit", "(I)Z"⟩
abbrev cX10_fails : ByteArray := prog_12_method_5_code
def yX10_fails : MethodName := ⟨RX10, "fails", "(II)V"⟩
abbrev cX10_isGood : ByteArray := prog_12_method_6_code
def yX10_isGood : MethodName := ⟨RX10, "isGood", "()Z"⟩
abbrev cX10_isKept : ByteArray := prog_12_method_7_code
def yX10_isKept : MethodName := ⟨RX10, "isKept", "(J)Z"⟩
abbrev cX10_isSign : ByteArray := prog_12_method_8_code
def yX10_isSign : MethodName := ⟨RX10, "isSign", "(I)Z"⟩
abbrev cX10_goOn : ByteArray := prog_12_method_9_code
def yX10_goOn : MethodName := ⟨RX10, "goOn", "()V"⟩
abbrev cX10_isSignHere : ByteArray := prog_12_method_10_code
def yX10_isSignHere : MethodName := ⟨RX10, "isSignHere", "(I)Z"⟩
abbrev cX10_isWord : ByteArray := prog_12_method_11_code
def yX10_isWord : MethodName := ⟨RX10, "isWord", "(J)Z"⟩
abbrev cX10_misplaced : ByteArray := prog_12_method_12_code
def yX10_misplaced : MethodName := ⟨RX10, "misplaced", "()V"⟩
abbrev cX10_must : ByteArray := prog_12_method_13_code
def yX10_must : MethodName := ⟨RX10, "must", "(Z)V"⟩
abbrev cX10_numeral : ByteArray := prog_12_method_14_code
def yX10_numeral : MethodName := ⟨RX10, "numeral", "(II)I"⟩
abbrev cX10_after : ByteArray := prog_12_method_15_code
def yX10_after : MethodName := ⟨RX10, "after", "(JII)I"⟩
abbrev cX10_clearBank : ByteArray := prog_12_method_16_code
def yX10_clearBank : MethodName := ⟨RX10, "clearBank", "()V"⟩
abbrev cX10_crossing : ByteArray := prog_12_method_17_code
def yX10_crossing : MethodName := ⟨RX10, "crossing", "()I"⟩
abbrev cX10_isFull : ByteArray := prog_12_method_18_code
def yX10_isFull : MethodName := ⟨RX10, "isFull", "()Z"⟩
abbrev cX10_once : ByteArray := prog_12_method_19_code
def yX10_once : MethodName := ⟨RX10, "once", "(II)I"⟩
abbrev cX10_readLine : ByteArray := prog_12_method_20_code
def yX10_readLine : MethodName := ⟨RX10, "readLine", "()V"⟩
abbrev cX10_here : ByteArray := prog_12_method_21_code
def yX10_here : MethodName := ⟨RX10, "here", "([JII)I"⟩
abbrev cX10_wordNamed : ByteArray := prog_12_method_22_code
def yX10_wordNamed : MethodName := ⟨RX10, "wordNamed", "()I"⟩
abbrev cX10_fresh : ByteArray := prog_12_method_23_code
def yX10_fresh : MethodName := ⟨RX10, "fresh", "(I)J"⟩
abbrev cX10_readWord : ByteArray := prog_12_method_24_code
def yX10_readWord : MethodName := ⟨RX10, "readWord", "()V"⟩
abbrev cX10_readComer : ByteArray := prog_12_method_25_code
def yX10_readComer : MethodName := ⟨RX10, "readComer", "()V"⟩
abbrev cX10_readRule : ByteArray := prog_12_method_26_code
def yX10_readRule : MethodName := ⟨RX10, "readRule", "(I)V"⟩
abbrev cX10_emit : ByteArray := prog_12_method_27_code
def yX10_emit : MethodName := ⟨RX10, "emit", "(II)V"⟩
abbrev cX10_pushE : ByteArray := prog_12_method_28_code
def yX10_pushE : MethodName := ⟨RX10, "pushE", "(II)V"⟩
abbrev cX10_e : ByteArray := prog_12_method_29_code
def yX10_e : MethodName := ⟨RX10, "e", "()V"⟩
abbrev cX10_wordHere : ByteArray := prog_12_method_30_code
def yX10_wordHere : MethodName := ⟨RX10, "wordHere", "()I"⟩
abbrev cX10_unit : ByteArray := prog_12_method_31_code
def yX10_unit : MethodName := ⟨RX10, "unit", "()Z"⟩
abbrev cX10_rankHere : ByteArray := prog_12_method_32_code
def yX10_rankHere : MethodName := ⟨RX10, "rankHere", "()I"⟩
abbrev cX10_isCompared : ByteArray := prog_12_method_33_code
def yX10_isCompared : MethodName := ⟨RX10, "isCompared", "()Z"⟩
abbrev cX10_behindUnit : ByteArray := prog_12_method_34_code
def yX10_behindUnit : MethodName := ⟨RX10, "behindUnit", "()Z"⟩
abbrev cX10_two : ByteArray := prog_12_method_35_code
def yX10_two : MethodName := ⟨RX10, "two", "(III)I"⟩
abbrev cX10_asked : ByteArray := prog_12_method_36_code
def yX10_asked : MethodName := ⟨RX10, "asked", "(II)I"⟩
abbrev cX10_comes : ByteArray := prog_12_method_37_code
def yX10_comes : MethodName := ⟨RX10, "comes", "(I)I"⟩
abbrev cX10_fault : ByteArray := prog_12_method_38_code
def yX10_fault : MethodName := ⟨RX10, "fault", "(I)I"⟩
abbrev cX10_isIn : ByteArray := prog_12_method_39_code
def yX10_isIn : MethodName := ⟨RX10, "isIn", "(III)Z"⟩
abbrev cX10_held : ByteArray := prog_12_method_40_code
def yX10_held : MethodName := ⟨RX10, "held", "(III)I"⟩
abbrev cX10_bit : ByteArray := prog_12_method_41_code
def yX10_bit : MethodName := ⟨RX10, "bit", "(II)Z"⟩
abbrev cX10_bitsOf : ByteArray := prog_12_method_42_code
def yX10_bitsOf : MethodName := ⟨RX10, "bitsOf", "(I)I"⟩
abbrev cX10_divisor : ByteArray := prog_12_method_43_code
def yX10_divisor : MethodName := ⟨RX10, "divisor", "(II)I"⟩
abbrev cX10_power : ByteArray := prog_12_method_44_code
def yX10_power : MethodName := ⟨RX10, "power", "(II)I"⟩
abbrev cX10_many : ByteArray := prog_12_method_45_code
def yX10_many : MethodName := ⟨RX10, "many", "()I"⟩
abbrev cX10_kinds : ByteArray := prog_12_method_46_code
def yX10_kinds : MethodName := ⟨RX10, "kinds", "()I"⟩
abbrev cX10_isComer : ByteArray := prog_12_method_47_code
def yX10_isComer : MethodName := ⟨RX10, "isComer", "(I)Z"⟩
abbrev cX10_isWordNumber : ByteArray := prog_12_method_48_code
def yX10_isWordNumber : MethodName := ⟨RX10, "isWordNumber", "(I)Z"⟩
abbrev cX10_isRoad : ByteArray := prog_12_method_49_code
def yX10_isRoad : MethodName := ⟨RX10, "isRoad", "(I)Z"⟩
abbrev cX10_isBy : ByteArray := prog_12_method_50_code
def yX10_isBy : MethodName := ⟨RX10, "isBy", "(I)Z"⟩
abbrev cX10_isThere : ByteArray := prog_12_method_51_code
def yX10_isThere : MethodName := ⟨RX10, "isThere", "(I)Z"⟩
abbrev cX10_isAhead : ByteArray := prog_12_method_52_code
def yX10_isAhead : MethodName := ⟨RX10, "isAhead", "(I)Z"⟩
abbrev cX10_startAnew : ByteArray := prog_12_method_53_code
def yX10_startAnew : MethodName := ⟨RX10, "startAnew", "()V"⟩
abbrev cX10_layTold : ByteArray := prog_12_method_54_code
def yX10_layTold : MethodName := ⟨RX10, "layTold", "()V"⟩
abbrev cX10_thoseBy : ByteArray := prog_12_method_55_code
def yX10_thoseBy : MethodName := ⟨RX10, "thoseBy", "()I"⟩
abbrev cX10_rowOf : ByteArray := prog_12_method_56_code
def yX10_rowOf : MethodName := ⟨RX10, "rowOf", "(I)I"⟩
abbrev cX10_placeOf : ByteArray := prog_12_method_57_code
def yX10_placeOf : MethodName := ⟨RX10, "placeOf", "(I)I"⟩
abbrev cX10_firstOf : ByteArray := prog_12_method_58_code
def yX10_firstOf : MethodName := ⟨RX10, "firstOf", "(I)I"⟩
abbrev cX10_goBehind : ByteArray := prog_12_method_59_code
def yX10_goBehind : MethodName := ⟨RX10, "goBehind", "(I)V"⟩
abbrev cX10_movedBy : ByteArray := prog_12_method_60_code
def yX10_movedBy : MethodName := ⟨RX10, "movedBy", "(I)I"⟩
abbrev cX10_layAsked : ByteArray := prog_12_method_61_code
def yX10_layAsked : MethodName := ⟨RX10, "layAsked", "(II)V"⟩
abbrev cX10_worthBy : ByteArray := prog_12_method_62_code
def yX10_worthBy : MethodName := ⟨RX10, "worthBy", "(II)I"⟩
abbrev cX10_worthOf : ByteArray := prog_12_method_63_code
def yX10_worthOf : MethodName := ⟨RX10, "worthOf", "(I)I"⟩
abbrev cX10_keptBy : ByteArray := prog_12_method_64_code
def yX10_keptBy : MethodName := ⟨RX10, "keptBy", "(I)I"⟩
abbrev cX10_goHatch : ByteArray := prog_12_method_65_code
def yX10_goHatch : MethodName := ⟨RX10, "goHatch", "(IZ)I"⟩
abbrev cX10_goOnce : ByteArray := prog_12_method_66_code
def yX10_goOnce : MethodName := ⟨RX10, "goOnce", "()I"⟩
abbrev cX10_goInEarnest : ByteArray := prog_12_method_67_code
def yX10_goInEarnest : MethodName := ⟨RX10, "goInEarnest", "(I)I"⟩
abbrev cX10_sayers : ByteArray := prog_12_method_68_code
def yX10_sayers : MethodName := ⟨RX10, "sayers", "(I)I"⟩
abbrev cX10_word : ByteArray := prog_12_method_69_code
def yX10_word : MethodName := ⟨RX10, "word", "(II)I"⟩
abbrev cX10_comer : ByteArray := prog_12_method_70_code
def yX10_comer : MethodName := ⟨RX10, "comer", "(II)I"⟩
abbrev cX10_worth : ByteArray := prog_12_method_71_code
def yX10_worth : MethodName := ⟨RX10, "worth", "(I)I"⟩
abbrev cX10_keeps : ByteArray := prog_12_method_72_code
def yX10_keeps : MethodName := ⟨RX10, "keeps", "(I)I"⟩
abbrev cX10_row : ByteArray := prog_12_method_73_code
def yX10_row : MethodName := ⟨RX10, "row", "(I)I"⟩
abbrev cX10_ready : ByteArray := prog_12_method_74_code
def yX10_ready : MethodName := ⟨RX10, "ready", "()I"⟩
abbrev cX10_oldest : ByteArray := prog_12_method_75_code
def yX10_oldest : MethodName := ⟨RX10, "oldest", "()I"⟩
abbrev cX10_fashion : ByteArray := prog_12_method_76_code
def yX10_fashion : MethodName := ⟨RX10, "fashion", "()I"⟩
abbrev cX10_lull : ByteArray := prog_12_method_77_code
def yX10_lull : MethodName := ⟨RX10, "lull", "(I)I"⟩
abbrev cX10_keepAct : ByteArray := prog_12_method_78_code
def yX10_keepAct : MethodName := ⟨RX10, "keepAct", "()V"⟩
abbrev cX10_swapAll : ByteArray := prog_12_method_79_code
def yX10_swapAll : MethodName := ⟨RX10, "swapAll", "()V"⟩
abbrev cX10_open : ByteArray := prog_12_method_80_code
def yX10_open : MethodName := ⟨RX10, "open", "(I)I"⟩
abbrev cX10_hatch : ByteArray := prog_12_method_81_code
def yX10_hatch : MethodName := ⟨RX10, "hatch", "()I"⟩
abbrev cX10_rehearse : ByteArray := prog_12_method_82_code
def yX10_rehearse : MethodName := ⟨RX10, "rehearse", "(II)I"⟩
abbrev cX10_turn : ByteArray := prog_12_method_83_code
def yX10_turn : MethodName := ⟨RX10, "turn", "(II)I"⟩
abbrev cX10_revive : ByteArray := prog_12_method_84_code
def yX10_revive : MethodName := ⟨RX10, "revive", "(I)I"⟩
abbrev cX10_humour : ByteArray := prog_12_method_85_code
def yX10_humour : MethodName := ⟨RX10, "humour", "(I)I"⟩
abbrev cX10_undo : ByteArray := prog_12_method_86_code
def yX10_undo : MethodName := ⟨RX10, "undo", "()Z"⟩
abbrev cX10_redo : ByteArray := prog_12_method_87_code
def yX10_redo : MethodName := ⟨RX10, "redo", "()Z"⟩
abbrev cX10_lies : ByteArray := prog_12_method_88_code
def yX10_lies : MethodName := ⟨RX10, "lies", "(I)I"⟩
abbrev cX10_keepNow : ByteArray := prog_12_method_89_code
def yX10_keepNow : MethodName := ⟨RX10, "keepNow", "()V"⟩
abbrev cX10_bringBack : ByteArray := prog_12_method_90_code
def yX10_bringBack : MethodName := ⟨RX10, "bringBack", "()V"⟩
abbrev cX10_goHatches : ByteArray := prog_12_method_91_code
def yX10_goHatches : MethodName := ⟨RX10, "goHatches", "(III)V"⟩
abbrev cX10_will : ByteArray := prog_12_method_92_code
def yX10_will : MethodName := ⟨RX10, "will", "(II)I"⟩
abbrev cX10_clock : ByteArray := prog_12_method_93_code
def yX10_clock : MethodName := ⟨RX10, "clock", "(I)I"⟩
abbrev cX10_temper : ByteArray := prog_12_method_94_code
def yX10_temper : MethodName := ⟨RX10, "temper", "(I)I"⟩
abbrev cX10_pressIn : ByteArray := prog_12_method_95_code
def yX10_pressIn : MethodName := ⟨RX10, "pressIn", "(I)I"⟩
abbrev cX10_press : ByteArray := prog_12_method_96_code
def yX10_press : MethodName := ⟨RX10, "press", "(I)I"⟩
abbrev cX10_echoes : ByteArray := prog_12_method_97_code
def yX10_echoes : MethodName := ⟨RX10, "echoes", "(II)I"⟩
abbrev cX10_byBehind : ByteArray := prog_12_method_98_code
def yX10_byBehind : MethodName := ⟨RX10, "byBehind", "(II)I"⟩
abbrev cX10_when : ByteArray := prog_12_method_99_code
def yX10_when : MethodName := ⟨RX10, "when", "(I)I"⟩
abbrev cX10_spends : ByteArray := prog_12_method_100_code
def yX10_spends : MethodName := ⟨RX10, "spends", "(I)I"⟩
abbrev cX10_jam : ByteArray := prog_12_method_101_code
def yX10_jam : MethodName := ⟨RX10, "jam", "()I"⟩
abbrev cX10_clears : ByteArray := prog_12_method_102_code
def yX10_clears : MethodName := ⟨RX10, "clears", "(II)I"⟩
abbrev cX10_best : ByteArray := prog_12_method_103_code
def yX10_best : MethodName := ⟨RX10, "best", "(II)I"⟩
abbrev cX10_reorder : ByteArray := prog_12_method_104_code
def yX10_reorder : MethodName := ⟨RX10, "reorder", "(II)I"⟩
abbrev cX10_areAllBy : ByteArray := prog_12_method_105_code
def yX10_areAllBy : MethodName := ⟨RX10, "areAllBy", "(II)Z"⟩
abbrev cX10_soonest : ByteArray := prog_12_method_106_code
def yX10_soonest : MethodName := ⟨RX10, "soonest", "()I"⟩
abbrev cX10_fewestOf : ByteArray := prog_12_method_107_code
def yX10_fewestOf : MethodName := ⟨RX10, "fewestOf", "(III)I"⟩
abbrev cX10_shortest : ByteArray := prog_12_method_108_code
def yX10_shortest : MethodName := ⟨RX10, "shortest", "(II)I"⟩
abbrev cX10_honest : ByteArray := prog_12_method_109_code
def yX10_honest : MethodName := ⟨RX10, "honest", "(II)I"⟩
abbrev cX10_spark : ByteArray := prog_12_method_110_code
def yX10_spark : MethodName := ⟨RX10, "spark", "(II)I"⟩
abbrev cX10_drop : ByteArray := prog_12_method_111_code
def yX10_drop : MethodName := ⟨RX10, "drop", "(II)I"⟩
abbrev cX10_coax : ByteArray := prog_12_method_112_code
def yX10_coax : MethodName := ⟨RX10, "coax", "(I)I"⟩
abbrev cX10_law : ByteArray := prog_12_method_113_code
def yX10_law : MethodName := ⟨RX10, "law", "(I)I"⟩
abbrev cX10_laySooner : ByteArray := prog_12_method_114_code
def yX10_laySooner : MethodName := ⟨RX10, "laySooner", "(II)V"⟩
abbrev cX10_isRest : ByteArray := prog_12_method_115_code
def yX10_isRest : MethodName := ⟨RX10, "isRest", "(I)Z"⟩
abbrev cX10_rivals : ByteArray := prog_12_method_116_code
def yX10_rivals : MethodName := ⟨RX10, "rivals", "(II)I"⟩
abbrev cX10_odds : ByteArray := prog_12_method_117_code
def yX10_odds : MethodName := ⟨RX10, "odds", "(II)I"⟩
abbrev cX10_seen : ByteArray := prog_12_method_118_code
def yX10_seen : MethodName := ⟨RX10, "seen", "(IIZ)I"⟩
abbrev cX10_untell : ByteArray := prog_12_method_119_code
def yX10_untell : MethodName := ⟨RX10, "untell", "(I)Z"⟩
abbrev cX10_later : ByteArray := prog_12_method_120_code
def yX10_later : MethodName := ⟨RX10, "later", "(I)I"⟩
abbrev cX10_layBy : ByteArray := prog_12_method_121_code
def yX10_layBy : MethodName := ⟨RX10, "layBy", "()V"⟩
abbrev cX10_doesFit : ByteArray := prog_12_method_122_code
def yX10_doesFit : MethodName := ⟨RX10, "doesFit", "(II)Z"⟩
abbrev cX10_fits : ByteArray := prog_12_method_123_code
def yX10_fits : MethodName := ⟨RX10, "fits", "(I)I"⟩
abbrev cX10_sure : ByteArray := prog_12_method_124_code
def yX10_sure : MethodName := ⟨RX10, "sure", "(II)I"⟩
abbrev cX10_mostBehind : ByteArray := prog_12_method_125_code
def yX10_mostBehind : MethodName := ⟨RX10, "mostBehind", "(II)I"⟩
abbrev cX10_ask : ByteArray := prog_12_method_126_code
def yX10_ask : MethodName := ⟨RX10, "ask", "(II)I"⟩
abbrev cX10_image : ByteArray := prog_12_method_127_code
def yX10_image : MethodName := ⟨RX10, "image", "(I)I"⟩
abbrev cX10_back : ByteArray := prog_12_method_128_code
def yX10_back : MethodName := ⟨RX10, "back", "(I)I"⟩
abbrev cX10_about : ByteArray := prog_12_method_129_code
def yX10_about : MethodName := ⟨RX10, "about", "(I)I"⟩
abbrev cX10_feed : ByteArray := prog_12_method_130_code
def yX10_feed : MethodName := ⟨RX10, "feed", "(IIIII)I"⟩
abbrev cX10_end : ByteArray := prog_12_method_131_code
def yX10_end : MethodName := ⟨RX10, "end", "(I)I"⟩
abbrev cJ11_isValidCodePoint_9a6ad : ByteArray := prog_13_method_11_code
def yJ11_isValidCodePoint_9a6ad : MethodName := ⟨RJ11, "isValidCodePoint", "(I)Z"⟩
abbrev cJ11_highSurrogate_5068e : ByteArray := prog_13_method_28_code
def yJ11_highSurrogate_5068e : MethodName := ⟨RJ11, "highSurrogate", "(I)C"⟩
abbrev cJ11_lowSurrogate_5068e : ByteArray := prog_13_method_29_code
def yJ11_lowSurrogate_5068e : MethodName := ⟨RJ11, "lowSurrogate", "(I)C"⟩
abbrev cJ6_bitCount_0f7a4 : ByteArray := prog_14_method_49_code
def yJ6_bitCount_0f7a4 : MethodName := ⟨RJ6, "bitCount", "(I)I"⟩
abbrev cJ9_max_7cf53 : ByteArray := prog_15_method_65_code
def yJ9_max_7cf53 : MethodName := ⟨RJ9, "max", "(II)I"⟩
abbrev cJ9_min_7cf53 : ByteArray := prog_15_method_69_code
def yJ9_min_7cf53 : MethodName := ⟨RJ9, "min", "(II)I"⟩
abbrev cJ0_length_8abf5 : ByteArray := prog_16_method_54_code
def yJ0_length_8abf5 : MethodName := ⟨RJ0, "length", "()I"⟩
abbrev cJ0_charAt_5068e : ByteArray := prog_16_method_56_code
def yJ0_charAt_5068e : MethodName := ⟨RJ0, "charAt", "(I)C"⟩
abbrev cJ0_indexOf_0f7a4 : ByteArray := prog_16_method_79_code
def yJ0_indexOf_0f7a4 : MethodName := ⟨RJ0, "indexOf", "(I)I"⟩
abbrev cJ0_indexOf_7cf53 : ByteArray := prog_16_method_80_code
def yJ0_indexOf_7cf53 : MethodName := ⟨RJ0, "indexOf", "(II)I"⟩
abbrev cJ0_coder_7d493 : ByteArray := prog_16_method_152_code
def yJ0_coder_7d493 : MethodName := ⟨RJ0, "coder", "()B"⟩
abbrev cJ0_isLatin1_aae02 : ByteArray := prog_16_method_154_code
def yJ0_isLatin1_aae02 : MethodName := ⟨RJ0, "isLatin1", "()Z"⟩
abbrev cJ0_checkIndex_df160 : ByteArray := prog_16_method_155_code
def yJ0_checkIndex_df160 : MethodName := ⟨RJ0, "checkIndex", "(II)V"⟩
abbrev cJ0_checkBoundsBeginEnd_23922 : ByteArray := prog_16_method_158_code
def yJ0_checkBoundsBeginEnd_23922 : MethodName := ⟨RJ0, "checkBoundsBeginEnd", "(III)V"⟩
abbrev cJ1_charAt_3b067 : ByteArray := prog_17_method_2_code
def yJ1_charAt_3b067 : MethodName := ⟨RJ1, "charAt", "([BI)C"⟩
abbrev cJ1_canEncode_9a6ad : ByteArray := prog_17_method_4_code
def yJ1_canEncode_9a6ad : MethodName := ⟨RJ1, "canEncode", "(I)Z"⟩
abbrev cJ1_indexOf_4cfef : ByteArray := prog_17_method_22_code
def yJ1_indexOf_4cfef : MethodName := ⟨RJ1, "indexOf", "([BIII)I"⟩
abbrev cJ1_indexOfChar_4cfef : ByteArray := prog_17_method_23_code
def yJ1_indexOfChar_4cfef : MethodName := ⟨RJ1, "indexOfChar", "([BIII)I"⟩
abbrev cJ2_getChar_3b067 : ByteArray := prog_18_method_5_code
def yJ2_getChar_3b067 : MethodName := ⟨RJ2, "getChar", "([BI)C"⟩
abbrev cJ2_length_9d52b : ByteArray := prog_18_method_6_code
def yJ2_length_9d52b : MethodName := ⟨RJ2, "length", "([B)I"⟩
abbrev cJ2_indexOf_4cfef : ByteArray := prog_18_method_40_code
def yJ2_indexOf_4cfef : MethodName := ⟨RJ2, "indexOf", "([BIII)I"⟩
abbrev cJ2_indexOfChar_4cfef : ByteArray := prog_18_method_47_code
def yJ2_indexOfChar_4cfef : MethodName := ⟨RJ2, "indexOfChar", "([BIII)I"⟩
abbrev cJ2_indexOfCharUnsafe_4cfef : ByteArray := prog_18_method_48_code
def yJ2_indexOfCharUnsafe_4cfef : MethodName := ⟨RJ2, "indexOfCharUnsafe", "([BIII)I"⟩
abbrev cJ2_indexOfSupplementary_4cfef : ByteArray := prog_18_method_49_code
def yJ2_indexOfSupplementary_4cfef : MethodName := ⟨RJ2, "indexOfSupplementary", "([BIII)I"⟩
abbrev cJ2_charAt_3b067 : ByteArray := prog_18_method_83_code
def yJ2_charAt_3b067 : MethodName := ⟨RJ2, "charAt", "([BI)C"⟩
abbrev cJ2_checkIndex_2214a : ByteArray := prog_18_method_91_code
def yJ2_checkIndex_2214a : MethodName := ⟨RJ2, "checkIndex", "(I[B)V"⟩
abbrev cJ2_checkBoundsBeginEnd_d044e : ByteArray := prog_18_method_93_code
def yJ2_checkBoundsBeginEnd_d044e : MethodName := ⟨RJ2, "checkBoundsBeginEnd", "(II[B)V"⟩
abbrev cJ7_fill_53178 : ByteArray := prog_20_method_103_code
def yJ7_fill_53178 : MethodName := ⟨RJ7, "fill", "([II)V"⟩
abbrev cJ3_checkIndex_8e157 : ByteArray := prog_21_method_11_code
def yJ3_checkIndex_8e157 : MethodName := ⟨RJ3, "checkIndex", "(IILjava/util/function/BiFunction;)I"⟩
abbrev cJ3_checkFromToIndex_8c36e : ByteArray := prog_21_method_12_code
def yJ3_checkFromToIndex_8c36e : MethodName := ⟨RJ3, "checkFromToIndex", "(IIILjava/util/function/BiFunction;)I"⟩
abbrev vwCl : List vw_C := [(RX0, TX0, 4), (RX1, TX1, 6), (RX2, TX2, 4), (RX3, TX3, 12), (RX4, TX4, 13), (RX5, TX5, 13), (RX6, TX6, 2), (RX7, TX7, 4), (RX8, TX8, 13), (RX9, TX9, 15), (RX10, TX10, 68)]
set_option maxRecDepth 100000 in
theorem ex_fwX0 : GoodIn lw_tbl (u_ws RX0 TX0 4) := goodIn_r _ [445, 447, 449, 451] (by decide +kernel) (by decide +kernel)
set_option maxRecDepth 100000 in
theorem ex_fwX1 : GoodIn lw_tbl (u_ws RX1 TX1 6) := goodIn_r _ [364, 366, 368, 370, 372, 374] (by decide +kernel) (by decide +kernel)
set_option maxRecDepth 100000 in
theorem ex_fwX2 : GoodIn lw_tbl (u_ws RX2 TX2 4) := goodIn_r _ [178, 180, 182, 184] (by decide +kernel) (by decide +kernel)
set_option maxRecDepth 100000 in
theorem ex_fwX3 : GoodIn lw_tbl (u_ws RX3 TX3 12) := goodIn_r _ [313, 315, 317, 319, 321, 323, 325, 327, 329, 331, 333, 335] (by decide +kernel) (by decide +kernel)
set_option maxRecDepth 100000 in
theorem ex_fwX4 : GoodIn lw_tbl (u_ws RX4 TX4 13) := goodIn_r _ [403, 405, 407, 409, 411, 413, 415, 417, 419, 421, 423, 425, 427] (by decide +kernel) (by decide +kernel)
set_option maxRecDepth 100000 in
theorem ex_fwX5 : GoodIn lw_tbl (u_ws RX5 TX5 13) := goodIn_r _ [477, 479, 481, 483, 485, 487, 489, 491, 493, 495, 497, 499, 501] (by decide +kernel) (by decide +kernel)
set_option maxRecDepth 100000 in
theorem ex_fwX6 : GoodIn lw_tbl (u_ws RX6 TX6 2) := goodIn_r _ [150, 152] (by decide +kernel) (by decide +kernel)
set_option maxRecDepth 100000 in
theorem ex_fwX7 : GoodIn lw_tbl (u_ws RX7 TX7 4) := goodIn_r _ [288, 290, 292, 294] (by decide +kernel) (by decide +kernel)
set_option maxRecDepth 100000 in
theorem ex_fwX8 : GoodIn lw_tbl (u_ws RX8 TX8 13) := goodIn_r _ [247, 249, 251, 253, 255, 257, 259, 261, 263, 265, 267, 269, 271] (by decide +kernel) (by decide +kernel)
set_option maxRecDepth 100000 in
theorem ex_fwX9 : GoodIn lw_tbl (u_ws RX9 TX9 15) := goodIn_r _ [550, 552, 554, 556, 558, 560, 562, 564, 566, 568, 570, 572, 574, 576, 578] (by decide +kernel) (by decide +kernel)
set_option maxRecDepth 100000 in
theorem ex_fwX10 : GoodIn lw_tbl (u_ws RX10 TX10 68) := goodIn_r _ [1314, 1316, 1318, 1320, 1322, 1324, 1326, 1328, 1330, 1332, 1334, 1336, 1338, 1340, 1342, 1344, 1346, 1348, 1350, 1352, 1354, 1356, 1358, 1360, 1362, 1364, 1366, 1368, 1370, 1372, 1374, 1376, 1378, 1380, 1382, 1384, 1386, 1388, 1390, 1392, 1394, 1396, 1398, 1400, 1402, 1404, 1406, 1408, 1410, 1412, 1414, 1416, 1418, 1420, 1422, 1424, 1426, 1428, 1430, 1432, 1434, 1436, 1438, 1440, 1442, 1444, 1446, 1448] (by decide +kernel) (by decide +kernel)
