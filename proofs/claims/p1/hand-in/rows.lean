section
-- ===== PART A: goes FIRST, ahead of the names: the tables' words, and 'selects' of the private methods out of them =====
/-- a private method of a class that the tables say can be made, by its rows of tables_1 -/
def lw_okq (q : MethodName × Nat) : Prop := (q.1.cls ≠ "java/lang/invoke/MethodHandle" ∧ q.1.cls ≠ "java/lang/invoke/VarHandle") ∧ Cond.instantiable q.1.cls q.2 ∈ tables_1 ∧ Cond.privateMethod q.1 ∈ tables_1 ∧ Cond.instanceMethod q.1 ∈ tables_1
theorem lw_p0 : lw_okq (⟨"HatchLights", "startAsTold", "()V"⟩, 15) := ⟨⟨by decide +kernel, by decide +kernel⟩, List.mem_of_getElem? (i := 22) (by decide +kernel), List.mem_of_getElem? (i := 396) (by decide +kernel), List.mem_of_getElem? (i := 397) (by decide +kernel)⟩
theorem lw_p1 : lw_okq (⟨"HatchLights$Scene", "join", "(II)V"⟩, 13) := ⟨⟨by decide +kernel, by decide +kernel⟩, List.mem_of_getElem? (i := 231) (by decide +kernel), List.mem_of_getElem? (i := 407) (by decide +kernel), List.mem_of_getElem? (i := 408) (by decide +kernel)⟩
theorem lw_p2 : lw_okq (⟨"HatchLights$Tokens", "skipBlanks", "(LHatchLights$Tape;I)I"⟩, 4) := ⟨⟨by decide +kernel, by decide +kernel⟩, List.mem_of_getElem? (i := 165) (by decide +kernel), List.mem_of_getElem? (i := 497) (by decide +kernel), List.mem_of_getElem? (i := 498) (by decide +kernel)⟩
theorem lw_p3 : lw_okq (⟨"HatchLights$Tokens", "cutOne", "(LHatchLights$Tape;I)I"⟩, 4) := ⟨⟨by decide +kernel, by decide +kernel⟩, List.mem_of_getElem? (i := 165) (by decide +kernel), List.mem_of_getElem? (i := 501) (by decide +kernel), List.mem_of_getElem? (i := 502) (by decide +kernel)⟩
theorem lw_p4 : lw_okq (⟨"HatchLights$Tokens", "cutWord", "(LHatchLights$Tape;I)I"⟩, 4) := ⟨⟨by decide +kernel, by decide +kernel⟩, List.mem_of_getElem? (i := 165) (by decide +kernel), List.mem_of_getElem? (i := 508) (by decide +kernel), List.mem_of_getElem? (i := 509) (by decide +kernel)⟩
theorem lw_p5 : lw_okq (⟨"HatchLights$Tokens", "kindOfWord", "(LHatchLights$Tape;II)I"⟩, 4) := ⟨⟨by decide +kernel, by decide +kernel⟩, List.mem_of_getElem? (i := 165) (by decide +kernel), List.mem_of_getElem? (i := 513) (by decide +kernel), List.mem_of_getElem? (i := 514) (by decide +kernel)⟩
theorem lw_p6 : lw_okq (⟨"HatchLights$Tokens", "cutNumber", "(LHatchLights$Tape;I)I"⟩, 4) := ⟨⟨by decide +kernel, by decide +kernel⟩, List.mem_of_getElem? (i := 165) (by decide +kernel), List.mem_of_getElem? (i := 561) (by decide +kernel), List.mem_of_getElem? (i := 562) (by decide +kernel)⟩
theorem lw_p7 : lw_okq (⟨"HatchLights$Tokens", "cutEnd", "()I"⟩, 4) := ⟨⟨by decide +kernel, by decide +kernel⟩, List.mem_of_getElem? (i := 165) (by decide +kernel), List.mem_of_getElem? (i := 632) (by decide +kernel), List.mem_of_getElem? (i := 633) (by decide +kernel)⟩
theorem lw_p8 : lw_okq (⟨"HatchLights$Reader", "readLine", "()Z"⟩, 12) := ⟨⟨by decide +kernel, by decide +kernel⟩, List.mem_of_getElem? (i := 47) (by decide +kernel), List.mem_of_getElem? (i := 636) (by decide +kernel), List.mem_of_getElem? (i := 637) (by decide +kernel)⟩
theorem lw_p9 : lw_okq (⟨"HatchLights$Reader", "mayTell", "(I)Z"⟩, 12) := ⟨⟨by decide +kernel, by decide +kernel⟩, List.mem_of_getElem? (i := 47) (by decide +kernel), List.mem_of_getElem? (i := 640) (by decide +kernel), List.mem_of_getElem? (i := 641) (by decide +kernel)⟩
theorem lw_p10 : lw_okq (⟨"HatchLights$Reader", "refuse", "(I)Z"⟩, 12) := ⟨⟨by decide +kernel, by decide +kernel⟩, List.mem_of_getElem? (i := 47) (by decide +kernel), List.mem_of_getElem? (i := 644) (by decide +kernel), List.mem_of_getElem? (i := 645) (by decide +kernel)⟩
theorem lw_p11 : lw_okq (⟨"HatchLights$Reader", "goOn", "()V"⟩, 12) := ⟨⟨by decide +kernel, by decide +kernel⟩, List.mem_of_getElem? (i := 47) (by decide +kernel), List.mem_of_getElem? (i := 648) (by decide +kernel), List.mem_of_getElem? (i := 649) (by decide +kernel)⟩
theorem lw_p12 : lw_okq (⟨"HatchLights$Reader", "readNumber", "(II)Z"⟩, 12) := ⟨⟨by decide +kernel, by decide +kernel⟩, List.mem_of_getElem? (i := 47) (by decide +kernel), List.mem_of_getElem? (i := 652) (by decide +kernel), List.mem_of_getElem? (i := 653) (by decide +kernel)⟩
theorem lw_p13 : lw_okq (⟨"HatchLights$Reader", "readWord", "()Z"⟩, 12) := ⟨⟨by decide +kernel, by decide +kernel⟩, List.mem_of_getElem? (i := 47) (by decide +kernel), List.mem_of_getElem? (i := 656) (by decide +kernel), List.mem_of_getElem? (i := 657) (by decide +kernel)⟩
theorem lw_p14 : lw_okq (⟨"HatchLights$Reader", "readNewName", "([JI)Z"⟩, 12) := ⟨⟨by decide +kernel, by decide +kernel⟩, List.mem_of_getElem? (i := 47) (by decide +kernel), List.mem_of_getElem? (i := 660) (by decide +kernel), List.mem_of_getElem? (i := 661) (by decide +kernel)⟩
theorem lw_p15 : lw_okq (⟨"HatchLights$Reader", "readKind", "(I)Z"⟩, 12) := ⟨⟨by decide +kernel, by decide +kernel⟩, List.mem_of_getElem? (i := 47) (by decide +kernel), List.mem_of_getElem? (i := 667) (by decide +kernel), List.mem_of_getElem? (i := 668) (by decide +kernel)⟩
def lw_privs_1 : List (MethodName × Nat) := [(⟨"HatchLights", "startAsTold", "()V"⟩, 15), (⟨"HatchLights$Scene", "join", "(II)V"⟩, 13), (⟨"HatchLights$Tokens", "skipBlanks", "(LHatchLights$Tape;I)I"⟩, 4), (⟨"HatchLights$Tokens", "cutOne", "(LHatchLights$Tape;I)I"⟩, 4), (⟨"HatchLights$Tokens", "cutWord", "(LHatchLights$Tape;I)I"⟩, 4), (⟨"HatchLights$Tokens", "kindOfWord", "(LHatchLights$Tape;II)I"⟩, 4), (⟨"HatchLights$Tokens", "cutNumber", "(LHatchLights$Tape;I)I"⟩, 4), (⟨"HatchLights$Tokens", "cutEnd", "()I"⟩, 4), (⟨"HatchLights$Reader", "readLine", "()Z"⟩, 12), (⟨"HatchLights$Reader", "mayTell", "(I)Z"⟩, 12), (⟨"HatchLights$Reader", "refuse", "(I)Z"⟩, 12), (⟨"HatchLights$Reader", "goOn", "()V"⟩, 12), (⟨"HatchLights$Reader", "readNumber", "(II)Z"⟩, 12), (⟨"HatchLights$Reader", "readWord", "()Z"⟩, 12), (⟨"HatchLights$Reader", "readNewName", "([JI)Z"⟩, 12), (⟨"HatchLights$Reader", "readKind", "(I)Z"⟩, 12)]
theorem lw_r1 : ∀ q ∈ lw_privs_1, lw_okq q := List.forall_mem_cons.mpr ⟨lw_p0, List.forall_mem_cons.mpr ⟨lw_p1, List.forall_mem_cons.mpr ⟨lw_p2, List.forall_mem_cons.mpr ⟨lw_p3, List.forall_mem_cons.mpr ⟨lw_p4, List.forall_mem_cons.mpr ⟨lw_p5, List.forall_mem_cons.mpr ⟨lw_p6, List.forall_mem_cons.mpr ⟨lw_p7, List.forall_mem_cons.mpr ⟨lw_p8, List.forall_mem_cons.mpr ⟨lw_p9, List.forall_mem_cons.mpr ⟨lw_p10, List.forall_mem_cons.mpr ⟨lw_p11, List.forall_mem_cons.mpr ⟨lw_p12, List.forall_mem_cons.mpr ⟨lw_p13, List.forall_mem_cons.mpr ⟨lw_p14, List.forall_mem_cons.mpr ⟨lw_p15, fun _ h => absurd h List.not_mem_nil⟩⟩⟩⟩⟩⟩⟩⟩⟩⟩⟩⟩⟩⟩⟩⟩
theorem lw_p16 : lw_okq (⟨"HatchLights$Reader", "readComer", "()Z"⟩, 12) := ⟨⟨by decide +kernel, by decide +kernel⟩, List.mem_of_getElem? (i := 47) (by decide +kernel), List.mem_of_getElem? (i := 671) (by decide +kernel), List.mem_of_getElem? (i := 672) (by decide +kernel)⟩
theorem lw_p17 : lw_okq (⟨"HatchLights$Reader", "readSaid", "(I)Z"⟩, 12) := ⟨⟨by decide +kernel, by decide +kernel⟩, List.mem_of_getElem? (i := 47) (by decide +kernel), List.mem_of_getElem? (i := 675) (by decide +kernel), List.mem_of_getElem? (i := 676) (by decide +kernel)⟩
theorem lw_p18 : lw_okq (⟨"HatchLights$Reader", "readFormula", "(LHatchLights$Formula;)Z"⟩, 12) := ⟨⟨by decide +kernel, by decide +kernel⟩, List.mem_of_getElem? (i := 47) (by decide +kernel), List.mem_of_getElem? (i := 685) (by decide +kernel), List.mem_of_getElem? (i := 686) (by decide +kernel)⟩
theorem lw_p19 : lw_okq (⟨"HatchLights$Reader", "readLevel", "(II)Z"⟩, 12) := ⟨⟨by decide +kernel, by decide +kernel⟩, List.mem_of_getElem? (i := 47) (by decide +kernel), List.mem_of_getElem? (i := 690) (by decide +kernel), List.mem_of_getElem? (i := 691) (by decide +kernel)⟩
theorem lw_p20 : lw_okq (⟨"HatchLights$Reader", "readUnit", "(I)Z"⟩, 12) := ⟨⟨by decide +kernel, by decide +kernel⟩, List.mem_of_getElem? (i := 47) (by decide +kernel), List.mem_of_getElem? (i := 694) (by decide +kernel), List.mem_of_getElem? (i := 695) (by decide +kernel)⟩
theorem lw_p21 : lw_okq (⟨"HatchLights$Reader", "readNot", "(I)Z"⟩, 12) := ⟨⟨by decide +kernel, by decide +kernel⟩, List.mem_of_getElem? (i := 47) (by decide +kernel), List.mem_of_getElem? (i := 702) (by decide +kernel), List.mem_of_getElem? (i := 703) (by decide +kernel)⟩
theorem lw_p22 : lw_okq (⟨"HatchLights", "isWord", "(I)Z"⟩, 15) := ⟨⟨by decide +kernel, by decide +kernel⟩, List.mem_of_getElem? (i := 22) (by decide +kernel), List.mem_of_getElem? (i := 727) (by decide +kernel), List.mem_of_getElem? (i := 728) (by decide +kernel)⟩
theorem lw_p23 : lw_okq (⟨"HatchLights", "isComer", "(I)Z"⟩, 15) := ⟨⟨by decide +kernel, by decide +kernel⟩, List.mem_of_getElem? (i := 22) (by decide +kernel), List.mem_of_getElem? (i := 739) (by decide +kernel), List.mem_of_getElem? (i := 740) (by decide +kernel)⟩
theorem lw_p24 : lw_okq (⟨"HatchLights", "isWaiting", "(I)Z"⟩, 15) := ⟨⟨by decide +kernel, by decide +kernel⟩, List.mem_of_getElem? (i := 22) (by decide +kernel), List.mem_of_getElem? (i := 747) (by decide +kernel), List.mem_of_getElem? (i := 748) (by decide +kernel)⟩
theorem lw_p25 : lw_okq (⟨"HatchLights$Scene", "factsOf", "(II)LHatchLights$Facts;"⟩, 13) := ⟨⟨by decide +kernel, by decide +kernel⟩, List.mem_of_getElem? (i := 231) (by decide +kernel), List.mem_of_getElem? (i := 755) (by decide +kernel), List.mem_of_getElem? (i := 756) (by decide +kernel)⟩
theorem lw_p26 : lw_okq (⟨"HatchLights", "isRoad", "(I)Z"⟩, 15) := ⟨⟨by decide +kernel, by decide +kernel⟩, List.mem_of_getElem? (i := 22) (by decide +kernel), List.mem_of_getElem? (i := 790) (by decide +kernel), List.mem_of_getElem? (i := 791) (by decide +kernel)⟩
theorem lw_p27 : lw_okq (⟨"HatchLights", "openInEarnest", "(I)I"⟩, 15) := ⟨⟨by decide +kernel, by decide +kernel⟩, List.mem_of_getElem? (i := 22) (by decide +kernel), List.mem_of_getElem? (i := 827) (by decide +kernel), List.mem_of_getElem? (i := 828) (by decide +kernel)⟩
theorem lw_p28 : lw_okq (⟨"HatchLights$Scene", "firstOf", "(I)I"⟩, 13) := ⟨⟨by decide +kernel, by decide +kernel⟩, List.mem_of_getElem? (i := 231) (by decide +kernel), List.mem_of_getElem? (i := 839) (by decide +kernel), List.mem_of_getElem? (i := 840) (by decide +kernel)⟩
theorem lw_p29 : lw_okq (⟨"HatchLights$Scene", "listen", "(IZ)V"⟩, 13) := ⟨⟨by decide +kernel, by decide +kernel⟩, List.mem_of_getElem? (i := 231) (by decide +kernel), List.mem_of_getElem? (i := 843) (by decide +kernel), List.mem_of_getElem? (i := 844) (by decide +kernel)⟩
theorem lw_p30 : lw_okq (⟨"HatchLights$Scene", "leave", "(I)V"⟩, 13) := ⟨⟨by decide +kernel, by decide +kernel⟩, List.mem_of_getElem? (i := 231) (by decide +kernel), List.mem_of_getElem? (i := 847) (by decide +kernel), List.mem_of_getElem? (i := 848) (by decide +kernel)⟩
theorem lw_p31 : lw_okq (⟨"HatchLights$Acts", "current", "()LHatchLights$Scene;"⟩, 4) := ⟨⟨by decide +kernel, by decide +kernel⟩, List.mem_of_getElem? (i := 322) (by decide +kernel), List.mem_of_getElem? (i := 855) (by decide +kernel), List.mem_of_getElem? (i := 856) (by decide +kernel)⟩
def lw_privs_2 : List (MethodName × Nat) := [(⟨"HatchLights$Reader", "readComer", "()Z"⟩, 12), (⟨"HatchLights$Reader", "readSaid", "(I)Z"⟩, 12), (⟨"HatchLights$Reader", "readFormula", "(LHatchLights$Formula;)Z"⟩, 12), (⟨"HatchLights$Reader", "readLevel", "(II)Z"⟩, 12), (⟨"HatchLights$Reader", "readUnit", "(I)Z"⟩, 12), (⟨"HatchLights$Reader", "readNot", "(I)Z"⟩, 12), (⟨"HatchLights", "isWord", "(I)Z"⟩, 15), (⟨"HatchLights", "isComer", "(I)Z"⟩, 15), (⟨"HatchLights", "isWaiting", "(I)Z"⟩, 15), (⟨"HatchLights$Scene", "factsOf", "(II)LHatchLights$Facts;"⟩, 13), (⟨"HatchLights", "isRoad", "(I)Z"⟩, 15), (⟨"HatchLights", "openInEarnest", "(I)I"⟩, 15), (⟨"HatchLights$Scene", "firstOf", "(I)I"⟩, 13), (⟨"HatchLights$Scene", "listen", "(IZ)V"⟩, 13), (⟨"HatchLights$Scene", "leave", "(I)V"⟩, 13), (⟨"HatchLights$Acts", "current", "()LHatchLights$Scene;"⟩, 4)]
theorem lw_r2 : ∀ q ∈ lw_privs_2, lw_okq q := List.forall_mem_cons.mpr ⟨lw_p16, List.forall_mem_cons.mpr ⟨lw_p17, List.forall_mem_cons.mpr ⟨lw_p18, List.forall_mem_cons.mpr ⟨lw_p19, List.forall_mem_cons.mpr ⟨lw_p20, List.forall_mem_cons.mpr ⟨lw_p21, List.forall_mem_cons.mpr ⟨lw_p22, List.forall_mem_cons.mpr ⟨lw_p23, List.forall_mem_cons.mpr ⟨lw_p24, List.forall_mem_cons.mpr ⟨lw_p25, List.forall_mem_cons.mpr ⟨lw_p26, List.forall_mem_cons.mpr ⟨lw_p27, List.forall_mem_cons.mpr ⟨lw_p28, List.forall_mem_cons.mpr ⟨lw_p29, List.forall_mem_cons.mpr ⟨lw_p30, List.forall_mem_cons.mpr ⟨lw_p31, fun _ h => absurd h List.not_mem_nil⟩⟩⟩⟩⟩⟩⟩⟩⟩⟩⟩⟩⟩⟩⟩⟩
theorem lw_p32 : lw_okq (⟨"HatchLights", "isReason", "(I)Z"⟩, 15) := ⟨⟨by decide +kernel, by decide +kernel⟩, List.mem_of_getElem? (i := 22) (by decide +kernel), List.mem_of_getElem? (i := 867) (by decide +kernel), List.mem_of_getElem? (i := 868) (by decide +kernel)⟩
theorem lw_p33 : lw_okq (⟨"HatchLights", "hatchesTill", "(I)I"⟩, 15) := ⟨⟨by decide +kernel, by decide +kernel⟩, List.mem_of_getElem? (i := 22) (by decide +kernel), List.mem_of_getElem? (i := 930) (by decide +kernel), List.mem_of_getElem? (i := 931) (by decide +kernel)⟩
theorem lw_p34 : lw_okq (⟨"HatchLights", "lookAhead", "(I)V"⟩, 15) := ⟨⟨by decide +kernel, by decide +kernel⟩, List.mem_of_getElem? (i := 22) (by decide +kernel), List.mem_of_getElem? (i := 938) (by decide +kernel), List.mem_of_getElem? (i := 939) (by decide +kernel)⟩
theorem lw_p35 : lw_okq (⟨"HatchLights", "pressOfTrial", "(I)I"⟩, 15) := ⟨⟨by decide +kernel, by decide +kernel⟩, List.mem_of_getElem? (i := 22) (by decide +kernel), List.mem_of_getElem? (i := 962) (by decide +kernel), List.mem_of_getElem? (i := 963) (by decide +kernel)⟩
theorem lw_p36 : lw_okq (⟨"HatchLights", "allByWithin", "(II)Z"⟩, 15) := ⟨⟨by decide +kernel, by decide +kernel⟩, List.mem_of_getElem? (i := 22) (by decide +kernel), List.mem_of_getElem? (i := 994) (by decide +kernel), List.mem_of_getElem? (i := 995) (by decide +kernel)⟩
theorem lw_p37 : lw_okq (⟨"HatchLights", "tryRivals", "(IIII)V"⟩, 15) := ⟨⟨by decide +kernel, by decide +kernel⟩, List.mem_of_getElem? (i := 22) (by decide +kernel), List.mem_of_getElem? (i := 1002) (by decide +kernel), List.mem_of_getElem? (i := 1003) (by decide +kernel)⟩
theorem lw_p38 : lw_okq (⟨"HatchLights", "isRest", "(II)Z"⟩, 15) := ⟨⟨by decide +kernel, by decide +kernel⟩, List.mem_of_getElem? (i := 22) (by decide +kernel), List.mem_of_getElem? (i := 1006) (by decide +kernel), List.mem_of_getElem? (i := 1007) (by decide +kernel)⟩
theorem lw_p39 : lw_okq (⟨"HatchLights", "fewestWords", "(III)I"⟩, 15) := ⟨⟨by decide +kernel, by decide +kernel⟩, List.mem_of_getElem? (i := 22) (by decide +kernel), List.mem_of_getElem? (i := 1014) (by decide +kernel), List.mem_of_getElem? (i := 1015) (by decide +kernel)⟩
theorem lw_p40 : lw_okq (⟨"HatchLights", "mostWorth", "(III)I"⟩, 15) := ⟨⟨by decide +kernel, by decide +kernel⟩, List.mem_of_getElem? (i := 22) (by decide +kernel), List.mem_of_getElem? (i := 1030) (by decide +kernel), List.mem_of_getElem? (i := 1031) (by decide +kernel)⟩
theorem lw_p41 : lw_okq (⟨"HatchLights$Sightings", "makeBy", "()V"⟩, 13) := ⟨⟨by decide +kernel, by decide +kernel⟩, List.mem_of_getElem? (i := 345) (by decide +kernel), List.mem_of_getElem? (i := 1086) (by decide +kernel), List.mem_of_getElem? (i := 1087) (by decide +kernel)⟩
theorem lw_p42 : lw_okq (⟨"HatchLights$Sightings", "isFitting", "(II)Z"⟩, 13) := ⟨⟨by decide +kernel, by decide +kernel⟩, List.mem_of_getElem? (i := 345) (by decide +kernel), List.mem_of_getElem? (i := 1093) (by decide +kernel), List.mem_of_getElem? (i := 1094) (by decide +kernel)⟩
theorem lw_p43 : lw_okq (⟨"HatchLightsModel", "clearBank", "()V"⟩, 68) := ⟨⟨by decide +kernel, by decide +kernel⟩, List.mem_of_getElem? (i := 1111) (by decide +kernel), List.mem_of_getElem? (i := 1117) (by decide +kernel), List.mem_of_getElem? (i := 1118) (by decide +kernel)⟩
theorem lw_p44 : lw_okq (⟨"HatchLightsModel", "startAnew", "()V"⟩, 68) := ⟨⟨by decide +kernel, by decide +kernel⟩, List.mem_of_getElem? (i := 1111) (by decide +kernel), List.mem_of_getElem? (i := 1121) (by decide +kernel), List.mem_of_getElem? (i := 1122) (by decide +kernel)⟩
theorem lw_p45 : lw_okq (⟨"HatchLightsModel", "layTold", "()V"⟩, 68) := ⟨⟨by decide +kernel, by decide +kernel⟩, List.mem_of_getElem? (i := 1111) (by decide +kernel), List.mem_of_getElem? (i := 1125) (by decide +kernel), List.mem_of_getElem? (i := 1126) (by decide +kernel)⟩
theorem lw_p46 : lw_okq (⟨"HatchLightsModel", "kinds", "()I"⟩, 68) := ⟨⟨by decide +kernel, by decide +kernel⟩, List.mem_of_getElem? (i := 1111) (by decide +kernel), List.mem_of_getElem? (i := 1129) (by decide +kernel), List.mem_of_getElem? (i := 1130) (by decide +kernel)⟩
theorem lw_p47 : lw_okq (⟨"HatchLightsModel", "many", "()I"⟩, 68) := ⟨⟨by decide +kernel, by decide +kernel⟩, List.mem_of_getElem? (i := 1111) (by decide +kernel), List.mem_of_getElem? (i := 1133) (by decide +kernel), List.mem_of_getElem? (i := 1134) (by decide +kernel)⟩
def lw_privs_3 : List (MethodName × Nat) := [(⟨"HatchLights", "isReason", "(I)Z"⟩, 15), (⟨"HatchLights", "hatchesTill", "(I)I"⟩, 15), (⟨"HatchLights", "lookAhead", "(I)V"⟩, 15), (⟨"HatchLights", "pressOfTrial", "(I)I"⟩, 15), (⟨"HatchLights", "allByWithin", "(II)Z"⟩, 15), (⟨"HatchLights", "tryRivals", "(IIII)V"⟩, 15), (⟨"HatchLights", "isRest", "(II)Z"⟩, 15), (⟨"HatchLights", "fewestWords", "(III)I"⟩, 15), (⟨"HatchLights", "mostWorth", "(III)I"⟩, 15), (⟨"HatchLights$Sightings", "makeBy", "()V"⟩, 13), (⟨"HatchLights$Sightings", "isFitting", "(II)Z"⟩, 13), (⟨"HatchLightsModel", "clearBank", "()V"⟩, 68), (⟨"HatchLightsModel", "startAnew", "()V"⟩, 68), (⟨"HatchLightsModel", "layTold", "()V"⟩, 68), (⟨"HatchLightsModel", "kinds", "()I"⟩, 68), (⟨"HatchLightsModel", "many", "()I"⟩, 68)]
theorem lw_r3 : ∀ q ∈ lw_privs_3, lw_okq q := List.forall_mem_cons.mpr ⟨lw_p32, List.forall_mem_cons.mpr ⟨lw_p33, List.forall_mem_cons.mpr ⟨lw_p34, List.forall_mem_cons.mpr ⟨lw_p35, List.forall_mem_cons.mpr ⟨lw_p36, List.forall_mem_cons.mpr ⟨lw_p37, List.forall_mem_cons.mpr ⟨lw_p38, List.forall_mem_cons.mpr ⟨lw_p39, List.forall_mem_cons.mpr ⟨lw_p40, List.forall_mem_cons.mpr ⟨lw_p41, List.forall_mem_cons.mpr ⟨lw_p42, List.forall_mem_cons.mpr ⟨lw_p43, List.forall_mem_cons.mpr ⟨lw_p44, List.forall_mem_cons.mpr ⟨lw_p45, List.forall_mem_cons.mpr ⟨lw_p46, List.forall_mem_cons.mpr ⟨lw_p47, fun _ h => absurd h List.not_mem_nil⟩⟩⟩⟩⟩⟩⟩⟩⟩⟩⟩⟩⟩⟩⟩⟩
theorem lw_p48 : lw_okq (⟨"HatchLightsModel", "goOn", "()V"⟩, 68) := ⟨⟨by decide +kernel, by decide +kernel⟩, List.mem_of_getElem? (i := 1111) (by decide +kernel), List.mem_of_getElem? (i := 1346) (by decide +kernel), List.mem_of_getElem? (i := 1347) (by decide +kernel)⟩
theorem lw_p49 : lw_okq (⟨"HatchLightsModel", "sign", "(I)I"⟩, 68) := ⟨⟨by decide +kernel, by decide +kernel⟩, List.mem_of_getElem? (i := 1111) (by decide +kernel), List.mem_of_getElem? (i := 1350) (by decide +kernel), List.mem_of_getElem? (i := 1351) (by decide +kernel)⟩
theorem lw_p50 : lw_okq (⟨"HatchLightsModel", "isGood", "()Z"⟩, 68) := ⟨⟨by decide +kernel, by decide +kernel⟩, List.mem_of_getElem? (i := 1111) (by decide +kernel), List.mem_of_getElem? (i := 1386) (by decide +kernel), List.mem_of_getElem? (i := 1387) (by decide +kernel)⟩
theorem lw_p51 : lw_okq (⟨"HatchLightsModel", "readLine", "()V"⟩, 68) := ⟨⟨by decide +kernel, by decide +kernel⟩, List.mem_of_getElem? (i := 1111) (by decide +kernel), List.mem_of_getElem? (i := 1390) (by decide +kernel), List.mem_of_getElem? (i := 1391) (by decide +kernel)⟩
theorem lw_p52 : lw_okq (⟨"HatchLightsModel", "isFull", "()Z"⟩, 68) := ⟨⟨by decide +kernel, by decide +kernel⟩, List.mem_of_getElem? (i := 1111) (by decide +kernel), List.mem_of_getElem? (i := 1394) (by decide +kernel), List.mem_of_getElem? (i := 1395) (by decide +kernel)⟩
theorem lw_p53 : lw_okq (⟨"HatchLightsModel", "isWord", "(J)Z"⟩, 68) := ⟨⟨by decide +kernel, by decide +kernel⟩, List.mem_of_getElem? (i := 1111) (by decide +kernel), List.mem_of_getElem? (i := 1398) (by decide +kernel), List.mem_of_getElem? (i := 1399) (by decide +kernel)⟩
theorem lw_p54 : lw_okq (⟨"HatchLightsModel", "misplaced", "()V"⟩, 68) := ⟨⟨by decide +kernel, by decide +kernel⟩, List.mem_of_getElem? (i := 1111) (by decide +kernel), List.mem_of_getElem? (i := 1405) (by decide +kernel), List.mem_of_getElem? (i := 1406) (by decide +kernel)⟩
theorem lw_p55 : lw_okq (⟨"HatchLightsModel", "fails", "(II)V"⟩, 68) := ⟨⟨by decide +kernel, by decide +kernel⟩, List.mem_of_getElem? (i := 1111) (by decide +kernel), List.mem_of_getElem? (i := 1409) (by decide +kernel), List.mem_of_getElem? (i := 1410) (by decide +kernel)⟩
theorem lw_p56 : lw_okq (⟨"HatchLightsModel", "numeral", "(II)I"⟩, 68) := ⟨⟨by decide +kernel, by decide +kernel⟩, List.mem_of_getElem? (i := 1111) (by decide +kernel), List.mem_of_getElem? (i := 1413) (by decide +kernel), List.mem_of_getElem? (i := 1414) (by decide +kernel)⟩
theorem lw_p57 : lw_okq (⟨"HatchLightsModel", "readWord", "()V"⟩, 68) := ⟨⟨by decide +kernel, by decide +kernel⟩, List.mem_of_getElem? (i := 1111) (by decide +kernel), List.mem_of_getElem? (i := 1417) (by decide +kernel), List.mem_of_getElem? (i := 1418) (by decide +kernel)⟩
theorem lw_p58 : lw_okq (⟨"HatchLightsModel", "wordNamed", "()I"⟩, 68) := ⟨⟨by decide +kernel, by decide +kernel⟩, List.mem_of_getElem? (i := 1111) (by decide +kernel), List.mem_of_getElem? (i := 1421) (by decide +kernel), List.mem_of_getElem? (i := 1422) (by decide +kernel)⟩
theorem lw_p59 : lw_okq (⟨"HatchLightsModel", "here", "([JII)I"⟩, 68) := ⟨⟨by decide +kernel, by decide +kernel⟩, List.mem_of_getElem? (i := 1111) (by decide +kernel), List.mem_of_getElem? (i := 1425) (by decide +kernel), List.mem_of_getElem? (i := 1426) (by decide +kernel)⟩
theorem lw_p60 : lw_okq (⟨"HatchLightsModel", "fresh", "(I)J"⟩, 68) := ⟨⟨by decide +kernel, by decide +kernel⟩, List.mem_of_getElem? (i := 1111) (by decide +kernel), List.mem_of_getElem? (i := 1429) (by decide +kernel), List.mem_of_getElem? (i := 1430) (by decide +kernel)⟩
theorem lw_p61 : lw_okq (⟨"HatchLightsModel", "after", "(JII)I"⟩, 68) := ⟨⟨by decide +kernel, by decide +kernel⟩, List.mem_of_getElem? (i := 1111) (by decide +kernel), List.mem_of_getElem? (i := 1433) (by decide +kernel), List.mem_of_getElem? (i := 1434) (by decide +kernel)⟩
theorem lw_p62 : lw_okq (⟨"HatchLightsModel", "must", "(Z)V"⟩, 68) := ⟨⟨by decide +kernel, by decide +kernel⟩, List.mem_of_getElem? (i := 1111) (by decide +kernel), List.mem_of_getElem? (i := 1437) (by decide +kernel), List.mem_of_getElem? (i := 1438) (by decide +kernel)⟩
theorem lw_p63 : lw_okq (⟨"HatchLightsModel", "readComer", "()V"⟩, 68) := ⟨⟨by decide +kernel, by decide +kernel⟩, List.mem_of_getElem? (i := 1111) (by decide +kernel), List.mem_of_getElem? (i := 1441) (by decide +kernel), List.mem_of_getElem? (i := 1442) (by decide +kernel)⟩
def lw_privs_4 : List (MethodName × Nat) := [(⟨"HatchLightsModel", "goOn", "()V"⟩, 68), (⟨"HatchLightsModel", "sign", "(I)I"⟩, 68), (⟨"HatchLightsModel", "isGood", "()Z"⟩, 68), (⟨"HatchLightsModel", "readLine", "()V"⟩, 68), (⟨"HatchLightsModel", "isFull", "()Z"⟩, 68), (⟨"HatchLightsModel", "isWord", "(J)Z"⟩, 68), (⟨"HatchLightsModel", "misplaced", "()V"⟩, 68), (⟨"HatchLightsModel", "fails", "(II)V"⟩, 68), (⟨"HatchLightsModel", "numeral", "(II)I"⟩, 68), (⟨"HatchLightsModel", "readWord", "()V"⟩, 68), (⟨"HatchLightsModel", "wordNamed", "()I"⟩, 68), (⟨"HatchLightsModel", "here", "([JII)I"⟩, 68), (⟨"HatchLightsModel", "fresh", "(I)J"⟩, 68), (⟨"HatchLightsModel", "after", "(JII)I"⟩, 68), (⟨"HatchLightsModel", "must", "(Z)V"⟩, 68), (⟨"HatchLightsModel", "readComer", "()V"⟩, 68)]
theorem lw_r4 : ∀ q ∈ lw_privs_4, lw_okq q := List.forall_mem_cons.mpr ⟨lw_p48, List.forall_mem_cons.mpr ⟨lw_p49, List.forall_mem_cons.mpr ⟨lw_p50, List.forall_mem_cons.mpr ⟨lw_p51, List.forall_mem_cons.mpr ⟨lw_p52, List.forall_mem_cons.mpr ⟨lw_p53, List.forall_mem_cons.mpr ⟨lw_p54, List.forall_mem_cons.mpr ⟨lw_p55, List.forall_mem_cons.mpr ⟨lw_p56, List.forall_mem_cons.mpr ⟨lw_p57, List.forall_mem_cons.mpr ⟨lw_p58, List.forall_mem_cons.mpr ⟨lw_p59, List.forall_mem_cons.mpr ⟨lw_p60, List.forall_mem_cons.mpr ⟨lw_p61, List.forall_mem_cons.mpr ⟨lw_p62, List.forall_mem_cons.mpr ⟨lw_p63, fun _ h => absurd h List.not_mem_nil⟩⟩⟩⟩⟩⟩⟩⟩⟩⟩⟩⟩⟩⟩⟩⟩
theorem lw_p64 : lw_okq (⟨"HatchLightsModel", "once", "(II)I"⟩, 68) := ⟨⟨by decide +kernel, by decide +kernel⟩, List.mem_of_getElem? (i := 1111) (by decide +kernel), List.mem_of_getElem? (i := 1448) (by decide +kernel), List.mem_of_getElem? (i := 1449) (by decide +kernel)⟩
theorem lw_p65 : lw_okq (⟨"HatchLightsModel", "readRule", "(I)V"⟩, 68) := ⟨⟨by decide +kernel, by decide +kernel⟩, List.mem_of_getElem? (i := 1111) (by decide +kernel), List.mem_of_getElem? (i := 1452) (by decide +kernel), List.mem_of_getElem? (i := 1453) (by decide +kernel)⟩
theorem lw_p66 : lw_okq (⟨"HatchLightsModel", "e", "()V"⟩, 68) := ⟨⟨by decide +kernel, by decide +kernel⟩, List.mem_of_getElem? (i := 1111) (by decide +kernel), List.mem_of_getElem? (i := 1456) (by decide +kernel), List.mem_of_getElem? (i := 1457) (by decide +kernel)⟩
theorem lw_p67 : lw_okq (⟨"HatchLightsModel", "pushE", "(II)V"⟩, 68) := ⟨⟨by decide +kernel, by decide +kernel⟩, List.mem_of_getElem? (i := 1111) (by decide +kernel), List.mem_of_getElem? (i := 1460) (by decide +kernel), List.mem_of_getElem? (i := 1461) (by decide +kernel)⟩
theorem lw_p68 : lw_okq (⟨"HatchLightsModel", "unit", "()Z"⟩, 68) := ⟨⟨by decide +kernel, by decide +kernel⟩, List.mem_of_getElem? (i := 1111) (by decide +kernel), List.mem_of_getElem? (i := 1464) (by decide +kernel), List.mem_of_getElem? (i := 1465) (by decide +kernel)⟩
theorem lw_p69 : lw_okq (⟨"HatchLightsModel", "isSignHere", "(I)Z"⟩, 68) := ⟨⟨by decide +kernel, by decide +kernel⟩, List.mem_of_getElem? (i := 1111) (by decide +kernel), List.mem_of_getElem? (i := 1468) (by decide +kernel), List.mem_of_getElem? (i := 1469) (by decide +kernel)⟩
theorem lw_p70 : lw_okq (⟨"HatchLightsModel", "wordHere", "()I"⟩, 68) := ⟨⟨by decide +kernel, by decide +kernel⟩, List.mem_of_getElem? (i := 1111) (by decide +kernel), List.mem_of_getElem? (i := 1472) (by decide +kernel), List.mem_of_getElem? (i := 1473) (by decide +kernel)⟩
theorem lw_p71 : lw_okq (⟨"HatchLightsModel", "emit", "(II)V"⟩, 68) := ⟨⟨by decide +kernel, by decide +kernel⟩, List.mem_of_getElem? (i := 1111) (by decide +kernel), List.mem_of_getElem? (i := 1476) (by decide +kernel), List.mem_of_getElem? (i := 1477) (by decide +kernel)⟩
theorem lw_p72 : lw_okq (⟨"HatchLightsModel", "behindUnit", "()Z"⟩, 68) := ⟨⟨by decide +kernel, by decide +kernel⟩, List.mem_of_getElem? (i := 1111) (by decide +kernel), List.mem_of_getElem? (i := 1480) (by decide +kernel), List.mem_of_getElem? (i := 1481) (by decide +kernel)⟩
theorem lw_p73 : lw_okq (⟨"HatchLightsModel", "rankHere", "()I"⟩, 68) := ⟨⟨by decide +kernel, by decide +kernel⟩, List.mem_of_getElem? (i := 1111) (by decide +kernel), List.mem_of_getElem? (i := 1484) (by decide +kernel), List.mem_of_getElem? (i := 1485) (by decide +kernel)⟩
theorem lw_p74 : lw_okq (⟨"HatchLightsModel", "isCompared", "()Z"⟩, 68) := ⟨⟨by decide +kernel, by decide +kernel⟩, List.mem_of_getElem? (i := 1111) (by decide +kernel), List.mem_of_getElem? (i := 1488) (by decide +kernel), List.mem_of_getElem? (i := 1489) (by decide +kernel)⟩
theorem lw_p75 : lw_okq (⟨"HatchLightsModel", "isWordNumber", "(I)Z"⟩, 68) := ⟨⟨by decide +kernel, by decide +kernel⟩, List.mem_of_getElem? (i := 1111) (by decide +kernel), List.mem_of_getElem? (i := 1500) (by decide +kernel), List.mem_of_getElem? (i := 1501) (by decide +kernel)⟩
theorem lw_p76 : lw_okq (⟨"HatchLightsModel", "sayers", "(I)I"⟩, 68) := ⟨⟨by decide +kernel, by decide +kernel⟩, List.mem_of_getElem? (i := 1111) (by decide +kernel), List.mem_of_getElem? (i := 1507) (by decide +kernel), List.mem_of_getElem? (i := 1508) (by decide +kernel)⟩
theorem lw_p77 : lw_okq (⟨"HatchLightsModel", "isBy", "(I)Z"⟩, 68) := ⟨⟨by decide +kernel, by decide +kernel⟩, List.mem_of_getElem? (i := 1111) (by decide +kernel), List.mem_of_getElem? (i := 1511) (by decide +kernel), List.mem_of_getElem? (i := 1512) (by decide +kernel)⟩
theorem lw_p78 : lw_okq (⟨"HatchLightsModel", "isComer", "(I)Z"⟩, 68) := ⟨⟨by decide +kernel, by decide +kernel⟩, List.mem_of_getElem? (i := 1111) (by decide +kernel), List.mem_of_getElem? (i := 1519) (by decide +kernel), List.mem_of_getElem? (i := 1520) (by decide +kernel)⟩
theorem lw_p79 : lw_okq (⟨"HatchLightsModel", "placeOf", "(I)I"⟩, 68) := ⟨⟨by decide +kernel, by decide +kernel⟩, List.mem_of_getElem? (i := 1111) (by decide +kernel), List.mem_of_getElem? (i := 1523) (by decide +kernel), List.mem_of_getElem? (i := 1524) (by decide +kernel)⟩
def lw_privs_5 : List (MethodName × Nat) := [(⟨"HatchLightsModel", "once", "(II)I"⟩, 68), (⟨"HatchLightsModel", "readRule", "(I)V"⟩, 68), (⟨"HatchLightsModel", "e", "()V"⟩, 68), (⟨"HatchLightsModel", "pushE", "(II)V"⟩, 68), (⟨"HatchLightsModel", "unit", "()Z"⟩, 68), (⟨"HatchLightsModel", "isSignHere", "(I)Z"⟩, 68), (⟨"HatchLightsModel", "wordHere", "()I"⟩, 68), (⟨"HatchLightsModel", "emit", "(II)V"⟩, 68), (⟨"HatchLightsModel", "behindUnit", "()Z"⟩, 68), (⟨"HatchLightsModel", "rankHere", "()I"⟩, 68), (⟨"HatchLightsModel", "isCompared", "()Z"⟩, 68), (⟨"HatchLightsModel", "isWordNumber", "(I)Z"⟩, 68), (⟨"HatchLightsModel", "sayers", "(I)I"⟩, 68), (⟨"HatchLightsModel", "isBy", "(I)Z"⟩, 68), (⟨"HatchLightsModel", "isComer", "(I)Z"⟩, 68), (⟨"HatchLightsModel", "placeOf", "(I)I"⟩, 68)]
theorem lw_r5 : ∀ q ∈ lw_privs_5, lw_okq q := List.forall_mem_cons.mpr ⟨lw_p64, List.forall_mem_cons.mpr ⟨lw_p65, List.forall_mem_cons.mpr ⟨lw_p66, List.forall_mem_cons.mpr ⟨lw_p67, List.forall_mem_cons.mpr ⟨lw_p68, List.forall_mem_cons.mpr ⟨lw_p69, List.forall_mem_cons.mpr ⟨lw_p70, List.forall_mem_cons.mpr ⟨lw_p71, List.forall_mem_cons.mpr ⟨lw_p72, List.forall_mem_cons.mpr ⟨lw_p73, List.forall_mem_cons.mpr ⟨lw_p74, List.forall_mem_cons.mpr ⟨lw_p75, List.forall_mem_cons.mpr ⟨lw_p76, List.forall_mem_cons.mpr ⟨lw_p77, List.forall_mem_cons.mpr ⟨lw_p78, List.forall_mem_cons.mpr ⟨lw_p79, fun _ h => absurd h List.not_mem_nil⟩⟩⟩⟩⟩⟩⟩⟩⟩⟩⟩⟩⟩⟩⟩⟩
theorem lw_p80 : lw_okq (⟨"HatchLightsModel", "isThere", "(I)Z"⟩, 68) := ⟨⟨by decide +kernel, by decide +kernel⟩, List.mem_of_getElem? (i := 1111) (by decide +kernel), List.mem_of_getElem? (i := 1531) (by decide +kernel), List.mem_of_getElem? (i := 1532) (by decide +kernel)⟩
theorem lw_p81 : lw_okq (⟨"HatchLightsModel", "worthOf", "(I)I"⟩, 68) := ⟨⟨by decide +kernel, by decide +kernel⟩, List.mem_of_getElem? (i := 1111) (by decide +kernel), List.mem_of_getElem? (i := 1535) (by decide +kernel), List.mem_of_getElem? (i := 1536) (by decide +kernel)⟩
theorem lw_p82 : lw_okq (⟨"HatchLightsModel", "worthBy", "(II)I"⟩, 68) := ⟨⟨by decide +kernel, by decide +kernel⟩, List.mem_of_getElem? (i := 1111) (by decide +kernel), List.mem_of_getElem? (i := 1539) (by decide +kernel), List.mem_of_getElem? (i := 1540) (by decide +kernel)⟩
theorem lw_p83 : lw_okq (⟨"HatchLightsModel", "layAsked", "(II)V"⟩, 68) := ⟨⟨by decide +kernel, by decide +kernel⟩, List.mem_of_getElem? (i := 1111) (by decide +kernel), List.mem_of_getElem? (i := 1543) (by decide +kernel), List.mem_of_getElem? (i := 1544) (by decide +kernel)⟩
theorem lw_p84 : lw_okq (⟨"HatchLightsModel", "movedBy", "(I)I"⟩, 68) := ⟨⟨by decide +kernel, by decide +kernel⟩, List.mem_of_getElem? (i := 1111) (by decide +kernel), List.mem_of_getElem? (i := 1547) (by decide +kernel), List.mem_of_getElem? (i := 1548) (by decide +kernel)⟩
theorem lw_p85 : lw_okq (⟨"HatchLightsModel", "rowOf", "(I)I"⟩, 68) := ⟨⟨by decide +kernel, by decide +kernel⟩, List.mem_of_getElem? (i := 1111) (by decide +kernel), List.mem_of_getElem? (i := 1551) (by decide +kernel), List.mem_of_getElem? (i := 1552) (by decide +kernel)⟩
theorem lw_p86 : lw_okq (⟨"HatchLightsModel", "comes", "(I)I"⟩, 68) := ⟨⟨by decide +kernel, by decide +kernel⟩, List.mem_of_getElem? (i := 1111) (by decide +kernel), List.mem_of_getElem? (i := 1555) (by decide +kernel), List.mem_of_getElem? (i := 1556) (by decide +kernel)⟩
theorem lw_p87 : lw_okq (⟨"HatchLightsModel", "asked", "(II)I"⟩, 68) := ⟨⟨by decide +kernel, by decide +kernel⟩, List.mem_of_getElem? (i := 1111) (by decide +kernel), List.mem_of_getElem? (i := 1559) (by decide +kernel), List.mem_of_getElem? (i := 1560) (by decide +kernel)⟩
theorem lw_p88 : lw_okq (⟨"HatchLightsModel", "keptBy", "(I)I"⟩, 68) := ⟨⟨by decide +kernel, by decide +kernel⟩, List.mem_of_getElem? (i := 1111) (by decide +kernel), List.mem_of_getElem? (i := 1571) (by decide +kernel), List.mem_of_getElem? (i := 1572) (by decide +kernel)⟩
theorem lw_p89 : lw_okq (⟨"HatchLightsModel", "isRoad", "(I)Z"⟩, 68) := ⟨⟨by decide +kernel, by decide +kernel⟩, List.mem_of_getElem? (i := 1111) (by decide +kernel), List.mem_of_getElem? (i := 1582) (by decide +kernel), List.mem_of_getElem? (i := 1583) (by decide +kernel)⟩
theorem lw_p90 : lw_okq (⟨"HatchLightsModel", "firstOf", "(I)I"⟩, 68) := ⟨⟨by decide +kernel, by decide +kernel⟩, List.mem_of_getElem? (i := 1111) (by decide +kernel), List.mem_of_getElem? (i := 1590) (by decide +kernel), List.mem_of_getElem? (i := 1591) (by decide +kernel)⟩
theorem lw_p91 : lw_okq (⟨"HatchLightsModel", "keepAct", "()V"⟩, 68) := ⟨⟨by decide +kernel, by decide +kernel⟩, List.mem_of_getElem? (i := 1111) (by decide +kernel), List.mem_of_getElem? (i := 1610) (by decide +kernel), List.mem_of_getElem? (i := 1611) (by decide +kernel)⟩
theorem lw_p92 : lw_okq (⟨"HatchLightsModel", "goInEarnest", "(I)I"⟩, 68) := ⟨⟨by decide +kernel, by decide +kernel⟩, List.mem_of_getElem? (i := 1111) (by decide +kernel), List.mem_of_getElem? (i := 1614) (by decide +kernel), List.mem_of_getElem? (i := 1615) (by decide +kernel)⟩
theorem lw_p93 : lw_okq (⟨"HatchLightsModel", "goHatch", "(IZ)I"⟩, 68) := ⟨⟨by decide +kernel, by decide +kernel⟩, List.mem_of_getElem? (i := 1111) (by decide +kernel), List.mem_of_getElem? (i := 1618) (by decide +kernel), List.mem_of_getElem? (i := 1619) (by decide +kernel)⟩
theorem lw_p94 : lw_okq (⟨"HatchLightsModel", "goBehind", "(I)V"⟩, 68) := ⟨⟨by decide +kernel, by decide +kernel⟩, List.mem_of_getElem? (i := 1111) (by decide +kernel), List.mem_of_getElem? (i := 1622) (by decide +kernel), List.mem_of_getElem? (i := 1623) (by decide +kernel)⟩
theorem lw_p95 : lw_okq (⟨"HatchLightsModel", "swapAll", "()V"⟩, 68) := ⟨⟨by decide +kernel, by decide +kernel⟩, List.mem_of_getElem? (i := 1111) (by decide +kernel), List.mem_of_getElem? (i := 1651) (by decide +kernel), List.mem_of_getElem? (i := 1652) (by decide +kernel)⟩
def lw_privs_6 : List (MethodName × Nat) := [(⟨"HatchLightsModel", "isThere", "(I)Z"⟩, 68), (⟨"HatchLightsModel", "worthOf", "(I)I"⟩, 68), (⟨"HatchLightsModel", "worthBy", "(II)I"⟩, 68), (⟨"HatchLightsModel", "layAsked", "(II)V"⟩, 68), (⟨"HatchLightsModel", "movedBy", "(I)I"⟩, 68), (⟨"HatchLightsModel", "rowOf", "(I)I"⟩, 68), (⟨"HatchLightsModel", "comes", "(I)I"⟩, 68), (⟨"HatchLightsModel", "asked", "(II)I"⟩, 68), (⟨"HatchLightsModel", "keptBy", "(I)I"⟩, 68), (⟨"HatchLightsModel", "isRoad", "(I)Z"⟩, 68), (⟨"HatchLightsModel", "firstOf", "(I)I"⟩, 68), (⟨"HatchLightsModel", "keepAct", "()V"⟩, 68), (⟨"HatchLightsModel", "goInEarnest", "(I)I"⟩, 68), (⟨"HatchLightsModel", "goHatch", "(IZ)I"⟩, 68), (⟨"HatchLightsModel", "goBehind", "(I)V"⟩, 68), (⟨"HatchLightsModel", "swapAll", "()V"⟩, 68)]
theorem lw_r6 : ∀ q ∈ lw_privs_6, lw_okq q := List.forall_mem_cons.mpr ⟨lw_p80, List.forall_mem_cons.mpr ⟨lw_p81, List.forall_mem_cons.mpr ⟨lw_p82, List.forall_mem_cons.mpr ⟨lw_p83, List.forall_mem_cons.mpr ⟨lw_p84, List.forall_mem_cons.mpr ⟨lw_p85, List.forall_mem_cons.mpr ⟨lw_p86, List.forall_mem_cons.mpr ⟨lw_p87, List.forall_mem_cons.mpr ⟨lw_p88, List.forall_mem_cons.mpr ⟨lw_p89, List.forall_mem_cons.mpr ⟨lw_p90, List.forall_mem_cons.mpr ⟨lw_p91, List.forall_mem_cons.mpr ⟨lw_p92, List.forall_mem_cons.mpr ⟨lw_p93, List.forall_mem_cons.mpr ⟨lw_p94, List.forall_mem_cons.mpr ⟨lw_p95, fun _ h => absurd h List.not_mem_nil⟩⟩⟩⟩⟩⟩⟩⟩⟩⟩⟩⟩⟩⟩⟩⟩
theorem lw_p96 : lw_okq (⟨"HatchLightsModel", "keepNow", "()V"⟩, 68) := ⟨⟨by decide +kernel, by decide +kernel⟩, List.mem_of_getElem? (i := 1111) (by decide +kernel), List.mem_of_getElem? (i := 1670) (by decide +kernel), List.mem_of_getElem? (i := 1671) (by decide +kernel)⟩
theorem lw_p97 : lw_okq (⟨"HatchLightsModel", "goOnce", "()I"⟩, 68) := ⟨⟨by decide +kernel, by decide +kernel⟩, List.mem_of_getElem? (i := 1111) (by decide +kernel), List.mem_of_getElem? (i := 1674) (by decide +kernel), List.mem_of_getElem? (i := 1675) (by decide +kernel)⟩
theorem lw_p98 : lw_okq (⟨"HatchLightsModel", "thoseBy", "()I"⟩, 68) := ⟨⟨by decide +kernel, by decide +kernel⟩, List.mem_of_getElem? (i := 1111) (by decide +kernel), List.mem_of_getElem? (i := 1678) (by decide +kernel), List.mem_of_getElem? (i := 1679) (by decide +kernel)⟩
theorem lw_p99 : lw_okq (⟨"HatchLightsModel", "bringBack", "()V"⟩, 68) := ⟨⟨by decide +kernel, by decide +kernel⟩, List.mem_of_getElem? (i := 1111) (by decide +kernel), List.mem_of_getElem? (i := 1682) (by decide +kernel), List.mem_of_getElem? (i := 1683) (by decide +kernel)⟩
theorem lw_p100 : lw_okq (⟨"HatchLightsModel", "goHatches", "(III)V"⟩, 68) := ⟨⟨by decide +kernel, by decide +kernel⟩, List.mem_of_getElem? (i := 1111) (by decide +kernel), List.mem_of_getElem? (i := 1690) (by decide +kernel), List.mem_of_getElem? (i := 1691) (by decide +kernel)⟩
theorem lw_p101 : lw_okq (⟨"HatchLightsModel", "pressIn", "(I)I"⟩, 68) := ⟨⟨by decide +kernel, by decide +kernel⟩, List.mem_of_getElem? (i := 1111) (by decide +kernel), List.mem_of_getElem? (i := 1702) (by decide +kernel), List.mem_of_getElem? (i := 1703) (by decide +kernel)⟩
theorem lw_p102 : lw_okq (⟨"HatchLightsModel", "byBehind", "(II)I"⟩, 68) := ⟨⟨by decide +kernel, by decide +kernel⟩, List.mem_of_getElem? (i := 1111) (by decide +kernel), List.mem_of_getElem? (i := 1714) (by decide +kernel), List.mem_of_getElem? (i := 1715) (by decide +kernel)⟩
theorem lw_p103 : lw_okq (⟨"HatchLightsModel", "areAllBy", "(II)Z"⟩, 68) := ⟨⟨by decide +kernel, by decide +kernel⟩, List.mem_of_getElem? (i := 1111) (by decide +kernel), List.mem_of_getElem? (i := 1745) (by decide +kernel), List.mem_of_getElem? (i := 1746) (by decide +kernel)⟩
theorem lw_p104 : lw_okq (⟨"HatchLightsModel", "fewestOf", "(III)I"⟩, 68) := ⟨⟨by decide +kernel, by decide +kernel⟩, List.mem_of_getElem? (i := 1111) (by decide +kernel), List.mem_of_getElem? (i := 1753) (by decide +kernel), List.mem_of_getElem? (i := 1754) (by decide +kernel)⟩
theorem lw_p105 : lw_okq (⟨"HatchLightsModel", "laySooner", "(II)V"⟩, 68) := ⟨⟨by decide +kernel, by decide +kernel⟩, List.mem_of_getElem? (i := 1111) (by decide +kernel), List.mem_of_getElem? (i := 1781) (by decide +kernel), List.mem_of_getElem? (i := 1782) (by decide +kernel)⟩
theorem lw_p106 : lw_okq (⟨"HatchLightsModel", "isRest", "(I)Z"⟩, 68) := ⟨⟨by decide +kernel, by decide +kernel⟩, List.mem_of_getElem? (i := 1111) (by decide +kernel), List.mem_of_getElem? (i := 1785) (by decide +kernel), List.mem_of_getElem? (i := 1786) (by decide +kernel)⟩
theorem lw_p107 : lw_okq (⟨"HatchLightsModel", "layBy", "()V"⟩, 68) := ⟨⟨by decide +kernel, by decide +kernel⟩, List.mem_of_getElem? (i := 1111) (by decide +kernel), List.mem_of_getElem? (i := 1813) (by decide +kernel), List.mem_of_getElem? (i := 1814) (by decide +kernel)⟩
theorem lw_p108 : lw_okq (⟨"HatchLightsModel", "doesFit", "(II)Z"⟩, 68) := ⟨⟨by decide +kernel, by decide +kernel⟩, List.mem_of_getElem? (i := 1111) (by decide +kernel), List.mem_of_getElem? (i := 1817) (by decide +kernel), List.mem_of_getElem? (i := 1818) (by decide +kernel)⟩
theorem lw_p109 : lw_okq (⟨"HatchLightsModel", "mostBehind", "(II)I"⟩, 68) := ⟨⟨by decide +kernel, by decide +kernel⟩, List.mem_of_getElem? (i := 1111) (by decide +kernel), List.mem_of_getElem? (i := 1830) (by decide +kernel), List.mem_of_getElem? (i := 1831) (by decide +kernel)⟩
def lw_privs_7 : List (MethodName × Nat) := [(⟨"HatchLightsModel", "keepNow", "()V"⟩, 68), (⟨"HatchLightsModel", "goOnce", "()I"⟩, 68), (⟨"HatchLightsModel", "thoseBy", "()I"⟩, 68), (⟨"HatchLightsModel", "bringBack", "()V"⟩, 68), (⟨"HatchLightsModel", "goHatches", "(III)V"⟩, 68), (⟨"HatchLightsModel", "pressIn", "(I)I"⟩, 68), (⟨"HatchLightsModel", "byBehind", "(II)I"⟩, 68), (⟨"HatchLightsModel", "areAllBy", "(II)Z"⟩, 68), (⟨"HatchLightsModel", "fewestOf", "(III)I"⟩, 68), (⟨"HatchLightsModel", "laySooner", "(II)V"⟩, 68), (⟨"HatchLightsModel", "isRest", "(I)Z"⟩, 68), (⟨"HatchLightsModel", "layBy", "()V"⟩, 68), (⟨"HatchLightsModel", "doesFit", "(II)Z"⟩, 68), (⟨"HatchLightsModel", "mostBehind", "(II)I"⟩, 68)]
theorem lw_r7 : ∀ q ∈ lw_privs_7, lw_okq q := List.forall_mem_cons.mpr ⟨lw_p96, List.forall_mem_cons.mpr ⟨lw_p97, List.forall_mem_cons.mpr ⟨lw_p98, List.forall_mem_cons.mpr ⟨lw_p99, List.forall_mem_cons.mpr ⟨lw_p100, List.forall_mem_cons.mpr ⟨lw_p101, List.forall_mem_cons.mpr ⟨lw_p102, List.forall_mem_cons.mpr ⟨lw_p103, List.forall_mem_cons.mpr ⟨lw_p104, List.forall_mem_cons.mpr ⟨lw_p105, List.forall_mem_cons.mpr ⟨lw_p106, List.forall_mem_cons.mpr ⟨lw_p107, List.forall_mem_cons.mpr ⟨lw_p108, List.forall_mem_cons.mpr ⟨lw_p109, fun _ h => absurd h List.not_mem_nil⟩⟩⟩⟩⟩⟩⟩⟩⟩⟩⟩⟩⟩⟩
def lw_privs : List (MethodName × Nat) := lw_privs_1 ++ (lw_privs_2 ++ (lw_privs_3 ++ (lw_privs_4 ++ (lw_privs_5 ++ (lw_privs_6 ++ (lw_privs_7))))))
def lw_tbl : List Cond := k2_sels lw_privs ++ tables_1
theorem lw_privs_ok : ∀ q ∈ lw_privs, lw_okq q := by
  show ∀ q ∈ lw_privs_1 ++ (lw_privs_2 ++ (lw_privs_3 ++ (lw_privs_4 ++ (lw_privs_5 ++ (lw_privs_6 ++ (lw_privs_7)))))), lw_okq q
  exact List.forall_mem_append.mpr ⟨lw_r1, List.forall_mem_append.mpr ⟨lw_r2, List.forall_mem_append.mpr ⟨lw_r3, List.forall_mem_append.mpr ⟨lw_r4, List.forall_mem_append.mpr ⟨lw_r5, List.forall_mem_append.mpr ⟨lw_r6, lw_r7⟩⟩⟩⟩⟩⟩
theorem goodIn_r {big : List Cond} (ws : List Cond) (ps : List Nat) (hp : ws = ps.filterMap (fun i => big[i]?)) (h : ws.all goodWord = true) : GoodIn big ws := by
  intro w hw
  have h1 := List.all_eq_true.mp h w hw
  rw [hp] at hw
  obtain ⟨i, -, hi⟩ := List.mem_filterMap.mp hw
  have hm : w ∈ big := by first | exact List.mem_of_getElem? hi | exact List.getElem?_mem hi
  exact ⟨hm, good_of_word h1⟩
def RX0 : String := "HatchLights$Acts"
def TX0 : u_T := fun k => match k with
  | 0 => ("HatchLights$Acts", "done", "I", false)
  | 1 => ("HatchLights$Acts", "kept", "I", false)
  | 2 => ("HatchLights$Acts", "scenes", "[LHatchLights$Scene;", true)
  | _ => ("HatchLights$Acts", "oldest", "I", false)
def tyX0 : Nat → FieldType := fun k => match k with
  | 0 => .int
  | 1 => .int
  | 2 => .array (.object "HatchLights$Scene")
  | _ => .int
abbrev wsX00 : List Cond := u_ws RX0 TX0 4
theorem nmX0 : ∀ a, a < 4 → ∀ b, b < 4 → a ≠ b → (TX0 a).2.1 ≠ (TX0 b).2.1 := by decide +kernel
theorem tyX0_ok : ∀ k, k < 4 → parseFieldDescriptor (TX0 k).2.2.1 = some (tyX0 k) := by decide +kernel
def RX1 : String := "HatchLights$Facts"
def TX1 : u_T := fun k => match k with
  | 0 => ("HatchLights$Facts", "moved", "I", false)
  | 1 => ("HatchLights$Facts", "many", "I", false)
  | 2 => ("HatchLights$Facts", "waited", "I", false)
  | 3 => ("HatchLights$Facts", "behind", "I", false)
  | 4 => ("HatchLights$Facts", "mood", "I", false)
  | _ => ("HatchLights$Facts", "hatch", "I", false)
def tyX1 : Nat → FieldType := fun k => match k with
  | 0 => .int
  | 1 => .int
  | 2 => .int
  | 3 => .int
  | 4 => .int
  | _ => .int
abbrev wsX10 : List Cond := u_ws RX1 TX1 6
theorem nmX1 : ∀ a, a < 6 → ∀ b, b < 6 → a ≠ b → (TX1 a).2.1 ≠ (TX1 b).2.1 := by decide +kernel
theorem tyX1_ok : ∀ k, k < 6 → parseFieldDescriptor (TX1 k).2.2.1 = some (tyX1 k) := by decide +kernel
def RX2 : String := "HatchLights$Formula"
def TX2 : u_T := fun k => match k with
  | 0 => ("HatchLights$Formula", "kinds", "[I", true)
  | 1 => ("HatchLights$Formula", "numbers", "[I", true)
  | 2 => ("HatchLights$Formula", "stack", "[I", true)
  | _ => ("HatchLights$Formula", "size", "I", false)
def tyX2 : Nat → FieldType := fun k => match k with
  | 0 => .array .int
  | 1 => .array .int
  | 2 => .array .int
  | _ => .int
abbrev wsX20 : List Cond := u_ws RX2 TX2 4
theorem nmX2 : ∀ a, a < 4 → ∀ b, b < 4 → a ≠ b → (TX2 a).2.1 ≠ (TX2 b).2.1 := by decide +kernel
theorem tyX2_ok : ∀ k, k < 4 → parseFieldDescriptor (TX2 k).2.2.1 = some (tyX2 k) := by decide +kernel
def RX3 : String := "HatchLights$Reader"
def TX3 : u_T := fun k => match k with
  | 0 => ("HatchLights$Reader", "draft", "LHatchLights$Told;", true)
  | 1 => ("HatchLights$Reader", "fault", "I", false)
  | 2 => ("HatchLights$Reader", "place", "I", false)
  | 3 => ("HatchLights$Reader", "tokens", "LHatchLights$Tokens;", true)
  | 4 => ("HatchLights$Reader", "wordNames", "[J", true)
  | 5 => ("HatchLights$Reader", "comerNames", "[J", true)
  | 6 => ("HatchLights$Reader", "at", "I", false)
  | 7 => ("HatchLights$Reader", "kind", "I", false)
  | 8 => ("HatchLights$Reader", "number", "I", false)
  | 9 => ("HatchLights$Reader", "linesTold", "I", false)
  | 10 => ("HatchLights$Reader", "unitsHere", "I", false)
  | _ => ("HatchLights$Reader", "formula", "LHatchLights$Formula;", false)
def tyX3 : Nat → FieldType := fun k => match k with
  | 0 => .object "HatchLights$Told"
  | 1 => .int
  | 2 => .int
  | 3 => .object "HatchLights$Tokens"
  | 4 => .array .long
  | 5 => .array .long
  | 6 => .int
  | 7 => .int
  | 8 => .int
  | 9 => .int
  | 10 => .int
  | _ => .object "HatchLights$Formula"
abbrev wsX30 : List Cond := u_ws RX3 TX3 12
theorem nmX3 : ∀ a, a < 12 → ∀ b, b < 12 → a ≠ b → (TX3 a).2.1 ≠ (TX3 b).2.1 := by decide +kernel
theorem tyX3_ok : ∀ k, k < 12 → parseFieldDescriptor (TX3 k).2.2.1 = some (tyX3 k) := by decide +kernel
def RX4 : String := "HatchLights$Scene"
def TX4 : u_T := fun k => match k with
  | 0 => ("HatchLights$Scene", "road", "[I", true)
  | 1 => ("HatchLights$Scene", "place", "[I", true)
  | 2 => ("HatchLights$Scene", "reason", "[I", true)
  | 3 => ("HatchLights$Scene", "waited", "[I", true)
  | 4 => ("HatchLights$Scene", "moves", "[I", true)
  | 5 => ("HatchLights$Scene", "size", "[I", true)
  | 6 => ("HatchLights$Scene", "mood", "I", false)
  | 7 => ("HatchLights$Scene", "minutes", "I", false)
  | 8 => ("HatchLights$Scene", "hatches", "I", false)
  | 9 => ("HatchLights$Scene", "hand", "I", false)
  | 10 => ("HatchLights$Scene", "seed", "I", false)
  | 11 => ("HatchLights$Scene", "told", "LHatchLights$Told;", true)
  | _ => ("HatchLights$Scene", "facts", "LHatchLights$Facts;", true)
def tyX4 : Nat → FieldType := fun k => match k with
  | 0 => .array .int
  | 1 => .array .int
  | 2 => .array .int
  | 3 => .array .int
  | 4 => .array .int
  | 5 => .array .int
  | 6 => .int
  | 7 => .int
  | 8 => .int
  | 9 => .int
  | 10 => .int
  | 11 => .object "HatchLights$Told"
  | _ => .object "HatchLights$Facts"
abbrev wsX40 : List Cond := u_ws RX4 TX4 13
theorem nmX4 : ∀ a, a < 13 → ∀ b, b < 13 → a ≠ b → (TX4 a).2.1 ≠ (TX4 b).2.1 := by decide +kernel
theorem tyX4_ok : ∀ k, k < 13 → parseFieldDescriptor (TX4 k).2.2.1 = some (tyX4 k) := by decide +kernel
def RX5 : String := "HatchLights$Sightings"
def TX5 : u_T := fun k => match k with
  | 0 => ("HatchLights$Sightings", "count", "I", false)
  | 1 => ("HatchLights$Sightings", "fitting", "[I", true)
  | 2 => ("HatchLights$Sightings", "told", "LHatchLights$Told;", true)
  | 3 => ("HatchLights$Sightings", "scene", "LHatchLights$Scene;", true)
  | 4 => ("HatchLights$Sightings", "hatches", "[I", true)
  | 5 => ("HatchLights$Sightings", "comers", "[I", true)
  | 6 => ("HatchLights$Sightings", "was", "[Z", true)
  | 7 => ("HatchLights$Sightings", "toldAt", "[I", true)
  | 8 => ("HatchLights$Sightings", "untoldAt", "[I", true)
  | 9 => ("HatchLights$Sightings", "untold", "[Z", true)
  | 10 => ("HatchLights$Sightings", "by", "[I", true)
  | 11 => ("HatchLights$Sightings", "made", "Z", false)
  | _ => ("HatchLights$Sightings", "alike", "[I", true)
def tyX5 : Nat → FieldType := fun k => match k with
  | 0 => .int
  | 1 => .array .int
  | 2 => .object "HatchLights$Told"
  | 3 => .object "HatchLights$Scene"
  | 4 => .array .int
  | 5 => .array .int
  | 6 => .array .boolean
  | 7 => .array .int
  | 8 => .array .int
  | 9 => .array .boolean
  | 10 => .array .int
  | 11 => .boolean
  | _ => .array .int
abbrev wsX50 : List Cond := u_ws RX5 TX5 13
theorem nmX5 : ∀ a, a < 13 → ∀ b, b < 13 → a ≠ b → (TX5 a).2.1 ≠ (TX5 b).2.1 := by decide +kernel
theorem tyX5_ok : ∀ k, k < 13 → parseFieldDescriptor (TX5 k).2.2.1 = some (tyX5 k) := by decide +kernel
def RX6 : String := "HatchLights$Tape"
def TX6 : u_T := fun k => match k with
  | 0 => ("HatchLights$Tape", "bytes", "[B", true)
  | _ => ("HatchLights$Tape", "length", "I", false)
def tyX6 : Nat → FieldType := fun k => match k with
  | 0 => .array .byte
  | _ => .int
abbrev wsX60 : List Cond := u_ws RX6 TX6 2
theorem nmX6 : ∀ a, a < 2 → ∀ b, b < 2 → a ≠ b → (TX6 a).2.1 ≠ (TX6 b).2.1 := by decide +kernel
theorem tyX6_ok : ∀ k, k < 2 → parseFieldDescriptor (TX6 k).2.2.1 = some (tyX6 k) := by decide +kernel
def RX7 : String := "HatchLights$Tokens"
def TX7 : u_T := fun k => match k with
  | 0 => ("HatchLights$Tokens", "kinds", "[I", true)
  | 1 => ("HatchLights$Tokens", "places", "[I", true)
  | 2 => ("HatchLights$Tokens", "values", "[J", true)
  | _ => ("HatchLights$Tokens", "count", "I", false)
def tyX7 : Nat → FieldType := fun k => match k with
  | 0 => .array .int
  | 1 => .array .int
  | 2 => .array .long
  | _ => .int
abbrev wsX70 : List Cond := u_ws RX7 TX7 4
theorem nmX7 : ∀ a, a < 4 → ∀ b, b < 4 → a ≠ b → (TX7 a).2.1 ≠ (TX7 b).2.1 := by decide +kernel
theorem tyX7_ok : ∀ k, k < 4 → parseFieldDescriptor (TX7 k).2.2.1 = some (tyX7 k) := by decide +kernel
def RX8 : String := "HatchLights$Told"
def TX8 : u_T := fun k => match k with
  | 0 => ("HatchLights$Told", "roads", "I", false)
  | 1 => ("HatchLights$Told", "words", "I", false)
  | 2 => ("HatchLights$Told", "comers", "I", false)
  | 3 => ("HatchLights$Told", "mood", "I", false)
  | 4 => ("HatchLights$Told", "whim", "I", false)
  | 5 => ("HatchLights$Told", "draw", "I", false)
  | 6 => ("HatchLights$Told", "units", "I", false)
  | 7 => ("HatchLights$Told", "moves", "[I", true)
  | 8 => ("HatchLights$Told", "tires", "[I", true)
  | 9 => ("HatchLights$Told", "road", "[I", true)
  | 10 => ("HatchLights$Told", "reason", "[I", true)
  | 11 => ("HatchLights$Told", "worth", "LHatchLights$Formula;", true)
  | _ => ("HatchLights$Told", "keeps", "LHatchLights$Formula;", true)
def tyX8 : Nat → FieldType := fun k => match k with
  | 0 => .int
  | 1 => .int
  | 2 => .int
  | 3 => .int
  | 4 => .int
  | 5 => .int
  | 6 => .int
  | 7 => .array .int
  | 8 => .array .int
  | 9 => .array .int
  | 10 => .array .int
  | 11 => .object "HatchLights$Formula"
  | _ => .object "HatchLights$Formula"
abbrev wsX80 : List Cond := u_ws RX8 TX8 13
theorem nmX8 : ∀ a, a < 13 → ∀ b, b < 13 → a ≠ b → (TX8 a).2.1 ≠ (TX8 b).2.1 := by decide +kernel
theorem tyX8_ok : ∀ k, k < 13 → parseFieldDescriptor (TX8 k).2.2.1 = some (tyX8 k) := by decide +kernel
def RX9 : String := "HatchLights"
def TX9 : u_T := fun k => match k with
  | 0 => ("HatchLights", "tape", "LHatchLights$Tape;", true)
  | 1 => ("HatchLights", "reader", "LHatchLights$Reader;", true)
  | 2 => ("HatchLights", "told", "LHatchLights$Told;", true)
  | 3 => ("HatchLights", "now", "LHatchLights$Scene;", true)
  | 4 => ("HatchLights", "trial", "LHatchLights$Scene;", true)
  | 5 => ("HatchLights", "path", "[LHatchLights$Scene;", true)
  | 6 => ("HatchLights", "acts", "LHatchLights$Acts;", true)
  | 7 => ("HatchLights", "boxes", "[LHatchLights$Scene;", true)
  | 8 => ("HatchLights", "boxFull", "[Z", true)
  | 9 => ("HatchLights", "sightings", "LHatchLights$Sightings;", true)
  | 10 => ("HatchLights", "lying", "[I", true)
  | 11 => ("HatchLights", "delays", "[I", true)
  | 12 => ("HatchLights", "otherDelays", "[I", true)
  | 13 => ("HatchLights", "lyingCount", "I", false)
  | _ => ("HatchLights", "time", "I", false)
def tyX9 : Nat → FieldType := fun k => match k with
  | 0 => .object "HatchLights$Tape"
  | 1 => .object "HatchLights$Reader"
  | 2 => .object "HatchLights$Told"
  | 3 => .object "HatchLights$Scene"
  | 4 => .object "HatchLights$Scene"
  | 5 => .array (.object "HatchLights$Scene")
  | 6 => .object "HatchLights$Acts"
  | 7 => .array (.object "HatchLights$Scene")
  | 8 => .array .boolean
  | 9 => .object "HatchLights$Sightings"
  | 10 => .array .int
  | 11 => .array .int
  | 12 => .array .int
  | 13 => .int
  | _ => .int
abbrev wsX90 : List Cond := u_ws RX9 TX9 15
theorem nmX9 : ∀ a, a < 15 → ∀ b, b < 15 → a ≠ b → (TX9 a).2.1 ≠ (TX9 b).2.1 := by decide +kernel
theorem tyX9_ok : ∀ k, k < 15 → parseFieldDescriptor (TX9 k).2.2.1 = some (tyX9 k) := by decide +kernel
def RX10 : String := "HatchLightsModel"
def TX10 : u_T := fun k => match k with
  | 0 => ("HatchLightsModel", "tape", "[B", true)
  | 1 => ("HatchLightsModel", "text", "[B", true)
  | 2 => ("HatchLightsModel", "taped", "I", false)
  | 3 => ("HatchLightsModel", "size", "I", false)
  | 4 => ("HatchLightsModel", "faultKind", "I", false)
  | 5 => ("HatchLightsModel", "faultPlace", "I", false)
  | 6 => ("HatchLightsModel", "at", "I", false)
  | 7 => ("HatchLightsModel", "end", "I", false)
  | 8 => ("HatchLightsModel", "token", "I", false)
  | 9 => ("HatchLightsModel", "number", "I", false)
  | 10 => ("HatchLightsModel", "name", "J", false)
  | 11 => ("HatchLightsModel", "roads", "[I", true)
  | 12 => ("HatchLightsModel", "lines", "[I", true)
  | 13 => ("HatchLightsModel", "words", "[I", true)
  | 14 => ("HatchLightsModel", "comers", "[I", true)
  | 15 => ("HatchLightsModel", "units", "[I", true)
  | 16 => ("HatchLightsModel", "mood", "[I", true)
  | 17 => ("HatchLightsModel", "whim", "[I", true)
  | 18 => ("HatchLightsModel", "draw", "[I", true)
  | 19 => ("HatchLightsModel", "told", "[I", true)
  | 20 => ("HatchLightsModel", "movesTold", "[I", true)
  | 21 => ("HatchLightsModel", "tires", "[I", true)
  | 22 => ("HatchLightsModel", "roadTold", "[I", true)
  | 23 => ("HatchLightsModel", "reasonTold", "[I", true)
  | 24 => ("HatchLightsModel", "ruleFrom", "[I", true)
  | 25 => ("HatchLightsModel", "ruleTo", "[I", true)
  | 26 => ("HatchLightsModel", "wName", "[J", true)
  | 27 => ("HatchLightsModel", "cName", "[J", true)
  | 28 => ("HatchLightsModel", "code", "[I", true)
  | 29 => ("HatchLightsModel", "codeNumber", "[I", true)
  | 30 => ("HatchLightsModel", "eWhat", "[I", true)
  | 31 => ("HatchLightsModel", "eSign", "[I", true)
  | 32 => ("HatchLightsModel", "pile", "[I", true)
  | 33 => ("HatchLightsModel", "bank", "I", false)
  | 34 => ("HatchLightsModel", "rb", "I", false)
  | 35 => ("HatchLightsModel", "codes", "I", false)
  | 36 => ("HatchLightsModel", "within", "I", false)
  | 37 => ("HatchLightsModel", "piled", "I", false)
  | 38 => ("HatchLightsModel", "unitsInRule", "I", false)
  | 39 => ("HatchLightsModel", "askMoved", "I", false)
  | 40 => ("HatchLightsModel", "askMany", "I", false)
  | 41 => ("HatchLightsModel", "askWaited", "I", false)
  | 42 => ("HatchLightsModel", "askBehind", "I", false)
  | 43 => ("HatchLightsModel", "all", "[I", true)
  | 44 => ("HatchLightsModel", "thought", "I", false)
  | 45 => ("HatchLightsModel", "heard", "I", false)
  | 46 => ("HatchLightsModel", "waiting", "I", false)
  | 47 => ("HatchLightsModel", "was", "[I", true)
  | 48 => ("HatchLightsModel", "acts", "I", false)
  | 49 => ("HatchLightsModel", "undone", "I", false)
  | 50 => ("HatchLightsModel", "kept", "[I", true)
  | 51 => ("HatchLightsModel", "laidRow", "[I", true)
  | 52 => ("HatchLightsModel", "laid", "I", false)
  | 53 => ("HatchLightsModel", "waits", "I", false)
  | 54 => ("HatchLightsModel", "ownMinutes", "I", false)
  | 55 => ("HatchLightsModel", "timesHeard", "I", false)
  | 56 => ("HatchLightsModel", "sooner", "[I", true)
  | 57 => ("HatchLightsModel", "byThen", "[I", true)
  | 58 => ("HatchLightsModel", "sHatches", "[I", true)
  | 59 => ("HatchLightsModel", "sComer", "[I", true)
  | 60 => ("HatchLightsModel", "sIs", "[I", true)
  | 61 => ("HatchLightsModel", "sTold", "[I", true)
  | 62 => ("HatchLightsModel", "sUntold", "[I", true)
  | 63 => ("HatchLightsModel", "parts", "[I", true)
  | 64 => ("HatchLightsModel", "seens", "I", false)
  | 65 => ("HatchLightsModel", "time", "I", false)
  | 66 => ("HatchLightsModel", "boxAll", "[I", true)
  | _ => ("HatchLightsModel", "isBoxed", "[Z", true)
def tyX10 : Nat → FieldType := fun k => match k with
  | 0 => .array .byte
  | 1 => .array .byte
  | 2 => .int
  | 3 => .int
  | 4 => .int
  | 5 => .int
  | 6 => .int
  | 7 => .int
  | 8 => .int
  | 9 => .int
  | 10 => .long
  | 11 => .array .int
  | 12 => .array .int
  | 13 => .array .int
  | 14 => .array .int
  | 15 => .array .int
  | 16 => .array .int
  | 17 => .array .int
  | 18 => .array .int
  | 19 => .array .int
  | 20 => .array .int
  | 21 => .array .int
  | 22 => .array .int
  | 23 => .array .int
  | 24 => .array .int
  | 25 => .array .int
  | 26 => .array .long
  | 27 => .array .long
  | 28 => .array .int
  | 29 => .array .int
  | 30 => .array .int
  | 31 => .array .int
  | 32 => .array .int
  | 33 => .int
  | 34 => .int
  | 35 => .int
  | 36 => .int
  | 37 => .int
  | 38 => .int
  | 39 => .int
  | 40 => .int
  | 41 => .int
  | 42 => .int
  | 43 => .array .int
  | 44 => .int
  | 45 => .int
  | 46 => .int
  | 47 => .array .int
  | 48 => .int
  | 49 => .int
  | 50 => .array .int
  | 51 => .array .int
  | 52 => .int
  | 53 => .int
  | 54 => .int
  | 55 => .int
  | 56 => .array .int
  | 57 => .array .int
  | 58 => .array .int
  | 59 => .array .int
  | 60 => .array .int
  | 61 => .array .int
  | 62 => .array .int
  | 63 => .array .int
  | 64 => .int
  | 65 => .int
  | 66 => .array .int
  | _ => .array .boolean
abbrev wsX100 : List Cond := u_ws RX10 TX10 68
theorem nmX10 : ∀ a, a < 68 → ∀ b, b < 68 → a ≠ b → (TX10 a).2.1 ≠ (TX10 b).2.1 := by decide +kernel
theorem tyX10_ok : ∀ k, k < 68 → parseFieldDescriptor (TX10 k).2.2.1 = some (tyX10 k) := by decide +kernel
def RL : String := "HatchLightsLaw"
def RJ7 : String := "java/util/Arrays"
abbrev cX0_init : ByteArray := prog_2_method_1_code
def yX0_init : MethodName := ⟨RX0, "<init>", "(LHatchLights$Told;)V"⟩
abbrev cX0_forget : ByteArray := prog_2_method_2_code
def yX0_forget : MethodName := ⟨RX0, "forget", "(LHatchLights$Scene;)V"⟩
abbrev cX0_add : ByteArray := prog_2_method_3_code
def yX0_add : MethodName := ⟨RX0, "add", "(LHatchLights$Scene;)V"⟩
abbrev cX0_takeBack : ByteArray := prog_2_method_4_code
def yX0_takeBack : MethodName := ⟨RX0, "takeBack", "(LHatchLights$Scene;)Z"⟩
abbrev cX0_doAgain : ByteArray := prog_2_method_5_code
def yX0_doAgain : MethodName := ⟨RX0, "doAgain", "(LHatchLights$Scene;)Z"⟩
abbrev cX0_current : ByteArray := prog_2_method_6_code
def yX0_current : MethodName := ⟨RX0, "current", "()LHatchLights$Scene;"⟩
abbrev cX1_init : ByteArray := prog_3_method_1_code
def yX1_init : MethodName := ⟨RX1, "<init>", "()V"⟩
abbrev cX2_init : ByteArray := prog_4_method_1_code
def yX2_init : MethodName := ⟨RX2, "<init>", "()V"⟩
abbrev cX2_clear : ByteArray := prog_4_method_2_code
def yX2_clear : MethodName := ⟨RX2, "clear", "()V"⟩
abbrev cX2_add : ByteArray := prog_4_method_3_code
def yX2_add : MethodName := ⟨RX2, "add", "(II)V"⟩
abbrev cX2_copy : ByteArray := prog_4_method_4_code
def yX2_copy : MethodName := ⟨RX2, "copy", "(LHatchLights$Formula;)V"⟩
abbrev cX3_init : ByteArray := prog_5_method_1_code
def yX3_init : MethodName := ⟨RX3, "<init>", "()V"⟩
abbrev cX3_read : ByteArray := prog_5_method_2_code
def yX3_read : MethodName := ⟨RX3, "read", "(LHatchLights$Tape;)Z"⟩
abbrev cX4_init : ByteArray := prog_6_method_1_code
def yX4_init : MethodName := ⟨RX4, "<init>", "(LHatchLights$Told;)V"⟩
abbrev cX4_begin : ByteArray := prog_6_method_2_code
def yX4_begin : MethodName := ⟨RX4, "begin", "()V"⟩
abbrev cX4_copy : ByteArray := prog_6_method_3_code
def yX4_copy : MethodName := ⟨RX4, "copy", "(LHatchLights$Scene;)V"⟩
abbrev cX4_whoIsBy : ByteArray := prog_6_method_4_code
def yX4_whoIsBy : MethodName := ⟨RX4, "whoIsBy", "()I"⟩
abbrev cX4_waiting : ByteArray := prog_6_method_5_code
def yX4_waiting : MethodName := ⟨RX4, "waiting", "()I"⟩
abbrev cX4_drawWhim : ByteArray := prog_6_method_13_code
def yX4_drawWhim : MethodName := ⟨RX4, "drawWhim", "()Z"⟩
abbrev cX4_openTo : ByteArray := prog_6_method_14_code
def yX4_openTo : MethodName := ⟨RX4, "openTo", "(IZ)I"⟩
abbrev cX4_firstOf : ByteArray := prog_6_method_15_code
def yX4_firstOf : MethodName := ⟨RX4, "firstOf", "(I)I"⟩
abbrev cX5_init : ByteArray := prog_7_method_1_code
def yX5_init : MethodName := ⟨RX5, "<init>", "(LHatchLights$Told;)V"⟩
abbrev cX5_forget : ByteArray := prog_7_method_2_code
def yX5_forget : MethodName := ⟨RX5, "forget", "()V"⟩
abbrev cX5_takeBack : ByteArray := prog_7_method_4_code
def yX5_takeBack : MethodName := ⟨RX5, "takeBack", "(II)Z"⟩
abbrev cX5_findFitting : ByteArray := prog_7_method_5_code
def yX5_findFitting : MethodName := ⟨RX5, "findFitting", "(I)I"⟩
abbrev cX6_init : ByteArray := prog_8_method_1_code
def yX6_init : MethodName := ⟨RX6, "<init>", "()V"⟩
abbrev cX6_put : ByteArray := prog_8_method_2_code
def yX6_put : MethodName := ⟨RX6, "put", "(I)V"⟩
abbrev cX7_init : ByteArray := prog_9_method_1_code
def yX7_init : MethodName := ⟨RX7, "<init>", "()V"⟩
abbrev cX7_cut : ByteArray := prog_9_method_2_code
def yX7_cut : MethodName := ⟨RX7, "cut", "(LHatchLights$Tape;)V"⟩
abbrev cX7_skipBlanks : ByteArray := prog_9_method_3_code
def yX7_skipBlanks : MethodName := ⟨RX7, "skipBlanks", "(LHatchLights$Tape;I)I"⟩
abbrev cX7_cutEnd : ByteArray := prog_9_method_4_code
def yX7_cutEnd : MethodName := ⟨RX7, "cutEnd", "()I"⟩
abbrev cX8_init : ByteArray := prog_10_method_1_code
def yX8_init : MethodName := ⟨RX8, "<init>", "()V"⟩
abbrev cX8_clear : ByteArray := prog_10_method_2_code
def yX8_clear : MethodName := ⟨RX8, "clear", "()V"⟩
abbrev cX8_copy : ByteArray := prog_10_method_3_code
def yX8_copy : MethodName := ⟨RX8, "copy", "(LHatchLights$Told;)V"⟩
abbrev cX8_allComers : ByteArray := prog_10_method_5_code
def yX8_allComers : MethodName := ⟨RX8, "allComers", "()I"⟩
abbrev cX9_init : ByteArray := prog_1_method_1_code
def yX9_init : MethodName := ⟨RX9, "<init>", "()V"⟩
abbrev cX9_feed : ByteArray := prog_1_method_2_code
def yX9_feed : MethodName := ⟨RX9, "feed", "(IIIII)I"⟩
abbrev cX9_end : ByteArray := prog_1_method_3_code
def yX9_end : MethodName := ⟨RX9, "end", "(I)I"⟩
abbrev cX9_crossing : ByteArray := prog_1_method_4_code
def yX9_crossing : MethodName := ⟨RX9, "crossing", "()I"⟩
abbrev cX9_fault : ByteArray := prog_1_method_5_code
def yX9_fault : MethodName := ⟨RX9, "fault", "(I)I"⟩
abbrev cX9_startAsTold : ByteArray := prog_1_method_6_code
def yX9_startAsTold : MethodName := ⟨RX9, "startAsTold", "()V"⟩
abbrev cX9_word : ByteArray := prog_1_method_7_code
def yX9_word : MethodName := ⟨RX9, "word", "(II)I"⟩
abbrev cX9_comer : ByteArray := prog_1_method_8_code
def yX9_comer : MethodName := ⟨RX9, "comer", "(II)I"⟩
abbrev cX9_worth : ByteArray := prog_1_method_9_code
def yX9_worth : MethodName := ⟨RX9, "worth", "(I)I"⟩
abbrev cX9_keeps : ByteArray := prog_1_method_10_code
def yX9_keeps : MethodName := ⟨RX9, "keeps", "(I)I"⟩
abbrev cX9_row : ByteArray := prog_1_method_11_code
def yX9_row : MethodName := ⟨RX9, "row", "(I)I"⟩
abbrev cX9_ready : ByteArray := prog_1_method_12_code
def yX9_ready : MethodName := ⟨RX9, "ready", "()I"⟩
abbrev cX9_oldest : ByteArray := prog_1_method_13_code
def yX9_oldest : MethodName := ⟨RX9, "oldest", "()I"⟩
abbrev cX9_fashion : ByteArray := prog_1_method_14_code
def yX9_fashion : MethodName := ⟨RX9, "fashion", "()I"⟩
abbrev cX9_lull : ByteArray := prog_1_method_15_code
def yX9_lull : MethodName := ⟨RX9, "lull", "(I)I"⟩
abbrev cX9_lies : ByteArray := prog_1_method_16_code
def yX9_lies : MethodName := ⟨RX9, "lies", "(I)I"⟩
abbrev cX9_about : ByteArray := prog_1_method_17_code
def yX9_about : MethodName := ⟨RX9, "about", "(I)I"⟩
abbrev cX9_isComer : ByteArray := prog_1_method_18_code
def yX9_isComer : MethodName := ⟨RX9, "isComer", "(I)Z"⟩
abbrev cX9_isWaiting : ByteArray := prog_1_method_19_code
def yX9_isWaiting : MethodName := ⟨RX9, "isWaiting", "(I)Z"⟩
abbrev cX9_isWord : ByteArray := prog_1_method_20_code
def yX9_isWord : MethodName := ⟨RX9, "isWord", "(I)Z"⟩
abbrev cX9_isRoad : ByteArray := prog_1_method_21_code
def yX9_isRoad : MethodName := ⟨RX9, "isRoad", "(I)Z"⟩
abbrev cX9_isAhead : ByteArray := prog_1_method_22_code
def yX9_isAhead : MethodName := ⟨RX9, "isAhead", "(I)Z"⟩
abbrev cX9_isEither : ByteArray := prog_1_method_23_code
def yX9_isEither : MethodName := ⟨RX9, "isEither", "(I)Z"⟩
abbrev cX9_hatch : ByteArray := prog_1_method_24_code
def yX9_hatch : MethodName := ⟨RX9, "hatch", "()I"⟩
abbrev cX9_open : ByteArray := prog_1_method_25_code
def yX9_open : MethodName := ⟨RX9, "open", "(I)I"⟩
abbrev cX9_openInEarnest : ByteArray := prog_1_method_26_code
def yX9_openInEarnest : MethodName := ⟨RX9, "openInEarnest", "(I)I"⟩
abbrev cX9_rehearse : ByteArray := prog_1_method_27_code
def yX9_rehearse : MethodName := ⟨RX9, "rehearse", "(II)I"⟩
abbrev cX9_turn : ByteArray := prog_1_method_29_code
def yX9_turn : MethodName := ⟨RX9, "turn", "(II)I"⟩
abbrev cX9_revive : ByteArray := prog_1_method_30_code
def yX9_revive : MethodName := ⟨RX9, "revive", "(I)I"⟩
abbrev cX9_humour : ByteArray := prog_1_method_31_code
def yX9_humour : MethodName := ⟨RX9, "humour", "(I)I"⟩
abbrev cX9_undo : ByteArray := prog_1_method_32_code
def yX9_undo : MethodName := ⟨RX9, "undo", "()Z"⟩
abbrev cX9_redo : ByteArray := prog_1_method_33_code
def yX9_redo : MethodName := ⟨RX9, "redo", "()Z"⟩
abbrev cX9_image : ByteArray := prog_1_method_34_code
def yX9_image : MethodName := ⟨RX9, "image", "(I)I"⟩
abbrev cX9_back : ByteArray := prog_1_method_35_code
def yX9_back : MethodName := ⟨RX9, "back", "(I)I"⟩
abbrev cX9_will : ByteArray := prog_1_method_36_code
def yX9_will : MethodName := ⟨RX9, "will", "(II)I"⟩
abbrev cX9_when : ByteArray := prog_1_method_37_code
def yX9_when : MethodName := ⟨RX9, "when", "(I)I"⟩
abbrev cX9_lookAhead : ByteArray := prog_1_method_39_code
def yX9_lookAhead : MethodName := ⟨RX9, "lookAhead", "(I)V"⟩
abbrev cX9_clock : ByteArray := prog_1_method_40_code
def yX9_clock : MethodName := ⟨RX9, "clock", "(I)I"⟩
abbrev cX9_temper : ByteArray := prog_1_method_41_code
def yX9_temper : MethodName := ⟨RX9, "temper", "(I)I"⟩
abbrev cX9_clears : ByteArray := prog_1_method_42_code
def yX9_clears : MethodName := ⟨RX9, "clears", "(II)I"⟩
abbrev cX9_jam : ByteArray := prog_1_method_43_code
def yX9_jam : MethodName := ⟨RX9, "jam", "()I"⟩
abbrev cX9_press : ByteArray := prog_1_method_44_code
def yX9_press : MethodName := ⟨RX9, "press", "(I)I"⟩
abbrev cX9_pressOfTrial : ByteArray := prog_1_method_45_code
def yX9_pressOfTrial : MethodName := ⟨RX9, "pressOfTrial", "(I)I"⟩
abbrev cX9_reorder : ByteArray := prog_1_method_46_code
def yX9_reorder : MethodName := ⟨RX9, "reorder", "(II)I"⟩
abbrev cX9_spends : ByteArray := prog_1_method_47_code
def yX9_spends : MethodName := ⟨RX9, "spends", "(I)I"⟩
abbrev cX9_echoes : ByteArray := prog_1_method_48_code
def yX9_echoes : MethodName := ⟨RX9, "echoes", "(II)I"⟩
abbrev cX9_best : ByteArray := prog_1_method_49_code
def yX9_best : MethodName := ⟨RX9, "best", "(II)I"⟩
abbrev cX9_soonest : ByteArray := prog_1_method_50_code
def yX9_soonest : MethodName := ⟨RX9, "soonest", "()I"⟩
abbrev cX9_allByWithin : ByteArray := prog_1_method_51_code
def yX9_allByWithin : MethodName := ⟨RX9, "allByWithin", "(II)Z"⟩
abbrev cX9_rivals : ByteArray := prog_1_method_52_code
def yX9_rivals : MethodName := ⟨RX9, "rivals", "(II)I"⟩
abbrev cX9_shortest : ByteArray := prog_1_method_55_code
def yX9_shortest : MethodName := ⟨RX9, "shortest", "(II)I"⟩
abbrev cX9_honest : ByteArray := prog_1_method_56_code
def yX9_honest : MethodName := ⟨RX9, "honest", "(II)I"⟩
abbrev cX9_spark : ByteArray := prog_1_method_58_code
def yX9_spark : MethodName := ⟨RX9, "spark", "(II)I"⟩
abbrev cX9_drop : ByteArray := prog_1_method_59_code
def yX9_drop : MethodName := ⟨RX9, "drop", "(II)I"⟩
abbrev cX9_coax : ByteArray := prog_1_method_61_code
def yX9_coax : MethodName := ⟨RX9, "coax", "(I)I"⟩
abbrev cX9_law : ByteArray := prog_1_method_62_code
def yX9_law : MethodName := ⟨RX9, "law", "(I)I"⟩
abbrev cX9_odds : ByteArray := prog_1_method_63_code
def yX9_odds : MethodName := ⟨RX9, "odds", "(II)I"⟩
abbrev cX9_commonDivisor : ByteArray := prog_1_method_64_code
def yX9_commonDivisor : MethodName := ⟨RX9, "commonDivisor", "(II)I"⟩
abbrev cX9_seen : ByteArray := prog_1_method_65_code
def yX9_seen : MethodName := ⟨RX9, "seen", "(IIZ)I"⟩
abbrev cX9_untell : ByteArray := prog_1_method_66_code
def yX9_untell : MethodName := ⟨RX9, "untell", "(I)Z"⟩
abbrev cX9_later : ByteArray := prog_1_method_67_code
def yX9_later : MethodName := ⟨RX9, "later", "(I)I"⟩
abbrev cX9_fits : ByteArray := prog_1_method_68_code
def yX9_fits : MethodName := ⟨RX9, "fits", "(I)I"⟩
abbrev cX9_sure : ByteArray := prog_1_method_69_code
def yX9_sure : MethodName := ⟨RX9, "sure", "(II)I"⟩
abbrev cX9_ask : ByteArray := prog_1_method_70_code
def yX9_ask : MethodName := ⟨RX9, "ask", "(II)I"⟩
abbrev cX10_init : ByteArray := prog_12_method_1_code
def yX10_init : MethodName := ⟨RX10, "<init>", "()V"⟩
abbrev cX10_sign : ByteArray := prog_12_method_2_code
def yX10_sign : MethodName := ⟨RX10, "sign", "(I)I"⟩
abbrev cX10_isGood : ByteArray := prog_12_method_6_code
def yX10_isGood : MethodName := ⟨RX10, "isGood", "()Z"⟩
abbrev cX10_goOn : ByteArray := prog_12_method_9_code
def yX10_goOn : MethodName := ⟨RX10, "goOn", "()V"⟩
abbrev cX10_clearBank : ByteArray := prog_12_method_16_code
def yX10_clearBank : MethodName := ⟨RX10, "clearBank", "()V"⟩
abbrev cX10_crossing : ByteArray := prog_12_method_17_code
def yX10_crossing : MethodName := ⟨RX10, "crossing", "()I"⟩
abbrev cX10_fault : ByteArray := prog_12_method_38_code
def yX10_fault : MethodName := ⟨RX10, "fault", "(I)I"⟩
abbrev cX10_isIn : ByteArray := prog_12_method_39_code
def yX10_isIn : MethodName := ⟨RX10, "isIn", "(III)Z"⟩
abbrev cX10_bitsOf : ByteArray := prog_12_method_42_code
def yX10_bitsOf : MethodName := ⟨RX10, "bitsOf", "(I)I"⟩
abbrev cX10_divisor : ByteArray := prog_12_method_43_code
def yX10_divisor : MethodName := ⟨RX10, "divisor", "(II)I"⟩
abbrev cX10_power : ByteArray := prog_12_method_44_code
def yX10_power : MethodName := ⟨RX10, "power", "(II)I"⟩
abbrev cX10_many : ByteArray := prog_12_method_45_code
def yX10_many : MethodName := ⟨RX10, "many", "()I"⟩
abbrev cX10_kinds : ByteArray := prog_12_method_46_code
def yX10_kinds : MethodName := ⟨RX10, "kinds", "()I"⟩
abbrev cX10_isComer : ByteArray := prog_12_method_47_code
def yX10_isComer : MethodName := ⟨RX10, "isComer", "(I)Z"⟩
abbrev cX10_isWordNumber : ByteArray := prog_12_method_48_code
def yX10_isWordNumber : MethodName := ⟨RX10, "isWordNumber", "(I)Z"⟩
abbrev cX10_isRoad : ByteArray := prog_12_method_49_code
def yX10_isRoad : MethodName := ⟨RX10, "isRoad", "(I)Z"⟩
abbrev cX10_isThere : ByteArray := prog_12_method_51_code
def yX10_isThere : MethodName := ⟨RX10, "isThere", "(I)Z"⟩
abbrev cX10_isAhead : ByteArray := prog_12_method_52_code
def yX10_isAhead : MethodName := ⟨RX10, "isAhead", "(I)Z"⟩
abbrev cX10_startAnew : ByteArray := prog_12_method_53_code
def yX10_startAnew : MethodName := ⟨RX10, "startAnew", "()V"⟩
abbrev cX10_layTold : ByteArray := prog_12_method_54_code
def yX10_layTold : MethodName := ⟨RX10, "layTold", "()V"⟩
abbrev cX10_thoseBy : ByteArray := prog_12_method_55_code
def yX10_thoseBy : MethodName := ⟨RX10, "thoseBy", "()I"⟩
abbrev cX10_rowOf : ByteArray := prog_12_method_56_code
def yX10_rowOf : MethodName := ⟨RX10, "rowOf", "(I)I"⟩
abbrev cX10_firstOf : ByteArray := prog_12_method_58_code
def yX10_firstOf : MethodName := ⟨RX10, "firstOf", "(I)I"⟩
abbrev cX10_goHatch : ByteArray := prog_12_method_65_code
def yX10_goHatch : MethodName := ⟨RX10, "goHatch", "(IZ)I"⟩
abbrev cX10_goOnce : ByteArray := prog_12_method_66_code
def yX10_goOnce : MethodName := ⟨RX10, "goOnce", "()I"⟩
abbrev cX10_goInEarnest : ByteArray := prog_12_method_67_code
def yX10_goInEarnest : MethodName := ⟨RX10, "goInEarnest", "(I)I"⟩
abbrev cX10_word : ByteArray := prog_12_method_69_code
def yX10_word : MethodName := ⟨RX10, "word", "(II)I"⟩
abbrev cX10_comer : ByteArray := prog_12_method_70_code
def yX10_comer : MethodName := ⟨RX10, "comer", "(II)I"⟩
abbrev cX10_worth : ByteArray := prog_12_method_71_code
def yX10_worth : MethodName := ⟨RX10, "worth", "(I)I"⟩
abbrev cX10_keeps : ByteArray := prog_12_method_72_code
def yX10_keeps : MethodName := ⟨RX10, "keeps", "(I)I"⟩
abbrev cX10_row : ByteArray := prog_12_method_73_code
def yX10_row : MethodName := ⟨RX10, "row", "(I)I"⟩
abbrev cX10_ready : ByteArray := prog_12_method_74_code
def yX10_ready : MethodName := ⟨RX10, "ready", "()I"⟩
abbrev cX10_oldest : ByteArray := prog_12_method_75_code
def yX10_oldest : MethodName := ⟨RX10, "oldest", "()I"⟩
abbrev cX10_fashion : ByteArray := prog_12_method_76_code
def yX10_fashion : MethodName := ⟨RX10, "fashion", "()I"⟩
abbrev cX10_lull : ByteArray := prog_12_method_77_code
def yX10_lull : MethodName := ⟨RX10, "lull", "(I)I"⟩
abbrev cX10_keepAct : ByteArray := prog_12_method_78_code
def yX10_keepAct : MethodName := ⟨RX10, "keepAct", "()V"⟩
abbrev cX10_open : ByteArray := prog_12_method_80_code
def yX10_open : MethodName := ⟨RX10, "open", "(I)I"⟩
abbrev cX10_hatch : ByteArray := prog_12_method_81_code
def yX10_hatch : MethodName := ⟨RX10, "hatch", "()I"⟩
abbrev cX10_rehearse : ByteArray := prog_12_method_82_code
def yX10_rehearse : MethodName := ⟨RX10, "rehearse", "(II)I"⟩
abbrev cX10_turn : ByteArray := prog_12_method_83_code
def yX10_turn : MethodName := ⟨RX10, "turn", "(II)I"⟩
abbrev cX10_revive : ByteArray := prog_12_method_84_code
def yX10_revive : MethodName := ⟨RX10, "revive", "(I)I"⟩
abbrev cX10_humour : ByteArray := prog_12_method_85_code
def yX10_humour : MethodName := ⟨RX10, "humour", "(I)I"⟩
abbrev cX10_undo : ByteArray := prog_12_method_86_code
def yX10_undo : MethodName := ⟨RX10, "undo", "()Z"⟩
abbrev cX10_redo : ByteArray := prog_12_method_87_code
def yX10_redo : MethodName := ⟨RX10, "redo", "()Z"⟩
abbrev cX10_lies : ByteArray := prog_12_method_88_code
def yX10_lies : MethodName := ⟨RX10, "lies", "(I)I"⟩
abbrev cX10_keepNow : ByteArray := prog_12_method_89_code
def yX10_keepNow : MethodName := ⟨RX10, "keepNow", "()V"⟩
abbrev cX10_bringBack : ByteArray := prog_12_method_90_code
def yX10_bringBack : MethodName := ⟨RX10, "bringBack", "()V"⟩
abbrev cX10_goHatches : ByteArray := prog_12_method_91_code
def yX10_goHatches : MethodName := ⟨RX10, "goHatches", "(III)V"⟩
abbrev cX10_will : ByteArray := prog_12_method_92_code
def yX10_will : MethodName := ⟨RX10, "will", "(II)I"⟩
abbrev cX10_clock : ByteArray := prog_12_method_93_code
def yX10_clock : MethodName := ⟨RX10, "clock", "(I)I"⟩
abbrev cX10_temper : ByteArray := prog_12_method_94_code
def yX10_temper : MethodName := ⟨RX10, "temper", "(I)I"⟩
abbrev cX10_pressIn : ByteArray := prog_12_method_95_code
def yX10_pressIn : MethodName := ⟨RX10, "pressIn", "(I)I"⟩
abbrev cX10_press : ByteArray := prog_12_method_96_code
def yX10_press : MethodName := ⟨RX10, "press", "(I)I"⟩
abbrev cX10_echoes : ByteArray := prog_12_method_97_code
def yX10_echoes : MethodName := ⟨RX10, "echoes", "(II)I"⟩
abbrev cX10_when : ByteArray := prog_12_method_99_code
def yX10_when : MethodName := ⟨RX10, "when", "(I)I"⟩
abbrev cX10_spends : ByteArray := prog_12_method_100_code
def yX10_spends : MethodName := ⟨RX10, "spends", "(I)I"⟩
abbrev cX10_jam : ByteArray := prog_12_method_101_code
def yX10_jam : MethodName := ⟨RX10, "jam", "()I"⟩
abbrev cX10_clears : ByteArray := prog_12_method_102_code
def yX10_clears : MethodName := ⟨RX10, "clears", "(II)I"⟩
abbrev cX10_best : ByteArray := prog_12_method_103_code
def yX10_best : MethodName := ⟨RX10, "best", "(II)I"⟩
abbrev cX10_reorder : ByteArray := prog_12_method_104_code
def yX10_reorder : MethodName := ⟨RX10, "reorder", "(II)I"⟩
abbrev cX10_areAllBy : ByteArray := prog_12_method_105_code
def yX10_areAllBy : MethodName := ⟨RX10, "areAllBy", "(II)Z"⟩
abbrev cX10_soonest : ByteArray := prog_12_method_106_code
def yX10_soonest : MethodName := ⟨RX10, "soonest", "()I"⟩
abbrev cX10_shortest : ByteArray := prog_12_method_108_code
def yX10_shortest : MethodName := ⟨RX10, "shortest", "(II)I"⟩
abbrev cX10_honest : ByteArray := prog_12_method_109_code
def yX10_honest : MethodName := ⟨RX10, "honest", "(II)I"⟩
abbrev cX10_spark : ByteArray := prog_12_method_110_code
def yX10_spark : MethodName := ⟨RX10, "spark", "(II)I"⟩
abbrev cX10_drop : ByteArray := prog_12_method_111_code
def yX10_drop : MethodName := ⟨RX10, "drop", "(II)I"⟩
abbrev cX10_coax : ByteArray := prog_12_method_112_code
def yX10_coax : MethodName := ⟨RX10, "coax", "(I)I"⟩
abbrev cX10_law : ByteArray := prog_12_method_113_code
def yX10_law : MethodName := ⟨RX10, "law", "(I)I"⟩
abbrev cX10_rivals : ByteArray := prog_12_method_116_code
def yX10_rivals : MethodName := ⟨RX10, "rivals", "(II)I"⟩
abbrev cX10_odds : ByteArray := prog_12_method_117_code
def yX10_odds : MethodName := ⟨RX10, "odds", "(II)I"⟩
abbrev cX10_seen : ByteArray := prog_12_method_118_code
def yX10_seen : MethodName := ⟨RX10, "seen", "(IIZ)I"⟩
abbrev cX10_untell : ByteArray := prog_12_method_119_code
def yX10_untell : MethodName := ⟨RX10, "untell", "(I)Z"⟩
abbrev cX10_later : ByteArray := prog_12_method_120_code
def yX10_later : MethodName := ⟨RX10, "later", "(I)I"⟩
abbrev cX10_fits : ByteArray := prog_12_method_123_code
def yX10_fits : MethodName := ⟨RX10, "fits", "(I)I"⟩
abbrev cX10_sure : ByteArray := prog_12_method_124_code
def yX10_sure : MethodName := ⟨RX10, "sure", "(II)I"⟩
abbrev cX10_ask : ByteArray := prog_12_method_126_code
def yX10_ask : MethodName := ⟨RX10, "ask", "(II)I"⟩
abbrev cX10_image : ByteArray := prog_12_method_127_code
def yX10_image : MethodName := ⟨RX10, "image", "(I)I"⟩
abbrev cX10_back : ByteArray := prog_12_method_128_code
def yX10_back : MethodName := ⟨RX10, "back", "(I)I"⟩
abbrev cX10_about : ByteArray := prog_12_method_129_code
def yX10_about : MethodName := ⟨RX10, "about", "(I)I"⟩
abbrev cX10_feed : ByteArray := prog_12_method_130_code
def yX10_feed : MethodName := ⟨RX10, "feed", "(IIIII)I"⟩
abbrev cX10_end : ByteArray := prog_12_method_131_code
def yX10_end : MethodName := ⟨RX10, "end", "(I)I"⟩
abbrev cJ7_fill_53178 : ByteArray := prog_20_method_103_code
def yJ7_fill_53178 : MethodName := ⟨RJ7, "fill", "([II)V"⟩
abbrev vwCl : List vw_C := [(RX0, TX0, 4), (RX1, TX1, 6), (RX2, TX2, 4), (RX3, TX3, 12), (RX4, TX4, 13), (RX5, TX5, 13), (RX6, TX6, 2), (RX7, TX7, 4), (RX8, TX8, 13), (RX9, TX9, 15), (RX10, TX10, 68)]
set_option maxRecDepth 100000 in
theorem ex_fwX0 : GoodIn lw_tbl (u_ws RX0 TX0 4) := goodIn_r _ [445, 447, 449, 451] (by decide +kernel) (by decide +kernel)
set_option maxRecDepth 100000 in
theorem ex_fwX1 : GoodIn lw_tbl (u_ws RX1 TX1 6) := goodIn_r _ [364, 366, 368, 370, 372, 374] (by decide +kernel) (by decide +kernel)
set_option maxRecDepth 100000 in
theorem ex_fwX2 : GoodIn lw_tbl (u_ws RX2 TX2 4) := goodIn_r _ [178, 180, 182, 184] (by decide +kernel) (by decide +kernel)
set_option maxRecDepth 100000 in
theorem ex_fwX3 : GoodIn lw_tbl (u_ws RX3 TX3 12) := goodIn_r _ [313, 315, 317, 319, 321, 323, 325, 327, 329, 331, 333, 335] (by decide +kernel) (by decide +kernel)
set_option maxRecDepth 100000 in
theorem ex_fwX4 : GoodIn lw_tbl (u_ws RX4 TX4 13) := goodIn_r _ [403, 405, 407, 409, 411, 413, 415, 417, 419, 421, 423, 425, 427] (by decide +kernel) (by decide +kernel)
set_option maxRecDepth 100000 in
theorem ex_fwX5 : GoodIn lw_tbl (u_ws RX5 TX5 13) := goodIn_r _ [477, 479, 481, 483, 485, 487, 489, 491, 493, 495, 497, 499, 501] (by decide +kernel) (by decide +kernel)
set_option maxRecDepth 100000 in
theorem ex_fwX6 : GoodIn lw_tbl (u_ws RX6 TX6 2) := goodIn_r _ [150, 152] (by decide +kernel) (by decide +kernel)
set_option maxRecDepth 100000 in
theorem ex_fwX7 : GoodIn lw_tbl (u_ws RX7 TX7 4) := goodIn_r _ [288, 290, 292, 294] (by decide +kernel) (by decide +kernel)
set_option maxRecDepth 100000 in
theorem ex_fwX8 : GoodIn lw_tbl (u_ws RX8 TX8 13) := goodIn_r _ [247, 249, 251, 253, 255, 257, 259, 261, 263, 265, 267, 269, 271] (by decide +kernel) (by decide +kernel)
set_option maxRecDepth 100000 in
theorem ex_fwX9 : GoodIn lw_tbl (u_ws RX9 TX9 15) := goodIn_r _ [550, 552, 554, 556, 558, 560, 562, 564, 566, 568, 570, 572, 574, 576, 578] (by decide +kernel) (by decide +kernel)
set_option maxRecDepth 100000 in
theorem ex_fwX10 : GoodIn lw_tbl (u_ws RX10 TX10 68) := goodIn_r _ [1314, 1316, 1318, 1320, 1322, 1324, 1326, 1328, 1330, 1332, 1334, 1336, 1338, 1340, 1342, 1344, 1346, 1348, 1350, 1352, 1354, 1356, 1358, 1360, 1362, 1364, 1366, 1368, 1370, 1372, 1374, 1376, 1378, 1380, 1382, 1384, 1386, 1388, 1390, 1392, 1394, 1396, 1398, 1400, 1402, 1404, 1406, 1408, 1410, 1412, 1414, 1416, 1418, 1420, 1422, 1424, 1426, 1428, 1430, 1432, 1434, 1436, 1438, 1440, 1442, 1444, 1446, 1448] (by decide +kernel) (by decide +kernel)
end
section
/-! A checked executor: states with ints known, named or held in a range; cells by number; every step is shown to keep what it says of the machine. An int x is written as ex_u x, its number above the least int. -/
abbrev ex_V : Type := (Nat ⊕ (Nat ⊕ (Nat × Nat))) ⊕ (Option Nat ⊕ (Int64 ⊕ Unit))
abbrev ex_C : Type := (Nat × List ex_V) ⊕ (Nat × Nat × List (Nat × ex_V))
abbrev ex_E : Type := List (Nat × Nat)
abbrev ex_P : Type := Nat × Instr × Nat × Nat × Nat × Nat × List Nat
abbrev ex_L : Type := List (Nat × ex_V)
abbrev ex_H : Type := List (List ex_C)
abbrev ex_S : Type := List ex_P × ex_L × List ex_V × ex_H × Nat × Nat × Nat
abbrev ex_M : Type := List ex_P × Nat × Nat × Nat × Nat
abbrev ex_k (n : Nat) : ex_V := .inl (.inl n)
abbrev ex_v (i : Nat) : ex_V := .inl (.inr (.inl i))
abbrev ex_r (a b : Nat) : ex_V := .inl (.inr (.inr (a, b)))
abbrev ex_a (r : Option Nat) : ex_V := .inr (.inl r)
abbrev ex_j (x : Int64) : ex_V := .inr (.inr (.inl x))
abbrev ex_z : ex_V := .inr (.inr (.inr ()))
abbrev ex_full : ex_V := ex_r 0 4294967295
noncomputable def ex_nth {α : Type} (l : List α) : Nat → Option α := List.rec (motive := fun _ => Nat → Option α) (fun _ => none) (fun a _ ih k => Nat.rec (motive := fun _ => Option α) (some a) (fun k' _ => ih k') k) l
noncomputable def ex_set {α : Type} (l : List α) : Nat → α → List α := List.rec (motive := fun _ => Nat → α → List α) (fun _ _ => []) (fun a t ih k v => Nat.rec (motive := fun _ => List α) (v :: t) (fun k' _ => a :: ih k' v) k) l
noncomputable def ex_lk {α : Type} (l : List (Nat × α)) (i : Nat) : Option α := List.rec (motive := fun _ => Option α) none (fun q _ ih => bif Nat.beq q.1 i then some q.2 else ih) l
noncomputable def ex_ovset (l : List (Nat × ex_V)) (i : Nat) (v : ex_V) : List (Nat × ex_V) := List.rec (motive := fun _ => List (Nat × ex_V)) [(i, v)] (fun q t ih => bif Nat.beq q.1 i then (i, v) :: t else q :: ih) l
noncomputable def ex_get (h : ex_H) (k : Nat) : Option ex_C := match ex_nth h (k / 32) with
  | some ch => ex_nth ch (k % 32)
  | none => none
noncomputable def ex_put (h : ex_H) (k : Nat) (c : ex_C) : ex_H := match ex_nth h (k / 32) with
  | some ch => ex_set h (k / 32) (ex_set ch (k % 32) c)
  | none => h
noncomputable def ex_len {α : Type} (l : List α) : Nat := List.rec (motive := fun _ => Nat) 0 (fun _ _ ih => ih + 1) l
noncomputable def ex_app {α : Type} (l r : List α) : List α := List.rec (motive := fun _ => List α) r (fun a _ ih => a :: ih) l
noncomputable def ex_push (h : ex_H) (n : Nat) (c : ex_C) : Option ex_H := bif Nat.beq (n % 32) 0 then (bif Nat.beq (ex_len h) (n / 32) then some (ex_app h [[c]]) else none) else (match ex_nth h (n / 32) with
  | some ch => bif Nat.beq (ex_len ch) (n % 32) then some (ex_set h (n / 32) (ex_app ch [c])) else none
  | none => none)
noncomputable def ex_b (en : ex_E) (v : ex_V) : Option (Nat × Nat) := match v with
  | .inl (.inl n) => some (n, n)
  | .inl (.inr (.inl i)) => ex_nth en i
  | .inl (.inr (.inr q)) => some q
  | .inr _ => none
noncomputable def ex_cst (en : ex_E) (v : ex_V) : Option Nat := match ex_b en v with
  | some q => bif Nat.beq q.1 q.2 then some q.1 else none
  | none => none
def ex_mx (a b : Nat) : Nat := bif Nat.ble a b then b else a
def ex_mn (a b : Nat) : Nat := bif Nat.ble a b then a else b
noncomputable def ex_rf (en : ex_E) (v : ex_V) (lo hi : Nat) : Option ex_E := match v with
  | .inl (.inl n) => bif Nat.ble lo n && Nat.ble n hi then some en else none
  | .inl (.inr (.inl i)) => (match ex_nth en i with
    | some q => bif Nat.ble (ex_mx q.1 lo) (ex_mn q.2 hi) then some (ex_set en i (ex_mx q.1 lo, ex_mn q.2 hi)) else none
    | none => some en)
  | .inl (.inr (.inr q)) => bif Nat.ble (ex_mx q.1 lo) (ex_mn q.2 hi) then some en else none
  | .inr _ => some en
noncomputable def ex_2 (en : ex_E) (a : ex_V) (la ha : Nat) (b : ex_V) (lb hb : Nat) : List ex_E := match ex_rf en a la ha with
  | none => []
  | some e => (match ex_rf e b lb hb with
    | none => []
    | some e' => [e'])
noncomputable def ex_1 (en : ex_E) (a : ex_V) (la ha : Nat) : List ex_E := match ex_rf en a la ha with
  | none => []
  | some e => [e]
def ex_same (a b : ex_V) : Bool := match a, b with
  | .inl (.inr (.inl i)), .inl (.inr (.inl j)) => Nat.beq i j
  | _, _ => false
noncomputable def ex_lt (en : ex_E) (a b : ex_V) (qa qb : Nat × Nat) : List ex_E := bif ex_same a b then [] else ex_2 en a 0 (qb.2 - 1) b (qa.1 + 1) 4294967295
noncomputable def ex_ge (en : ex_E) (a b : ex_V) (qa qb : Nat × Nat) : List ex_E := ex_2 en a qb.1 4294967295 b 0 qa.2
noncomputable def ex_eq (en : ex_E) (a b : ex_V) (qa qb : Nat × Nat) : List ex_E := ex_2 en a qb.1 qb.2 b qa.1 qa.2
noncomputable def ex_ne (en : ex_E) (a b : ex_V) (qa qb : Nat × Nat) : List ex_E := bif ex_same a b then [] else
  bif Nat.beq qb.1 qb.2 then ex_app (ex_1 en a 0 (qb.1 - 1)) (ex_1 en a (qb.1 + 1) 4294967295) else
  bif Nat.beq qa.1 qa.2 then ex_app (ex_1 en b 0 (qa.1 - 1)) (ex_1 en b (qa.1 + 1) 4294967295) else [en]
noncomputable def ex_br (c : ClassFile.Cond) (en : ex_E) (a b : ex_V) : Option (List ex_E × List ex_E) := match ex_b en a with
  | none => none
  | some qa => (match ex_b en b with
    | none => none
    | some qb => (match c with
      | .eq => some (ex_eq en a b qa qb, ex_ne en a b qa qb)
      | .ne => some (ex_ne en a b qa qb, ex_eq en a b qa qb)
      | .lt => some (ex_lt en a b qa qb, ex_ge en a b qa qb)
      | .ge => some (ex_ge en a b qa qb, ex_lt en a b qa qb)
      | .gt => some (ex_lt en b a qb qa, ex_ge en b a qb qa)
      | .le => some (ex_ge en b a qb qa, ex_lt en b a qb qa)))
noncomputable def ex_ft (q : ex_P) (r : List ex_P) (en : ex_E) (lv : ex_L) (st : List ex_V) (h : ex_H) (n cc ss : Nat) : Option (List (ex_E × ex_S)) := match r with
  | [] => none
  | q' :: r' => bif Nat.beq q'.1 (q.1 + q.2.2.1) then some [(en, (q' :: r', lv, st, h, n, cc, ss))] else none
noncomputable def ex_jp (pr : List ex_P) (t : Nat) : List ex_P := List.rec (motive := fun _ => List ex_P) [] (fun q r ih => bif Nat.beq q.1 t then q :: r else ih) pr
noncomputable def ex_map {α β : Type} (f : α → β) (l : List α) : List β := List.rec (motive := fun _ => List β) [] (fun a _ ih => f a :: ih) l
def ex_isI (v : ex_V) : Bool := match v with
  | .inl _ => true
  | .inr _ => false
def ex_isR (v : ex_V) : Bool := match v with
  | .inr (.inl _) => true
  | .inr (.inr (.inr _)) => true
  | _ => false
def ex_cat (v : ex_V) : Nat := match v with
  | .inr (.inr (.inl _)) => 2
  | _ => 1
noncomputable def ex_del (lv : ex_L) (i : Nat) : ex_L := List.rec (motive := fun _ => ex_L) [] (fun q _ ih => bif (!(Nat.beq q.1 i) && !(Nat.beq (q.1 + 1) i && Nat.beq (ex_cat q.2) 2)) then q :: ih else ih) lv
/-- an int that may take at most 65 values, by name -/
noncomputable def ex_need (en : ex_E) (v : ex_V) : Option Nat := match v with
  | .inl (.inr (.inl i)) => (match ex_nth en i with
    | some q => bif Nat.ble (q.1 + 1) q.2 && Nat.ble q.2 (q.1 + 64) then some i else none
    | none => none)
  | _ => none
noncomputable def ex_range (n lo : Nat) : List Nat := Nat.rec (motive := fun _ => Nat → List Nat) (fun _ => []) (fun _ ih lo => lo :: ih (lo + 1)) n lo
noncomputable def ex_spl (en : ex_E) (i : Nat) (s : ex_S) : Option (List (ex_E × ex_S)) := match ex_nth en i with
  | some q => some (ex_map (fun x => (ex_set en i (x, x), s)) (ex_range (q.2 - q.1 + 1) q.1))
  | none => none
def ex_t (u : Nat) : Nat := (u + 2147483648) % 4294967296
noncomputable def ex_op (o : Instr) (en : ex_E) (a b : ex_V) : Option ex_V := match ex_cst en a, ex_cst en b with
  | some x, some y => (match o with
    | .iadd => some (ex_k ((x + y + 2147483648) % 4294967296))
    | .isub => some (ex_k ((x + 6442450944 - y) % 4294967296))
    | .imul => some (ex_k (ex_t (ex_t x * ex_t y % 4294967296)))
    | .iand => some (ex_k (ex_t (Nat.land (ex_t x) (ex_t y))))
    | .ior => some (ex_k (ex_t (Nat.lor (ex_t x) (ex_t y))))
    | .ixor => some (ex_k (ex_t (Nat.xor (ex_t x) (ex_t y))))
    | .ishl => bif Nat.beq y 2147483648 then some (ex_k x) else some ex_full
    | .idiv => bif Nat.ble 2147483648 x && Nat.ble 2147483649 y then some (ex_k ((x - 2147483648) / (y - 2147483648) + 2147483648)) else none
    | .irem => bif Nat.ble 2147483648 x && Nat.ble 2147483649 y then some (ex_k ((x - 2147483648) % (y - 2147483648) + 2147483648)) else none
    | .ishr => some ex_full
    | _ => none)
  | none, some y => (match o with
    | .iadd => bif Nat.beq y 2147483648 && ex_isI a then some a else some ex_full
    | .iand => bif Nat.ble 2147483648 y then some (ex_r 2147483648 y) else some ex_full
    | .idiv => none
    | .irem => none
    | _ => some ex_full)
  | some x, none => (match o with
    | .iadd => bif Nat.beq x 2147483648 && ex_isI b then some b else some ex_full
    | .idiv => none
    | .irem => none
    | _ => some ex_full)
  | none, none => (match o with
    | .idiv => none
    | .irem => none
    | _ => some ex_full)
noncomputable def ex_bin (q : ex_P) (r : List ex_P) (en : ex_E) (lv : ex_L) (st : List ex_V) (h : ex_H) (n cc ss : Nat) : Option (List (ex_E × ex_S)) := match st with
  | b :: a :: rest => bif ex_isI a && ex_isI b then (match ex_need en a with
    | some i => ex_spl en i (q :: r, lv, st, h, n, cc, ss)
    | none => (match ex_need en b with
      | some i => ex_spl en i (q :: r, lv, st, h, n, cc, ss)
      | none => (match ex_op q.2.1 en a b with
        | some v => ex_ft q r en lv (v :: rest) h n cc ss
        | none => none))) else none
  | _ => none
noncomputable def ex_ifs (pr : List ex_P) (q : ex_P) (r : List ex_P) (c : ClassFile.Cond) (en : ex_E) (lv : ex_L) (a b : ex_V) (rest : List ex_V) (h : ex_H) (n cc ss : Nat) : Option (List (ex_E × ex_S)) := match ex_br c en a b with
  | none => none
  | some tf => (match tf.2 with
    | [] => some (ex_map (fun e => (e, (ex_jp pr q.2.2.2.1, lv, rest, h, n, cc, ss))) tf.1)
    | f0 :: fs => (match r with
      | [] => none
      | q' :: r' => bif Nat.beq q'.1 (q.1 + q.2.2.1) then some (ex_app (ex_map (fun e => (e, (ex_jp pr q.2.2.2.1, lv, rest, h, n, cc, ss))) tf.1) (ex_map (fun e => (e, (q' :: r', lv, rest, h, n, cc, ss))) (f0 :: fs))) else none))
noncomputable def ex_ld (q : ex_P) (r : List ex_P) (en : ex_E) (lv : ex_L) (st : List ex_V) (h : ex_H) (n cc ss : Nat) (ok : ex_V → Bool) : Option (List (ex_E × ex_S)) := match ex_lk lv q.2.2.2.1 with
  | some v => bif ok v then ex_ft q r en lv (v :: st) h n cc ss else none
  | none => none
noncomputable def ex_st (mL : Nat) (q : ex_P) (r : List ex_P) (en : ex_E) (lv : ex_L) (st : List ex_V) (h : ex_H) (n cc ss : Nat) (ok : ex_V → Bool) : Option (List (ex_E × ex_S)) := match st with
  | v :: rest => bif ok v && Nat.blt q.2.2.2.1 mL then ex_ft q r en ((q.2.2.2.1, v) :: ex_del lv q.2.2.2.1) rest h n cc ss else none
  | [] => none
noncomputable def ex_ov (t : Nat) (ov : List (Nat × ex_V)) (j : Nat) : ex_V := match ex_lk ov j with
  | some v => v
  | none => bif Nat.beq t 2 then ex_j 0 else bif Nat.beq t 4 then ex_a none else ex_k 2147483648
/-- a row's place: what it is split by, or its number -/
noncomputable def ex_ix (en : ex_E) (i : ex_V) (n : Nat) : Option Nat := match ex_cst en i with
  | some u => bif Nat.ble 2147483648 u && Nat.blt (u - 2147483648) n then some (u - 2147483648) else none
  | none => none
noncomputable def ex_ald (isl : Bool) (L : Nat) (ok : Nat → Bool) (q : ex_P) (r : List ex_P) (en : ex_E) (lv : ex_L) (st : List ex_V) (h : ex_H) (n cc ss : Nat) : Option (List (ex_E × ex_S)) := match st with
  | i :: .inr (.inl (some o)) :: rest => (match ex_need en i with
    | some x => ex_spl en x (q :: r, lv, st, h, n, cc, ss)
    | none => (match ex_get h o with
      | some (.inr (t, N, ov)) => (match ex_ix en i N with
        | some j => bif ok t && ex_isI i then ex_ft q r en lv (ex_ov t ov j :: rest) h n cc ss else none
        | none => none)
      | _ => none))
  | i :: .inr (.inr (.inr ())) :: rest => (match ex_ix en i L with
    | some j => bif isl && ok 0 && ex_isI i then ex_ft q r en lv (ex_v j :: rest) h n cc ss else none
    | none => none)
  | _ => none
noncomputable def ex_ast (q : ex_P) (r : List ex_P) (en : ex_E) (lv : ex_L) (st : List ex_V) (h : ex_H) (n cc ss : Nat) (ok : Nat → ex_V → Option ex_V) : Option (List (ex_E × ex_S)) := match st with
  | v :: i :: .inr (.inl (some o)) :: rest => (match ex_need en i with
    | some x => ex_spl en x (q :: r, lv, st, h, n, cc, ss)
    | none => (match ex_get h o with
      | some (.inr (t, N, ov)) => (match ex_ix en i N with
        | some j => (match ok t v with
          | some v' => bif ex_isI i then ex_ft q r en lv rest (ex_put h o (.inr (t, N, ex_ovset ov j v'))) n cc ss else none
          | none => none)
        | none => none)
      | _ => none))
  | _ => none
def ex_oki (t : Nat) (v : ex_V) : Option ex_V := bif Nat.beq t 0 && ex_isI v then some v else none
def ex_okj (t : Nat) (v : ex_V) : Option ex_V := match v with
  | .inr (.inr (.inl x)) => bif Nat.beq t 2 then some v else none
  | _ => none
noncomputable def ex_okb (en : ex_E) (t : Nat) (v : ex_V) : Option ex_V := bif Nat.beq t 1 && ex_isI v then some ex_full else bif Nat.beq t 3 then (match ex_cst en v with
  | some u => bif Nat.beq u 2147483648 || Nat.beq u 2147483649 then some (ex_k u) else none
  | none => none) else none
/-- only objects of class 4 go into rows of references -/
noncomputable def ex_okq (h : ex_H) (t : Nat) (v : ex_V) : Option ex_V := match v with
  | .inr (.inl (some o)) => (match ex_get h o with
    | some (.inl (ci, _)) => bif Nat.beq t 4 && Nat.beq ci 4 then some v else none
    | _ => none)
  | _ => none
noncomputable def ex_gf (q : ex_P) (r : List ex_P) (en : ex_E) (lv : ex_L) (st : List ex_V) (h : ex_H) (n cc ss : Nat) : Option (List (ex_E × ex_S)) := match st with
  | .inr (.inl (some o)) :: rest => (match ex_get h o with
    | some (.inl (ci, fs)) => (match ex_nth fs q.2.2.2.2.1 with
      | some v => bif Nat.beq ci q.2.2.2.1 then ex_ft q r en lv (v :: rest) h n cc ss else none
      | none => none)
    | _ => none)
  | _ => none
noncomputable def ex_okf (en : ex_E) (ty : Nat) (v : ex_V) : Bool := bif Nat.beq ty 0 then ex_isI v else bif Nat.beq ty 1 then (match v with
  | .inr (.inl _) => true
  | _ => false) else bif Nat.beq ty 2 then (match ex_cst en v with
  | some u => Nat.beq u 2147483648 || Nat.beq u 2147483649
  | none => false) else false
noncomputable def ex_pf (q : ex_P) (r : List ex_P) (en : ex_E) (lv : ex_L) (st : List ex_V) (h : ex_H) (n cc ss : Nat) : Option (List (ex_E × ex_S)) := match st with
  | v :: .inr (.inl (some o)) :: rest => (match ex_get h o with
    | some (.inl (ci, fs)) => (match ex_nth fs q.2.2.2.2.1 with
      | some _ => bif Nat.beq ci q.2.2.2.1 && ex_okf en q.2.2.2.2.2.1 v then ex_ft q r en lv rest (ex_put h o (.inl (ci, ex_set fs q.2.2.2.2.1 v))) n cc ss else none
      | none => none)
    | _ => none)
  | _ => none
noncomputable def ex_nw (cap : Nat × Nat) (df : Nat → List ex_V) (q : ex_P) (r : List ex_P) (en : ex_E) (lv : ex_L) (st : List ex_V) (h : ex_H) (n cc ss : Nat) : Option (List (ex_E × ex_S)) := match ex_push h n (.inl (q.2.2.2.1, df q.2.2.2.1)) with
  | some h' => bif Nat.ble (cc + 1) cap.1 && Nat.ble (ss + q.2.2.2.2.1) cap.2 then ex_ft q r en lv (ex_a (some n) :: st) h' (n + 1) (cc + 1) (ss + q.2.2.2.2.1) else none
  | none => none
noncomputable def ex_na (cap : Nat × Nat) (q : ex_P) (r : List ex_P) (en : ex_E) (lv : ex_L) (st : List ex_V) (h : ex_H) (n cc ss : Nat) : Option (List (ex_E × ex_S)) := match st with
  | i :: rest => (match ex_ix en i 100000 with
    | some N => (match ex_push h n (.inr (q.2.2.2.1, N, [])) with
      | some h' => bif ex_isI i && Nat.ble (cc + 1) cap.1 && Nat.ble (ss + N) cap.2 then ex_ft q r en lv (ex_a (some n) :: rest) h' (n + 1) (cc + 1) (ss + N) else none
      | none => none)
    | none => none)
  | _ => none
noncomputable def ex_al (isl : Bool) (L : Nat) (q : ex_P) (r : List ex_P) (en : ex_E) (lv : ex_L) (st : List ex_V) (h : ex_H) (n cc ss : Nat) : Option (List (ex_E × ex_S)) := match st with
  | .inr (.inl (some o)) :: rest => (match ex_get h o with
    | some (.inr (_, N, _)) => bif Nat.ble N 100000 then ex_ft q r en lv (ex_k (N + 2147483648) :: rest) h n cc ss else none
    | _ => none)
  | .inr (.inr (.inr ())) :: rest => bif isl && Nat.ble L 100000 then ex_ft q r en lv (ex_k (L + 2147483648) :: rest) h n cc ss else none
  | _ => none
noncomputable def ex_cp (a b : List (Nat × ex_V)) (t sp dp m : Nat) : List (Nat × ex_V) := Nat.rec (motive := fun _ => List (Nat × ex_V)) b (fun k ih => ex_ovset ih (dp + k) (ex_ov t a (sp + k))) m
noncomputable def ex_acp (q : ex_P) (r : List ex_P) (en : ex_E) (lv : ex_L) (st : List ex_V) (h : ex_H) (n cc ss : Nat) : Option (List (ex_E × ex_S)) := match st with
  | m :: dp :: .inr (.inl (some d)) :: sp :: .inr (.inl (some o)) :: rest => (match ex_get h o, ex_get h d with
    | some (.inr (t, N, ov)), some (.inr (t', N', ov')) => (match ex_ix en m 100000, ex_ix en sp 100000, ex_ix en dp 100000 with
      | some m', some s', some d' => bif Nat.beq t 0 && Nat.beq t' 0 && Nat.ble (s' + m') N && Nat.ble (d' + m') N' && ex_isI m && ex_isI sp && ex_isI dp && Nat.ble (ex_len rest) 4 then ex_ft q r en lv rest (ex_put h d (.inr (t', N', ex_cp ov ov' 0 s' d' m'))) n cc ss else none
      | _, _, _ => none)
    | _, _ => none)
  | _ => none
noncomputable def ex_sw (pr : List ex_P) (q : ex_P) (en : ex_E) (lv : ex_L) (v : ex_V) (rest : List ex_V) (h : ex_H) (n cc ss : Nat) (ts : List Nat) (lo : Nat) : List (ex_E × ex_S) := List.rec (motive := fun _ => Nat → List (ex_E × ex_S)) (fun lo => ex_map (fun e => (e, (ex_jp pr q.2.2.2.1, lv, rest, h, n, cc, ss))) (ex_1 en v lo 4294967295)) (fun t _ ih lo => ex_app (ex_map (fun e => (e, (ex_jp pr t, lv, rest, h, n, cc, ss))) (ex_1 en v lo lo)) (ih (lo + 1))) ts lo
noncomputable def ex_lu (pr : List ex_P) (q : ex_P) (lv : ex_L) (v : ex_V) (rest : List ex_V) (h : ex_H) (n cc ss : Nat) (ts : List Nat) : ex_E → Option (List (ex_E × ex_S)) := fun en => match ts with
  | [k0, t0, k1, t1] => (match ex_b en v with
    | some qa => some (ex_app (ex_map (fun e => (e, (ex_jp pr t0, lv, rest, h, n, cc, ss))) (ex_1 en v k0 k0)) (ex_app (ex_map (fun e => (e, (ex_jp pr t1, lv, rest, h, n, cc, ss))) (ex_1 en v k1 k1)) (bif Nat.beq (k0 + 1) k1 then ex_app (ex_map (fun e => (e, (ex_jp pr q.2.2.2.1, lv, rest, h, n, cc, ss))) (ex_1 en v 0 (k0 - 1))) (ex_map (fun e => (e, (ex_jp pr q.2.2.2.1, lv, rest, h, n, cc, ss))) (ex_1 en v (k1 + 1) 4294967295)) else ex_map (fun e => (e, (ex_jp pr q.2.2.2.1, lv, rest, h, n, cc, ss))) [en])))
    | none => none)
  | _ => none
def ex_bz (t : Nat) : Bool := Nat.beq t 1 || Nat.beq t 3
noncomputable def ex_step (pr : List ex_P) (isl : Bool) (L mL : Nat) (cap : Nat × Nat) (df : Nat → List ex_V) (en : ex_E) (q : ex_P) (r : List ex_P) (lv : ex_L) (st : List ex_V) (h : ex_H) (n cc ss : Nat) : Option (List (ex_E × ex_S)) := match q.2.1 with
  | .iconst _ => ex_ft q r en lv (ex_k q.2.2.2.1 :: st) h n cc ss
  | .bipush _ => ex_ft q r en lv (ex_k q.2.2.2.1 :: st) h n cc ss
  | .sipush _ => ex_ft q r en lv (ex_k q.2.2.2.1 :: st) h n cc ss
  | .ldc _ => ex_ft q r en lv (ex_k q.2.2.2.1 :: st) h n cc ss
  | .ldc_w _ => ex_ft q r en lv (ex_k q.2.2.2.1 :: st) h n cc ss
  | .lconst _ => ex_ft q r en lv (ex_j (Int64.ofNat q.2.2.2.1) :: st) h n cc ss
  | .iload_n _ => ex_ld q r en lv st h n cc ss ex_isI
  | .iload _ => ex_ld q r en lv st h n cc ss ex_isI
  | .aload_n _ => ex_ld q r en lv st h n cc ss ex_isR
  | .aload _ => ex_ld q r en lv st h n cc ss ex_isR
  | .istore_n _ => ex_st mL q r en lv st h n cc ss ex_isI
  | .istore _ => ex_st mL q r en lv st h n cc ss ex_isI
  | .astore_n _ => ex_st mL q r en lv st h n cc ss ex_isR
  | .astore _ => ex_st mL q r en lv st h n cc ss ex_isR
  | .iinc _ _ => (match ex_lk lv q.2.2.2.1 with
    | some v => (match ex_cst en v with
      | some u => bif ex_isI v && Nat.blt q.2.2.2.1 mL then ex_ft q r en ((q.2.2.2.1, ex_k ((u + q.2.2.2.2.1) % 4294967296)) :: ex_del lv q.2.2.2.1) st h n cc ss else none
      | none => none)
    | none => none)
  | .iadd => ex_bin q r en lv st h n cc ss
  | .isub => ex_bin q r en lv st h n cc ss
  | .imul => ex_bin q r en lv st h n cc ss
  | .iand => ex_bin q r en lv st h n cc ss
  | .ior => ex_bin q r en lv st h n cc ss
  | .ixor => ex_bin q r en lv st h n cc ss
  | .ishl => ex_bin q r en lv st h n cc ss
  | .ishr => ex_bin q r en lv st h n cc ss
  | .idiv => ex_bin q r en lv st h n cc ss
  | .irem => ex_bin q r en lv st h n cc ss
  | .i2b => (match st with
    | v :: rest => bif ex_isI v then ex_ft q r en lv (ex_full :: rest) h n cc ss else none
    | [] => none)
  | .dup => (match st with
    | v :: rest => bif Nat.beq (ex_cat v) 1 then ex_ft q r en lv (v :: v :: rest) h n cc ss else none
    | [] => none)
  | .dup2 => (match st with
    | v :: w :: rest => bif Nat.beq (ex_cat v) 1 && Nat.beq (ex_cat w) 1 then ex_ft q r en lv (v :: w :: v :: w :: rest) h n cc ss else none
    | _ => none)
  | .pop => (match st with
    | v :: rest => bif Nat.beq (ex_cat v) 1 then ex_ft q r en lv rest h n cc ss else none
    | [] => none)
  | .goto _ => some [(en, (ex_jp pr q.2.2.2.1, lv, st, h, n, cc, ss))]
  | .ifCond c _ => (match st with
    | a :: rest => ex_ifs pr q r c en lv a (ex_k 2147483648) rest h n cc ss
    | [] => none)
  | .if_icmp c _ => (match st with
    | b :: a :: rest => ex_ifs pr q r c en lv a b rest h n cc ss
    | _ => none)
  | .tableswitch _ _ _ _ => (match st with
    | v :: rest => bif ex_isI v then some (ex_app (ex_map (fun e => (e, (ex_jp pr q.2.2.2.1, lv, rest, h, n, cc, ss))) (ex_1 en v 0 (q.2.2.2.2.1 - 1))) (ex_sw pr q en lv v rest h n cc ss q.2.2.2.2.2.2 q.2.2.2.2.1)) else none
    | [] => none)
  | .lookupswitch _ _ => (match st with
    | v :: rest => bif ex_isI v then ex_lu pr q lv v rest h n cc ss q.2.2.2.2.2.2 en else none
    | [] => none)
  | .getfield _ => ex_gf q r en lv st h n cc ss
  | .putfield _ => ex_pf q r en lv st h n cc ss
  | .new _ => ex_nw cap df q r en lv st h n cc ss
  | .newarray _ => ex_na cap q r en lv st h n cc ss
  | .anewarray _ => ex_na cap q r en lv st h n cc ss
  | .arraylength => ex_al isl L q r en lv st h n cc ss
  | .iaload => ex_ald isl L (fun t => Nat.beq t 0) q r en lv st h n cc ss
  | .baload => ex_ald false L ex_bz q r en lv st h n cc ss
  | .aaload => ex_ald false L (fun t => Nat.beq t 4) q r en lv st h n cc ss
  | .iastore => ex_ast q r en lv st h n cc ss ex_oki
  | .bastore => ex_ast q r en lv st h n cc ss (ex_okb en)
  | .lastore => ex_ast q r en lv st h n cc ss ex_okj
  | .aastore => ex_ast q r en lv st h n cc ss (ex_okq h)
  | .invokestatic _ => ex_acp q r en lv st h n cc ss
  | .invokespecial _ => (match st with
    | .inr (.inl (some _)) :: rest => bif Nat.ble (ex_len rest) 4 then ex_ft q r en lv rest h n cc ss else none
    | _ => none)
  | _ => none
/-- a number for each instruction, so that the way is found by compares of numbers -/
def ex_tag (o : Instr) : Nat := match o with
  | .aload_n _ => 0
  | .iload_n _ => 1
  | .getfield _ => 2
  | .iconst _ => 3
  | .iload _ => 4
  | .iaload => 5
  | .if_icmp c _ => 6
  | .iinc _ _ => 7
  | .goto _ => 8
  | .ifCond c _ => 9
  | .bipush _ => 10
  | .iadd => 11
  | .putfield _ => 12
  | .iastore => 13
  | .istore_n _ => 14
  | .istore _ => 15
  | .sipush _ => 16
  | .dup => 17
  | .ldc _ => 18
  | .ldc_w _ => 19
  | .lconst _ => 20
  | .aload _ => 21
  | .astore_n _ => 22
  | .astore _ => 23
  | .isub => 24
  | .imul => 25
  | .iand => 26
  | .ior => 27
  | .ixor => 28
  | .ishl => 29
  | .ishr => 30
  | .idiv => 31
  | .irem => 32
  | .i2b => 33
  | .dup2 => 34
  | .pop => 35
  | .tableswitch _ _ _ _ => 36
  | .lookupswitch _ _ => 37
  | .new _ => 38
  | .newarray _ => 39
  | .anewarray _ => 40
  | .arraylength => 41
  | .baload => 42
  | .aaload => 43
  | .bastore => 44
  | .lastore => 45
  | .aastore => 46
  | .invokestatic _ => 47
  | .invokespecial _ => 48
  | _ => 99
/-- the same by numbers -/
noncomputable def ex_opt (t : Nat) (en : ex_E) (a b : ex_V) : Option ex_V := match ex_cst en a, ex_cst en b with
  | some x, some y => bif Nat.beq t 11 then some (ex_k ((x + y + 2147483648) % 4294967296)) else bif Nat.beq t 24 then some (ex_k ((x + 6442450944 - y) % 4294967296)) else bif Nat.beq t 25 then some (ex_k (ex_t (ex_t x * ex_t y % 4294967296))) else bif Nat.beq t 32 then (bif Nat.ble 2147483648 x && Nat.ble 2147483649 y then some (ex_k ((x - 2147483648) % (y - 2147483648) + 2147483648)) else none) else bif Nat.beq t 26 then some (ex_k (ex_t (Nat.land (ex_t x) (ex_t y)))) else bif Nat.beq t 27 then some (ex_k (ex_t (Nat.lor (ex_t x) (ex_t y)))) else bif Nat.beq t 28 then some (ex_k (ex_t (Nat.xor (ex_t x) (ex_t y)))) else bif Nat.beq t 29 then (bif Nat.beq y 2147483648 then some (ex_k x) else some ex_full) else bif Nat.beq t 31 then (bif Nat.ble 2147483648 x && Nat.ble 2147483649 y then some (ex_k ((x - 2147483648) / (y - 2147483648) + 2147483648)) else none) else bif Nat.beq t 30 then some ex_full else none
  | none, some y => bif Nat.beq t 11 then (bif Nat.beq y 2147483648 && ex_isI a then some a else some ex_full) else bif Nat.beq t 26 then (bif Nat.ble 2147483648 y then some (ex_r 2147483648 y) else some ex_full) else bif Nat.beq t 31 then none else bif Nat.beq t 32 then none else some ex_full
  | some x, none => bif Nat.beq t 11 then (bif Nat.beq x 2147483648 && ex_isI b then some b else some ex_full) else bif Nat.beq t 31 then none else bif Nat.beq t 32 then none else some ex_full
  | none, none => bif Nat.beq t 31 then none else bif Nat.beq t 32 then none else some ex_full
noncomputable def ex_bin2 (q : ex_P) (r : List ex_P) (en : ex_E) (lv : ex_L) (st : List ex_V) (h : ex_H) (n cc ss : Nat) : Option (List (ex_E × ex_S)) := match st with
  | b :: a :: rest => bif ex_isI a && ex_isI b then (match ex_need en a with
    | some i => ex_spl en i (q :: r, lv, st, h, n, cc, ss)
    | none => (match ex_need en b with
      | some i => ex_spl en i (q :: r, lv, st, h, n, cc, ss)
      | none => (match ex_opt (ex_tag q.2.1) en a b with
        | some v => ex_ft q r en lv (v :: rest) h n cc ss
        | none => none))) else none
  | _ => none
def ex_cnd (o : Instr) : ClassFile.Cond := match o with
  | .ifCond c _ => c
  | .if_icmp c _ => c
  | _ => .eq
noncomputable def ex_s_if1 (pr : List ex_P) (q : ex_P) (r : List ex_P) (en : ex_E) (lv : ex_L) (st : List ex_V) (h : ex_H) (n cc ss : Nat) : Option (List (ex_E × ex_S)) := match st with
  | a :: rest => ex_ifs pr q r (ex_cnd q.2.1) en lv a (ex_k 2147483648) rest h n cc ss
  | [] => none
noncomputable def ex_s_if2 (pr : List ex_P) (q : ex_P) (r : List ex_P) (en : ex_E) (lv : ex_L) (st : List ex_V) (h : ex_H) (n cc ss : Nat) : Option (List (ex_E × ex_S)) := match st with
  | b :: a :: rest => ex_ifs pr q r (ex_cnd q.2.1) en lv a b rest h n cc ss
  | _ => none
noncomputable def ex_s_iinc (pr : List ex_P) (isl : Bool) (L mL : Nat) (cap : Nat × Nat) (df : Nat → List ex_V) (en : ex_E) (q : ex_P) (r : List ex_P) (lv : ex_L) (st : List ex_V) (h : ex_H) (n cc ss : Nat) : Option (List (ex_E × ex_S)) := match ex_lk lv q.2.2.2.1 with
    | some v => (match ex_cst en v with
      | some u => bif ex_isI v && Nat.blt q.2.2.2.1 mL then ex_ft q r en ((q.2.2.2.1, ex_k ((u + q.2.2.2.2.1) % 4294967296)) :: ex_del lv q.2.2.2.1) st h n cc ss else none
      | none => none)
    | none => none
noncomputable def ex_s_dup (pr : List ex_P) (isl : Bool) (L mL : Nat) (cap : Nat × Nat) (df : Nat → List ex_V) (en : ex_E) (q : ex_P) (r : List ex_P) (lv : ex_L) (st : List ex_V) (h : ex_H) (n cc ss : Nat) : Option (List (ex_E × ex_S)) := match st with
    | v :: rest => bif Nat.beq (ex_cat v) 1 then ex_ft q r en lv (v :: v :: rest) h n cc ss else none
    | [] => none
noncomputable def ex_s_i2b (pr : List ex_P) (isl : Bool) (L mL : Nat) (cap : Nat × Nat) (df : Nat → List ex_V) (en : ex_E) (q : ex_P) (r : List ex_P) (lv : ex_L) (st : List ex_V) (h : ex_H) (n cc ss : Nat) : Option (List (ex_E × ex_S)) := match st with
    | v :: rest => bif ex_isI v then ex_ft q r en lv (ex_full :: rest) h n cc ss else none
    | [] => none
noncomputable def ex_s_dup2 (pr : List ex_P) (isl : Bool) (L mL : Nat) (cap : Nat × Nat) (df : Nat → List ex_V) (en : ex_E) (q : ex_P) (r : List ex_P) (lv : ex_L) (st : List ex_V) (h : ex_H) (n cc ss : Nat) : Option (List (ex_E × ex_S)) := match st with
    | v :: w :: rest => bif Nat.beq (ex_cat v) 1 && Nat.beq (ex_cat w) 1 then ex_ft q r en lv (v :: w :: v :: w :: rest) h n cc ss else none
    | _ => none
noncomputable def ex_s_pop (pr : List ex_P) (isl : Bool) (L mL : Nat) (cap : Nat × Nat) (df : Nat → List ex_V) (en : ex_E) (q : ex_P) (r : List ex_P) (lv : ex_L) (st : List ex_V) (h : ex_H) (n cc ss : Nat) : Option (List (ex_E × ex_S)) := match st with
    | v :: rest => bif Nat.beq (ex_cat v) 1 then ex_ft q r en lv rest h n cc ss else none
    | [] => none
noncomputable def ex_s_tableswitch (pr : List ex_P) (isl : Bool) (L mL : Nat) (cap : Nat × Nat) (df : Nat → List ex_V) (en : ex_E) (q : ex_P) (r : List ex_P) (lv : ex_L) (st : List ex_V) (h : ex_H) (n cc ss : Nat) : Option (List (ex_E × ex_S)) := match st with
    | v :: rest => bif ex_isI v then some (ex_app (ex_map (fun e => (e, (ex_jp pr q.2.2.2.1, lv, rest, h, n, cc, ss))) (ex_1 en v 0 (q.2.2.2.2.1 - 1))) (ex_sw pr q en lv v rest h n cc ss q.2.2.2.2.2.2 q.2.2.2.2.1)) else none
    | [] => none
noncomputable def ex_s_lookupswitch (pr : List ex_P) (isl : Bool) (L mL : Nat) (cap : Nat × Nat) (df : Nat → List ex_V) (en : ex_E) (q : ex_P) (r : List ex_P) (lv : ex_L) (st : List ex_V) (h : ex_H) (n cc ss : Nat) : Option (List (ex_E × ex_S)) := match st with
    | v :: rest => bif ex_isI v then ex_lu pr q lv v rest h n cc ss q.2.2.2.2.2.2 en else none
    | [] => none
noncomputable def ex_s_invokespecial (pr : List ex_P) (isl : Bool) (L mL : Nat) (cap : Nat × Nat) (df : Nat → List ex_V) (en : ex_E) (q : ex_P) (r : List ex_P) (lv : ex_L) (st : List ex_V) (h : ex_H) (n cc ss : Nat) : Option (List (ex_E × ex_S)) := match st with
    | .inr (.inl (some _)) :: rest => bif Nat.ble (ex_len rest) 4 then ex_ft q r en lv rest h n cc ss else none
    | _ => none
noncomputable def ex_go (n_ : Nat) (pr : List ex_P) (isl : Bool) (L mL : Nat) (cap : Nat × Nat) (df : Nat → List ex_V) (en : ex_E) (q : ex_P) (r : List ex_P) (lv : ex_L) (st : List ex_V) (h : ex_H) (n cc ss : Nat) : Option (List (ex_E × ex_S)) := bif Nat.ble n_ 48 then (bif Nat.ble n_ 15 then (bif Nat.ble n_ 4 then (bif Nat.ble n_ 1 then (bif Nat.ble n_ 0 then (ex_ld q r en lv st h n cc ss ex_isR) else (ex_ld q r en lv st h n cc ss ex_isI)) else (bif Nat.ble n_ 2 then (ex_gf q r en lv st h n cc ss) else (bif Nat.ble n_ 3 then (ex_ft q r en lv (ex_k q.2.2.2.1 :: st) h n cc ss) else (ex_ld q r en lv st h n cc ss ex_isI)))) else (bif Nat.ble n_ 7 then (bif Nat.ble n_ 5 then (ex_ald isl L (fun t => Nat.beq t 0) q r en lv st h n cc ss) else (bif Nat.ble n_ 6 then (ex_s_if2 pr q r en lv st h n cc ss) else (ex_s_iinc pr isl L mL cap df en q r lv st h n cc ss))) else (bif Nat.ble n_ 9 then (bif Nat.ble n_ 8 then (some [(en, (ex_jp pr q.2.2.2.1, lv, st, h, n, cc, ss))]) else (ex_s_if1 pr q r en lv st h n cc ss)) else (bif Nat.ble n_ 12 then (bif Nat.ble n_ 10 then (ex_ft q r en lv (ex_k q.2.2.2.1 :: st) h n cc ss) else (bif Nat.ble n_ 11 then (ex_bin2 q r en lv st h n cc ss) else (ex_pf q r en lv st h n cc ss))) else (bif Nat.ble n_ 13 then (ex_ast q r en lv st h n cc ss ex_oki) else (bif Nat.ble n_ 14 then (ex_st mL q r en lv st h n cc ss ex_isI) else (ex_st mL q r en lv st h n cc ss ex_isI))))))) else (bif Nat.ble n_ 26 then (bif Nat.ble n_ 18 then (bif Nat.ble n_ 16 then (ex_ft q r en lv (ex_k q.2.2.2.1 :: st) h n cc ss) else (bif Nat.ble n_ 17 then (ex_s_dup pr isl L mL cap df en q r lv st h n cc ss) else (ex_ft q r en lv (ex_k q.2.2.2.1 :: st) h n cc ss))) else (bif Nat.ble n_ 20 then (bif Nat.ble n_ 19 then (ex_ft q r en lv (ex_k q.2.2.2.1 :: st) h n cc ss) else (ex_ft q r en lv (ex_j (Int64.ofNat q.2.2.2.1) :: st) h n cc ss)) else (bif Nat.ble n_ 23 then (bif Nat.ble n_ 21 then (ex_ld q r en lv st h n cc ss ex_isR) else (bif Nat.ble n_ 22 then (ex_st mL q r en lv st h n cc ss ex_isR) else (ex_st mL q r en lv st h n cc ss ex_isR))) else (bif Nat.ble n_ 24 then (ex_bin2 q r en lv st h n cc ss) else (bif Nat.ble n_ 25 then (ex_bin2 q r en lv st h n cc ss) else (ex_bin2 q r en lv st h n cc ss)))))) else (bif Nat.ble n_ 33 then (bif Nat.ble n_ 28 then (bif Nat.ble n_ 27 then (ex_bin2 q r en lv st h n cc ss) else (ex_bin2 q r en lv st h n cc ss)) else (bif Nat.ble n_ 30 then (bif Nat.ble n_ 29 then (ex_bin2 q r en lv st h n cc ss) else (ex_bin2 q r en lv st h n cc ss)) else (bif Nat.ble n_ 31 then (ex_bin2 q r en lv st h n cc ss) else (bif Nat.ble n_ 32 then (ex_bin2 q r en lv st h n cc ss) else (ex_s_i2b pr isl L mL cap df en q r lv st h n cc ss))))) else (bif Nat.ble n_ 38 then (bif Nat.ble n_ 35 then (bif Nat.ble n_ 34 then (ex_s_dup2 pr isl L mL cap df en q r lv st h n cc ss) else (ex_s_pop pr isl L mL cap df en q r lv st h n cc ss)) else (bif Nat.ble n_ 36 then (ex_s_tableswitch pr isl L mL cap df en q r lv st h n cc ss) else (bif Nat.ble n_ 37 then (ex_s_lookupswitch pr isl L mL cap df en q r lv st h n cc ss) else (ex_nw cap df q r en lv st h n cc ss)))) else (bif Nat.ble n_ 41 then (bif Nat.ble n_ 39 then (ex_na cap q r en lv st h n cc ss) else (bif Nat.ble n_ 40 then (ex_na cap q r en lv st h n cc ss) else (ex_al isl L q r en lv st h n cc ss))) else (bif Nat.ble n_ 43 then (bif Nat.ble n_ 42 then (ex_ald false L ex_bz q r en lv st h n cc ss) else (ex_ald false L (fun t => Nat.beq t 4) q r en lv st h n cc ss)) else (bif Nat.ble n_ 45 then (bif Nat.ble n_ 44 then (ex_ast q r en lv st h n cc ss (ex_okb en)) else (ex_ast q r en lv st h n cc ss ex_okj)) else (bif Nat.ble n_ 46 then (ex_ast q r en lv st h n cc ss (ex_okq h)) else (bif Nat.ble n_ 47 then (ex_acp q r en lv st h n cc ss) else (ex_s_invokespecial pr isl L mL cap df en q r lv st h n cc ss)))))))))) else none
noncomputable def ex_step2 (pr : List ex_P) (isl : Bool) (L mL : Nat) (cap : Nat × Nat) (df : Nat → List ex_V) (en : ex_E) (q : ex_P) (r : List ex_P) (lv : ex_L) (st : List ex_V) (h : ex_H) (n cc ss : Nat) : Option (List (ex_E × ex_S)) := ex_go (ex_tag q.2.1) pr isl L mL cap df en q r lv st h n cc ss
/-- a call's first number: the method, its second: how many values it takes, its third: 0 for a call, 1 for a copy of rows or Object's constructor -/
def ex_call (q : ex_P) : Bool := match q.2.1 with
  | .invokestatic _ => Nat.beq q.2.2.2.2.2.1 0
  | .invokespecial _ => Nat.beq q.2.2.2.2.2.1 0
  | .invokevirtual _ => true
  | _ => false
def ex_end (q : ex_P) : Bool := match q.2.1 with
  | .ireturn => true
  | .areturn => true
  | .return_ => true
  | _ => false
noncomputable def ex_take (n : Nat) : List ex_V → List ex_V → Option (List ex_V × List ex_V) := Nat.rec (motive := fun _ => List ex_V → List ex_V → Option (List ex_V × List ex_V)) (fun acc st => some (acc, st)) (fun _ ih acc st => match st with
  | v :: rest => bif Nat.beq (ex_cat v) 1 then ih (v :: acc) rest else none
  | [] => none) n
noncomputable def ex_args (l : List ex_V) (i : Nat) : ex_L := List.rec (motive := fun _ => Nat → ex_L) (fun _ => []) (fun v _ ih i => (i, v) :: ih (i + 1)) l i
/-- an answer that is a boolean is 0 or 1 -/
noncomputable def ex_zok (en : ex_E) (z : Nat) (v : ex_V) : Bool := bif Nat.beq z 1 then (match ex_cst en v with
  | some u => Nat.beq u 2147483648 || Nat.beq u 2147483649
  | none => false) else true
abbrev ex_A : Type := ex_E × List ex_V × ex_H × Nat
/-- what a method leaves: its answer, and the cells -/
noncomputable def ex_ret (z mc ms : Nat) (o : ex_E × ex_S) : Option ex_A := match o with
  | (e, (q :: _, _, st, h, n, c', s')) => bif Nat.ble c' mc && Nat.ble s' ms then (match q.2.1, st with
    | .ireturn, [v] => bif ex_isI v && ex_zok e z v then some (e, [v], h, n) else none
    | .areturn, [v] => bif ex_isR v then some (e, [v], h, n) else none
    | .return_, [] => some (e, [], h, n)
    | _, _ => none) else none
  | _ => none
noncomputable def ex_rets (z mc ms : Nat) (l : List (ex_E × ex_S)) : Option (List ex_A) := List.rec (motive := fun _ => Option (List ex_A)) (some []) (fun a _ ih => match ex_ret z mc ms a with
  | none => none
  | some x => (match ih with
    | none => none
    | some y => some (x :: y))) l
/-- answers that lie side by side become one: untrusted, then held against each -/
def ex_veq (a b : ex_V) : Bool := match a, b with
  | .inl (.inl x), .inl (.inl y) => Nat.beq x y
  | .inl (.inr (.inl x)), .inl (.inr (.inl y)) => Nat.beq x y
  | .inl (.inr (.inr x)), .inl (.inr (.inr y)) => Nat.beq x.1 y.1 && Nat.beq x.2 y.2
  | .inr (.inl none), .inr (.inl none) => true
  | .inr (.inl (some x)), .inr (.inl (some y)) => Nat.beq x y
  | .inr (.inr (.inl x)), .inr (.inr (.inl y)) => decide (x = y)
  | _, _ => false
noncomputable def ex_lq {α : Type} (f : α → α → Bool) (l : List α) : List α → Bool := List.rec (motive := fun _ => List α → Bool) (fun r => match r with
  | [] => true
  | _ :: _ => false) (fun a _ ih r => match r with
  | [] => false
  | b :: t => f a b && ih t) l
def ex_pq (a b : Nat × ex_V) : Bool := Nat.beq a.1 b.1 && ex_veq a.2 b.2
noncomputable def ex_cq (a b : ex_C) : Bool := match a, b with
  | .inl x, .inl y => Nat.beq x.1 y.1 && ex_lq ex_veq x.2 y.2
  | .inr x, .inr y => Nat.beq x.1 y.1 && Nat.beq x.2.1 y.2.1 && ex_lq ex_pq x.2.2 y.2.2
  | _, _ => false
noncomputable def ex_hb (a b : List ex_C) : Bool := match b with
  | [] => true
  | _ :: _ => ex_lq ex_cq a b
/-- the second's cells are the first's -/
noncomputable def ex_hq (l : ex_H) : ex_H → Bool := List.rec (motive := fun _ => ex_H → Bool) (fun r => match r with
  | [] => true
  | _ :: _ => false) (fun a _ ih r => match r with
  | [] => true
  | b :: t => ex_hb a b && ih t) l
noncomputable def ex_eq' (l : ex_E) : ex_E → Bool := List.rec (motive := fun _ => ex_E → Bool) (fun r => match r with
  | [] => true
  | _ :: _ => false) (fun a _ ih r => match r with
  | [] => true
  | b :: t => Nat.ble b.1 a.1 && Nat.ble a.2 b.2 && ih t) l
noncomputable def ex_le (a m : ex_A) : Bool := ex_eq' a.1 m.1 && ex_lq ex_veq a.2.1 m.2.1 && Nat.beq a.2.2.2 m.2.2.2 && ex_hq a.2.2.1 m.2.2.1
noncomputable def ex_any {α : Type} (f : α → Bool) (l : List α) : Bool := List.rec (motive := fun _ => Bool) false (fun a _ ih => f a || ih) l
noncomputable def ex_every {α : Type} (f : α → Bool) (l : List α) : Bool := List.rec (motive := fun _ => Bool) true (fun a _ ih => f a && ih) l
/-- two ranges side by side -/
noncomputable def ex_hull (l : ex_E) : ex_E → ex_E := List.rec (motive := fun _ => ex_E → ex_E) (fun _ => []) (fun a _ ih r => match r with
  | [] => []
  | b :: t => (bif Nat.beq (a.2 + 1) b.1 then (a.1, b.2) else a) :: ih t) l
noncomputable def ex_next (l : ex_E) : ex_E → Nat := List.rec (motive := fun _ => ex_E → Nat) (fun _ => 0) (fun a _ ih r => match r with
  | [] => 9
  | b :: t => (bif Nat.beq a.1 b.1 && Nat.beq a.2 b.2 then 0 else bif Nat.beq (a.2 + 1) b.1 then 1 else 9) + ih t) l
noncomputable def ex_drop (k : Nat) (h : ex_H) : ex_H := List.rec (motive := fun _ => Nat → ex_H) (fun _ => []) (fun a _ ih k => Nat.rec (motive := fun _ => ex_H) (a :: ih 0) (fun k' _ => [] :: ih k') k) h k
noncomputable def ex_grp (k : Nat) (l : List ex_A) : List ex_A := List.rec (motive := fun _ => List ex_A) [] (fun a _ ih => match ih with
  | [] => [(a.1, a.2.1, ex_drop k a.2.2.1, a.2.2.2)]
  | m :: t => bif ex_lq ex_veq a.2.1 m.2.1 && Nat.ble (ex_next a.1 m.1) 1 && ex_hq a.2.2.1 m.2.2.1 then (ex_hull a.1 m.1, m.2.1, m.2.2.1, m.2.2.2) :: t else (a.1, a.2.1, ex_drop k a.2.2.1, a.2.2.2) :: m :: t) l
noncomputable def ex_mg (b : Bool) (l : List ex_A) : Option (List ex_A) := bif b && Nat.ble 2 (ex_len l) then (bif ex_every (fun a => ex_any (ex_le a) (ex_grp 15 l)) l then some (ex_grp 15 l) else none) else some l
noncomputable def ex_bk (r : List ex_P) (lv : ex_L) (rest : List ex_V) (cc ss : Nat) (a : ex_A) : ex_E × ex_S := (a.1, (r, lv, ex_app a.2.1 rest, a.2.2.1, a.2.2.2, cc, ss))
noncomputable def ex_alls (f : ex_E × ex_S → Option (List (ex_E × ex_S))) (l : List (ex_E × ex_S)) : Option (List (ex_E × ex_S)) := List.rec (motive := fun _ => Option (List (ex_E × ex_S))) (some []) (fun a _ ih => match f a with
  | none => none
  | some x => (match ih with
    | none => none
    | some y => some (ex_app x y))) l
/-- one state is gone on with as it is -/
noncomputable def ex_all (f : ex_E × ex_S → Option (List (ex_E × ex_S))) (l : List (ex_E × ex_S)) : Option (List (ex_E × ex_S)) := match l with
  | [a] => f a
  | l => ex_alls f l
/-- a receiver is an object of the class that the third number says; a new one's constructor has one -/
noncomputable def ex_rcv (q : ex_P) (h : ex_H) (a : List ex_V) : Bool := match q.2.1, a with
  | .invokevirtual _, .inr (.inl (some o)) :: _ => (match ex_get h o with
    | some (.inl oc) => Nat.beq oc.1 q.2.2.2.2.2.1
    | _ => false)
  | .invokespecial _, .inr (.inl (some _)) :: _ => true
  | .invokestatic _, _ => true
  | _, _ => false
abbrev ex_F : Type := Nat → Nat → Bool → ex_M → ex_E → ex_S → Option (List (ex_E × ex_S))
def ex_nx3 (q : ex_P) (r : List ex_P) : Bool := match r with
  | [] => false
  | q' :: _ => Nat.beq q'.1 (q.1 + 3)
/-- a call, and what comes behind it -/
noncomputable def ex_cl (run : ex_F) (mt : Nat → Option ex_M) (stop d : Nat) (isl : Bool) (M : ex_M) (en : ex_E) (q : ex_P) (r : List ex_P) (lv : ex_L) (st : List ex_V) (h : ex_H) (n cc ss : Nat) : Option (List (ex_E × ex_S)) := match d with
  | 0 => none
  | d' + 1 => (match mt q.2.2.2.1 with
    | none => none
    | some M' => (match ex_take q.2.2.2.2.1 [] st with
      | none => none
      | some ar => bif Nat.ble (ex_len ar.2) 4 && Nat.ble (cc + M'.2.2.2.1) M.2.2.2.1 && Nat.ble (ss + M'.2.2.2.2) M.2.2.2.2 && ex_nx3 q r && ex_rcv q h ar.1 then (match run 1000000 d' false M' en (M'.1, ex_args ar.1 0, [], h, n, 0, 0) with
        | none => none
        | some outs => (match ex_rets M'.2.2.1 M'.2.2.2.1 M'.2.2.2.2 outs with
          | none => none
          | some l => (match ex_mg isl l with
            | none => none
            | some l' => ex_all (fun o => run stop (d' + 1) isl M o.1 o.2) (ex_map (ex_bk r lv ar.2 (cc + M'.2.2.2.1) (ss + M'.2.2.2.2)) l')))) else none))
noncomputable def ex_sp (run : ex_F) (df : Nat → List ex_V) (L stop d : Nat) (isl : Bool) (M : ex_M) (en : ex_E) (q : ex_P) (r : List ex_P) (lv : ex_L) (st : List ex_V) (h : ex_H) (n cc ss : Nat) : Option (List (ex_E × ex_S)) := match ex_step2 M.1 isl L M.2.1 (M.2.2.2.1, M.2.2.2.2) df en q r lv st h n cc ss with
  | none => none
  | some l => ex_all (fun o => run stop d isl M o.1 o.2) l
/-- the run: up to returns, or (in the law's own frame) up to the place 'stop' -/
noncomputable def ex_run (mt : Nat → Option ex_M) (df : Nat → List ex_V) (L : Nat) (f : Nat) : ex_F := Nat.rec (motive := fun _ => ex_F) (fun _ _ _ _ _ _ => none) (fun _ ih stop d isl M en s => match s with
  | ([], _) => none
  | (q :: r, lv, st, h, n, cc, ss) =>
    bif ex_end q || Nat.ble stop q.1 then some [(en, s)] else
    bif ex_call q then ex_cl ih mt stop d isl M en q r lv st h n cc ss else ex_sp ih df L stop d isl M en q r lv st h n cc ss) f
end
section
def ex_u (x : Int32) : Nat := (x.toBitVec.toNat + 2147483648) % 4294967296
theorem ex_u_lt (x : Int32) : ex_u x < 4294967296 := Nat.mod_lt _ (by decide)
theorem ex_u_int (x : Int32) : (ex_u x : Int) = x.toInt + 2147483648 := by
  have h := x.toBitVec.isLt
  have e : x.toInt = x.toBitVec.toInt := rfl
  rw [e, BitVec.toInt_eq_toNat_cond]
  unfold ex_u
  split <;> omega
theorem ex_u_inj {x y : Int32} (h : ex_u x = ex_u y) : x = y := by
  have h1 := ex_u_int x
  have h2 := ex_u_int y
  exact Int32.toInt_inj.mp (by omega)
theorem ex_u_lti {x y : Int32} : x < y ↔ ex_u x < ex_u y := by
  have h1 := ex_u_int x
  have h2 := ex_u_int y
  rw [Int32.lt_iff_toInt_lt]
  omega
theorem ex_u_lei {x y : Int32} : x ≤ y ↔ ex_u x ≤ ex_u y := by
  have h1 := ex_u_int x
  have h2 := ex_u_int y
  rw [Int32.le_iff_toInt_le]
  omega
theorem ex_u_0 : ex_u 0 = 2147483648 := by decide
theorem ex_u_nneg {x : Int32} (h : 2147483648 ≤ ex_u x) : ¬ x < 0 := by
  rw [ex_u_lti, ex_u_0]; omega
theorem ex_u_cl {x : Int32} (h : 2147483648 ≤ ex_u x) : x.toNatClampNeg = ex_u x - 2147483648 := by
  have h1 := ex_u_int x
  have e : x.toNatClampNeg = x.toInt.toNat := rfl
  rw [e]; omega
theorem ex_u_tn (x : Int32) : x.toBitVec.toNat = ex_t (ex_u x) := by
  have h := x.toBitVec.isLt
  unfold ex_t ex_u
  omega
theorem ex_u_of (x : Int32) : ex_u x = ex_t x.toBitVec.toNat := rfl
theorem ex_u_add (x y : Int32) : ex_u (x + y) = (ex_u x + ex_u y + 2147483648) % 4294967296 := by
  have h1 := x.toBitVec.isLt
  have h2 := y.toBitVec.isLt
  have e : (x + y).toBitVec.toNat = (x.toBitVec.toNat + y.toBitVec.toNat) % 4294967296 := by rw [Int32.toBitVec_add, BitVec.toNat_add]
  unfold ex_u
  rw [e]; omega
theorem ex_u_sub (x y : Int32) : ex_u (x - y) = (ex_u x + 6442450944 - ex_u y) % 4294967296 := by
  have h1 := x.toBitVec.isLt
  have h2 := y.toBitVec.isLt
  have e : (x - y).toBitVec.toNat = (4294967296 - y.toBitVec.toNat + x.toBitVec.toNat) % 4294967296 := by rw [Int32.toBitVec_sub, BitVec.toNat_sub]
  unfold ex_u
  rw [e]; omega
theorem ex_u_mul (x y : Int32) : ex_u (x * y) = ex_t (ex_t (ex_u x) * ex_t (ex_u y) % 4294967296) := by
  rw [ex_u_of, ← ex_u_tn x, ← ex_u_tn y, Int32.toBitVec_mul, BitVec.toNat_mul]
theorem ex_u_and (x y : Int32) : ex_u (x &&& y) = ex_t (Nat.land (ex_t (ex_u x)) (ex_t (ex_u y))) := by
  rw [ex_u_of, ← ex_u_tn x, ← ex_u_tn y, Int32.toBitVec_and, BitVec.toNat_and]; rfl
theorem ex_u_or (x y : Int32) : ex_u (x ||| y) = ex_t (Nat.lor (ex_t (ex_u x)) (ex_t (ex_u y))) := by
  rw [ex_u_of, ← ex_u_tn x, ← ex_u_tn y, Int32.toBitVec_or, BitVec.toNat_or]; rfl
theorem ex_u_xor (x y : Int32) : ex_u (x ^^^ y) = ex_t (Nat.xor (ex_t (ex_u x)) (ex_t (ex_u y))) := by
  rw [ex_u_of, ← ex_u_tn x, ← ex_u_tn y, Int32.toBitVec_xor, BitVec.toNat_xor]; rfl
theorem ex_u_div {x y : Int32} (hx : 2147483648 ≤ ex_u x) (hy : 2147483649 ≤ ex_u y) : ex_u (x / y) = (ex_u x - 2147483648) / (ex_u y - 2147483648) + 2147483648 := by
  have l1 := ex_u_lt x
  have l2 := ex_u_lt y
  have e1 : x = nI (ex_u x - 2147483648) := ex_u_inj (by have := ex_u_int x; have h := ex_u_int (nI (ex_u x - 2147483648)); rw [nI_toInt (by omega)] at h; omega)
  have e2 : y = nI (ex_u y - 2147483648) := ex_u_inj (by have := ex_u_int y; have h := ex_u_int (nI (ex_u y - 2147483648)); rw [nI_toInt (by omega)] at h; omega)
  have d := pk_div (a := ex_u x - 2147483648) (d := ex_u y - 2147483648) (by omega) (by omega) (by omega)
  rw [← e1, ← e2] at d
  have hq : (ex_u x - 2147483648) / (ex_u y - 2147483648) ≤ ex_u x - 2147483648 := Nat.div_le_self _ _
  have h := ex_u_int (x / y)
  have d2 : (x / y).toInt = (((ex_u x - 2147483648) / (ex_u y - 2147483648) : Nat) : Int) := by rw [d, nI_toInt (by omega)]
  omega
theorem ex_u_rem {x y : Int32} (hx : 2147483648 ≤ ex_u x) (hy : 2147483649 ≤ ex_u y) : ex_u (x - x / y * y) = (ex_u x - 2147483648) % (ex_u y - 2147483648) + 2147483648 := by
  have l1 := ex_u_lt x
  have l2 := ex_u_lt y
  have e1 : x = nI (ex_u x - 2147483648) := ex_u_inj (by have := ex_u_int x; have h := ex_u_int (nI (ex_u x - 2147483648)); rw [nI_toInt (by omega)] at h; omega)
  have e2 : y = nI (ex_u y - 2147483648) := ex_u_inj (by have := ex_u_int y; have h := ex_u_int (nI (ex_u y - 2147483648)); rw [nI_toInt (by omega)] at h; omega)
  have d := pk_rem (a := ex_u x - 2147483648) (d := ex_u y - 2147483648) (by omega) (by omega) (by omega)
  rw [← e1, ← e2] at d
  have hq : (ex_u x - 2147483648) % (ex_u y - 2147483648) < ex_u y - 2147483648 := Nat.mod_lt _ (by omega)
  have h := ex_u_int (x - x / y * y)
  have d2 : (x - x / y * y).toInt = (((ex_u x - 2147483648) % (ex_u y - 2147483648) : Nat) : Int) := by rw [d, nI_toInt (by omega)]
  omega
theorem ex_bif {c : Bool} {α : Type} {a b : α} {P : α → Prop} (h : P (bif c then a else b)) : (c = true ∧ P a) ∨ (c = false ∧ P b) := by
  cases c
  · exact Or.inr ⟨rfl, h⟩
  · exact Or.inl ⟨rfl, h⟩
theorem ex_bifs {c : Bool} {α : Type} {a : Option α} {v : α} (h : (bif c then a else none) = some v) : c = true ∧ a = some v := by
  cases c
  · cases h
  · exact ⟨rfl, h⟩
theorem ex_beq {a b : Nat} (h : Nat.beq a b = true) : a = b := Nat.eq_of_beq_eq_true h
theorem ex_bne {a b : Nat} (h : Nat.beq a b = false) : a ≠ b := Nat.ne_of_beq_eq_false h
theorem ex_ble {a b : Nat} (h : Nat.ble a b = true) : a ≤ b := Nat.le_of_ble_eq_true h
theorem ex_blt {a b : Nat} (h : Nat.blt a b = true) : a < b := Nat.le_of_ble_eq_true h
theorem ex_and {a b : Bool} (h : (a && b) = true) : a = true ∧ b = true := by cases a <;> cases b <;> first | exact ⟨rfl, rfl⟩ | cases h
-- lists
theorem ex_nth_get {α : Type} (l : List α) (k : Nat) : ex_nth l k = l[k]? := by
  induction l generalizing k with
  | nil => rfl
  | cons a t ih => cases k with
    | zero => rfl
    | succ k => exact (ih k).trans (List.getElem?_cons_succ).symm
theorem ex_set_eq {α : Type} (l : List α) (k : Nat) (v : α) : ex_set l k v = l.set k v := by
  induction l generalizing k with
  | nil => rfl
  | cons a t ih => cases k with
    | zero => rfl
    | succ k => exact congrArg (a :: ·) (ih k)
theorem ex_app_eq {α : Type} (l r : List α) : ex_app l r = l ++ r := by
  induction l with
  | nil => rfl
  | cons a t ih => exact congrArg (a :: ·) ih
theorem ex_len_eq {α : Type} (l : List α) : ex_len l = l.length := by
  induction l with
  | nil => rfl
  | cons a t ih => exact congrArg (· + 1) ih
theorem ex_map_eq {α β : Type} (f : α → β) (l : List α) : ex_map f l = l.map f := by
  induction l with
  | nil => rfl
  | cons a t ih => exact congrArg (f a :: ·) ih
theorem ex_range_mem (n lo x : Nat) : x ∈ ex_range n lo ↔ lo ≤ x ∧ x < lo + n := by
  induction n generalizing lo with
  | zero => exact ⟨fun h => absurd h List.not_mem_nil, fun h => by omega⟩
  | succ n ih =>
    show x ∈ lo :: ex_range n (lo + 1) ↔ _
    rw [List.mem_cons, ih]
    omega
theorem ex_get_at {h : ex_H} {k : Nat} {c : ex_C} (e : ex_get h k = some c) : ∃ ch, h[k / 32]? = some ch ∧ ch[k % 32]? = some c := by
  unfold ex_get at e
  split at e
  · rename_i ch hc
    rw [ex_nth_get] at hc e
    exact ⟨ch, hc, e⟩
  · cases e
theorem ex_get_of {h : ex_H} {k : Nat} {c : ex_C} {ch : List ex_C} (e1 : h[k / 32]? = some ch) (e2 : ch[k % 32]? = some c) : ex_get h k = some c := by
  unfold ex_get
  rw [ex_nth_get, e1]
  exact (ex_nth_get _ _).trans e2
theorem ex_put_get {h : ex_H} {k : Nat} {c : ex_C} {j : Nat} {c' : ex_C} (e : ex_get (ex_put h k c) j = some c') : (j = k ∧ c' = c) ∨ (j ≠ k ∧ ex_get h j = some c') := by
  obtain ⟨ch, h1, h2⟩ := ex_get_at e
  unfold ex_put at h1
  split at h1
  · rename_i ck hk
    rw [ex_nth_get] at hk
    rw [ex_set_eq, List.getElem?_set] at h1
    by_cases hd : k / 32 = j / 32
    · rw [if_pos hd] at h1
      split at h1
      · cases h1
        rw [ex_set_eq, List.getElem?_set] at h2
        by_cases hm : k % 32 = j % 32
        · rw [if_pos hm] at h2
          split at h2
          · cases h2
            exact Or.inl ⟨by omega, rfl⟩
          · cases h2
        · rw [if_neg hm] at h2
          exact Or.inr ⟨fun q => hm (by rw [q]), ex_get_of (by rw [← hd]; exact hk) h2⟩
      · cases h1
    · rw [if_neg hd] at h1
      exact Or.inr ⟨fun q => hd (by rw [q]), ex_get_of h1 h2⟩
  · rename_i hn
    refine Or.inr ⟨fun q => ?_, ex_get_of h1 h2⟩
    subst q
    rw [ex_nth_get] at hn
    rw [h1] at hn
    cases hn
theorem ex_push_get {h h' : ex_H} {n : Nat} {c : ex_C} (e : ex_push h n c = some h') {j : Nat} {c' : ex_C} (g : ex_get h' j = some c') : (j = n ∧ c' = c) ∨ ex_get h j = some c' := by
  obtain ⟨ch, h1, h2⟩ := ex_get_at g
  unfold ex_push at e
  rcases ex_bif (P := fun z => z = some h') e with ⟨e0, e1⟩ | ⟨e0, e1⟩
  · obtain ⟨e2, e3⟩ := ex_bifs e1
    cases e3
    have e0 := ex_beq e0
    have e2 := ex_beq e2
    rw [ex_len_eq] at e2
    rw [ex_app_eq] at h1
    by_cases hl : j / 32 < h.length
    · rw [List.getElem?_append_left hl] at h1
      exact Or.inr (ex_get_of h1 h2)
    · rw [List.getElem?_append_right (by omega)] at h1
      have hz : j / 32 - h.length < 1 := (List.getElem?_eq_some_iff.mp h1).1
      rw [show j / 32 - h.length = 0 by omega] at h1
      cases h1
      have hz2 : j % 32 < 1 := (List.getElem?_eq_some_iff.mp h2).1
      rw [show j % 32 = 0 by omega] at h2
      cases h2
      exact Or.inl ⟨by omega, rfl⟩
  · have e0 := ex_bne e0
    split at e1
    · rename_i ck hk
      obtain ⟨e2, e3⟩ := ex_bifs e1
      cases e3
      have e2 := ex_beq e2
      rw [ex_len_eq] at e2
      rw [ex_nth_get] at hk
      rw [ex_set_eq, List.getElem?_set] at h1
      by_cases hd : n / 32 = j / 32
      · rw [if_pos hd] at h1
        split at h1
        · cases h1
          rw [ex_app_eq] at h2
          by_cases hl : j % 32 < ck.length
          · rw [List.getElem?_append_left hl] at h2
            exact Or.inr (ex_get_of (by rw [← hd]; exact hk) h2)
          · rw [List.getElem?_append_right (by omega)] at h2
            have hz : j % 32 - ck.length < 1 := (List.getElem?_eq_some_iff.mp h2).1
            rw [show j % 32 - ck.length = 0 by omega] at h2
            cases h2
            exact Or.inl ⟨by omega, rfl⟩
        · cases h1
      · rw [if_neg hd] at h1
        exact Or.inr (ex_get_of h1 h2)
    · cases e1
theorem ex_lk_mem {α : Type} {l : List (Nat × α)} {i : Nat} {v : α} (h : ex_lk l i = some v) : (i, v) ∈ l := by
  induction l with
  | nil => cases h
  | cons q t ih =>
    rcases ex_bif (P := fun z => z = some v) (show (bif Nat.beq q.1 i then some q.2 else ex_lk t i) = some v from h) with ⟨h1, h2⟩ | ⟨h1, h2⟩
    · cases h2
      have := ex_beq h1
      subst this
      exact List.mem_cons_self
    · exact List.mem_cons_of_mem _ (ih h2)
theorem ex_ovset_lk (l : List (Nat × ex_V)) (i : Nat) (v : ex_V) (j : Nat) : ex_lk (ex_ovset l i v) j = if j = i then some v else ex_lk l j := by
  induction l with
  | nil =>
    show (bif Nat.beq i j then some v else none) = _
    by_cases h : j = i
    · subst h
      rw [if_pos rfl, show Nat.beq j j = true from Nat.beq_refl j]; rfl
    · rw [if_neg h]
      cases hb : Nat.beq i j
      · rfl
      · exact absurd (ex_beq hb).symm h
  | cons q t ih =>
    show ex_lk (bif Nat.beq q.1 i then (i, v) :: t else q :: ex_ovset t i v) j = _
    cases hq : Nat.beq q.1 i
    · show (bif Nat.beq q.1 j then some q.2 else ex_lk (ex_ovset t i v) j) = if j = i then some v else (bif Nat.beq q.1 j then some q.2 else ex_lk t j)
      cases hj : Nat.beq q.1 j
      · exact ih
      · rw [if_neg (fun e => ex_bne hq (by rw [ex_beq hj, e]))]; rfl
    · show (bif Nat.beq i j then some v else ex_lk t j) = if j = i then some v else (bif Nat.beq q.1 j then some q.2 else ex_lk t j)
      rw [ex_beq hq]
      cases hj : Nat.beq i j
      · rw [if_neg (fun e => ex_bne hj e.symm)]; rfl
      · rw [if_pos (ex_beq hj).symm]; rfl
end
section
/-! what an executor's state says of the machine's -/
def ex_vr (ρ : Nat → Int32) (b : Nat) (ws : va_W) (v : ex_V) (x : Value) : Prop := match v with
  | .inl (.inl n) => ∃ y : Int32, x = .int y ∧ ex_u y = n
  | .inl (.inr (.inl i)) => x = .int (ρ i)
  | .inl (.inr (.inr q)) => ∃ y : Int32, x = .int y ∧ q.1 ≤ ex_u y ∧ ex_u y ≤ q.2
  | .inr (.inl none) => x = .null
  | .inr (.inl (some k)) => ∃ (a : Nat) (e : va_E), ws[k]? = some (a, e) ∧ x = .ref a
  | .inr (.inr (.inl z)) => x = .long z
  | .inr (.inr (.inr ())) => x = .ref b
def ex_er (ρ : Nat → Int32) (en : ex_E) : Prop := ∀ (i : Nat) (q : Nat × Nat), ex_nth en i = some q → q.1 ≤ ex_u (ρ i) ∧ ex_u (ρ i) ≤ q.2
def ex_ty (t : Nat) : FieldType := if t = 0 then .int else if t = 1 then .byte else if t = 2 then .long else if t = 3 then .boolean else .object "HatchLights$Scene"
def ex_ag (a : vp_A) (j : Nat) : Value := match a.2 with
  | .inl f => .int (f j)
  | .inr (.inl f) => .long (f j)
  | .inr (.inr (.inl f)) => .float (f j)
  | .inr (.inr (.inr (.inl f))) => .double (f j)
  | .inr (.inr (.inr (.inr f))) => va_rf (f j)
def ex_ak (t : Nat) (a : vp_A) : Prop := if t = 2 then ∃ f, a.2 = .inr (.inl f) else if t = 4 then ∃ f, a.2 = .inr (.inr (.inr (.inr f))) else ∃ f, a.2 = .inl f
def ex_cr (ρ : Nat → Int32) (b : Nat) (tys : List (ClassId × FieldType)) (ws : va_W) (c : ex_C) (e : va_E) : Prop := match c, e with
  | .inl o, .inr w => o.1 = w.1 ∧ o.2.length = w.2.length ∧ ∀ (k : Nat) (v : ex_V), ex_nth o.2 k = some v → ∃ x, w.2[k]? = some x ∧ ex_vr ρ b ws v x
  | .inr o, .inl w => (w.1, ex_ty o.1) ∈ tys ∧ o.1 ≤ 4 ∧ w.2.1 = o.2.1 ∧ ex_ak o.1 w.2 ∧ ∀ j, j < o.2.1 → ex_vr ρ b ws (ex_ov o.1 o.2.2 j) (ex_ag w.2 j)
  | _, _ => False
def ex_hr (ρ : Nat → Int32) (b : Nat) (tys : List (ClassId × FieldType)) (ws : va_W) (h : ex_H) (n : Nat) : Prop := ws.length = n ∧ ∀ (k : Nat) (c : ex_C), ex_get h k = some c → ∃ (a : Nat) (e : va_E), ws[k]? = some (a, e) ∧ ex_cr ρ b tys ws c e
def ex_sr (ρ : Nat → Int32) (b : Nat) (ws : va_W) : List ex_V → List Value → Prop
  | [], [] => True
  | v :: s, x :: xs => ex_vr ρ b ws v x ∧ ex_sr ρ b ws s xs
  | _, _ => False
def ex_lr (ρ : Nat → Int32) (b : Nat) (ws : va_W) : ex_L → List (Nat × Value) → Prop
  | [], [] => True
  | q :: s, x :: xs => (q.1 = x.1 ∧ ex_vr ρ b ws q.2 x.2) ∧ ex_lr ρ b ws s xs
  | _, _ => False
/-- the cells stay where they are -/
def ex_xt (ws ws' : va_W) : Prop := ∀ (k : Nat) (a : Nat) (e : va_E), ws[k]? = some (a, e) → ∃ e', ws'[k]? = some (a, e')
theorem ex_xt.rf {ws : va_W} : ex_xt ws ws := fun _ _ e h => ⟨e, h⟩
theorem ex_xt.tr {w1 w2 w3 : va_W} (h1 : ex_xt w1 w2) (h2 : ex_xt w2 w3) : ex_xt w1 w3 := fun k a e h => by
  obtain ⟨e', h'⟩ := h1 k a e h
  exact h2 k a e' h'
theorem ex_xt.set {ws : va_W} {k : Nat} {a : Nat} {e e' : va_E} (h : ws[k]? = some (a, e)) : ex_xt ws (ws.set k (a, e')) := fun j x y hj => by
  by_cases q : k = j
  · subst q
    rw [h] at hj
    cases hj
    exact ⟨e', by rw [List.getElem?_set_self (List.getElem?_eq_some_iff.mp h).1]⟩
  · exact ⟨y, by rw [List.getElem?_set_ne q]; exact hj⟩
theorem ex_xt.app {ws w : va_W} : ex_xt ws (ws ++ w) := fun k a e h => ⟨e, by rw [List.getElem?_append_left (List.getElem?_eq_some_iff.mp h).1]; exact h⟩
section EXM
variable {ρ : Nat → Int32} {b : Nat} {tys tys' : List (ClassId × FieldType)} {ws ws' : va_W}
theorem ex_vr.mono (hx : ex_xt ws ws') {v : ex_V} {x : Value} (h : ex_vr ρ b ws v x) : ex_vr ρ b ws' v x := by
  rcases v with (n | i | q) | (_ | k) | z | _
  · exact h
  · exact h
  · exact h
  · exact h
  · obtain ⟨a, e, h1, h2⟩ := h
    obtain ⟨e', h3⟩ := hx k a e h1
    exact ⟨a, e', h3, h2⟩
  · exact h
  · exact h
theorem ex_sr.mono (hx : ex_xt ws ws') : ∀ {st : List ex_V} {xs : List Value}, ex_sr ρ b ws st xs → ex_sr ρ b ws' st xs
  | [], [], _ => trivial
  | _ :: _, _ :: _, h => ⟨h.1.mono hx, ex_sr.mono hx h.2⟩
  | [], _ :: _, h => h.elim
  | _ :: _, [], h => h.elim
theorem ex_lr.mono (hx : ex_xt ws ws') : ∀ {lv : ex_L} {lw : List (Nat × Value)}, ex_lr ρ b ws lv lw → ex_lr ρ b ws' lv lw
  | [], [], _ => trivial
  | _ :: _, _ :: _, h => ⟨⟨h.1.1, h.1.2.mono hx⟩, ex_lr.mono hx h.2⟩
  | [], _ :: _, h => h.elim
  | _ :: _, [], h => h.elim
theorem ex_cr.mono (hx : ex_xt ws ws') (ht : ∀ t ∈ tys, t ∈ tys') {c : ex_C} {e : va_E} (h : ex_cr ρ b tys ws c e) : ex_cr ρ b tys' ws' c e := by
  rcases c with o | o <;> rcases e with w | w
  · exact h
  · exact ⟨h.1, h.2.1, fun k v hk => by obtain ⟨x, h1, h2⟩ := h.2.2 k v hk; exact ⟨x, h1, h2.mono hx⟩⟩
  · exact ⟨ht _ h.1, h.2.1, h.2.2.1, h.2.2.2.1, fun j hj => (h.2.2.2.2 j hj).mono hx⟩
  · exact h
theorem ex_sr_cons {v : ex_V} {st : List ex_V} {xs : List Value} (h : ex_sr ρ b ws (v :: st) xs) : ∃ x xr, xs = x :: xr ∧ ex_vr ρ b ws v x ∧ ex_sr ρ b ws st xr := by
  cases xs with
  | nil => exact h.elim
  | cons x xr => exact ⟨x, xr, rfl, h.1, h.2⟩
theorem ex_sr_nil {xs : List Value} (h : ex_sr ρ b ws [] xs) : xs = [] := by
  cases xs with
  | nil => rfl
  | cons x xr => exact h.elim
/-- an int's bounds -/
theorem ex_vr_int {v : ex_V} {x : Value} (h : ex_vr ρ b ws v x) (hi : ex_isI v = true) : ∃ y : Int32, x = .int y := by
  rcases v with (n | i | q) | v
  · exact ⟨h.choose, h.choose_spec.1⟩
  · exact ⟨_, h⟩
  · exact ⟨h.choose, h.choose_spec.1⟩
  · cases hi
theorem ex_b_ok {en : ex_E} (he : ex_er ρ en) {v : ex_V} {q : Nat × Nat} (hb : ex_b en v = some q) {y : Int32} (h : ex_vr ρ b ws v (.int y)) : q.1 ≤ ex_u y ∧ ex_u y ≤ q.2 := by
  rcases v with (n | i | r) | v
  · obtain ⟨z, h1, h2⟩ := h
    cases h1
    cases hb
    exact ⟨Nat.le_of_eq h2.symm, Nat.le_of_eq h2⟩
  · cases h
    exact he i q hb
  · obtain ⟨z, h1, h2⟩ := h
    cases h1
    cases hb
    exact h2
  · cases hb
theorem ex_b_isI {en : ex_E} {v : ex_V} {q : Nat × Nat} (hb : ex_b en v = some q) : ex_isI v = true := by
  rcases v with (n | i | r) | v <;> first | rfl | cases hb
theorem ex_cst_b {en : ex_E} {v : ex_V} {u : Nat} (hc : ex_cst en v = some u) : ex_b en v = some (u, u) := by
  unfold ex_cst at hc
  split at hc
  · rename_i q hq
    obtain ⟨h1, h2⟩ := ex_bifs hc
    cases h2
    have := ex_beq h1
    rw [hq, show q = (q.1, q.2) from rfl, ← this]
  · cases hc
theorem ex_cst_ok {en : ex_E} (he : ex_er ρ en) {v : ex_V} {u : Nat} (hc : ex_cst en v = some u) {y : Int32} (h : ex_vr ρ b ws v (.int y)) : ex_u y = u := by
  have := ex_b_ok he (ex_cst_b hc) h
  exact Nat.le_antisymm this.2 this.1
theorem ex_cst_isI {en : ex_E} {v : ex_V} {u : Nat} (hc : ex_cst en v = some u) : ex_isI v = true := ex_b_isI (ex_cst_b hc)
theorem ex_mx_ok (a c : Nat) : ex_mx a c = max a c := by
  unfold ex_mx
  cases h : Nat.ble a c
  · have : ¬ a ≤ c := fun q => by rw [Nat.ble_eq_true_of_le q] at h; cases h
    show a = _; omega
  · have := ex_ble h
    show c = _; omega
theorem ex_mn_ok (a c : Nat) : ex_mn a c = min a c := by
  unfold ex_mn
  cases h : Nat.ble a c
  · have : ¬ a ≤ c := fun q => by rw [Nat.ble_eq_true_of_le q] at h; cases h
    show c = _; omega
  · have := ex_ble h
    show a = _; omega
theorem ex_nble {a c : Nat} (h : Nat.ble a c = false) : c < a := by
  rcases Nat.lt_or_ge c a with q | q
  · exact q
  · rw [Nat.ble_eq_true_of_le q] at h; cases h
theorem ex_rf_ok {en : ex_E} (he : ex_er ρ en) {v : ex_V} {y : Int32} (h : ex_vr ρ b ws v (.int y)) {lo hi : Nat} (h1 : lo ≤ ex_u y) (h2 : ex_u y ≤ hi) : ∃ e', ex_rf en v lo hi = some e' ∧ ex_er ρ e' := by
  rcases v with (n | i | r) | v
  · obtain ⟨z, e1, e2⟩ := h
    cases e1
    refine ⟨en, ?_, he⟩
    show (bif Nat.ble lo n && Nat.ble n hi then some en else none) = _
    rw [Nat.ble_eq_true_of_le (show lo ≤ n by omega), Nat.ble_eq_true_of_le (show n ≤ hi by omega)]; rfl
  · cases h
    unfold ex_rf
    cases hn : ex_nth en i with
    | none => exact ⟨en, by simp only [hn], he⟩
    | some q =>
      have hb := he i q hn
      refine ⟨ex_set en i (ex_mx q.1 lo, ex_mn q.2 hi), ?_, fun j r hj => ?_⟩
      · simp only [hn]
        rw [Nat.ble_eq_true_of_le (show ex_mx q.1 lo ≤ ex_mn q.2 hi by rw [ex_mx_ok, ex_mn_ok]; omega)]; rfl
      · rw [ex_nth_get, ex_set_eq, List.getElem?_set] at hj
        split at hj
        · rename_i hij
          subst hij
          split at hj
          · cases hj
            show ex_mx q.1 lo ≤ _ ∧ _ ≤ ex_mn q.2 hi
            rw [ex_mx_ok, ex_mn_ok]; omega
          · cases hj
        · exact he j r (by rw [ex_nth_get]; exact hj)
  · obtain ⟨z, e1, e2⟩ := h
    cases e1
    refine ⟨en, ?_, he⟩
    show (bif Nat.ble (ex_mx r.1 lo) (ex_mn r.2 hi) then some en else none) = _
    rw [Nat.ble_eq_true_of_le (show ex_mx r.1 lo ≤ ex_mn r.2 hi by rw [ex_mx_ok, ex_mn_ok]; omega)]; rfl
  · exact ⟨en, rfl, he⟩
theorem ex_1_ok {en : ex_E} (he : ex_er ρ en) {v : ex_V} {y : Int32} (h : ex_vr ρ b ws v (.int y)) {lo hi : Nat} (h1 : lo ≤ ex_u y) (h2 : ex_u y ≤ hi) : ∃ e' ∈ ex_1 en v lo hi, ex_er ρ e' := by
  obtain ⟨e', e1, e2⟩ := ex_rf_ok he h h1 h2
  exact ⟨e', by unfold ex_1; rw [e1]; exact List.mem_singleton.mpr rfl, e2⟩
theorem ex_2_ok {en : ex_E} (he : ex_er ρ en) {v w : ex_V} {y z : Int32} (h : ex_vr ρ b ws v (.int y)) (k : ex_vr ρ b ws w (.int z)) {la ha lb hb : Nat} (h1 : la ≤ ex_u y) (h2 : ex_u y ≤ ha) (k1 : lb ≤ ex_u z) (k2 : ex_u z ≤ hb) : ∃ e' ∈ ex_2 en v la ha w lb hb, ex_er ρ e' := by
  obtain ⟨e', e1, e2⟩ := ex_rf_ok he h h1 h2
  obtain ⟨e'', f1, f2⟩ := ex_rf_ok e2 k k1 k2
  exact ⟨e'', by unfold ex_2; rw [e1]; simp only [f1]; exact List.mem_singleton.mpr rfl, f2⟩
theorem ex_same_ok {v w : ex_V} {y z : Int32} (h : ex_vr ρ b ws v (.int y)) (k : ex_vr ρ b ws w (.int z)) (hs : ex_same v w = true) : y = z := by
  rcases v with (n | i | r) | v <;> rcases w with (n' | i' | r') | w <;> first | (cases hs; done) | skip
  have := ex_beq hs
  subst this
  have h1 : Value.int y = .int (ρ i) := h
  have h2 : Value.int z = .int (ρ i) := k
  rw [← h2] at h1
  cases h1
  rfl
theorem ex_lt_ok {en : ex_E} (he : ex_er ρ en) {v w : ex_V} {y z : Int32} (h : ex_vr ρ b ws v (.int y)) (k : ex_vr ρ b ws w (.int z)) {qa qb : Nat × Nat} (ha : ex_b en v = some qa) (hb : ex_b en w = some qb) (hlt : y < z) : ∃ e' ∈ ex_lt en v w qa qb, ex_er ρ e' := by
  have a1 := ex_b_ok he ha h
  have b1 := ex_b_ok he hb k
  have l1 := ex_u_lti.mp hlt
  have l2 := ex_u_lt z
  unfold ex_lt
  cases hs : ex_same v w
  · exact ex_2_ok he h k (Nat.zero_le _) (by omega) (by omega) (by omega)
  · have := ex_same_ok h k hs
    subst this
    omega
theorem ex_ge_ok {en : ex_E} (he : ex_er ρ en) {v w : ex_V} {y z : Int32} (h : ex_vr ρ b ws v (.int y)) (k : ex_vr ρ b ws w (.int z)) {qa qb : Nat × Nat} (ha : ex_b en v = some qa) (hb : ex_b en w = some qb) (hlt : ¬ y < z) : ∃ e' ∈ ex_ge en v w qa qb, ex_er ρ e' := by
  have a1 := ex_b_ok he ha h
  have b1 := ex_b_ok he hb k
  have l1 : ¬ ex_u y < ex_u z := fun q => hlt (ex_u_lti.mpr q)
  have l2 := ex_u_lt y
  exact ex_2_ok he h k (by omega) (by omega) (Nat.zero_le _) (by omega)
theorem ex_eq_ok {en : ex_E} (he : ex_er ρ en) {v w : ex_V} {y z : Int32} (h : ex_vr ρ b ws v (.int y)) (k : ex_vr ρ b ws w (.int z)) {qa qb : Nat × Nat} (ha : ex_b en v = some qa) (hb : ex_b en w = some qb) (heq : y = z) : ∃ e' ∈ ex_eq en v w qa qb, ex_er ρ e' := by
  have a1 := ex_b_ok he ha h
  have b1 := ex_b_ok he hb k
  subst heq
  exact ex_2_ok he h k (by omega) (by omega) (by omega) (by omega)
theorem ex_ne_ok {en : ex_E} (he : ex_er ρ en) {v w : ex_V} {y z : Int32} (h : ex_vr ρ b ws v (.int y)) (k : ex_vr ρ b ws w (.int z)) {qa qb : Nat × Nat} (ha : ex_b en v = some qa) (hb : ex_b en w = some qb) (hne : ¬ y = z) : ∃ e' ∈ ex_ne en v w qa qb, ex_er ρ e' := by
  have a1 := ex_b_ok he ha h
  have b1 := ex_b_ok he hb k
  have l1 : ex_u y ≠ ex_u z := fun q => hne (ex_u_inj q)
  have ly := ex_u_lt y
  have lz := ex_u_lt z
  unfold ex_ne
  cases hs : ex_same v w
  · cases h2 : Nat.beq qb.1 qb.2
    · cases h3 : Nat.beq qa.1 qa.2
      · exact ⟨en, List.mem_singleton.mpr rfl, he⟩
      · have := ex_beq h3
        show ∃ e' ∈ ex_app (ex_1 en w 0 (qa.1 - 1)) (ex_1 en w (qa.1 + 1) 4294967295), _
        rw [ex_app_eq]
        rcases Nat.lt_or_gt_of_ne l1 with q | q
        · obtain ⟨e', i1, i2⟩ := ex_1_ok he k (show qa.1 + 1 ≤ ex_u z by omega) (show ex_u z ≤ 4294967295 by omega)
          exact ⟨e', List.mem_append_right _ i1, i2⟩
        · obtain ⟨e', i1, i2⟩ := ex_1_ok he k (Nat.zero_le _) (show ex_u z ≤ qa.1 - 1 by omega)
          exact ⟨e', List.mem_append_left _ i1, i2⟩
    · have := ex_beq h2
      show ∃ e' ∈ ex_app (ex_1 en v 0 (qb.1 - 1)) (ex_1 en v (qb.1 + 1) 4294967295), _
      rw [ex_app_eq]
      rcases Nat.lt_or_gt_of_ne l1 with q | q
      · obtain ⟨e', i1, i2⟩ := ex_1_ok he h (Nat.zero_le _) (show ex_u y ≤ qb.1 - 1 by omega)
        exact ⟨e', List.mem_append_left _ i1, i2⟩
      · obtain ⟨e', i1, i2⟩ := ex_1_ok he h (show qb.1 + 1 ≤ ex_u y by omega) (show ex_u y ≤ 4294967295 by omega)
        exact ⟨e', List.mem_append_right _ i1, i2⟩
  · exact absurd (ex_same_ok h k hs) hne
/-- what a compare says -/
def ex_cm (c : ClassFile.Cond) (y z : Int32) : Prop := match c with
  | .eq => y = z
  | .ne => ¬ y = z
  | .lt => y < z
  | .ge => ¬ y < z
  | .gt => z < y
  | .le => ¬ z < y
theorem ex_br_ok {cd : ClassFile.Cond} {en : ex_E} (he : ex_er ρ en) {v w : ex_V} {y z : Int32} (h : ex_vr ρ b ws v (.int y)) (k : ex_vr ρ b ws w (.int z)) {tf : List ex_E × List ex_E} (hb : ex_br cd en v w = some tf) : (ex_cm cd y z → ∃ e' ∈ tf.1, ex_er ρ e') ∧ (¬ ex_cm cd y z → ∃ e' ∈ tf.2, ex_er ρ e') := by
  unfold ex_br at hb
  split at hb
  · cases hb
  · rename_i qa ha
    split at hb
    · cases hb
    · rename_i qb hc
      cases cd <;> cases hb
      · exact ⟨ex_eq_ok he h k ha hc, ex_ne_ok he h k ha hc⟩
      · exact ⟨ex_ne_ok he h k ha hc, fun q => ex_eq_ok he h k ha hc (Classical.not_not.mp q)⟩
      · exact ⟨ex_lt_ok he h k ha hc, ex_ge_ok he h k ha hc⟩
      · exact ⟨ex_ge_ok he h k ha hc, fun q => ex_lt_ok he h k ha hc (Classical.not_not.mp q)⟩
      · exact ⟨ex_lt_ok he k h hc ha, ex_ge_ok he k h hc ha⟩
      · exact ⟨ex_ge_ok he k h hc ha, fun q => ex_lt_ok he k h hc ha (Classical.not_not.mp q)⟩
theorem ex_full_ok (y : Int32) : ex_vr ρ b ws ex_full (.int y) := ⟨y, rfl, Nat.zero_le _, by have := ex_u_lt y; show ex_u y ≤ 4294967295; omega⟩
theorem ex_k_ok (y : Int32) {n : Nat} (h : ex_u y = n) : ex_vr ρ b ws (ex_k n) (.int y) := ⟨y, rfl, h⟩
end EXM
end
section
section EXO
variable {ρ : Nat → Int32} {b : Nat} {tys tys' : List (ClassId × FieldType)} {ws ws' : va_W}
def ex_bv (o : Instr) (x y : Int32) : Option Int32 := match o with
  | .iadd => some (x + y)
  | .isub => some (x - y)
  | .imul => some (x * y)
  | .iand => some (x &&& y)
  | .ior => some (x ||| y)
  | .ixor => some (x ^^^ y)
  | .ishl => some (x <<< (y &&& 31))
  | .ishr => some (x >>> (y &&& 31))
  | .idiv => some (x / y)
  | .irem => some (x - x / y * y)
  | _ => none
theorem ex_and_le (y : Int32) (x : Int32) (h : 2147483648 ≤ ex_u y) : 2147483648 ≤ ex_u (x &&& y) ∧ ex_u (x &&& y) ≤ ex_u y := by
  have l := ex_u_lt y
  have e1 : ex_t (ex_u y) = ex_u y - 2147483648 := by unfold ex_t; omega
  have h1 : Nat.land (ex_t (ex_u x)) (ex_t (ex_u y)) ≤ ex_t (ex_u y) := Nat.and_le_right
  rw [ex_u_and]
  rw [e1] at h1 ⊢
  generalize Nat.land (ex_t (ex_u x)) (ex_u y - 2147483648) = z at h1
  unfold ex_t
  omega
theorem ex_op_ok {o : Instr} {en : ex_E} (he : ex_er ρ en) {v w : ex_V} {x y : Int32} (h : ex_vr ρ b ws v (.int x)) (k : ex_vr ρ b ws w (.int y)) {r : ex_V} (hr : ex_op o en v w = some r) (z : Int32) (hz : ex_bv o x y = some z) : ex_vr ρ b ws r (.int z) ∧ ((o = .idiv ∨ o = .irem) → ¬ y = 0) := by
  unfold ex_op at hr
  split at hr
  · rename_i u w' hu hw
    have e1 := ex_cst_ok he hu h
    have e2 := ex_cst_ok he hw k
    split at hr
    · cases hz; cases hr
      exact ⟨ex_k_ok _ (by rw [ex_u_add, e1, e2]), by rintro (q | q) <;> cases q⟩
    · cases hz; cases hr
      exact ⟨ex_k_ok _ (by rw [ex_u_sub, e1, e2]), by rintro (q | q) <;> cases q⟩
    · cases hz; cases hr
      exact ⟨ex_k_ok _ (by rw [ex_u_mul, e1, e2]), by rintro (q | q) <;> cases q⟩
    · cases hz; cases hr
      exact ⟨ex_k_ok _ (by rw [ex_u_and, e1, e2]), by rintro (q | q) <;> cases q⟩
    · cases hz; cases hr
      exact ⟨ex_k_ok _ (by rw [ex_u_or, e1, e2]), by rintro (q | q) <;> cases q⟩
    · cases hz; cases hr
      exact ⟨ex_k_ok _ (by rw [ex_u_xor, e1, e2]), by rintro (q | q) <;> cases q⟩
    · cases hz
      rcases ex_bif (P := fun z => z = some r) hr with ⟨q1, q2⟩ | ⟨q1, q2⟩
      · cases q2
        have hy : y = 0 := ex_u_inj (by rw [e2, ex_u_0]; exact ex_beq q1)
        subst hy
        exact ⟨ex_k_ok _ (by rw [sb_shl0]; exact e1), by rintro (q | q) <;> cases q⟩
      · cases q2
        exact ⟨ex_full_ok _, by rintro (q | q) <;> cases q⟩
    · cases hz
      obtain ⟨q1, q2⟩ := ex_bifs hr
      cases q2
      obtain ⟨q1, q3⟩ := ex_and q1
      have q1 := ex_ble q1
      have q3 := ex_ble q3
      refine ⟨ex_k_ok _ (by rw [ex_u_div (by rw [e1]; exact q1) (by rw [e2]; exact q3), e1, e2]), fun _ q => ?_⟩
      subst q
      rw [ex_u_0] at e2
      omega
    · cases hz
      obtain ⟨q1, q2⟩ := ex_bifs hr
      cases q2
      obtain ⟨q1, q3⟩ := ex_and q1
      have q1 := ex_ble q1
      have q3 := ex_ble q3
      refine ⟨ex_k_ok _ (by rw [ex_u_rem (by rw [e1]; exact q1) (by rw [e2]; exact q3), e1, e2]), fun _ q => ?_⟩
      subst q
      rw [ex_u_0] at e2
      omega
    · cases hz; cases hr
      exact ⟨ex_full_ok _, by rintro (q | q) <;> cases q⟩
    · cases hr
  · rename_i w' hu hw
    have e2 := ex_cst_ok he hw k
    split at hr
    · cases hz
      rcases ex_bif (P := fun z => z = some r) hr with ⟨q1, q2⟩ | ⟨q1, q2⟩
      · cases q2
        obtain ⟨q1, -⟩ := ex_and q1
        have hy : y = 0 := ex_u_inj (by rw [e2, ex_u_0]; exact ex_beq q1)
        subst hy
        exact ⟨by rw [Int32.add_zero]; exact h, by rintro (q | q) <;> cases q⟩
      · cases q2
        exact ⟨ex_full_ok _, by rintro (q | q) <;> cases q⟩
    · cases hz
      rcases ex_bif (P := fun z => z = some r) hr with ⟨q1, q2⟩ | ⟨q1, q2⟩
      · cases q2
        have q1 := ex_ble q1
        have := ex_and_le y x (by rw [e2]; exact q1)
        exact ⟨⟨_, rfl, this.1, by rw [← e2]; exact this.2⟩, by rintro (q | q) <;> cases q⟩
      · cases q2
        exact ⟨ex_full_ok _, by rintro (q | q) <;> cases q⟩
    · cases hr
    · cases hr
    · rename_i n1 n2 n3 n4
      cases hr
      exact ⟨ex_full_ok _, by rintro (q | q) <;> simp_all⟩
  · rename_i u hu hw
    have e1 := ex_cst_ok he hu h
    split at hr
    · cases hz
      rcases ex_bif (P := fun z => z = some r) hr with ⟨q1, q2⟩ | ⟨q1, q2⟩
      · cases q2
        obtain ⟨q1, -⟩ := ex_and q1
        have hy : x = 0 := ex_u_inj (by rw [e1, ex_u_0]; exact ex_beq q1)
        subst hy
        exact ⟨by rw [Int32.zero_add]; exact k, by rintro (q | q) <;> cases q⟩
      · cases q2
        exact ⟨ex_full_ok _, by rintro (q | q) <;> cases q⟩
    · cases hr
    · cases hr
    · cases hr
      exact ⟨ex_full_ok _, by rintro (q | q) <;> simp_all⟩
  · split at hr
    · cases hr
    · cases hr
    · cases hr
      exact ⟨ex_full_ok _, by rintro (q | q) <;> simp_all⟩
theorem ex_lr_lk : ∀ {lv : ex_L} {lw : List (Nat × Value)}, ex_lr ρ b ws lv lw → ∀ {i : Nat} {v : ex_V}, ex_lk lv i = some v → ∃ (k : Nat) (x : Value), lw[k]? = some (i, x) ∧ ex_vr ρ b ws v x
  | [], [], _, _, _, h => by cases h
  | [], _ :: _, h, _, _, _ => h.elim
  | _ :: _, [], h, _, _, _ => h.elim
  | q :: t, x :: xs, h, i, v, hk => by
    rcases ex_bif (P := fun z => z = some v) (show (bif Nat.beq q.1 i then some q.2 else ex_lk t i) = some v from hk) with ⟨h1, h2⟩ | ⟨h1, h2⟩
    · cases h2
      have := ex_beq h1
      subst this
      exact ⟨0, x.2, by rw [h.1.1]; rfl, h.1.2⟩
    · obtain ⟨k, y, e1, e2⟩ := ex_lr_lk h.2 h2
      exact ⟨k + 1, y, by rw [List.getElem?_cons_succ]; exact e1, e2⟩
theorem ex_cat_ok {v : ex_V} {x : Value} (h : ex_vr ρ b ws v x) : x.category = ex_cat v := by
  rcases v with (n | i | q) | (_ | k) | z | _
  · obtain ⟨y, rfl, -⟩ := h; rfl
  · cases h; rfl
  · obtain ⟨y, rfl, -⟩ := h; rfl
  · cases h; rfl
  · obtain ⟨a, e, -, rfl⟩ := h; rfl
  · cases h; rfl
  · cases h; rfl
/-- the kit's own words for a store of one word -/
abbrev ex_flt (i : Nat) (lw : List (Nat × Value)) : List (Nat × Value) := lw.filter (fun q => !(q.1 == i) && !(q.1 + 1 == i && q.2.category == 2))
theorem ex_beq_b (a c : Nat) : (a == c) = Nat.beq a c := by
  cases h : Nat.beq a c
  · have := ex_bne h; simp [this]
  · have := ex_beq h; simp [this]
theorem ex_lr_del : ∀ {lv : ex_L} {lw : List (Nat × Value)}, ex_lr ρ b ws lv lw → ∀ (i : Nat), ex_lr ρ b ws (ex_del lv i) (ex_flt i lw)
  | [], [], _, _ => trivial
  | [], _ :: _, h, _ => h.elim
  | _ :: _, [], h, _ => h.elim
  | q :: t, x :: xs, h, i => by
    have ih := ex_lr_del h.2 i
    show ex_lr ρ b ws (bif (!(Nat.beq q.1 i) && !(Nat.beq (q.1 + 1) i && Nat.beq (ex_cat q.2) 2)) then q :: ex_del t i else ex_del t i) ((x :: xs).filter _)
    have e : (!(x.1 == i) && !(x.1 + 1 == i && x.2.category == 2)) = (!(Nat.beq q.1 i) && !(Nat.beq (q.1 + 1) i && Nat.beq (ex_cat q.2) 2)) := by
      rw [ex_cat_ok h.1.2, ← h.1.1, ex_beq_b, ex_beq_b, ex_beq_b]
    rw [List.filter_cons, e]
    cases (!(Nat.beq q.1 i) && !(Nat.beq (q.1 + 1) i && Nat.beq (ex_cat q.2) 2))
    · exact ih
    · exact ⟨h.1, ih⟩
end EXO
end
section
/-! the words, what is known of a frame, and what the executor says of one -/
def ex_tb : List Cond := lw_tbl.filter goodWord
noncomputable def ex_wd (i : Nat) (w : Cond) : Bool := decide (ex_nth lw_tbl i = some w) && goodWord w
theorem ex_wd_ok {i : Nat} {w : Cond} (h : ex_wd i w = true) : w ∈ ex_tb := by
  obtain ⟨h1, h2⟩ := ex_and h
  have h1 := of_decide_eq_true h1
  rw [ex_nth_get] at h1
  exact List.mem_filter.mpr ⟨List.mem_of_getElem? h1, h2⟩
theorem ex_tb_of {ws : List Cond} (h : GoodIn lw_tbl ws) (hw : ws.all goodWord = true) : ∀ w ∈ ws, w ∈ ex_tb := fun w hw' => List.mem_filter.mpr ⟨(h w hw').1, List.all_eq_true.mp hw w hw'⟩
abbrev ex_nest : List Cond := [Cond.methodLinkNest "HatchLights" 9 yX6_init "HatchLights", Cond.methodLinkNest "HatchLights" 18 yX3_init "HatchLights", Cond.methodLinkNest "HatchLights$Told" 26 yX2_init "HatchLights", Cond.methodLinkNest "HatchLights$Reader" 27 yX7_init "HatchLights", Cond.methodLinkNest "HatchLights$Scene" 48 yX1_init "HatchLights"]
def ex_X (p : Program) (R : Room) (s : State) (m : MethodId) (args : Array Value) (meth : Method) (c : Code) (ρ : Nat → Int32) (b L : Nat) (A : Nat → Prop) (own nm : String) (cc : ByteArray) (mL d : Nat) (cap : Nat × Nat) (isl : Bool) : Prop :=
  p.tables.exec = Jvm.exec ∧ c.code = cc ∧ c.maxLocals = mL ∧ s.vm.findClass own = some m.cls ∧ (∀ w ∈ ex_tb, w.before args s = true) ∧ (∀ q, s.heap.size ≤ q → A q) ∧ (∀ w ∈ ex_nest, va_Nw w s) ∧ va_AO "HatchLights$Scene" s ∧ (isl = true → va_X b L ρ s s.heap ∧ b < s.heap.size ∧ ¬ A b) ∧ meth.name = nm ∧ (cap.1 ≤ R.cells ∧ cap.2 ≤ R.slots) ∧ d + 1 ≤ R.frames ∧ 60 * (d + 1) ≤ R.locals
def ex_Rl (s : State) (D : va_G) (ρ : Nat → Int32) (b : Nat) (A : Nat → Prop) (mL : Nat) (w0 : va_W) (t0 : List (ClassId × FieldType)) (en : ex_E) (lv : ex_L) (st : List ex_V) (h : ex_H) (n : Nat) (ls : Array Slot) (xs : List Value) (ws : va_W) (tys : List (ClassId × FieldType)) (H : Heap) (locs : List Loc) : Prop :=
  (∃ lw, lv_has ls mL lw ∧ ex_lr ρ b ws lv lw) ∧ ex_er ρ en ∧ ex_sr ρ b ws st xs ∧ ex_hr ρ b tys ws h n ∧ va_K D vwCl tys s ∧ va_P D vwCl ws H ∧ va_D A ws ∧ va_S A s.heap H locs ∧ ex_xt w0 ws ∧ ∀ t ∈ t0, t ∈ tys
def ex_G (p : Program) (l : Launch) (e : Env) (R : Room) (s : State) (m : MethodId) (args : Array Value) (below : List Frame) (meth : Method) (c : Code) (Q : State → Prop) (D : va_G) (ρ : Nat → Int32) (b : Nat) (A : Nat → Prop) (mL : Nat) (w0 : va_W) (t0 : List (ClassId × FieldType)) (pr : List ex_P) (en : ex_E) (S : ex_S) : Prop :=
  ∀ (pc : Nat) (ls : Array Slot) (xs : List Value) (ws : va_W) (tys : List (ClassId × FieldType)) (H : Heap) (locs : List Loc), (∃ q r, S.1 = q :: r ∧ q.1 = pc) → (∀ q ∈ S.1, q ∈ pr) → ex_Rl s D ρ b A mL w0 t0 en S.2.1 S.2.2.1 S.2.2.2.1 S.2.2.2.2.1 ls xs ws tys H locs →
    W p l e R s m args below meth c H locs S.2.2.2.2.2.1 S.2.2.2.2.2.2 Q (F0 m pc ls xs)
theorem ex_cli {ci : Nat} {r : vw_C} (h : vwCl[ci]? = some r) : (∀ w ∈ u_ws r.1 r.2.1 r.2.2, w ∈ ex_tb) ∧ (∃ ty0 : Nat → FieldType, ∀ k, k < r.2.2 → parseFieldDescriptor (r.2.1 k).2.2.1 = some (ty0 k)) ∧ (∀ a, a < r.2.2 → ∀ b, b < r.2.2 → a ≠ b → (r.2.1 a).2.1 ≠ (r.2.1 b).2.1) := by
  match ci, h with
  | 0, h => cases h; exact ⟨ex_tb_of ex_fwX0 (by decide +kernel), ⟨_, tyX0_ok⟩, nmX0⟩
  | 1, h => cases h; exact ⟨ex_tb_of ex_fwX1 (by decide +kernel), ⟨_, tyX1_ok⟩, nmX1⟩
  | 2, h => cases h; exact ⟨ex_tb_of ex_fwX2 (by decide +kernel), ⟨_, tyX2_ok⟩, nmX2⟩
  | 3, h => cases h; exact ⟨ex_tb_of ex_fwX3 (by decide +kernel), ⟨_, tyX3_ok⟩, nmX3⟩
  | 4, h => cases h; exact ⟨ex_tb_of ex_fwX4 (by decide +kernel), ⟨_, tyX4_ok⟩, nmX4⟩
  | 5, h => cases h; exact ⟨ex_tb_of ex_fwX5 (by decide +kernel), ⟨_, tyX5_ok⟩, nmX5⟩
  | 6, h => cases h; exact ⟨ex_tb_of ex_fwX6 (by decide +kernel), ⟨_, tyX6_ok⟩, nmX6⟩
  | 7, h => cases h; exact ⟨ex_tb_of ex_fwX7 (by decide +kernel), ⟨_, tyX7_ok⟩, nmX7⟩
  | 8, h => cases h; exact ⟨ex_tb_of ex_fwX8 (by decide +kernel), ⟨_, tyX8_ok⟩, nmX8⟩
  | 9, h => cases h; exact ⟨ex_tb_of ex_fwX9 (by decide +kernel), ⟨_, tyX9_ok⟩, nmX9⟩
  | 10, h => cases h; exact ⟨ex_tb_of ex_fwX10 (by decide +kernel), ⟨_, tyX10_ok⟩, nmX10⟩
  | k + 11, h => simp [vwCl] at h
section EXS
variable {p : Program} {l : Launch} {e : Env} {R : Room} {s : State} {m : MethodId} {args : Array Value} {below : List Frame} {meth : Method} {c : Code} {Q : State → Prop} {D : va_G} {ρ : Nat → Int32} {b L : Nat} {A : Nat → Prop} {mL d : Nat} {w0 : va_W} {t0 : List (ClassId × FieldType)} {pr : List ex_P} {own nm : String} {cd : ByteArray} {cap : Nat × Nat} {isl : Bool}
variable {en : ex_E} {lv : ex_L} {st : List ex_V} {h : ex_H} {n k1 k2 : Nat} {ls : Array Slot} {xs : List Value} {ws : va_W} {tys : List (ClassId × FieldType)} {H : Heap} {locs : List Loc} {q : ex_P} {r : List ex_P} {o : List (ex_E × ex_S)}
theorem ex_ft_ok (hf : ex_ft q r en lv st h n k1 k2 = some o) (hG : ∀ x ∈ o, ex_G p l e R s m args below meth c Q D ρ b A mL w0 t0 pr x.1 x.2) (hs : ∀ x ∈ q :: r, x ∈ pr) (hR : ex_Rl s D ρ b A mL w0 t0 en lv st h n ls xs ws tys H locs) : W p l e R s m args below meth c H locs k1 k2 Q (F0 m (q.1 + q.2.2.1) ls xs) := by
  unfold ex_ft at hf
  split at hf
  · cases hf
  · rename_i q' r'
    obtain ⟨h1, h2⟩ := ex_bifs hf
    cases h2
    have h1 := ex_beq h1
    exact hG _ (List.mem_singleton.mpr rfl) _ ls xs ws tys H locs ⟨q', r', rfl, h1⟩ (fun x hx => hs x (List.mem_cons_of_mem _ hx)) hR
theorem ex_jp_sub : ∀ {pr : List ex_P} {t : Nat}, (∀ x ∈ ex_jp pr t, x ∈ pr) ∧ (ex_jp pr t = [] ∨ ∃ q r, ex_jp pr t = q :: r ∧ q.1 = t)
  | [], t => ⟨fun x hx => hx, Or.inl rfl⟩
  | q :: r, t => by
    have ih := @ex_jp_sub r t
    show (∀ x ∈ (bif Nat.beq q.1 t then q :: r else ex_jp r t), x ∈ q :: r) ∧ ((bif Nat.beq q.1 t then q :: r else ex_jp r t) = [] ∨ ∃ q' r', (bif Nat.beq q.1 t then q :: r else ex_jp r t) = q' :: r' ∧ q'.1 = t)
    cases hb : Nat.beq q.1 t
    · exact ⟨fun x hx => List.mem_cons_of_mem _ (ih.1 x hx), ih.2⟩
    · exact ⟨fun x hx => hx, Or.inr ⟨q, r, rfl, ex_beq hb⟩⟩
/-- what follows is well, and has a place to be -/
def ex_N (p : Program) (l : Launch) (e : Env) (R : Room) (s : State) (m : MethodId) (args : Array Value) (below : List Frame) (meth : Method) (c : Code) (Q : State → Prop) (D : va_G) (ρ : Nat → Int32) (b : Nat) (A : Nat → Prop) (mL : Nat) (w0 : va_W) (t0 : List (ClassId × FieldType)) (pr : List ex_P) (o : List (ex_E × ex_S)) : Prop := ∀ x ∈ o, x.2.1 ≠ [] ∧ ex_G p l e R s m args below meth c Q D ρ b A mL w0 t0 pr x.1 x.2
theorem ex_jp_ok {t : Nat} (hG : ex_jp pr t ≠ [] ∧ ex_G p l e R s m args below meth c Q D ρ b A mL w0 t0 pr en (ex_jp pr t, lv, st, h, n, k1, k2)) (hR : ex_Rl s D ρ b A mL w0 t0 en lv st h n ls xs ws tys H locs) : W p l e R s m args below meth c H locs k1 k2 Q (F0 m t ls xs) :=
  hG.2 t ls xs ws tys H locs (ex_jp_sub.2.resolve_left hG.1) ex_jp_sub.1 hR
theorem ex_Rl.sr (hR : ex_Rl s D ρ b A mL w0 t0 en lv st h n ls xs ws tys H locs) : ex_sr ρ b ws st xs := hR.2.2.1
theorem ex_Rl.er (hR : ex_Rl s D ρ b A mL w0 t0 en lv st h n ls xs ws tys H locs) : ex_er ρ en := hR.2.1
theorem ex_Rl.stk (hR : ex_Rl s D ρ b A mL w0 t0 en lv st h n ls xs ws tys H locs) {st' : List ex_V} {xs' : List Value} (h' : ex_sr ρ b ws st' xs') : ex_Rl s D ρ b A mL w0 t0 en lv st' h n ls xs' ws tys H locs := ⟨hR.1, hR.2.1, h', hR.2.2.2⟩
theorem ex_Rl.env (hR : ex_Rl s D ρ b A mL w0 t0 en lv st h n ls xs ws tys H locs) {en' : ex_E} (h' : ex_er ρ en') : ex_Rl s D ρ b A mL w0 t0 en' lv st h n ls xs ws tys H locs := ⟨hR.1, h', hR.2.2⟩
theorem ex_Rl.loc (hR : ex_Rl s D ρ b A mL w0 t0 en lv st h n ls xs ws tys H locs) {lv' : ex_L} {ls' : Array Slot} (h' : ∃ lw, lv_has ls' mL lw ∧ ex_lr ρ b ws lv' lw) : ex_Rl s D ρ b A mL w0 t0 en lv' st h n ls' xs ws tys H locs := ⟨h', hR.2⟩
theorem ex_Rl.push (hR : ex_Rl s D ρ b A mL w0 t0 en lv st h n ls xs ws tys H locs) {v : ex_V} {x : Value} (h' : ex_vr ρ b ws v x) : ex_Rl s D ρ b A mL w0 t0 en lv (v :: st) h n ls (x :: xs) ws tys H locs := hR.stk ⟨h', hR.sr⟩
end EXS
end
section
theorem ex_nlt {x y : Int32} : ¬ x < y ↔ y ≤ x := by
  rw [ex_u_lti, ex_u_lei]; omega
noncomputable def ex_i (n : Nat) : Int32 := Int32.ofInt ((n : Int) - 2147483648)
section EXF
variable {p : Program} {l : Launch} {e : Env} {R : Room} {s : State} {m : MethodId} {args : Array Value} {below : List Frame} {meth : Method} {c : Code} {Q : State → Prop} {D : va_G} {ρ : Nat → Int32} {b L : Nat} {A : Nat → Prop} {mL d : Nat} {w0 : va_W} {t0 : List (ClassId × FieldType)} {pr : List ex_P} {own nm : String} {cd : ByteArray} {cap : Nat × Nat} {isl : Bool}
variable {en : ex_E} {lv : ex_L} {st : List ex_V} {h : ex_H} {n k1 k2 : Nat} {ls : Array Slot} {xs : List Value} {ws : va_W} {tys : List (ClassId × FieldType)} {H : Heap} {locs : List Loc} {q : ex_P} {r : List ex_P} {o : List (ex_E × ex_S)}
theorem ex_N.g (hN : ex_N p l e R s m args below meth c Q D ρ b A mL w0 t0 pr o) : ∀ x ∈ o, ex_G p l e R s m args below meth c Q D ρ b A mL w0 t0 pr x.1 x.2 := fun x hx => (hN x hx).2
/-- a load: the value is there -/
theorem ex_ld_ok {ok : ex_V → Bool} (hs : ex_ld q r en lv st h n k1 k2 ok = some o) (hN : ex_N p l e R s m args below meth c Q D ρ b A mL w0 t0 pr o) (hsub : ∀ x ∈ q :: r, x ∈ pr) (hR : ex_Rl s D ρ b A mL w0 t0 en lv st h n ls xs ws tys H locs)
    (row : ∀ (v : ex_V) (x : Value), ok v = true → ex_vr ρ b ws v x → ls[q.2.2.2.1]? = some (.val x) → W p l e R s m args below meth c H locs k1 k2 Q (F0 m (q.1 + q.2.2.1) ls (x :: xs)) → W p l e R s m args below meth c H locs k1 k2 Q (F0 m q.1 ls xs)) : W p l e R s m args below meth c H locs k1 k2 Q (F0 m q.1 ls xs) := by
  unfold ex_ld at hs
  split at hs
  · rename_i v hv
    obtain ⟨h1, h2⟩ := ex_bifs hs
    obtain ⟨lw, hl, hr⟩ := hR.1
    obtain ⟨k, x, e1, e2⟩ := ex_lr_lk hr hv
    exact row v x h1 e2 (lv_at hl k e1) (ex_ft_ok h2 hN.g hsub (hR.push e2))
  · cases hs
theorem ex_st_ok {ok : ex_V → Bool} (hs : ex_st mL q r en lv st h n k1 k2 ok = some o) (hN : ex_N p l e R s m args below meth c Q D ρ b A mL w0 t0 pr o) (hsub : ∀ x ∈ q :: r, x ∈ pr) (hR : ex_Rl s D ρ b A mL w0 t0 en lv st h n ls xs ws tys H locs)
    (row : ∀ (v : ex_V) (x : Value) (xr : List Value) (lw : List (Nat × Value)), ok v = true → ex_vr ρ b ws v x → lv_has ls mL lw → q.2.2.2.1 < mL → (∀ ls' : Array Slot, lv_has ls' mL ((q.2.2.2.1, x) :: ex_flt q.2.2.2.1 lw) → W p l e R s m args below meth c H locs k1 k2 Q (F0 m (q.1 + q.2.2.1) ls' xr)) → W p l e R s m args below meth c H locs k1 k2 Q (F0 m q.1 ls (x :: xr))) : W p l e R s m args below meth c H locs k1 k2 Q (F0 m q.1 ls xs) := by
  unfold ex_st at hs
  split at hs
  · rename_i v rest
    obtain ⟨h1, h2⟩ := ex_bifs hs
    obtain ⟨h3, h4⟩ := ex_and h1
    obtain ⟨x, xr, rfl, hv, hr⟩ := ex_sr_cons hR.sr
    obtain ⟨lw, hl, hlr⟩ := hR.1
    exact row v x xr lw h3 hv hl (ex_blt h4) (fun ls' hl' => ex_ft_ok h2 hN.g hsub ((hR.loc (lv' := (q.2.2.2.1, v) :: ex_del lv q.2.2.2.1) ⟨_, hl', (show ex_lr ρ b ws ((q.2.2.2.1, v) :: ex_del lv q.2.2.2.1) ((q.2.2.2.1, x) :: ex_flt q.2.2.2.1 lw) from ⟨⟨rfl, hv⟩, ex_lr_del hlr _⟩)⟩).stk hr))
  · cases hs
theorem ex_spl_ok {i : Nat} (hs : ex_spl en i (q :: r, lv, st, h, n, k1, k2) = some o) (hN : ex_N p l e R s m args below meth c Q D ρ b A mL w0 t0 pr o) (hsub : ∀ x ∈ q :: r, x ∈ pr) (hR : ex_Rl s D ρ b A mL w0 t0 en lv st h n ls xs ws tys H locs) : W p l e R s m args below meth c H locs k1 k2 Q (F0 m q.1 ls xs) := by
  unfold ex_spl at hs
  split at hs
  · rename_i z hz
    cases hs
    have hb := hR.er i z hz
    refine (hN (ex_set en i (ex_u (ρ i), ex_u (ρ i)), (q :: r, lv, st, h, n, k1, k2)) ?_).2 q.1 ls xs ws tys H locs ⟨q, r, rfl, rfl⟩ hsub (hR.env ?_)
    · rw [ex_map_eq]
      exact List.mem_map.mpr ⟨ex_u (ρ i), (ex_range_mem _ _ _).mpr ⟨hb.1, by omega⟩, rfl⟩
    · intro j y hj
      rw [ex_nth_get, ex_set_eq, List.getElem?_set] at hj
      split at hj
      · rename_i hij
        subst hij
        split at hj
        · injection hj with hj
          subst hj
          exact ⟨Nat.le_refl _, Nat.le_refl _⟩
        · cases hj
      · exact hR.er j y (by rw [ex_nth_get]; exact hj)
  · cases hs
theorem ex_bin_ok (hs : ex_bin q r en lv st h n k1 k2 = some o) (hN : ex_N p l e R s m args below meth c Q D ρ b A mL w0 t0 pr o) (hsub : ∀ x ∈ q :: r, x ∈ pr) (hR : ex_Rl s D ρ b A mL w0 t0 en lv st h n ls xs ws tys H locs)
    (row : ∀ (x y : Int32) (rest : List Value), ∃ z, ex_bv q.2.1 x y = some z ∧ (((q.2.1 = .idiv ∨ q.2.1 = .irem) → ¬ y = 0) → W p l e R s m args below meth c H locs k1 k2 Q (F0 m (q.1 + q.2.2.1) ls (.int z :: rest)) → W p l e R s m args below meth c H locs k1 k2 Q (F0 m q.1 ls (.int y :: .int x :: rest)))) : W p l e R s m args below meth c H locs k1 k2 Q (F0 m q.1 ls xs) := by
  unfold ex_bin at hs
  split at hs
  · rename_i vb va rest
    obtain ⟨h1, h2⟩ := ex_bifs hs
    obtain ⟨ha, hb⟩ := ex_and h1
    split at h2
    · exact ex_spl_ok h2 hN hsub hR
    · split at h2
      · exact ex_spl_ok h2 hN hsub hR
      · split at h2
        · rename_i v hv
          obtain ⟨xb, x1, rfl, vb1, hr1⟩ := ex_sr_cons hR.sr
          obtain ⟨xa, x2, rfl, va1, hr2⟩ := ex_sr_cons hr1
          obtain ⟨y, rfl⟩ := ex_vr_int vb1 hb
          obtain ⟨x, rfl⟩ := ex_vr_int va1 ha
          obtain ⟨z, hz, hrow⟩ := row x y x2
          obtain ⟨g1, g2⟩ := ex_op_ok hR.er va1 vb1 hv z hz
          exact hrow g2 (ex_ft_ok h2 hN.g hsub (hR.stk ⟨g1, hr2⟩))
        · cases h2
  · cases hs
theorem ex_ifs_ok {cd' : ClassFile.Cond} {va vb : ex_V} {rest : List ex_V} {x y : Int32} {xr : List Value} (hs : ex_ifs pr q r cd' en lv va vb rest h n k1 k2 = some o) (hN : ex_N p l e R s m args below meth c Q D ρ b A mL w0 t0 pr o) (hsub : ∀ x ∈ q :: r, x ∈ pr) (hR : ex_Rl s D ρ b A mL w0 t0 en lv rest h n ls xr ws tys H locs) (ha : ex_vr ρ b ws va (.int x)) (hb : ex_vr ρ b ws vb (.int y)) :
    (ex_cm cd' x y → W p l e R s m args below meth c H locs k1 k2 Q (F0 m q.2.2.2.1 ls xr)) ∧ (¬ ex_cm cd' x y → W p l e R s m args below meth c H locs k1 k2 Q (F0 m (q.1 + q.2.2.1) ls xr)) := by
  unfold ex_ifs at hs
  split at hs
  · cases hs
  · rename_i tf htf
    obtain ⟨g1, g2⟩ := ex_br_ok hR.er ha hb htf
    split at hs
    · rename_i hnil
      cases hs
      refine ⟨fun hc => ?_, fun hc => ?_⟩
      · obtain ⟨e', i1, i2⟩ := g1 hc
        exact ex_jp_ok (hN (e', _) (by rw [ex_map_eq]; exact List.mem_map.mpr ⟨e', i1, rfl⟩)) (hR.env i2)
      · obtain ⟨e', i1, i2⟩ := g2 hc
        rw [hnil] at i1
        cases i1
    · rename_i f0 fs hcons
      split at hs
      · cases hs
      · rename_i q' r'
        obtain ⟨h1, h2⟩ := ex_bifs hs
        cases h2
        refine ⟨fun hc => ?_, fun hc => ?_⟩
        · obtain ⟨e', i1, i2⟩ := g1 hc
          exact ex_jp_ok (hN (e', _) (by rw [ex_app_eq, ex_map_eq]; exact List.mem_append_left _ (List.mem_map.mpr ⟨e', i1, rfl⟩))) (hR.env i2)
        · obtain ⟨e', i1, i2⟩ := g2 hc
          rw [hcons] at i1
          exact (hN (e', _) (by rw [ex_app_eq, ex_map_eq, ex_map_eq]; exact List.mem_append_right _ (List.mem_map.mpr ⟨e', i1, rfl⟩))).2 _ ls xr ws tys H locs ⟨q', r', rfl, ex_beq h1⟩ (fun x hx => hsub x (List.mem_cons_of_mem _ hx)) (hR.env i2)
theorem ex_sw_ok {v : ex_V} {rest : List ex_V} {x : Int32} {xr : List Value} (hv : ex_vr ρ b ws v (.int x)) (hR : ex_Rl s D ρ b A mL w0 t0 en lv rest h n ls xr ws tys H locs) : ∀ (ts : List Nat) (lo : Nat), ex_N p l e R s m args below meth c Q D ρ b A mL w0 t0 pr (ex_sw pr q en lv v rest h n k1 k2 ts lo) →
    (∀ j t, ts[j]? = some t → ex_u x = lo + j → W p l e R s m args below meth c H locs k1 k2 Q (F0 m t ls xr)) ∧ (lo + ts.length ≤ ex_u x → W p l e R s m args below meth c H locs k1 k2 Q (F0 m q.2.2.2.1 ls xr))
  | [], lo, hN => by
    refine ⟨(fun j t hh => by cases hh), (fun hx => ?_)⟩
    have l := ex_u_lt x
    obtain ⟨e', i1, i2⟩ := ex_1_ok hR.er hv (show lo ≤ ex_u x by simpa using hx) (show ex_u x ≤ 4294967295 by omega)
    exact ex_jp_ok (hN (e', _) (by show _ ∈ ex_map _ _; rw [ex_map_eq]; exact List.mem_map.mpr ⟨e', i1, rfl⟩)) (hR.env i2)
  | t :: ts, lo, hN => by
    have hN1 : ex_N p l e R s m args below meth c Q D ρ b A mL w0 t0 pr (ex_app (ex_map (fun e => (e, (ex_jp pr t, lv, rest, h, n, k1, k2))) (ex_1 en v lo lo)) (ex_sw pr q en lv v rest h n k1 k2 ts (lo + 1))) := hN
    rw [ex_app_eq, ex_map_eq] at hN1
    have ih := ex_sw_ok hv hR ts (lo + 1) (fun x hx => hN1 x (List.mem_append_right _ hx))
    refine ⟨fun j t' hj hx => ?_, fun hx => ih.2 (by rw [List.length_cons] at hx; omega)⟩
    cases j with
    | zero =>
      cases hj
      obtain ⟨e', i1, i2⟩ := ex_1_ok hR.er hv (show lo ≤ ex_u x by omega) (show ex_u x ≤ lo by omega)
      exact ex_jp_ok (hN1 (e', _) (List.mem_append_left _ (List.mem_map.mpr ⟨e', i1, rfl⟩))) (hR.env i2)
    | succ j => exact ih.1 j t' (by rw [List.getElem?_cons_succ] at hj; exact hj) (by omega)
end EXF
end
section
section EXH
variable {p : Program} {l : Launch} {e : Env} {R : Room} {s : State} {m : MethodId} {args : Array Value} {below : List Frame} {meth : Method} {c : Code} {Q : State → Prop} {D : va_G} {ρ : Nat → Int32} {b L : Nat} {A : Nat → Prop} {mL d : Nat} {w0 : va_W} {t0 : List (ClassId × FieldType)} {pr : List ex_P} {own nm : String} {cd : ByteArray} {cap : Nat × Nat} {isl : Bool}
variable {en : ex_E} {lv : ex_L} {st : List ex_V} {h : ex_H} {n k1 k2 : Nat} {ls : Array Slot} {xs : List Value} {ws : va_W} {tys : List (ClassId × FieldType)} {H : Heap} {locs : List Loc} {q : ex_P} {r : List ex_P} {o : List (ex_E × ex_S)}
theorem ex_Rl.hr (hR : ex_Rl s D ρ b A mL w0 t0 en lv st h n ls xs ws tys H locs) : ex_hr ρ b tys ws h n := hR.2.2.2.1
theorem ex_Rl.hK (hR : ex_Rl s D ρ b A mL w0 t0 en lv st h n ls xs ws tys H locs) : va_K D vwCl tys s := hR.2.2.2.2.1
theorem ex_Rl.hP (hR : ex_Rl s D ρ b A mL w0 t0 en lv st h n ls xs ws tys H locs) : va_P D vwCl ws H := hR.2.2.2.2.2.1
theorem ex_Rl.hD (hR : ex_Rl s D ρ b A mL w0 t0 en lv st h n ls xs ws tys H locs) : va_D A ws := hR.2.2.2.2.2.2.1
theorem ex_Rl.hS (hR : ex_Rl s D ρ b A mL w0 t0 en lv st h n ls xs ws tys H locs) : va_S A s.heap H locs := hR.2.2.2.2.2.2.2.1
/-- the world goes on: cells stay, what is said of them is new -/
theorem ex_Rl.world (hR : ex_Rl s D ρ b A mL w0 t0 en lv st h n ls xs ws tys H locs) {ws' : va_W} {tys' : List (ClassId × FieldType)} {H' : Heap} {locs' : List Loc} {h' : ex_H} {n' : Nat} (hx : ex_xt ws ws') (ht : ∀ t ∈ tys, t ∈ tys') (hh : ex_hr ρ b tys' ws' h' n') (hK : va_K D vwCl tys' s) (hP : va_P D vwCl ws' H') (hD : va_D A ws') (hS : va_S A s.heap H' locs') : ex_Rl s D ρ b A mL w0 t0 en lv st h' n' ls xs ws' tys' H' locs' := by
  obtain ⟨⟨lw, a1, a2⟩, a3, a4, a5, a6, a7, a8, a9, a10, a11⟩ := hR
  exact ⟨⟨lw, a1, a2.mono hx⟩, a3, a4.mono hx, hh, hK, hP, hD, hS, a10.tr hx, fun t h => ht t (a11 t h)⟩
/-- a cell's new words -/
theorem ex_hr.put (hh : ex_hr ρ b tys ws h n) {k a : Nat} {ev ev' : va_E} (hk : ws[k]? = some (a, ev)) {cv : ex_C} (hc : ex_cr ρ b tys (ws.set k (a, ev')) cv ev') : ex_hr ρ b tys (ws.set k (a, ev')) (ex_put h k cv) n := by
  refine ⟨by rw [List.length_set]; exact hh.1, fun j cj hj => ?_⟩
  rcases ex_put_get hj with ⟨rfl, rfl⟩ | ⟨hne, hj⟩
  · exact ⟨a, ev', by rw [List.getElem?_set_self (List.getElem?_eq_some_iff.mp hk).1], hc⟩
  · obtain ⟨a', e', h1, h2⟩ := hh.2 j cj hj
    exact ⟨a', e', by rw [List.getElem?_set_ne (Ne.symm hne)]; exact h1, h2.mono (ex_xt.set hk) (fun _ h => h)⟩
theorem ex_hr.push (hh : ex_hr ρ b tys ws h n) {h' : ex_H} {cv : ex_C} (hp : ex_push h n cv = some h') {a : Nat} {ev : va_E} {tys' : List (ClassId × FieldType)} (ht : ∀ t ∈ tys, t ∈ tys') (hc : ex_cr ρ b tys' (ws ++ [(a, ev)]) cv ev) : ex_hr ρ b tys' (ws ++ [(a, ev)]) h' (n + 1) := by
  refine ⟨by rw [List.length_append, hh.1]; rfl, fun j cj hj => ?_⟩
  rcases ex_push_get hp hj with ⟨rfl, rfl⟩ | hj
  · exact ⟨a, ev, by rw [← hh.1, List.getElem?_append_right (Nat.le_refl _), Nat.sub_self]; rfl, hc⟩
  · obtain ⟨a', e', h1, h2⟩ := hh.2 j cj hj
    exact ⟨a', e', by rw [List.getElem?_append_left (List.getElem?_eq_some_iff.mp h1).1]; exact h1, h2.mono ex_xt.app ht⟩
/-- an object is where its number says -/
theorem ex_hr.obj (hh : ex_hr ρ b tys ws h n) {k : Nat} {oc : Nat × List ex_V} (hk : ex_get h k = some (.inl oc)) : ∃ (a : Nat) (vs : List Value), ws[k]? = some (a, .inr (oc.1, vs)) ∧ oc.2.length = vs.length ∧ ∀ (j : Nat) (v : ex_V), ex_nth oc.2 j = some v → ∃ x, vs[j]? = some x ∧ ex_vr ρ b ws v x := by
  obtain ⟨a, ev, h1, h2⟩ := hh.2 k _ hk
  rcases ev with w | w
  · exact h2.elim
  · obtain ⟨c1, c2, c3⟩ := h2
    obtain ⟨ci, vs⟩ := w
    dsimp only at c1 c2 c3
    subst c1
    exact ⟨a, vs, h1, c2, c3⟩
theorem ex_hr.arr (hh : ex_hr ρ b tys ws h n) {k t N : Nat} {ov : List (Nat × ex_V)} (hk : ex_get h k = some (.inr (t, N, ov))) : ∃ (a : Nat) (cA : ClassId) (ar : vp_A), ws[k]? = some (a, .inl (cA, ar)) ∧ (cA, ex_ty t) ∈ tys ∧ t ≤ 4 ∧ ar.1 = N ∧ ex_ak t ar ∧ ∀ j, j < N → ex_vr ρ b ws (ex_ov t ov j) (ex_ag ar j) := by
  obtain ⟨a, ev, h1, h2⟩ := hh.2 k _ hk
  rcases ev with w | w
  · exact ⟨a, w.1, w.2, h1, h2⟩
  · exact h2.elim
theorem ex_at {k : Nat} {a a' : Nat} {ev ev' : va_E} (h1 : ws[k]? = some (a, ev)) (h2 : ws[k]? = some (a', ev')) : a = a' := by
  rw [h1] at h2
  cases h2
  rfl
theorem ex_gf_ok {ix : Nat} {rc : vw_C} (hc : vwCl[q.2.2.2.1]? = some rc) (hk : q.2.2.2.2.1 < rc.2.2) (hl : Cond.fieldLink own ix (rc.2.1 q.2.2.2.2.1).1 (rc.2.1 q.2.2.2.2.1).2.1 (rc.2.1 q.2.2.2.2.1).2.2.1 ∈ ex_tb) (X : ex_X p R s m args meth c ρ b L A own nm cd mL d cap isl) (hlen : q.2.2.1 = 3) (hdg : decode cd q.1 = .ok (.getfield ix, 3))
    (hs : ex_gf q r en lv st h n k1 k2 = some o) (hN : ex_N p l e R s m args below meth c Q D ρ b A mL w0 t0 pr o) (hsub : ∀ x ∈ q :: r, x ∈ pr) (hR : ex_Rl s D ρ b A mL w0 t0 en lv st h n ls xs ws tys H locs) : W p l e R s m args below meth c H locs k1 k2 Q (F0 m q.1 ls xs) := by
  unfold ex_gf at hs
  split at hs
  · rename_i ob rest
    split at hs
    · rename_i ci fs hget
      split at hs
      · rename_i v hv
        obtain ⟨h1, h2⟩ := ex_bifs hs
        have h1 := ex_beq h1
        subst h1
        obtain ⟨x, xr, rfl, hvr, hr⟩ := ex_sr_cons hR.sr
        obtain ⟨a, ev, e1, rfl⟩ := hvr
        obtain ⟨a', vs, f1, f2, f3⟩ := hR.hr.obj hget
        have ea := ex_at e1 f1
        subst ea
        obtain ⟨y, g1, g2⟩ := f3 _ _ hv
        obtain ⟨x1, x2, x3, x4, x5, x6⟩ := X
        have W1 := ex_ft_ok h2 hN.g hsub (hR.stk (st' := v :: rest) (xs' := y :: xr) ⟨g2, hr⟩)
        rw [hlen] at W1
        exact va_get (C := rc.1) (T := rc.2.1) (N := rc.2.2) x1 x2 x5 (ex_cli hc).1 x4 hR.hK hR.hP ob f1 hc _ hk (x5 _ hl) (fun _ h9 => h9) g1 hdg W1
      · cases hs
    · cases hs
  · cases hs
/-- a field's new value is kept as it is -/
theorem ex_okf_ok {ty : Nat} {v : ex_V} {x : Value} {ft : FieldType} (he : ex_er ρ en) (hk : ex_okf en ty v = true) (hv : ex_vr ρ b ws v x) (hty : (ty = 0 ∧ ft = .int) ∨ (ty = 1 ∧ ((∃ C, ft = .object C) ∨ ∃ t, ft = .array t)) ∨ (ty = 2 ∧ ft = .boolean)) : narrow ft x = x ∧ fits ft x = true := by
  unfold ex_okf at hk
  rcases hty with ⟨rfl, rfl⟩ | ⟨rfl, hf⟩ | ⟨rfl, rfl⟩
  · obtain ⟨y, rfl⟩ := ex_vr_int hv hk
    exact ⟨rfl, rfl⟩
  · have hx : x = .null ∨ ∃ a, x = .ref a := by
      rcases v with v | (_ | k) | v
      · cases hk
      · exact Or.inl hv
      · obtain ⟨a, ev, -, rfl⟩ := hv
        exact Or.inr ⟨a, rfl⟩
      · cases hk
    rcases hf with ⟨C, rfl⟩ | ⟨t, rfl⟩ <;> rcases hx with rfl | ⟨a, rfl⟩ <;> exact ⟨rfl, rfl⟩
  · have hk : (match ex_cst en v with
      | some u => Nat.beq u 2147483648 || Nat.beq u 2147483649
      | none => false) = true := hk
    split at hk
    · rename_i u hu
      obtain ⟨y, rfl⟩ := ex_vr_int hv (ex_cst_isI hu)
      have e1 := ex_cst_ok he hu hv
      have hy : y = 0 ∨ y = 1 := by
        rcases Bool.or_eq_true _ _ |>.mp hk with h1 | h1
        · exact Or.inl (ex_u_inj (by rw [e1, ex_beq h1, ex_u_0]))
        · exact Or.inr (ex_u_inj (by rw [e1, ex_beq h1]; decide))
      rcases hy with rfl | rfl <;> exact ⟨rfl, by decide⟩
    · cases hk
/-- what a field's type is, by the executor's number -/
def ex_tk (ty : Nat) (d : String) : Bool := match parseFieldDescriptor d with
  | some .int => Nat.beq ty 0
  | some (.object _) => Nat.beq ty 1
  | some (.array _) => Nat.beq ty 1
  | some .boolean => Nat.beq ty 2
  | _ => false
theorem ex_tk_ok {ty : Nat} {dd : String} (hk : ex_tk ty dd = true) : ∃ ft, parseFieldDescriptor dd = some ft ∧ ((ty = 0 ∧ ft = .int) ∨ (ty = 1 ∧ ((∃ C, ft = .object C) ∨ ∃ t, ft = .array t)) ∨ (ty = 2 ∧ ft = .boolean)) := by
  unfold ex_tk at hk
  split at hk
  · rename_i hp
    exact ⟨_, hp, Or.inl ⟨ex_beq hk, rfl⟩⟩
  · rename_i C hp
    exact ⟨_, hp, Or.inr (Or.inl ⟨ex_beq hk, Or.inl ⟨C, rfl⟩⟩)⟩
  · rename_i C hp
    exact ⟨_, hp, Or.inr (Or.inl ⟨ex_beq hk, Or.inr ⟨C, rfl⟩⟩)⟩
  · rename_i hp
    exact ⟨_, hp, Or.inr (Or.inr ⟨ex_beq hk, rfl⟩)⟩
  · cases hk
theorem ex_pf_ok {ix : Nat} {rc : vw_C} (hc : vwCl[q.2.2.2.1]? = some rc) (hk : q.2.2.2.2.1 < rc.2.2) (hl : Cond.fieldLink own ix (rc.2.1 q.2.2.2.2.1).1 (rc.2.1 q.2.2.2.2.1).2.1 (rc.2.1 q.2.2.2.2.1).2.2.1 ∈ ex_tb) (hfin : (rc.2.1 q.2.2.2.2.1).2.2.2 = false ∨ (nm = "<init>" ∧ (rc.2.1 q.2.2.2.2.1).1 = own)) (htk : ex_tk q.2.2.2.2.2.1 (rc.2.1 q.2.2.2.2.1).2.2.1 = true) (X : ex_X p R s m args meth c ρ b L A own nm cd mL d cap isl) (hlen : q.2.2.1 = 3) (hdg : decode cd q.1 = .ok (.putfield ix, 3))
    (hs : ex_pf q r en lv st h n k1 k2 = some o) (hN : ex_N p l e R s m args below meth c Q D ρ b A mL w0 t0 pr o) (hsub : ∀ x ∈ q :: r, x ∈ pr) (hR : ex_Rl s D ρ b A mL w0 t0 en lv st h n ls xs ws tys H locs) : W p l e R s m args below meth c H locs k1 k2 Q (F0 m q.1 ls xs) := by
  unfold ex_pf at hs
  split at hs
  · rename_i v ob rest
    split at hs
    · rename_i ci fs hget
      split at hs
      · rename_i v0 hv0
        obtain ⟨h1, h2⟩ := ex_bifs hs
        obtain ⟨h1, h3⟩ := ex_and h1
        have h1 := ex_beq h1
        subst h1
        obtain ⟨x, xr, rfl, hvr, hr⟩ := ex_sr_cons hR.sr
        obtain ⟨x', xr', rfl, hvr', hr'⟩ := ex_sr_cons hr
        obtain ⟨a, ev, e1, rfl⟩ := hvr'
        obtain ⟨a', vs, f1, f2, f3⟩ := hR.hr.obj hget
        have ea := ex_at e1 f1
        subst ea
        obtain ⟨y, g1, g2⟩ := f3 _ _ hv0
        obtain ⟨ft, t1, t2⟩ := ex_tk_ok htk
        obtain ⟨n1, n2⟩ := ex_okf_ok hR.er h3 hvr t2
        have hlt : q.2.2.2.2.1 < vs.length := (List.getElem?_eq_some_iff.mp g1).1
        obtain ⟨cw, ⟨ty0, hty0⟩, hnm⟩ := ex_cli hc
        obtain ⟨x1, x2, x3, x4, x5, x6, x7, x8, x9, x10, x11⟩ := X
        have hx := ex_xt.set (e' := .inr (q.2.2.2.1, vs.set q.2.2.2.2.1 x)) f1
        have hcr : ex_cr ρ b tys (ws.set ob (a, .inr (q.2.2.2.1, vs.set q.2.2.2.2.1 x))) (.inl (q.2.2.2.1, ex_set fs q.2.2.2.2.1 v)) (.inr (q.2.2.2.1, vs.set q.2.2.2.2.1 x)) := by
          refine ⟨rfl, by show (ex_set fs q.2.2.2.2.1 v).length = (vs.set q.2.2.2.2.1 x).length; rw [ex_set_eq, List.length_set, List.length_set]; exact f2, fun j w hj0 => ?_⟩
          have hj : ex_nth (ex_set fs q.2.2.2.2.1 v) j = some w := hj0
          clear hj0
          show ∃ z, (vs.set q.2.2.2.2.1 x)[j]? = some z ∧ _
          rw [ex_nth_get, ex_set_eq, List.getElem?_set] at hj
          split at hj
          · rename_i hij
            subst hij
            split at hj
            · injection hj with hj
              subst hj
              exact ⟨x, by rw [List.getElem?_set_self hlt], hvr.mono hx⟩
            · cases hj
          · rename_i hij
            obtain ⟨z, z1, z2⟩ := f3 j w (by rw [ex_nth_get]; exact hj)
            exact ⟨z, by rw [List.getElem?_set_ne hij]; exact z1, z2.mono hx⟩
        have W1 : ∀ (H1 : Heap) (locs1 : List Loc), va_P D vwCl (ws.set ob (a, .inr (q.2.2.2.1, vs.set q.2.2.2.2.1 x))) H1 → va_D A (ws.set ob (a, .inr (q.2.2.2.1, vs.set q.2.2.2.2.1 x))) → va_S A s.heap H1 locs1 → W p l e R s m args below meth c H1 locs1 k1 k2 Q (F0 m (q.1 + 3) ls xr') := fun H1 locs1 hP hD hS => by
          have W2 := ex_ft_ok h2 hN.g hsub ((hR.stk hr').world hx (fun _ h => h) (hR.hr.put f1 hcr) hR.hK hP hD hS)
          rw [hlen] at W2
          exact W2
        rcases hfin with hfin | ⟨hi, hown⟩
        · exact va_put (C := rc.1) (T := rc.2.1) (N := rc.2.2) x1 x2 x5 cw ty0 hty0 hnm x4 hR.hK hR.hP hR.hD hR.hS ob f1 hc _ hk (x5 _ hl) (fun _ h9 => h9) hfin t1 n1 n2 hlt hdg W1
        · cases hfb : (rc.2.1 q.2.2.2.2.1).2.2.2 with
          | false => exact va_put (C := rc.1) (T := rc.2.1) (N := rc.2.2) x1 x2 x5 cw ty0 hty0 hnm x4 hR.hK hR.hP hR.hD hR.hS ob f1 hc _ hk (x5 _ hl) (fun _ h9 => h9) hfb t1 n1 n2 hlt hdg W1
          | true => exact va_putF (C := rc.1) (T := rc.2.1) (N := rc.2.2) x1 x2 x5 cw ty0 hty0 hnm x4 hR.hK hR.hP hR.hD hR.hS ob f1 hc _ hk (x5 _ hl) (fun _ h9 => h9) hfb (x10.trans hi) hown t1 n1 n2 hlt hdg W1
      · cases hs
    · cases hs
  · cases hs
theorem ex_nw_ok {ix : Nat} {rc : vw_C} {df : Nat → List ex_V} (hdf : (df q.2.2.2.1).length = rc.2.2 ∧ ∀ (ty0 : Nat → FieldType), (∀ k, k < rc.2.2 → parseFieldDescriptor (rc.2.1 k).2.2.1 = some (ty0 k)) → ∃ fs : List Value, fs.length = rc.2.2 ∧ (∀ j, j < rc.2.2 → defaultValue (ty0 j) = vp_V fs j) ∧ ∀ (j : Nat) (v : ex_V), ex_nth (df q.2.2.2.1) j = some v → ∀ (ρ : Nat → Int32) (b : Nat) (ws : va_W), ∃ x, fs[j]? = some x ∧ ex_vr ρ b ws v x) (hc : vwCl[q.2.2.2.1]? = some rc) (hnn : q.2.2.2.2.1 = rc.2.2) (hl : Cond.classLink own ix rc.1 ∈ ex_tb) (hin : Cond.instantiable rc.1 rc.2.2 ∈ ex_tb) (hini : Cond.initialized rc.1 ∈ ex_tb) (X : ex_X p R s m args meth c ρ b L A own nm cd mL d cap isl) (hlen : q.2.2.1 = 3) (hdg : decode cd q.1 = .ok (.new ix, 3))
    (hs : ex_nw cap df q r en lv st h n k1 k2 = some o) (hN : ex_N p l e R s m args below meth c Q D ρ b A mL w0 t0 pr o) (hsub : ∀ x ∈ q :: r, x ∈ pr) (hR : ex_Rl s D ρ b A mL w0 t0 en lv st h n ls xs ws tys H locs) : W p l e R s m args below meth c H locs k1 k2 Q (F0 m q.1 ls xs) := by
  unfold ex_nw at hs
  split at hs
  · rename_i h' hp
    obtain ⟨h1, h2⟩ := ex_bifs hs
    obtain ⟨h1, h3⟩ := ex_and h1
    have h1 := ex_ble h1
    have h3 := ex_ble h3
    obtain ⟨cw, ⟨ty0, hty0⟩, hnm⟩ := ex_cli hc
    obtain ⟨x1, x2, x3, x4, x5, x6, x7, x8, x9, x10, x11, x12⟩ := X
    obtain ⟨d1, d2⟩ := hdf
    obtain ⟨fs, d3, d4, d5⟩ := d2 ty0 hty0
    refine va_new (ci := q.2.2.2.1) (fs := fs) (C := rc.1) (T := rc.2.1) (N := rc.2.2) x1 x2 x5 cw ty0 hty0 x4 (x5 _ hl) (x5 _ hin) (x5 _ hini) hR.hK hR.hP hR.hD hR.hS x6 hc d4 (Nat.le_trans h1 x11.1) (Nat.le_trans (by rw [hnn] at h3; exact h3) x11.2) hdg (fun a H1 hP hD hS => ?_)
    have hcr : ex_cr ρ b tys (ws ++ [(a, .inr (q.2.2.2.1, fs))]) (.inl (q.2.2.2.1, df q.2.2.2.1)) (.inr (q.2.2.2.1, fs)) := ⟨rfl, d1.trans d3.symm, fun j v hj => d5 j v hj _ _ _⟩
    have hv : ex_vr ρ b (ws ++ [(a, .inr (q.2.2.2.1, fs))]) (ex_a (some n)) (.ref a) := ⟨a, .inr (q.2.2.2.1, fs), by rw [← hR.hr.1, List.getElem?_append_right (Nat.le_refl _), Nat.sub_self]; rfl, rfl⟩
    have W2 := ex_ft_ok h2 hN.g hsub ((hR.world ex_xt.app (fun _ h => h) (hR.hr.push hp (fun _ h => h) hcr) hR.hK hP hD hS).push hv)
    rw [hlen, hnn] at W2
    exact W2
  · cases hs
theorem ex_ix_ok {i : ex_V} {N j : Nat} (he : ex_er ρ en) (hi : ex_ix en i N = some j) {y : Int32} (hv : ex_vr ρ b ws i (.int y)) : j < N ∧ ex_u y = j + 2147483648 ∧ y.toNatClampNeg = j ∧ ¬ y < 0 := by
  unfold ex_ix at hi
  split at hi
  · rename_i u hu
    obtain ⟨h1, h2⟩ := ex_bifs hi
    injection h2 with h2
    obtain ⟨h1, h3⟩ := ex_and h1
    have h1 := ex_ble h1
    have h3 := ex_blt h3
    have e1 := ex_cst_ok he hu hv
    have g1 : 2147483648 ≤ ex_u y := by omega
    exact ⟨by omega, by omega, by rw [ex_u_cl g1, e1]; exact h2, ex_u_nneg g1⟩
  · cases hi
theorem ex_vpin {y : Int32} {N j : Nat} (h1 : j < N) (h2 : y.toNatClampNeg = j) (h3 : ¬ y < 0) : vp_in y N := fun hh => hh.elim h3 (fun q => by omega)
theorem ex_ty_in {t : Nat} {cA : ClassId} (h : (cA, ex_ty t) ∈ tys) : ∃ k : Nat, tys[k]? = some (cA, ex_ty t) := List.getElem?_of_mem h
theorem ex_na_ok {at_ : ArrayType} (ht : newarray.typeOf at_ = ex_ty q.2.2.2.1 ∧ q.2.2.2.1 ≤ 3) (hl : Cond.arrayClass (ex_ty q.2.2.2.1) ∈ ex_tb) (X : ex_X p R s m args meth c ρ b L A own nm cd mL d cap isl) (hlen : q.2.2.1 = 2) (hdg : decode cd q.1 = .ok (.newarray at_, 2))
    (hs : ex_na cap q r en lv st h n k1 k2 = some o) (hN : ex_N p l e R s m args below meth c Q D ρ b A mL w0 t0 pr o) (hsub : ∀ x ∈ q :: r, x ∈ pr) (hR : ex_Rl s D ρ b A mL w0 t0 en lv st h n ls xs ws tys H locs) : W p l e R s m args below meth c H locs k1 k2 Q (F0 m q.1 ls xs) := by
  unfold ex_na at hs
  split at hs
  · rename_i i rest
    split at hs
    · rename_i N hix
      split at hs
      · rename_i h' hp
        obtain ⟨h1, h2⟩ := ex_bifs hs
        obtain ⟨h1, h3⟩ := ex_and h1
        obtain ⟨hI, h1⟩ := ex_and h1
        have h1 := ex_ble h1
        have h3 := ex_ble h3
        obtain ⟨x, xr, rfl, hvr, hr⟩ := ex_sr_cons hR.sr
        obtain ⟨y, rfl⟩ := ex_vr_int hvr hI
        obtain ⟨i1, i2, i3, i4⟩ := ex_ix_ok hR.er hix hvr
        obtain ⟨x1, x2, x3, x4, x5, x6, x7, x8, x9, x10, x11, x12⟩ := X
        obtain ⟨ht, ht3⟩ := ht
        have hbig : N * componentBytes (ex_ty q.2.2.2.1) ≤ 536870912 := by
          have : componentBytes (ex_ty q.2.2.2.1) ≤ 8 := by
            rcases (show q.2.2.2.1 = 0 ∨ q.2.2.2.1 = 1 ∨ q.2.2.2.1 = 2 ∨ q.2.2.2.1 = 3 by omega) with z | z | z | z <;> rw [z] <;> decide
          have := Nat.mul_le_mul (Nat.le_of_lt i1) this
          omega
        obtain ⟨a0, ha1, ha2, ha3, ha4⟩ : ∃ a0 : vp_A, (∀ cA : ClassId, vp_cell cA a0 = arrV cA N (fun _ => defaultValue (ex_ty q.2.2.2.1))) ∧ a0.1 = N ∧ ex_ak q.2.2.2.1 a0 ∧ ∀ (j : Nat) (ρ : Nat → Int32) (b : Nat) (ws : va_W), ex_vr ρ b ws (ex_ov q.2.2.2.1 [] j) (ex_ag a0 j) := by
          rcases (show q.2.2.2.1 = 0 ∨ q.2.2.2.1 = 1 ∨ q.2.2.2.1 = 2 ∨ q.2.2.2.1 = 3 by omega) with z | z | z | z <;> rw [z]
          · exact ⟨(N, .inl (fun _ => 0)), fun cA => rfl, rfl, ⟨_, rfl⟩, fun j ρ b ws => ⟨0, rfl, ex_u_0⟩⟩
          · exact ⟨(N, .inl (fun _ => 0)), fun cA => rfl, rfl, ⟨_, rfl⟩, fun j ρ b ws => ⟨0, rfl, ex_u_0⟩⟩
          · exact ⟨(N, .inr (.inl (fun _ => 0))), fun cA => rfl, rfl, ⟨_, rfl⟩, fun j ρ b ws => rfl⟩
          · exact ⟨(N, .inl (fun _ => 0)), fun cA => rfl, rfl, ⟨_, rfl⟩, fun j ρ b ws => ⟨0, rfl, ex_u_0⟩⟩
        refine va_newa (a0 := a0) x1 x2 (by rw [ht]; exact x5 _ hl) ht hR.hK hR.hP hR.hD hR.hS x6 ha1 i4 i3 hbig (Nat.le_trans h1 x11.1) (Nat.le_trans h3 x11.2) hdg (fun a cA H1 hK hP hD hS => ?_)
        have hcr : ex_cr ρ b (tys ++ [(cA, ex_ty q.2.2.2.1)]) (ws ++ [(a, .inl (cA, a0))]) (.inr (q.2.2.2.1, N, [])) (.inl (cA, a0)) := ⟨List.mem_append_right _ (List.mem_singleton.mpr rfl), (show q.2.2.2.1 ≤ 4 by omega), ha2, ha3, fun j hj => ha4 j _ _ _⟩
        have hv : ex_vr ρ b (ws ++ [(a, .inl (cA, a0))]) (ex_a (some n)) (.ref a) := ⟨a, .inl (cA, a0), by rw [← hR.hr.1, List.getElem?_append_right (Nat.le_refl _), Nat.sub_self]; rfl, rfl⟩
        have W2 := ex_ft_ok h2 hN.g hsub (((hR.stk hr).world ex_xt.app (fun _ h => List.mem_append_left _ h) (hR.hr.push hp (fun _ h => List.mem_append_left _ h) hcr) hK hP hD hS).push hv)
        rw [hlen] at W2
        exact W2
      · cases hs
    · cases hs
  · cases hs
theorem ex_nq_ok {ix : Nat} (ht : q.2.2.2.1 = 4) (hl : Cond.classLink own ix "HatchLights$Scene" ∈ ex_tb) (X : ex_X p R s m args meth c ρ b L A own nm cd mL d cap isl) (hlen : q.2.2.1 = 3) (hdg : decode cd q.1 = .ok (.anewarray ix, 3))
    (hs : ex_na cap q r en lv st h n k1 k2 = some o) (hN : ex_N p l e R s m args below meth c Q D ρ b A mL w0 t0 pr o) (hsub : ∀ x ∈ q :: r, x ∈ pr) (hR : ex_Rl s D ρ b A mL w0 t0 en lv st h n ls xs ws tys H locs) : W p l e R s m args below meth c H locs k1 k2 Q (F0 m q.1 ls xs) := by
  unfold ex_na at hs
  split at hs
  · rename_i i rest
    split at hs
    · rename_i N hix
      split at hs
      · rename_i h' hp
        obtain ⟨h1, h2⟩ := ex_bifs hs
        obtain ⟨h1, h3⟩ := ex_and h1
        obtain ⟨hI, h1⟩ := ex_and h1
        have h1 := ex_ble h1
        have h3 := ex_ble h3
        obtain ⟨x, xr, rfl, hvr, hr⟩ := ex_sr_cons hR.sr
        obtain ⟨y, rfl⟩ := ex_vr_int hvr hI
        obtain ⟨i1, i2, i3, i4⟩ := ex_ix_ok hR.er hix hvr
        obtain ⟨x1, x2, x3, x4, x5, x6, x7, x8, x9, x10, x11, x12⟩ := X
        refine va_newq x1 x2 x4 (x5 _ hl) x8 hR.hK hR.hP hR.hD hR.hS x6 i4 i3 (by omega) (Nat.le_trans h1 x11.1) (Nat.le_trans h3 x11.2) hdg (fun a cA H1 hK hP hD hS => ?_)
        have hcr : ex_cr ρ b (tys ++ [(cA, .object "HatchLights$Scene")]) (ws ++ [(a, .inl (cA, N, .inr (.inr (.inr (.inr (fun _ => none))))))]) (.inr (q.2.2.2.1, N, [])) (.inl (cA, N, .inr (.inr (.inr (.inr (fun _ => none)))))) := by
          rw [ht]
          exact ⟨List.mem_append_right _ (List.mem_singleton.mpr rfl), Nat.le_refl 4, rfl, ⟨_, rfl⟩, fun j hj => rfl⟩
        have hv : ex_vr ρ b (ws ++ [(a, .inl (cA, N, .inr (.inr (.inr (.inr (fun _ => none))))))]) (ex_a (some n)) (.ref a) := ⟨a, _, by rw [← hR.hr.1, List.getElem?_append_right (Nat.le_refl _), Nat.sub_self]; rfl, rfl⟩
        have W2 := ex_ft_ok h2 hN.g hsub (((hR.stk hr).world ex_xt.app (fun _ h => List.mem_append_left _ h) (hR.hr.push hp (fun _ h => List.mem_append_left _ h) hcr) hK hP hD hS).push hv)
        rw [hlen] at W2
        exact W2
      · cases hs
    · cases hs
  · cases hs
end EXH
end
section
section EXR
variable {p : Program} {l : Launch} {e : Env} {R : Room} {s : State} {m : MethodId} {args : Array Value} {below : List Frame} {meth : Method} {c : Code} {Q : State → Prop} {D : va_G} {ρ : Nat → Int32} {b L : Nat} {A : Nat → Prop} {mL d : Nat} {w0 : va_W} {t0 : List (ClassId × FieldType)} {pr : List ex_P} {own nm : String} {cd : ByteArray} {cap : Nat × Nat} {isl : Bool}
variable {en : ex_E} {lv : ex_L} {st : List ex_V} {h : ex_H} {n k1 k2 : Nat} {ls : Array Slot} {xs : List Value} {ws : va_W} {tys : List (ClassId × FieldType)} {H : Heap} {locs : List Loc} {q : ex_P} {r : List ex_P} {o : List (ex_E × ex_S)}
theorem ex_u_nat {N : Nat} (h : N ≤ 100000) : ex_u (Int32.ofNat N) = N + 2147483648 := by
  have h1 := ex_u_int (nI N)
  rw [nI_toInt (by omega)] at h1
  have : ex_u (nI N) = ex_u (Int32.ofNat N) := rfl
  omega
theorem ex_al_ok (X : ex_X p R s m args meth c ρ b L A own nm cd mL d cap isl) (hlen : q.2.2.1 = 1) (hdg : decode cd q.1 = .ok (.arraylength, 1))
    (hs : ex_al isl L q r en lv st h n k1 k2 = some o) (hN : ex_N p l e R s m args below meth c Q D ρ b A mL w0 t0 pr o) (hsub : ∀ x ∈ q :: r, x ∈ pr) (hR : ex_Rl s D ρ b A mL w0 t0 en lv st h n ls xs ws tys H locs) : W p l e R s m args below meth c H locs k1 k2 Q (F0 m q.1 ls xs) := by
  obtain ⟨x1, x2, x3, x4, x5, x6, x7, x8, x9, x10, x11, x12⟩ := X
  unfold ex_al at hs
  split at hs
  · rename_i ob rest
    split at hs
    · rename_i t N ov hget
      obtain ⟨h1, h2⟩ := ex_bifs hs
      have h1 := ex_ble h1
      obtain ⟨x, xr, rfl, hvr, hr⟩ := ex_sr_cons hR.sr
      obtain ⟨a, ev, e1, rfl⟩ := hvr
      obtain ⟨a', cA, ar, f1, f2, f3, f4, f5, f6⟩ := hR.hr.arr hget
      have ea := ex_at e1 f1
      subst ea
      obtain ⟨tk, ht⟩ := ex_ty_in f2
      have W1 := ex_ft_ok h2 hN.g hsub (hR.stk (st' := ex_k (N + 2147483648) :: rest) (xs' := .int (Int32.ofNat ar.1) :: xr) ⟨ex_k_ok _ (by rw [f4]; exact ex_u_nat h1), hr⟩)
      rw [hlen] at W1
      exact va_alen x1 x2 hR.hK hR.hP ob tk f1 ht rfl hdg W1
    · cases hs
  · rename_i rest
    obtain ⟨h1, h2⟩ := ex_bifs hs
    obtain ⟨h1, h3⟩ := ex_and h1
    have h3 := ex_ble h3
    obtain ⟨x, xr, rfl, hvr, hr⟩ := ex_sr_cons hR.sr
    obtain ⟨hX, hbl, hbA⟩ := x9 h1
    have W1 := ex_ft_ok h2 hN.g hsub (hR.stk (st' := ex_k (L + 2147483648) :: rest) (xs' := .int (Int32.ofNat L) :: xr) ⟨ex_k_ok _ (ex_u_nat h3), hr⟩)
    rw [hlen] at W1
    have hvr : x = .ref b := hvr
    subst hvr
    exact va_slen x1 x2 hX hbl hbA hR.hS hdg W1
  · cases hs
theorem ex_ald_ok {ok : Nat → Bool} {il : Bool} (hil : il = true → isl = true) (hs : ex_ald il L ok q r en lv st h n k1 k2 = some o) (hN : ex_N p l e R s m args below meth c Q D ρ b A mL w0 t0 pr o) (hsub : ∀ x ∈ q :: r, x ∈ pr) (hR : ex_Rl s D ρ b A mL w0 t0 en lv st h n ls xs ws tys H locs)
    (row : ∀ (t ob a N j tk : Nat) (cA : ClassId) (ar : vp_A) (y : Int32) (xr : List Value), ok t = true → ws[ob]? = some (a, .inl (cA, ar)) → tys[tk]? = some (cA, ex_ty t) → t ≤ 4 → ar.1 = N → ex_ak t ar → vp_in y N → y.toNatClampNeg = j → W p l e R s m args below meth c H locs k1 k2 Q (F0 m (q.1 + q.2.2.1) ls (ex_ag ar j :: xr)) → W p l e R s m args below meth c H locs k1 k2 Q (F0 m q.1 ls (.int y :: .ref a :: xr)))
    (row2 : ∀ (j : Nat) (y : Int32) (xr : List Value), il = true → vp_in y L → y.toNatClampNeg = j → W p l e R s m args below meth c H locs k1 k2 Q (F0 m (q.1 + q.2.2.1) ls (.int (ρ j) :: xr)) → W p l e R s m args below meth c H locs k1 k2 Q (F0 m q.1 ls (.int y :: .ref b :: xr))) : W p l e R s m args below meth c H locs k1 k2 Q (F0 m q.1 ls xs) := by
  unfold ex_ald at hs
  split at hs
  · rename_i i ob rest
    split at hs
    · exact ex_spl_ok hs hN hsub hR
    · split at hs
      · rename_i t N ov hget
        split at hs
        · rename_i j hix
          obtain ⟨h1, h2⟩ := ex_bifs hs
          obtain ⟨h1, hI⟩ := ex_and h1
          obtain ⟨x, xr, rfl, hvr, hr⟩ := ex_sr_cons hR.sr
          obtain ⟨x', xr', rfl, hvr', hr'⟩ := ex_sr_cons hr
          obtain ⟨y, rfl⟩ := ex_vr_int hvr hI
          obtain ⟨i1, i2, i3, i4⟩ := ex_ix_ok hR.er hix hvr
          obtain ⟨a, ev, e1, rfl⟩ := hvr'
          obtain ⟨a', cA, ar, f1, f2, f3, f4, f5, f6⟩ := hR.hr.arr hget
          have ea := ex_at e1 f1
          subst ea
          obtain ⟨tk, ht⟩ := ex_ty_in f2
          exact row t ob a N j tk cA ar y xr' h1 f1 ht f3 f4 f5 (ex_vpin i1 i3 i4) i3 (ex_ft_ok h2 hN.g hsub (hR.stk (st' := ex_ov t ov j :: rest) ⟨f6 j i1, hr'⟩))
        · cases hs
      · cases hs
  · rename_i i rest
    split at hs
    · rename_i j hix
      obtain ⟨h1, h2⟩ := ex_bifs hs
      obtain ⟨h1, hI⟩ := ex_and h1
      obtain ⟨h1, h3⟩ := ex_and h1
      obtain ⟨x, xr, rfl, hvr, hr⟩ := ex_sr_cons hR.sr
      obtain ⟨x', xr', rfl, hvr', hr'⟩ := ex_sr_cons hr
      obtain ⟨y, rfl⟩ := ex_vr_int hvr hI
      obtain ⟨i1, i2, i3, i4⟩ := ex_ix_ok hR.er hix hvr
      have hvr' : x' = .ref b := hvr'
      subst hvr'
      exact row2 j y xr' h1 (ex_vpin i1 i3 i4) i3 (ex_ft_ok h2 hN.g hsub (hR.stk (st' := ex_v j :: rest) ⟨rfl, hr'⟩))
    · cases hs
  · cases hs
theorem ex_ov_set {t : Nat} {ov : List (Nat × ex_V)} {j : Nat} {v : ex_V} (i : Nat) : ex_ov t (ex_ovset ov j v) i = if i = j then v else ex_ov t ov i := by
  unfold ex_ov
  rw [ex_ovset_lk]
  by_cases hij : i = j
  · rw [if_pos hij, if_pos hij]
  · rw [if_neg hij, if_neg hij]
theorem ex_ast_ok {ok : Nat → ex_V → Option ex_V} (hs : ex_ast q r en lv st h n k1 k2 ok = some o) (hN : ex_N p l e R s m args below meth c Q D ρ b A mL w0 t0 pr o) (hsub : ∀ x ∈ q :: r, x ∈ pr) (hR : ex_Rl s D ρ b A mL w0 t0 en lv st h n ls xs ws tys H locs)
    (row : ∀ (t ob a N j tk : Nat) (cA : ClassId) (ar : vp_A) (y : Int32) (v v' : ex_V) (x : Value) (xr : List Value), ok t v = some v' → ex_vr ρ b ws v x → ws[ob]? = some (a, .inl (cA, ar)) → tys[tk]? = some (cA, ex_ty t) → t ≤ 4 → ar.1 = N → ex_ak t ar → vp_in y N → y.toNatClampNeg = j →
      ∃ ar' : vp_A, ar'.1 = N ∧ ex_ak t ar' ∧ (∀ i, i < N → i ≠ j → ex_ag ar' i = ex_ag ar i) ∧ (∀ ws' : va_W, ex_xt ws ws' → ex_vr ρ b ws' v' (ex_ag ar' j)) ∧ ((∀ (H1 : Heap) (locs1 : List Loc), va_P D vwCl (ws.set ob (a, .inl (cA, ar'))) H1 → va_D A (ws.set ob (a, .inl (cA, ar'))) → va_S A s.heap H1 locs1 → W p l e R s m args below meth c H1 locs1 k1 k2 Q (F0 m (q.1 + q.2.2.1) ls xr)) → W p l e R s m args below meth c H locs k1 k2 Q (F0 m q.1 ls (x :: .int y :: .ref a :: xr)))) : W p l e R s m args below meth c H locs k1 k2 Q (F0 m q.1 ls xs) := by
  unfold ex_ast at hs
  split at hs
  · rename_i v i ob rest
    split at hs
    · exact ex_spl_ok hs hN hsub hR
    · split at hs
      · rename_i t N ov hget
        split at hs
        · rename_i j hix
          split at hs
          · rename_i v' hv'
            obtain ⟨hI, h2⟩ := ex_bifs hs
            obtain ⟨x, xr, rfl, hvr, hr⟩ := ex_sr_cons hR.sr
            obtain ⟨x', xr', rfl, hvr', hr'⟩ := ex_sr_cons hr
            obtain ⟨x'', xr'', rfl, hvr'', hr''⟩ := ex_sr_cons hr'
            obtain ⟨y, rfl⟩ := ex_vr_int hvr' hI
            obtain ⟨i1, i2, i3, i4⟩ := ex_ix_ok hR.er hix hvr'
            obtain ⟨a, ev, e1, rfl⟩ := hvr''
            obtain ⟨a', cA, ar, f1, f2, f3, f4, f5, f6⟩ := hR.hr.arr hget
            have ea := ex_at e1 f1
            subst ea
            obtain ⟨tk, ht⟩ := ex_ty_in f2
            obtain ⟨ar', g1, g2, g3, g4, g5⟩ := row t ob a N j tk cA ar y v v' x xr'' hv' hvr f1 ht f3 f4 f5 (ex_vpin i1 i3 i4) i3
            refine g5 (fun H1 locs1 hP hD hS => ?_)
            have hx := ex_xt.set (e' := .inl (cA, ar')) f1
            have hcr : ex_cr ρ b tys (ws.set ob (a, .inl (cA, ar'))) (.inr (t, N, ex_ovset ov j v')) (.inl (cA, ar')) := ⟨f2, f3, g1, g2, fun z hz => by
              show ex_vr ρ b _ (ex_ov t (ex_ovset ov j v') z) (ex_ag ar' z)
              rw [ex_ov_set]
              split
              · rename_i hzj
                subst hzj
                exact g4 _ hx
              · rename_i hzj
                rw [g3 z hz hzj]
                exact (f6 z hz).mono hx⟩
            exact ex_ft_ok h2 hN.g hsub ((hR.stk hr'').world hx (fun _ h => h) (hR.hr.put f1 hcr) hR.hK hP hD hS)
          · cases hs
        · cases hs
      · cases hs
  · cases hs
theorem ex_cp_ov (a b' : List (Nat × ex_V)) (t sp dp : Nat) : ∀ (k i : Nat), ex_ov t (ex_cp a b' t sp dp k) i = if dp ≤ i ∧ i < dp + k then ex_ov t a (sp + (i - dp)) else ex_ov t b' i
  | 0, i => by
    rw [if_neg (by omega)]; rfl
  | k + 1, i => by
    show ex_ov t (ex_ovset (ex_cp a b' t sp dp k) (dp + k) (ex_ov t a (sp + k))) i = _
    rw [ex_ov_set, ex_cp_ov a b' t sp dp k i]
    by_cases h1 : i = dp + k
    · rw [if_pos h1, if_pos (by omega)]
      subst h1
      rw [show dp + k - dp = k by omega]
    · rw [if_neg h1]
      by_cases h2 : dp ≤ i ∧ i < dp + k
      · rw [if_pos h2, if_pos (by omega)]
      · rw [if_neg h2, if_neg (by omega)]
theorem ex_sum_le : ∀ {st : List ex_V} {xs : List Value}, ex_sr ρ b ws st xs → (xs.map fun v => v.category).sum ≤ 2 * st.length
  | [], [], _ => Nat.le_refl 0
  | [], _ :: _, h => h.elim
  | _ :: _, [], h => h.elim
  | v :: t, x :: r, h => by
    have ih := ex_sum_le h.2
    have := lv_cat x
    rw [List.map_cons, List.sum_cons, List.length_cons]
    omega
theorem ex_acp_ok {ix : Nat} (hl : Cond.methodLink own ix arraycopyName ∈ ex_tb) (hw1 : Cond.native arraycopyName ∈ ex_tb) (hw2 : Cond.static arraycopyName ∈ ex_tb) (hw3 : Cond.initialized "java/lang/System" ∈ ex_tb) (X : ex_X p R s m args meth c ρ b L A own nm cd mL d cap isl) (hlen : q.2.2.1 = 3) (hdg : decode cd q.1 = .ok (.invokestatic ix, 3))
    (hs : ex_acp q r en lv st h n k1 k2 = some o) (hN : ex_N p l e R s m args below meth c Q D ρ b A mL w0 t0 pr o) (hsub : ∀ x ∈ q :: r, x ∈ pr) (hR : ex_Rl s D ρ b A mL w0 t0 en lv st h n ls xs ws tys H locs) : W p l e R s m args below meth c H locs k1 k2 Q (F0 m q.1 ls xs) := by
  obtain ⟨x1, x2, x3, x4, x5, x6, x7, x8, x9, x10, x11, x12, x13⟩ := X
  unfold ex_acp at hs
  split at hs
  · rename_i vm vdp dob vsp sob rest
    split at hs
    · rename_i t N ov t' N' ov' g1 g2
      split at hs
      · rename_i m' s' d' j1 j2 j3
        obtain ⟨h1, h2⟩ := ex_bifs hs
        obtain ⟨h1, hc8⟩ := ex_and h1
        obtain ⟨h1, hI3⟩ := ex_and h1
        obtain ⟨h1, hI2⟩ := ex_and h1
        obtain ⟨h1, hI1⟩ := ex_and h1
        obtain ⟨h1, hc4⟩ := ex_and h1
        obtain ⟨h1, hc3⟩ := ex_and h1
        obtain ⟨hc1, hc2⟩ := ex_and h1
        have hc1 := ex_beq hc1
        have hc2 := ex_beq hc2
        have hc3 := ex_ble hc3
        have hc4 := ex_ble hc4
        have hc8 := ex_ble hc8
        rw [ex_len_eq] at hc8
        subst hc1
        subst hc2
        obtain ⟨y1, r1, rfl, v1, hr1⟩ := ex_sr_cons hR.sr
        obtain ⟨y2, r2, rfl, v2, hr2⟩ := ex_sr_cons hr1
        obtain ⟨y3, r3, rfl, v3, hr3⟩ := ex_sr_cons hr2
        obtain ⟨y4, r4, rfl, v4, hr4⟩ := ex_sr_cons hr3
        obtain ⟨y5, r5, rfl, v5, hr5⟩ := ex_sr_cons hr4
        obtain ⟨z1, rfl⟩ := ex_vr_int v1 hI1
        obtain ⟨z2, rfl⟩ := ex_vr_int v2 hI3
        obtain ⟨z4, rfl⟩ := ex_vr_int v4 hI2
        obtain ⟨a1, b1, c1, d1⟩ := ex_ix_ok hR.er j1 v1
        obtain ⟨a2, b2, c2, d2⟩ := ex_ix_ok hR.er j2 v4
        obtain ⟨a3, b3, c3, d3⟩ := ex_ix_ok hR.er j3 v2
        obtain ⟨ad, ed, w1, rfl⟩ := v3
        obtain ⟨as, es, w2, rfl⟩ := v5
        obtain ⟨as', cA, ar, f1, f2, f3, f4, f5, f6⟩ := hR.hr.arr g1
        obtain ⟨ad', cA', ar', f1', f2', f3', f4', f5', f6'⟩ := hR.hr.arr g2
        have ea := ex_at w2 f1
        subst ea
        have ea := ex_at w1 f1'
        subst ea
        obtain ⟨tk, ht⟩ := ex_ty_in f2
        obtain ⟨tk', ht'⟩ := ex_ty_in f2'
        obtain ⟨N0, arv⟩ := ar
        obtain ⟨N0', arv'⟩ := ar'
        dsimp only at f4 f4'
        subst f4
        subst f4'
        obtain ⟨f, rfl⟩ : ∃ f, arv = .inl f := f5
        obtain ⟨g, rfl⟩ : ∃ f, arv' = .inl f := f5'
        obtain ⟨lw, hl1, hl2⟩ := hR.1
        have hsum := ex_sum_le hr5
        refine va_copyi x1 x2 (x3.trans hl1.1.symm) x4 (x5 _ hl) (x5 _ hw1) (x5 _ hw2) (x5 _ hw3) hR.hK hR.hP hR.hD hR.hS sob dob tk tk' f1 f1' ht ht' rfl d2 d3 d1 (by rw [c1, c2]; exact hc3) (by rw [c1, c3]; exact hc4) (fun _ _ => rfl) (by omega) (by
          have hnw : nativeFrameWords "java/lang/System" "arraycopy" 5 ≤ 41 := by decide
          omega) hdg (fun H1 locs1 hP hD hS => ?_)
        rw [c1, c2, c3] at hP hD
        have hx := ex_xt.set (e' := .inl (cA', N0', .inl (va_cpy f g s' d' m'))) f1'
        have hcr : ex_cr ρ b tys (ws.set dob (ad, .inl (cA', N0', .inl (va_cpy f g s' d' m')))) (.inr (0, N0', ex_cp ov ov' 0 s' d' m')) (.inl (cA', N0', .inl (va_cpy f g s' d' m'))) := by
          refine ⟨f2', f3', rfl, ⟨_, rfl⟩, fun z hz => ?_⟩
          have hz : z < N0' := hz
          show ex_vr ρ b _ (ex_ov 0 (ex_cp ov ov' 0 s' d' m') z) (.int (va_cpy f g s' d' m' z))
          rw [ex_cp_ov]
          by_cases hin : d' ≤ z ∧ z < d' + m'
          · rw [if_pos hin, pk_cpy_in hin.1 hin.2]
            exact (f6 (s' + (z - d')) (show s' + (z - d') < N0 by omega)).mono hx
          · rw [if_neg hin, pk_cpy_out (by omega)]
            exact (f6' z hz).mono hx
        have W2 := ex_ft_ok h2 hN.g hsub ((hR.stk hr5).world hx (fun _ h => h) (hR.hr.put f1' hcr) hR.hK hP hD hS)
        rw [hlen] at W2
        exact W2
      · cases hs
    · cases hs
  · cases hs
end EXR
end
section
noncomputable def ex_pk (own nm : String) (q : ex_P) : Bool := match q with
  | (pc, ins, len, a1, a2, a3, ts) => (match ins with
    | .iconst i => Nat.beq len 1 && Nat.beq (ex_u (Int32.ofInt i)) a1
    | .bipush i => Nat.beq len 2 && Nat.beq (ex_u (Int8.ofInt i).toInt32) a1
    | .sipush i => Nat.beq len 3 && Nat.beq (ex_u (Int16.ofInt i).toInt32) a1
    | .ldc i => Nat.beq len 2 && Nat.beq (ex_u (ex_i a1)) a1 && ex_wd a2 (Cond.constant own i (ex_i a1))
    | .ldc_w i => Nat.beq len 3 && Nat.beq (ex_u (ex_i a1)) a1 && ex_wd a2 (Cond.constant own i (ex_i a1))
    | .lconst k => Nat.beq len 1 && Nat.beq k.val a1
    | .iload_n k => Nat.beq len 1 && Nat.beq k.val a1
    | .iload k => Nat.beq len 2 && Nat.beq k a1
    | .aload_n k => Nat.beq len 1 && Nat.beq k.val a1
    | .aload k => Nat.beq len 2 && Nat.beq k a1
    | .istore_n k => Nat.beq len 1 && Nat.beq k.val a1
    | .istore k => Nat.beq len 2 && Nat.beq k a1
    | .astore_n k => Nat.beq len 1 && Nat.beq k.val a1
    | .astore k => Nat.beq len 2 && Nat.beq k a1
    | .iinc k i => Nat.beq len 3 && Nat.beq k a1 && Nat.beq (Int32.ofInt i).toBitVec.toNat a2
    | .iadd => Nat.beq len 1
    | .isub => Nat.beq len 1
    | .imul => Nat.beq len 1
    | .iand => Nat.beq len 1
    | .ior => Nat.beq len 1
    | .ixor => Nat.beq len 1
    | .ishl => Nat.beq len 1
    | .ishr => Nat.beq len 1
    | .idiv => Nat.beq len 1
    | .irem => Nat.beq len 1
    | .i2b => Nat.beq len 1
    | .dup => Nat.beq len 1
    | .dup2 => Nat.beq len 1
    | .pop => Nat.beq len 1
    | .goto off => Nat.beq len 3 && decide ((pc : Int) + off = (a1 : Int))
    | .ifCond _ off => Nat.beq len 3 && decide ((pc : Int) + off = (a1 : Int))
    | .if_icmp _ off => Nat.beq len 3 && decide ((pc : Int) + off = (a1 : Int))
    | .tableswitch df lo hi offs => decide ((pc : Int) + df = (a1 : Int)) && decide (lo + 2147483648 = (a2 : Int)) && decide (hi - lo + 1 = (ts.length : Int)) && decide (offs.toList.map (fun z => (pc : Int) + z) = ts.map (fun t : Nat => (t : Int)))
    | .lookupswitch df ps => decide ((pc : Int) + df = (a1 : Int)) && (match ts with
      | [k0, t0, k1, t1] => (match ps.toList with
        | [p0, p1] => decide (p0.1 + 2147483648 = (k0 : Int)) && decide (p1.1 + 2147483648 = (k1 : Int)) && decide ((pc : Int) + p0.2 = (t0 : Int)) && decide ((pc : Int) + p1.2 = (t1 : Int)) && decide (p0.1 < p1.1)
        | _ => false)
      | _ => false)
    | .getfield ix => Nat.beq len 3 && (match vwCl[a1]?, ts with
      | some rc, [wi] => Nat.blt a2 rc.2.2 && ex_wd wi (Cond.fieldLink own ix (rc.2.1 a2).1 (rc.2.1 a2).2.1 (rc.2.1 a2).2.2.1)
      | _, _ => false)
    | .putfield ix => Nat.beq len 3 && (match vwCl[a1]?, ts with
      | some rc, [wi] => Nat.blt a2 rc.2.2 && ex_wd wi (Cond.fieldLink own ix (rc.2.1 a2).1 (rc.2.1 a2).2.1 (rc.2.1 a2).2.2.1) && (!(rc.2.1 a2).2.2.2 || (decide (nm = "<init>") && decide ((rc.2.1 a2).1 = own))) && ex_tk a3 (rc.2.1 a2).2.2.1
      | _, _ => false)
    | .new ix => Nat.beq len 3 && (match vwCl[a1]?, ts with
      | some rc, [wi] => Nat.beq a2 rc.2.2 && ex_wd wi (Cond.classLink own ix rc.1)
      | _, _ => false)
    | .newarray at_ => Nat.beq len 2 && decide (newarray.typeOf at_ = ex_ty a1) && Nat.ble a1 3
    | .anewarray ix => Nat.beq len 3 && Nat.beq a1 4 && (match ts with
      | [wi] => ex_wd wi (Cond.classLink own ix "HatchLights$Scene")
      | _ => false)
    | .arraylength => Nat.beq len 1
    | .iaload => Nat.beq len 1
    | .baload => Nat.beq len 1
    | .aaload => Nat.beq len 1
    | .iastore => Nat.beq len 1
    | .bastore => Nat.beq len 1
    | .lastore => Nat.beq len 1
    | .aastore => Nat.beq len 1
    | .invokestatic ix => Nat.beq len 3 && (match ts with
      | [wi] => ex_wd wi (Cond.methodLink own ix arraycopyName)
      | _ => false)
    | .invokespecial ix => Nat.beq len 3 && (match ts with
      | [wi] => ex_wd wi (Cond.methodLink own ix objectInit)
      | _ => false)
    | _ => false)
/-- the words that all share -/
def ex_gw : Prop := (∀ t, t ≤ 3 → Cond.arrayClass (ex_ty t) ∈ ex_tb) ∧ (Cond.native arraycopyName ∈ ex_tb ∧ Cond.static arraycopyName ∈ ex_tb ∧ Cond.initialized "java/lang/System" ∈ ex_tb) ∧ (Cond.instanceMethod objectInit ∈ ex_tb ∧ Cond.code objectInit ⟨#[0xb1]⟩ 1 none ∈ ex_tb) ∧ ∀ (ci : Nat) (rc : vw_C), vwCl[ci]? = some rc → Cond.instantiable rc.1 rc.2.2 ∈ ex_tb ∧ Cond.initialized rc.1 ∈ ex_tb
/-- what a new object's fields hold -/
def ex_gd (df : Nat → List ex_V) : Prop := ∀ (ci : Nat) (rc : vw_C), vwCl[ci]? = some rc → (df ci).length = rc.2.2 ∧ ∀ (ty0 : Nat → FieldType), (∀ k, k < rc.2.2 → parseFieldDescriptor (rc.2.1 k).2.2.1 = some (ty0 k)) → ∃ fs : List Value, fs.length = rc.2.2 ∧ (∀ j, j < rc.2.2 → defaultValue (ty0 j) = vp_V fs j) ∧ ∀ (j : Nat) (v : ex_V), ex_nth (df ci) j = some v → ∀ (ρ : Nat → Int32) (b : Nat) (ws : va_W), ∃ x, fs[j]? = some x ∧ ex_vr ρ b ws v x
theorem ex_u_inc (x : Int32) (z : Int32) : ex_u (x + z) = (ex_u x + z.toBitVec.toNat) % 4294967296 := by
  have h1 := x.toBitVec.isLt
  have h2 := z.toBitVec.isLt
  rw [ex_u_add]
  unfold ex_u
  omega
section EXT
variable {p : Program} {l : Launch} {e : Env} {R : Room} {s : State} {m : MethodId} {args : Array Value} {below : List Frame} {meth : Method} {c : Code} {Q : State → Prop} {D : va_G} {ρ : Nat → Int32} {b L : Nat} {A : Nat → Prop} {mL d : Nat} {w0 : va_W} {t0 : List (ClassId × FieldType)} {pr : List ex_P} {own nm : String} {cd : ByteArray} {cap : Nat × Nat} {isl : Bool}
variable {en : ex_E} {lv : ex_L} {st : List ex_V} {h : ex_H} {n k1 k2 : Nat} {ls : Array Slot} {xs : List Value} {ws : va_W} {tys : List (ClassId × FieldType)} {H : Heap} {locs : List Loc} {q : ex_P} {r : List ex_P} {o : List (ex_E × ex_S)}
theorem ex_isR_ok {v : ex_V} {x : Value} (hv : ex_vr ρ b ws v x) (hk : ex_isR v = true) : x = .null ∨ ∃ a, x = .ref a := by
  rcases v with v | (_ | k) | z | _
  · cases hk
  · exact Or.inl hv
  · obtain ⟨a, ev, -, rfl⟩ := hv
    exact Or.inr ⟨a, rfl⟩
  · cases hk
  · exact Or.inr ⟨b, hv⟩
theorem ex_ifs_isI {cn : ClassFile.Cond} {va vb : ex_V} {rest : List ex_V} (hs : ex_ifs pr q r cn en lv va vb rest h n k1 k2 = some o) : ex_isI va = true := by
  unfold ex_ifs at hs
  split at hs
  · cases hs
  · rename_i tf htf
    unfold ex_br at htf
    split at htf
    · cases htf
    · rename_i qa ha
      exact ex_b_isI ha
theorem ex_ifs_isJ {cn : ClassFile.Cond} {va vb : ex_V} {rest : List ex_V} (hs : ex_ifs pr q r cn en lv va vb rest h n k1 k2 = some o) : ex_isI vb = true := by
  unfold ex_ifs at hs
  split at hs
  · cases hs
  · rename_i tf htf
    unfold ex_br at htf
    split at htf
    · cases htf
    · split at htf
      · cases htf
      · rename_i qb hb
        exact ex_b_isI hb
set_option maxHeartbeats 4000000 in
theorem ex_step_ok {df : Nat → List ex_V} (hgw : ex_gw) (hgd : ex_gd df) (X : ex_X p R s m args meth c ρ b L A own nm cd mL d cap isl) (hk : ex_pk own nm q = true) (hdg : decode cd q.1 = .ok (q.2.1, q.2.2.1))
    (hs : ex_step pr isl L mL cap df en q r lv st h n k1 k2 = some o) (hN : ex_N p l e R s m args below meth c Q D ρ b A mL w0 t0 pr o) (hsub : ∀ x ∈ q :: r, x ∈ pr) (hR : ex_Rl s D ρ b A mL w0 t0 en lv st h n ls xs ws tys H locs) : W p l e R s m args below meth c H locs k1 k2 Q (F0 m q.1 ls xs) := by
  obtain ⟨x1, x2, x3, x4, x5, x6, x7, x8, x9, x10, x11, x12, x13⟩ := id X
  obtain ⟨pc, ins, len, a1, a2, a3, ts⟩ := q
  have hdg : decode cd pc = .ok (ins, len) := hdg
  cases ins with
  | iconst i =>
    obtain ⟨e1, e2⟩ := ex_and hk
    cases ex_beq e1
    exact lv_iconst x1 x2 hdg rfl (ex_ft_ok hs hN.g hsub (hR.push (ex_k_ok _ (ex_beq e2))))
  | bipush i =>
    obtain ⟨e1, e2⟩ := ex_and hk
    cases ex_beq e1
    exact lv_bipush x1 x2 hdg rfl (ex_ft_ok hs hN.g hsub (hR.push (ex_k_ok _ (ex_beq e2))))
  | sipush i =>
    obtain ⟨e1, e2⟩ := ex_and hk
    cases ex_beq e1
    exact lv_sipush x1 x2 hdg rfl (ex_ft_ok hs hN.g hsub (hR.push (ex_k_ok _ (ex_beq e2))))
  | ldc i =>
    obtain ⟨e1, e3⟩ := ex_and hk
    obtain ⟨e1, e2⟩ := ex_and e1
    cases ex_beq e1
    exact lv_ldc x1 x2 x4 (x5 _ (ex_wd_ok e3)) hdg (ex_ft_ok hs hN.g hsub (hR.push (ex_k_ok _ (ex_beq e2))))
  | ldc_w i =>
    obtain ⟨e1, e3⟩ := ex_and hk
    obtain ⟨e1, e2⟩ := ex_and e1
    cases ex_beq e1
    exact lv_ldcw x1 x2 x4 (x5 _ (ex_wd_ok e3)) hdg (ex_ft_ok hs hN.g hsub (hR.push (ex_k_ok _ (ex_beq e2))))
  | lconst k =>
    obtain ⟨e1, e2⟩ := ex_and hk
    cases ex_beq e1
    exact lv_lconst x1 x2 hdg (by rw [ex_beq e2]) (ex_ft_ok hs hN.g hsub (hR.push (v := ex_j (Int64.ofNat a1)) rfl))
  | iload_n k =>
    obtain ⟨e1, e2⟩ := ex_and hk
    cases ex_beq e1
    refine ex_ld_ok hs hN hsub hR (fun v x ok hv hl W1 => ?_)
    obtain ⟨y, rfl⟩ := ex_vr_int hv ok
    exact lv_iload_n x1 x2 hdg (ex_beq e2) hl W1
  | iload k =>
    obtain ⟨e1, e2⟩ := ex_and hk
    cases ex_beq e1
    cases ex_beq e2
    refine ex_ld_ok hs hN hsub hR (fun v x ok hv hl W1 => ?_)
    obtain ⟨y, rfl⟩ := ex_vr_int hv ok
    exact lv_iload x1 x2 hdg hl W1
  | aload_n k =>
    obtain ⟨e1, e2⟩ := ex_and hk
    cases ex_beq e1
    refine ex_ld_ok hs hN hsub hR (fun v x ok hv hl W1 => ?_)
    rcases ex_isR_ok hv ok with rfl | ⟨y, rfl⟩
    · exact lv_aload_nN x1 x2 hdg (ex_beq e2) hl W1
    · exact lv_aload_n x1 x2 hdg (ex_beq e2) hl W1
  | aload k =>
    obtain ⟨e1, e2⟩ := ex_and hk
    cases ex_beq e1
    cases ex_beq e2
    refine ex_ld_ok hs hN hsub hR (fun v x ok hv hl W1 => ?_)
    rcases ex_isR_ok hv ok with rfl | ⟨y, rfl⟩
    · exact lv_aloadN x1 x2 hdg hl W1
    · exact lv_aload x1 x2 hdg hl W1
  | istore_n k =>
    obtain ⟨e1, e2⟩ := ex_and hk
    cases ex_beq e1
    refine ex_st_ok hs hN hsub hR (fun v x xr lw ok hv hl hn W1 => ?_)
    obtain ⟨y, rfl⟩ := ex_vr_int hv ok
    exact lv_istore_n x1 x2 hdg (ex_beq e2) hl hn rfl W1
  | istore k =>
    obtain ⟨e1, e2⟩ := ex_and hk
    cases ex_beq e1
    cases ex_beq e2
    refine ex_st_ok hs hN hsub hR (fun v x xr lw ok hv hl hn W1 => ?_)
    obtain ⟨y, rfl⟩ := ex_vr_int hv ok
    exact lv_istore x1 x2 hdg hl hn rfl W1
  | astore_n k =>
    obtain ⟨e1, e2⟩ := ex_and hk
    cases ex_beq e1
    refine ex_st_ok hs hN hsub hR (fun v x xr lw ok hv hl hn W1 => ?_)
    rcases ex_isR_ok hv ok with rfl | ⟨y, rfl⟩
    · exact lv_astore_nN x1 x2 hdg (ex_beq e2) hl hn rfl W1
    · exact lv_astore_n x1 x2 hdg (ex_beq e2) hl hn rfl W1
  | astore k =>
    obtain ⟨e1, e2⟩ := ex_and hk
    cases ex_beq e1
    cases ex_beq e2
    refine ex_st_ok hs hN hsub hR (fun v x xr lw ok hv hl hn W1 => ?_)
    rcases ex_isR_ok hv ok with rfl | ⟨y, rfl⟩
    · exact lv_astoreN x1 x2 hdg hl hn rfl W1
    · exact lv_astore x1 x2 hdg hl hn rfl W1
  | iinc k i =>
    obtain ⟨e1, e3⟩ := ex_and hk
    obtain ⟨e1, e2⟩ := ex_and e1
    cases ex_beq e1
    cases ex_beq e2
    have e3 := ex_beq e3
    have hs : (match ex_lk lv a1 with
      | some v => (match ex_cst en v with
        | some u => bif ex_isI v && Nat.blt a1 mL then ex_ft (pc, .iinc a1 i, 3, a1, a2, a3, ts) r en ((a1, ex_k ((u + a2) % 4294967296)) :: ex_del lv a1) st h n k1 k2 else none
        | none => none)
      | none => none) = some o := hs
    split at hs
    · rename_i v hv
      split at hs
      · rename_i u hu
        obtain ⟨g1, g2⟩ := ex_bifs hs
        obtain ⟨g1, g3⟩ := ex_and g1
        obtain ⟨lw, hl, hlr⟩ := hR.1
        obtain ⟨j, x, f1, f2⟩ := ex_lr_lk hlr hv
        obtain ⟨y, rfl⟩ := ex_vr_int f2 g1
        have e4 := ex_cst_ok hR.er hu f2
        refine lv_iinc x1 x2 hdg hl f1 rfl (ex_blt g3) rfl (fun ls' hl' => ?_)
        exact ex_ft_ok g2 hN.g hsub (hR.loc (lv' := (a1, ex_k ((u + a2) % 4294967296)) :: ex_del lv a1) ⟨_, hl', (show ex_lr ρ b ws ((a1, ex_k ((u + a2) % 4294967296)) :: ex_del lv a1) ((a1, .int (y + Int32.ofInt i)) :: ex_flt a1 lw) from ⟨⟨rfl, ex_k_ok _ (by rw [ex_u_inc, e4, e3])⟩, ex_lr_del hlr _⟩)⟩)
      · cases hs
    · cases hs
  | iadd =>
    cases ex_beq hk
    exact ex_bin_ok hs hN hsub hR (fun x y rest => ⟨_, rfl, fun hz W1 => lv_iadd x1 x2 hdg W1⟩)
  | isub =>
    cases ex_beq hk
    exact ex_bin_ok hs hN hsub hR (fun x y rest => ⟨_, rfl, fun hz W1 => lv_isub x1 x2 hdg W1⟩)
  | imul =>
    cases ex_beq hk
    exact ex_bin_ok hs hN hsub hR (fun x y rest => ⟨_, rfl, fun hz W1 => lv_imul x1 x2 hdg W1⟩)
  | iand =>
    cases ex_beq hk
    exact ex_bin_ok hs hN hsub hR (fun x y rest => ⟨_, rfl, fun hz W1 => lv_iand x1 x2 hdg W1⟩)
  | ior =>
    cases ex_beq hk
    exact ex_bin_ok hs hN hsub hR (fun x y rest => ⟨_, rfl, fun hz W1 => lv_ior x1 x2 hdg W1⟩)
  | ixor =>
    cases ex_beq hk
    exact ex_bin_ok hs hN hsub hR (fun x y rest => ⟨_, rfl, fun hz W1 => lv_ixor x1 x2 hdg W1⟩)
  | ishl =>
    cases ex_beq hk
    exact ex_bin_ok hs hN hsub hR (fun x y rest => ⟨_, rfl, fun hz W1 => lv_ishl x1 x2 hdg W1⟩)
  | ishr =>
    cases ex_beq hk
    exact ex_bin_ok hs hN hsub hR (fun x y rest => ⟨_, rfl, fun hz W1 => lv_ishr x1 x2 hdg W1⟩)
  | idiv =>
    cases ex_beq hk
    exact ex_bin_ok hs hN hsub hR (fun x y rest => ⟨_, rfl, fun hz W1 => lv_idiv x1 x2 hdg (hz (Or.inl rfl)) W1⟩)
  | irem =>
    cases ex_beq hk
    exact ex_bin_ok hs hN hsub hR (fun x y rest => ⟨_, rfl, fun hz W1 => lv_irem x1 x2 hdg (hz (Or.inr rfl)) W1⟩)
  | i2b =>
    cases ex_beq hk
    cases st with
    | nil => cases (show none = some o from hs)
    | cons v rest =>
      obtain ⟨g1, g2⟩ := ex_bifs (show (bif ex_isI v then ex_ft (pc, .i2b, 1, a1, a2, a3, ts) r en lv (ex_full :: rest) h n k1 k2 else none) = some o from hs)
      obtain ⟨x, xr, rfl, hvr, hr⟩ := ex_sr_cons hR.sr
      obtain ⟨y, rfl⟩ := ex_vr_int hvr g1
      exact lv_i2b x1 x2 hdg rfl (ex_ft_ok g2 hN.g hsub (hR.stk ⟨ex_full_ok _, hr⟩))
  | dup =>
    cases ex_beq hk
    cases st with
    | nil => cases (show none = some o from hs)
    | cons v rest =>
      obtain ⟨g1, g2⟩ := ex_bifs (show (bif Nat.beq (ex_cat v) 1 then ex_ft (pc, .dup, 1, a1, a2, a3, ts) r en lv (v :: v :: rest) h n k1 k2 else none) = some o from hs)
      obtain ⟨x, xr, rfl, hvr, hr⟩ := ex_sr_cons hR.sr
      exact lv_dup x1 x2 hdg ((ex_cat_ok hvr).trans (ex_beq g1)) (ex_ft_ok g2 hN.g hsub (hR.stk ⟨hvr, hvr, hr⟩))
  | dup2 =>
    cases ex_beq hk
    match st, hs, hR with
    | [], hs, hR => cases (show none = some o from hs)
    | [v], hs, hR => cases (show none = some o from hs)
    | v :: w :: rest, hs, hR =>
      obtain ⟨g1, g2⟩ := ex_bifs (show (bif Nat.beq (ex_cat v) 1 && Nat.beq (ex_cat w) 1 then ex_ft (pc, .dup2, 1, a1, a2, a3, ts) r en lv (v :: w :: v :: w :: rest) h n k1 k2 else none) = some o from hs)
      obtain ⟨g1, g3⟩ := ex_and g1
      obtain ⟨x, xr, rfl, hvr, hr⟩ := ex_sr_cons hR.sr
      obtain ⟨x', xr', rfl, hvr', hr'⟩ := ex_sr_cons hr
      exact lv_dup2_11 x1 x2 hdg ((ex_cat_ok hvr).trans (ex_beq g1)) ((ex_cat_ok hvr').trans (ex_beq g3)) (ex_ft_ok g2 hN.g hsub (hR.stk ⟨hvr, hvr', hvr, hvr', hr'⟩))
  | pop =>
    cases ex_beq hk
    cases st with
    | nil => cases (show none = some o from hs)
    | cons v rest =>
      obtain ⟨g1, g2⟩ := ex_bifs (show (bif Nat.beq (ex_cat v) 1 then ex_ft (pc, .pop, 1, a1, a2, a3, ts) r en lv rest h n k1 k2 else none) = some o from hs)
      obtain ⟨x, xr, rfl, hvr, hr⟩ := ex_sr_cons hR.sr
      exact lv_pop x1 x2 hdg ((ex_cat_ok hvr).trans (ex_beq g1)) (ex_ft_ok g2 hN.g hsub (hR.stk hr))
  | goto off =>
    obtain ⟨e1, e2⟩ := ex_and hk
    cases ex_beq e1
    have hs : some [(en, (ex_jp pr a1, lv, st, h, n, k1, k2))] = some o := hs
    cases hs
    exact lv_goto x1 x2 hdg (of_decide_eq_true e2) (ex_jp_ok (hN _ (List.mem_singleton.mpr rfl)) hR)
  | ifCond cn off =>
    obtain ⟨e1, e2⟩ := ex_and hk
    cases ex_beq e1
    cases st with
    | nil => cases (show none = some o from hs)
    | cons v rest =>
      have hs : ex_ifs pr (pc, .ifCond cn off, 3, a1, a2, a3, ts) r cn en lv v (ex_k 2147483648) rest h n k1 k2 = some o := hs
      have hI : ex_isI v = true := ex_ifs_isI hs
      obtain ⟨x, xr, rfl, hvr, hr⟩ := ex_sr_cons hR.sr
      obtain ⟨y, rfl⟩ := ex_vr_int hvr hI
      obtain ⟨kt, kf⟩ := ex_ifs_ok hs hN hsub (hR.stk hr) hvr (ex_k_ok (0 : Int32) ex_u_0)
      cases cn with
      | eq => exact lv_if_eq x1 x2 hdg (of_decide_eq_true e2) kt kf
      | ne => exact lv_if_ne x1 x2 hdg (of_decide_eq_true e2) kt (fun z => kf (fun w => w z))
      | lt => exact lv_if_lt x1 x2 hdg (of_decide_eq_true e2) kt kf
      | ge => exact lv_if_ge x1 x2 hdg (of_decide_eq_true e2) (fun z => kt (ex_nlt.mpr z)) (fun z => kf (fun w => z (ex_nlt.mp w)))
      | gt => exact lv_if_gt x1 x2 hdg (of_decide_eq_true e2) kt kf
      | le => exact lv_if_le x1 x2 hdg (of_decide_eq_true e2) (fun z => kt (ex_nlt.mpr z)) (fun z => kf (fun w => z (ex_nlt.mp w)))
  | if_icmp cn off =>
    obtain ⟨e1, e2⟩ := ex_and hk
    cases ex_beq e1
    match st, hs, hR with
    | [], hs, hR => cases (show none = some o from hs)
    | [v], hs, hR => cases (show none = some o from hs)
    | vb :: va :: rest, hs, hR =>
      have hs : ex_ifs pr (pc, .if_icmp cn off, 3, a1, a2, a3, ts) r cn en lv va vb rest h n k1 k2 = some o := hs
      have hI : ex_isI va = true := ex_ifs_isI hs
      have hJ : ex_isI vb = true := ex_ifs_isJ hs
      obtain ⟨x, xr, rfl, hvr, hr⟩ := ex_sr_cons hR.sr
      obtain ⟨x', xr', rfl, hvr', hr'⟩ := ex_sr_cons hr
      obtain ⟨y, rfl⟩ := ex_vr_int hvr hJ
      obtain ⟨y', rfl⟩ := ex_vr_int hvr' hI
      obtain ⟨kt, kf⟩ := ex_ifs_ok hs hN hsub (hR.stk hr') hvr' hvr
      cases cn with
      | eq => exact lv_icmp_eq x1 x2 hdg (of_decide_eq_true e2) kt kf
      | ne => exact lv_icmp_ne x1 x2 hdg (of_decide_eq_true e2) kt (fun z => kf (fun w => w z))
      | lt => exact lv_icmp_lt x1 x2 hdg (of_decide_eq_true e2) kt kf
      | ge => exact lv_icmp_ge x1 x2 hdg (of_decide_eq_true e2) (fun z => kt (ex_nlt.mpr z)) (fun z => kf (fun w => z (ex_nlt.mp w)))
      | gt => exact lv_icmp_gt x1 x2 hdg (of_decide_eq_true e2) kt kf
      | le => exact lv_icmp_le x1 x2 hdg (of_decide_eq_true e2) (fun z => kt (ex_nlt.mpr z)) (fun z => kf (fun w => z (ex_nlt.mp w)))
  | tableswitch df' lo hi offs =>
    obtain ⟨e1, e4⟩ := ex_and hk
    obtain ⟨e1, e3⟩ := ex_and e1
    obtain ⟨e1, e2⟩ := ex_and e1
    have e1 := of_decide_eq_true e1
    have e2 := of_decide_eq_true e2
    have e3 := of_decide_eq_true e3
    have e4 := of_decide_eq_true e4
    cases st with
    | nil => cases (show none = some o from hs)
    | cons v rest =>
      obtain ⟨hI, g2⟩ := ex_bifs (show (bif ex_isI v then some (ex_app (ex_map (fun e => (e, (ex_jp pr a1, lv, rest, h, n, k1, k2))) (ex_1 en v 0 (a2 - 1))) (ex_sw pr (pc, .tableswitch df' lo hi offs, len, a1, a2, a3, ts) en lv v rest h n k1 k2 ts a2)) else none) = some o from hs)
      injection g2 with g2
      subst g2
      rw [ex_app_eq, ex_map_eq] at hN
      obtain ⟨x, xr, rfl, hvr, hr⟩ := ex_sr_cons hR.sr
      obtain ⟨y, rfl⟩ := ex_vr_int hvr hI
      obtain ⟨s1, s2⟩ := ex_sw_ok (pr := pr) (q := (pc, .tableswitch df' lo hi offs, len, a1, a2, a3, ts)) hvr (hR.stk hr) ts a2 (fun z hz => hN z (List.mem_append_right _ hz))
      have hy := ex_u_int y
      by_cases c1 : y.toInt < lo
      · refine lv_tableOut x1 x2 hdg (Or.inl c1) e1 ?_
        obtain ⟨e', i1, i2⟩ := ex_1_ok hR.er hvr (Nat.zero_le _) (show ex_u y ≤ a2 - 1 by omega)
        exact ex_jp_ok (hN (e', _) (List.mem_append_left _ (List.mem_map.mpr ⟨e', i1, rfl⟩))) ((hR.stk hr).env i2)
      · by_cases c2 : hi < y.toInt
        · exact lv_tableOut x1 x2 hdg (Or.inr c2) e1 (s2 (by omega))
        · have hj : (y.toInt - lo).toNat < ts.length := by omega
          obtain ⟨t, ht⟩ : ∃ t, ts[(y.toInt - lo).toNat]? = some t := ⟨_, List.getElem?_eq_getElem hj⟩
          have h9 : (offs.toList.map (fun z => (pc : Int) + z))[(y.toInt - lo).toNat]? = some (t : Int) := by rw [e4, List.getElem?_map, ht]; rfl
          rw [List.getElem?_map] at h9
          obtain ⟨off, ho, ho2⟩ := Option.map_eq_some_iff.mp h9
          exact lv_tableIn x1 x2 hdg c1 c2 (by rw [← Array.getElem?_toList]; exact ho) ho2 (s1 _ _ ht (by omega))
  | getfield ix =>
    obtain ⟨e1, e2⟩ := ex_and hk
    cases ex_beq e1
    split at e2
    · rename_i rc wi hc
      obtain ⟨e2, e3⟩ := ex_and e2
      exact ex_gf_ok (q := (pc, .getfield ix, 3, a1, a2, a3, [wi])) hc (ex_blt e2) (ex_wd_ok e3) X rfl hdg hs hN hsub hR
    · cases e2
  | putfield ix =>
    obtain ⟨e1, e2⟩ := ex_and hk
    cases ex_beq e1
    split at e2
    · rename_i rc wi hc
      obtain ⟨e2, e5⟩ := ex_and e2
      obtain ⟨e2, e4⟩ := ex_and e2
      obtain ⟨e2, e3⟩ := ex_and e2
      have hfin : (rc.2.1 a2).2.2.2 = false ∨ (nm = "<init>" ∧ (rc.2.1 a2).1 = own) := by
        cases hf : (rc.2.1 a2).2.2.2 with
        | false => exact Or.inl rfl
        | true =>
          rw [hf] at e4
          obtain ⟨z1, z2⟩ := ex_and (show (decide (nm = "<init>") && decide ((rc.2.1 a2).1 = own)) = true from e4)
          exact Or.inr ⟨of_decide_eq_true z1, of_decide_eq_true z2⟩
      exact ex_pf_ok (q := (pc, .putfield ix, 3, a1, a2, a3, [wi])) hc (ex_blt e2) (ex_wd_ok e3) hfin e5 X rfl hdg hs hN hsub hR
    · cases e2
  | new ix =>
    obtain ⟨e1, e2⟩ := ex_and hk
    cases ex_beq e1
    split at e2
    · rename_i rc wi hc
      obtain ⟨e2, e3⟩ := ex_and e2
      obtain ⟨w1, w2⟩ := hgw.2.2.2 a1 rc hc
      exact ex_nw_ok (q := (pc, .new ix, 3, a1, a2, a3, [wi])) (hgd a1 rc hc) hc (ex_beq e2) (ex_wd_ok e3) w1 w2 X rfl hdg hs hN hsub hR
    · cases e2
  | newarray at_ =>
    obtain ⟨e1, e3⟩ := ex_and hk
    obtain ⟨e1, e2⟩ := ex_and e1
    cases ex_beq e1
    exact ex_na_ok (q := (pc, .newarray at_, 2, a1, a2, a3, ts)) ⟨of_decide_eq_true e2, ex_ble e3⟩ (hgw.1 a1 (ex_ble e3)) X rfl hdg hs hN hsub hR
  | anewarray ix =>
    obtain ⟨e1, e3⟩ := ex_and hk
    obtain ⟨e1, e2⟩ := ex_and e1
    cases ex_beq e1
    split at e3
    · exact ex_nq_ok (q := (pc, .anewarray ix, 3, a1, a2, a3, _)) (ex_beq e2) (ex_wd_ok e3) X rfl hdg hs hN hsub hR
    · cases e3
  | arraylength =>
    cases ex_beq hk
    exact ex_al_ok (q := (pc, .arraylength, 1, a1, a2, a3, ts)) X rfl hdg hs hN hsub hR
  | iaload =>
    cases ex_beq hk
    refine ex_ald_ok (q := (pc, .iaload, 1, a1, a2, a3, ts)) (isl := isl) (il := isl) (fun z => z) hs hN hsub hR (fun t ob a N j tk cA ar y xr ok f1 ht f3 f4 f5 hin hj W1 => ?_) (fun j y xr hil hin hj W1 => ?_)
    · have ht0 := ex_beq ok
      subst ht0
      obtain ⟨N0, arv⟩ := ar
      cases f4
      obtain ⟨f, rfl⟩ : ∃ f, arv = .inl f := f5
      subst hj
      exact va_iald x1 x2 hR.hK hR.hP ob tk f1 ht hin hdg W1
    · obtain ⟨hX, hbl, hbA⟩ := x9 hil
      subst hj
      exact va_sld x1 x2 hX hbl hbA hR.hS hin hdg W1
  | baload =>
    cases ex_beq hk
    refine ex_ald_ok (q := (pc, .baload, 1, a1, a2, a3, ts)) (isl := isl) (il := false) (fun z => by cases z) hs hN hsub hR (fun t ob a N j tk cA ar y xr ok f1 ht f3 f4 f5 hin hj W1 => ?_) (fun j y xr hil hin hj W1 => by cases hil)
    obtain ⟨N0, arv⟩ := ar
    cases f4
    subst hj
    rcases Bool.or_eq_true _ _ |>.mp ok with ok | ok
    · have ht0 := ex_beq ok
      subst ht0
      obtain ⟨f, rfl⟩ : ∃ f, arv = .inl f := f5
      exact va_bald x1 x2 hR.hK hR.hP ob tk f1 ht hin hdg W1
    · have ht0 := ex_beq ok
      subst ht0
      obtain ⟨f, rfl⟩ : ∃ f, arv = .inl f := f5
      exact va_zald x1 x2 hR.hK hR.hP ob tk f1 ht hin hdg W1
  | aaload =>
    cases ex_beq hk
    refine ex_ald_ok (q := (pc, .aaload, 1, a1, a2, a3, ts)) (isl := isl) (il := false) (fun z => by cases z) hs hN hsub hR (fun t ob a N j tk cA ar y xr ok f1 ht f3 f4 f5 hin hj W1 => ?_) (fun j y xr hil hin hj W1 => by cases hil)
    obtain ⟨N0, arv⟩ := ar
    cases f4
    subst hj
    have ht0 := ex_beq ok
    subst ht0
    obtain ⟨f, rfl⟩ : ∃ f, arv = .inr (.inr (.inr (.inr f))) := f5
    exact va_aldq x1 x2 hR.hK hR.hP ob tk f1 ht hin hdg W1
  | iastore =>
    cases ex_beq hk
    refine ex_ast_ok (q := (pc, .iastore, 1, a1, a2, a3, ts)) hs hN hsub hR (fun t ob a N j tk cA ar y v v' x xr ok hv f1 ht f3 f4 f5 hin hj => ?_)
    obtain ⟨g1, g2⟩ := ex_bifs (show (bif Nat.beq t 0 && ex_isI v then some v else none) = some v' from ok)
    cases g2
    obtain ⟨g1, g3⟩ := ex_and g1
    have ht0 := ex_beq g1
    subst ht0
    obtain ⟨z, rfl⟩ := ex_vr_int hv g3
    obtain ⟨N0, arv⟩ := ar
    cases f4
    subst hj
    obtain ⟨f, rfl⟩ : ∃ f, arv = .inl f := f5
    exact ⟨(N0, .inl (upd f y.toNatClampNeg z)), rfl, ⟨_, rfl⟩, fun i _ hi => by show Value.int (upd f y.toNatClampNeg z i) = .int (f i); rw [pk_un hi], fun ws' hx => by show ex_vr ρ b ws' v (.int (upd f y.toNatClampNeg z y.toNatClampNeg)); rw [pk_us]; exact hv.mono hx, fun W1 => va_iast x1 x2 hR.hK hR.hP hR.hD hR.hS ob tk f1 ht hin hdg W1⟩
  | bastore =>
    cases ex_beq hk
    refine ex_ast_ok (q := (pc, .bastore, 1, a1, a2, a3, ts)) hs hN hsub hR (fun t ob a N j tk cA ar y v v' x xr ok hv f1 ht f3 f4 f5 hin hj => ?_)
    obtain ⟨N0, arv⟩ := ar
    cases f4
    subst hj
    rcases ex_bif (P := fun z => z = some v') (show (bif Nat.beq t 1 && ex_isI v then some ex_full else bif Nat.beq t 3 then (match ex_cst en v with
      | some u => bif Nat.beq u 2147483648 || Nat.beq u 2147483649 then some (ex_k u) else none
      | none => none) else none) = some v' from ok) with ⟨g1, g2⟩ | ⟨g1, g2⟩
    · cases g2
      obtain ⟨g1, g3⟩ := ex_and g1
      have ht0 := ex_beq g1
      subst ht0
      obtain ⟨z, rfl⟩ := ex_vr_int hv g3
      obtain ⟨f, rfl⟩ : ∃ f, arv = .inl f := f5
      exact ⟨(N0, .inl (upd f y.toNatClampNeg (vp_nar .byte z))), rfl, ⟨_, rfl⟩, fun i _ hi => by show Value.int (upd f y.toNatClampNeg _ i) = .int (f i); rw [pk_un hi], fun ws' hx => by show ex_vr ρ b ws' ex_full (.int (upd f y.toNatClampNeg _ y.toNatClampNeg)); exact ex_full_ok _, fun W1 => va_bast x1 x2 hR.hK hR.hP hR.hD hR.hS ob tk f1 ht hin hdg W1⟩
    · obtain ⟨g1, g2⟩ := ex_bifs g2
      have ht0 := ex_beq g1
      subst ht0
      split at g2
      · rename_i u hu
        obtain ⟨g3, g4⟩ := ex_bifs (show (bif Nat.beq u 2147483648 || Nat.beq u 2147483649 then some (ex_k u) else none) = some v' from g2)
        injection g4 with g4
        subst g4
        obtain ⟨z, rfl⟩ := ex_vr_int hv (ex_cst_isI hu)
        have e4 := ex_cst_ok hR.er hu hv
        have hz : z = 0 ∨ z = 1 := by
          rcases Bool.or_eq_true _ _ |>.mp g3 with h1 | h1
          · exact Or.inl (ex_u_inj (by rw [e4, ex_beq h1, ex_u_0]))
          · exact Or.inr (ex_u_inj (by rw [e4, ex_beq h1]; decide))
        have hnar : vp_nar .boolean z = z := by rcases hz with rfl | rfl <;> decide
        obtain ⟨f, rfl⟩ : ∃ f, arv = .inl f := f5
        exact ⟨(N0, .inl (upd f y.toNatClampNeg (vp_nar .boolean z))), rfl, ⟨_, rfl⟩, fun i _ hi => by show Value.int (upd f y.toNatClampNeg _ i) = .int (f i); rw [pk_un hi], fun ws' hx => by show ex_vr ρ b ws' (ex_k u) (.int (upd f y.toNatClampNeg _ y.toNatClampNeg)); rw [pk_us, hnar]; exact ex_k_ok _ e4, fun W1 => va_zast x1 x2 hR.hK hR.hP hR.hD hR.hS ob tk f1 ht hin hdg W1⟩
      · cases g2
  | lastore =>
    cases ex_beq hk
    refine ex_ast_ok (q := (pc, .lastore, 1, a1, a2, a3, ts)) hs hN hsub hR (fun t ob a N j tk cA ar y v v' x xr ok hv f1 ht f3 f4 f5 hin hj => ?_)
    rcases v with w | w | z | w
    · cases (show none = some v' from ok)
    · cases (show none = some v' from ok)
    · obtain ⟨g1, g2⟩ := ex_bifs (show (bif Nat.beq t 2 then some (ex_j z) else none) = some v' from ok)
      cases g2
      have ht0 := ex_beq g1
      subst ht0
      have hv : x = .long z := hv
      subst hv
      obtain ⟨N0, arv⟩ := ar
      cases f4
      subst hj
      obtain ⟨f, rfl⟩ : ∃ f, arv = .inr (.inl f) := f5
      exact ⟨(N0, .inr (.inl (vp_updL f y.toNatClampNeg z))), rfl, ⟨_, rfl⟩, fun i _ hi => by show Value.long (vp_updL f y.toNatClampNeg z i) = .long (f i); rw [pk_uLn hi], fun ws' hx => by show Value.long (vp_updL f y.toNatClampNeg z y.toNatClampNeg) = .long z; rw [pk_uLs], fun W1 => va_last x1 x2 hR.hK hR.hP hR.hD hR.hS ob tk f1 ht hin hdg W1⟩
    · cases (show none = some v' from ok)
  | aastore =>
    cases ex_beq hk
    refine ex_ast_ok (q := (pc, .aastore, 1, a1, a2, a3, ts)) hs hN hsub hR (fun t ob a N j tk cA ar y v v' x xr ok hv f1 ht f3 f4 f5 hin hj => ?_)
    rcases v with w | (_ | w) | z | w
    · cases (show none = some v' from ok)
    · cases (show none = some v' from ok)
    · have ok : (match ex_get h w with
        | some (.inl (ci, _)) => bif Nat.beq t 4 && Nat.beq ci 4 then some (ex_a (some w)) else none
        | _ => none) = some v' := ok
      split at ok
      · rename_i ci fs hget
        obtain ⟨g1, g2⟩ := ex_bifs ok
        cases g2
        obtain ⟨g1, g3⟩ := ex_and g1
        have ht0 := ex_beq g1
        subst ht0
        have hc4 := ex_beq g3
        subst hc4
        obtain ⟨a', vs, w1, w2, w3⟩ := hR.hr.obj hget
        obtain ⟨a2', ev, w4, rfl⟩ := hv
        have ea := ex_at w4 w1
        subst ea
        obtain ⟨N0, arv⟩ := ar
        cases f4
        subst hj
        obtain ⟨f, rfl⟩ : ∃ f, arv = .inr (.inr (.inr (.inr f))) := f5
        exact ⟨(N0, .inr (.inr (.inr (.inr (va_up f y.toNatClampNeg (some a2')))))), rfl, ⟨_, rfl⟩, fun i _ hi => by show va_rf (va_up f y.toNatClampNeg (some a2') i) = va_rf (f i); rw [va_up_ne _ _ hi], fun ws' hx => by show ex_vr ρ b ws' (ex_a (some w)) (va_rf (va_up f y.toNatClampNeg (some a2') y.toNatClampNeg)); rw [va_up_self]; exact (show ex_vr ρ b ws (ex_a (some w)) (.ref a2') from ⟨a2', _, w1, rfl⟩).mono hx, fun W1 => va_astq (r := (RX4, TX4, 13)) x1 x2 hR.hK hR.hP hR.hD hR.hS ob tk w 4 f1 ht w1 rfl hin hdg W1⟩
      · cases ok
    · cases (show none = some v' from ok)
    · cases (show none = some v' from ok)
  | invokestatic ix =>
    obtain ⟨e1, e3⟩ := ex_and hk
    cases ex_beq e1
    split at e3
    · exact ex_acp_ok (q := (pc, .invokestatic ix, 3, a1, a2, a3, _)) (ex_wd_ok e3) hgw.2.1.1 hgw.2.1.2.1 hgw.2.1.2.2 X rfl hdg hs hN hsub hR
    · cases e3
  | invokespecial ix =>
    obtain ⟨e1, e3⟩ := ex_and hk
    cases ex_beq e1
    split at e3
    · rename_i wi
      match st, hs, hR with
      | [], hs, hR => cases (show none = some o from hs)
      | .inl _ :: _, hs, hR => cases (show none = some o from hs)
      | .inr (.inl none) :: _, hs, hR => cases (show none = some o from hs)
      | .inr (.inr _) :: _, hs, hR => cases (show none = some o from hs)
      | .inr (.inl (some w)) :: rest, hs, hR =>
        obtain ⟨g1, g2⟩ := ex_bifs (show (bif Nat.ble (ex_len rest) 4 then ex_ft (pc, .invokespecial ix, 3, a1, a2, a3, [wi]) r en lv rest h n k1 k2 else none) = some o from hs)
        have g1 := ex_ble g1
        rw [ex_len_eq] at g1
        obtain ⟨x, xr, rfl, hvr, hr⟩ := ex_sr_cons hR.sr
        obtain ⟨a, ev, w1, rfl⟩ := hvr
        obtain ⟨lw, hl1, hl2⟩ := hR.1
        have hsum := ex_sum_le hr
        refine W.objInit x1 x2 x4 (x5 _ (ex_wd_ok e3)) (x5 _ hgw.2.2.1.1) (x5 _ hgw.2.2.1.2) rfl (by rw [x3]; exact hl1.1) rfl hdg (by omega) (by
          show 2 * (F0 m pc ls (.ref a :: xr)).monitorRoom + (xr.map fun v => v.category).sum + 12 ≤ R.locals
          have := lv_room (m := m) (pc := pc) (ls := ls) (rest := .ref a :: xr) (st := xr) (by omega)
          omega) ?_
        exact ex_ft_ok g2 hN.g hsub (hR.stk hr)
    · cases e3
  | lookupswitch df' ps =>
    obtain ⟨e1, e2⟩ := ex_and hk
    have e1 := of_decide_eq_true e1
    split at e2
    · rename_i c0 u0 c1 u1
      split at e2
      · rename_i p0 p1 hps
        obtain ⟨e2, e7⟩ := ex_and e2
        obtain ⟨e2, e6⟩ := ex_and e2
        obtain ⟨e2, e5⟩ := ex_and e2
        obtain ⟨e3, e4⟩ := ex_and e2
        have e3 := of_decide_eq_true e3
        have e4 := of_decide_eq_true e4
        have e5 := of_decide_eq_true e5
        have e6 := of_decide_eq_true e6
        have e7 := of_decide_eq_true e7
        have hp : (ps.toList.zip (ps.toList.drop 1)).all (fun (a, next) => a.1 < next.1) = true := by
          rw [hps]
          simp [e7]
        cases st with
        | nil => cases (show none = some o from hs)
        | cons v rest =>
          obtain ⟨hI, g2⟩ := ex_bifs (show (bif ex_isI v then ex_lu pr (pc, .lookupswitch df' ps, len, a1, a2, a3, [c0, u0, c1, u1]) lv v rest h n k1 k2 [c0, u0, c1, u1] en else none) = some o from hs)
          unfold ex_lu at g2
          dsimp only at g2
          split at g2
          · rename_i qa hqa
            injection g2 with g2
            subst g2
            rw [ex_app_eq, ex_app_eq, ex_map_eq, ex_map_eq] at hN
            obtain ⟨x, xr, rfl, hvr, hr⟩ := ex_sr_cons hR.sr
            obtain ⟨y, rfl⟩ := ex_vr_int hvr hI
            have hy := ex_u_int y
            have ly := ex_u_lt y
            obtain ⟨p01, p02⟩ := p0
            obtain ⟨p11, p12⟩ := p1
            dsimp only at e3 e4 e5 e6 e7
            by_cases q0 : p01 = y.toInt
            · refine lv_lookup x1 x2 hdg hp (by rw [hps, Op.lookupswitch.offset_cons, if_pos q0]) e5 ?_
              obtain ⟨e', i1, i2⟩ := ex_1_ok hR.er hvr (show c0 ≤ ex_u y by omega) (show ex_u y ≤ c0 by omega)
              exact ex_jp_ok (hN (e', _) (List.mem_append_left _ (List.mem_map.mpr ⟨e', i1, rfl⟩))) ((hR.stk hr).env i2)
            · by_cases q1 : p11 = y.toInt
              · refine lv_lookup x1 x2 hdg hp (by rw [hps, Op.lookupswitch.offset_cons, if_neg q0, Op.lookupswitch.offset_cons, if_pos q1]) e6 ?_
                obtain ⟨e', i1, i2⟩ := ex_1_ok hR.er hvr (show c1 ≤ ex_u y by omega) (show ex_u y ≤ c1 by omega)
                exact ex_jp_ok (hN (e', _) (List.mem_append_right _ (List.mem_append_left _ (List.mem_map.mpr ⟨e', i1, rfl⟩)))) ((hR.stk hr).env i2)
              · refine lv_lookup x1 x2 hdg hp (by rw [hps, Op.lookupswitch.offset_cons, if_neg q0, Op.lookupswitch.offset_cons, if_neg q1]; rfl) e1 ?_
                cases hb : Nat.beq (c0 + 1) c1 with
                | false =>
                  rw [hb] at hN
                  exact ex_jp_ok (hN (en, (ex_jp pr a1, lv, rest, h, n, k1, k2)) (List.mem_append_right _ (List.mem_append_right _ (show (en, (ex_jp pr a1, lv, rest, h, n, k1, k2)) ∈ [(en, (ex_jp pr a1, lv, rest, h, n, k1, k2))] from List.mem_singleton.mpr rfl)))) (hR.stk hr)
                | true =>
                  have hb2 := ex_beq hb
                  rw [hb] at hN
                  rcases Nat.lt_or_ge (ex_u y) c0 with z | z
                  · obtain ⟨e', i1, i2⟩ := ex_1_ok hR.er hvr (Nat.zero_le _) (show ex_u y ≤ c0 - 1 by omega)
                    exact ex_jp_ok (hN (e', _) (List.mem_append_right _ (List.mem_append_right _ (by show _ ∈ ex_app (ex_map _ _) (ex_map _ _); rw [ex_app_eq, ex_map_eq, ex_map_eq]; exact List.mem_append_left _ (List.mem_map.mpr ⟨e', i1, rfl⟩))))) ((hR.stk hr).env i2)
                  · obtain ⟨e', i1, i2⟩ := ex_1_ok hR.er hvr (show c1 + 1 ≤ ex_u y by omega) (show ex_u y ≤ 4294967295 by omega)
                    exact ex_jp_ok (hN (e', _) (List.mem_append_right _ (List.mem_append_right _ (by show _ ∈ ex_app (ex_map _ _) (ex_map _ _); rw [ex_app_eq, ex_map_eq, ex_map_eq]; exact List.mem_append_right _ (List.mem_map.mpr ⟨e', i1, rfl⟩))))) ((hR.stk hr).env i2)
          · cases g2
      · cases e2
    · cases e2
  | _ => exact absurd (show false = true from hk) (by decide)
end EXT
end
section
theorem ex_veq_ok {a b : ex_V} (h : ex_veq a b = true) : a = b := by
  rcases a with (x | x | x) | (_ | x) | x | x <;> rcases b with (y | y | y) | (_ | y) | y | y <;> first | (cases h; done) | rfl | skip
  · rw [ex_beq h]
  · rw [ex_beq h]
  · obtain ⟨h1, h2⟩ := ex_and h
    obtain ⟨x1, x2⟩ := x
    obtain ⟨y1, y2⟩ := y
    have h1 : x1 = y1 := ex_beq h1
    have h2 : x2 = y2 := ex_beq h2
    rw [h1, h2]
  · rw [ex_beq h]
  · rw [of_decide_eq_true h]
theorem ex_lq_ok {α : Type} {f : α → α → Bool} (hf : ∀ a b, f a b = true → a = b) : ∀ {l r : List α}, ex_lq f l r = true → l = r
  | [], [], _ => rfl
  | [], _ :: _, h => by cases h
  | _ :: _, [], h => by cases h
  | a :: t, b :: u, h => by
    obtain ⟨h1, h2⟩ := ex_and (show (f a b && ex_lq f t u) = true from h)
    rw [hf a b h1, ex_lq_ok hf h2]
theorem ex_pq_ok (a b : Nat × ex_V) (h : ex_pq a b = true) : a = b := by
  obtain ⟨h1, h2⟩ := ex_and h
  obtain ⟨a1, a2⟩ := a
  obtain ⟨b1, b2⟩ := b
  have h1 : a1 = b1 := ex_beq h1
  have h2 : a2 = b2 := ex_veq_ok h2
  rw [h1, h2]
theorem ex_cq_ok (a b : ex_C) (h : ex_cq a b = true) : a = b := by
  rcases a with x | x <;> rcases b with y | y <;> first | (cases h; done) | skip
  · obtain ⟨h1, h2⟩ := ex_and (show (Nat.beq x.1 y.1 && ex_lq ex_veq x.2 y.2) = true from h)
    obtain ⟨x1, x2⟩ := x
    obtain ⟨y1, y2⟩ := y
    have h1 : x1 = y1 := ex_beq h1
    have h2 : x2 = y2 := ex_lq_ok (fun _ _ => ex_veq_ok) h2
    rw [h1, h2]
  · obtain ⟨h1, h3⟩ := ex_and (show (Nat.beq x.1 y.1 && Nat.beq x.2.1 y.2.1 && ex_lq ex_pq x.2.2 y.2.2) = true from h)
    obtain ⟨h1, h2⟩ := ex_and h1
    obtain ⟨x1, x2, x3⟩ := x
    obtain ⟨y1, y2, y3⟩ := y
    have h1 : x1 = y1 := ex_beq h1
    have h2 : x2 = y2 := ex_beq h2
    have h3 : x3 = y3 := ex_lq_ok ex_pq_ok h3
    rw [h1, h2, h3]
theorem ex_hq_at : ∀ {l r : ex_H}, ex_hq l r = true → ∀ (i : Nat) (ch : List ex_C), r[i]? = some ch → ch = [] ∨ l[i]? = some ch
  | [], [], _, i, ch, h => by cases h
  | [], _ :: _, h, _, _, _ => by cases h
  | _ :: _, [], _, i, ch, h => by cases h
  | a :: t, b :: u, h, i, ch, hi => by
    obtain ⟨h1, h2⟩ := ex_and (show (ex_hb a b && ex_hq t u) = true from h)
    cases i with
    | zero =>
      cases hi
      cases b with
      | nil => exact Or.inl rfl
      | cons x y => exact Or.inr (by rw [show a = x :: y from ex_lq_ok ex_cq_ok h1]; rfl)
    | succ i =>
      rw [List.getElem?_cons_succ] at hi ⊢
      exact ex_hq_at h2 i ch hi
theorem ex_hq_ok {l r : ex_H} (h : ex_hq l r = true) {k : Nat} {c : ex_C} (hk : ex_get r k = some c) : ex_get l k = some c := by
  obtain ⟨ch, h1, h2⟩ := ex_get_at hk
  rcases ex_hq_at h _ _ h1 with rfl | h3
  · cases h2
  · exact ex_get_of h3 h2
theorem ex_eq'_ok : ∀ {l r : ex_E}, ex_eq' l r = true → ∀ (i : Nat) (q : Nat × Nat), ex_nth r i = some q → ∃ q', ex_nth l i = some q' ∧ q.1 ≤ q'.1 ∧ q'.2 ≤ q.2
  | [], [], _, i, q, h => by cases h
  | [], _ :: _, h, _, _, _ => by cases h
  | _ :: _, [], _, i, q, h => by cases h
  | a :: t, b :: u, h, i, q, hi => by
    obtain ⟨h1, h2⟩ := ex_and (show ((Nat.ble b.1 a.1 && Nat.ble a.2 b.2) && ex_eq' t u) = true from h)
    obtain ⟨h1, h3⟩ := ex_and h1
    cases i with
    | zero =>
      cases hi
      exact ⟨a, rfl, ex_ble h1, ex_ble h3⟩
    | succ i => exact ex_eq'_ok h2 i q hi
theorem ex_any_ok {α : Type} {f : α → Bool} : ∀ {l : List α}, ex_any f l = true → ∃ a ∈ l, f a = true
  | [], h => by cases h
  | a :: t, h => by
    rcases Bool.or_eq_true _ _ |>.mp (show (f a || ex_any f t) = true from h) with h | h
    · exact ⟨a, List.mem_cons_self, h⟩
    · obtain ⟨b, h1, h2⟩ := ex_any_ok h
      exact ⟨b, List.mem_cons_of_mem _ h1, h2⟩
theorem ex_every_ok {α : Type} {f : α → Bool} : ∀ {l : List α}, ex_every f l = true → ∀ a ∈ l, f a = true
  | [], _, a, ha => by cases ha
  | b :: t, h, a, ha => by
    obtain ⟨h1, h2⟩ := ex_and (show (f b && ex_every f t) = true from h)
    rcases List.mem_cons.mp ha with rfl | ha
    · exact h1
    · exact ex_every_ok h2 a ha
/-- an answer is held by one of the answers gone on with -/
theorem ex_mg_ok {bb : Bool} {l l' : List ex_A} (h : ex_mg bb l = some l') {a : ex_A} (ha : a ∈ l) : ∃ m ∈ l', (∀ (i : Nat) (q : Nat × Nat), ex_nth m.1 i = some q → ∃ q', ex_nth a.1 i = some q' ∧ q.1 ≤ q'.1 ∧ q'.2 ≤ q.2) ∧ a.2.1 = m.2.1 ∧ a.2.2.2 = m.2.2.2 ∧ ∀ (k : Nat) (c : ex_C), ex_get m.2.2.1 k = some c → ex_get a.2.2.1 k = some c := by
  unfold ex_mg at h
  rcases ex_bif (P := fun z => z = some l') h with ⟨h1, h2⟩ | ⟨h1, h2⟩
  · obtain ⟨h3, h4⟩ := ex_bifs h2
    cases h4
    obtain ⟨m, hm, hl⟩ := ex_any_ok (ex_every_ok h3 a ha)
    obtain ⟨hl, c4⟩ := ex_and hl
    obtain ⟨hl, c3⟩ := ex_and hl
    obtain ⟨c1, c2⟩ := ex_and hl
    exact ⟨m, hm, ex_eq'_ok c1, ex_lq_ok (fun _ _ => ex_veq_ok) c2, ex_beq c3, fun k c hk => ex_hq_ok c4 hk⟩
  · cases h2
    exact ⟨a, ha, fun i q hq => ⟨q, hq, Nat.le_refl _, Nat.le_refl _⟩, rfl, rfl, fun k c hk => hk⟩
theorem ex_alls_ok {f : ex_E × ex_S → Option (List (ex_E × ex_S))} : ∀ {l y : List (ex_E × ex_S)}, ex_alls f l = some y → ∀ a ∈ l, ∃ x, f a = some x ∧ ∀ z ∈ x, z ∈ y
  | [], y, h, a, ha => by cases ha
  | b :: t, y, h, a, ha => by
    have h : (match f b with
      | none => none
      | some x => (match ex_alls f t with
        | none => none
        | some y => some (ex_app x y))) = some y := h
    split at h
    · cases h
    · rename_i x hx
      split at h
      · cases h
      · rename_i y' hy
        injection h with h
        subst h
        rw [ex_app_eq]
        rcases List.mem_cons.mp ha with rfl | ha
        · exact ⟨x, hx, fun z hz => List.mem_append_left _ hz⟩
        · obtain ⟨x', h1, h2⟩ := ex_alls_ok hy a ha
          exact ⟨x', h1, fun z hz => List.mem_append_right _ (h2 z hz)⟩
theorem ex_all_ok {f : ex_E × ex_S → Option (List (ex_E × ex_S))} {l y : List (ex_E × ex_S)} (h : ex_all f l = some y) : ∀ a ∈ l, ∃ x, f a = some x ∧ ∀ z ∈ x, z ∈ y := by
  unfold ex_all at h
  split at h
  · rename_i b
    intro a ha
    cases List.mem_singleton.mp ha
    exact ⟨y, h, fun z hz => hz⟩
  · exact ex_alls_ok h
theorem ex_rets_ok {z mc ms : Nat} : ∀ {l : List (ex_E × ex_S)} {y : List ex_A}, ex_rets z mc ms l = some y → ∀ x ∈ l, ∃ a ∈ y, ex_ret z mc ms x = some a
  | [], y, h, a, ha => by cases ha
  | b :: t, y, h, a, ha => by
    have h : (match ex_ret z mc ms b with
      | none => none
      | some x => (match ex_rets z mc ms t with
        | none => none
        | some y => some (x :: y))) = some y := h
    split at h
    · cases h
    · rename_i x hx
      split at h
      · cases h
      · rename_i y' hy
        injection h with h
        subst h
        rcases List.mem_cons.mp ha with rfl | ha
        · exact ⟨x, List.mem_cons_self, hx⟩
        · obtain ⟨x', h1, h2⟩ := ex_rets_ok hy a ha
          exact ⟨x', List.mem_cons_of_mem _ h1, h2⟩
section EXJ
variable {ρ : Nat → Int32} {b : Nat} {ws : va_W}
theorem ex_sr_app : ∀ {s1 : List ex_V} {x1 : List Value}, ex_sr ρ b ws s1 x1 → ∀ {s2 : List ex_V} {x2 : List Value}, ex_sr ρ b ws s2 x2 → ex_sr ρ b ws (s1 ++ s2) (x1 ++ x2)
  | [], [], _, _, _, h => h
  | [], _ :: _, h, _, _, _ => h.elim
  | _ :: _, [], h, _, _, _ => h.elim
  | _ :: _, _ :: _, h, _, _, k => ⟨h.1, ex_sr_app h.2 k⟩
/-- the values that a call takes -/
theorem ex_take_ok : ∀ {k : Nat} {acc st as rest : List ex_V}, ex_take k acc st = some (as, rest) → ∀ {xa xs : List Value}, ex_sr ρ b ws acc xa → (∀ v ∈ acc, ex_cat v = 1) → ex_sr ρ b ws st xs → ∃ va xr, xs.take k = (xs.take k) ∧ xa.reverse.reverse = xa ∧ ex_sr ρ b ws as va ∧ ex_sr ρ b ws rest xr ∧ (∀ v ∈ as, ex_cat v = 1) ∧ va.length = k + xa.length ∧ xa.reverse ++ xs = va.reverse ++ xr
  | 0, acc, st, as, rest, h, xa, xs, h1, h2, h3 => by
    have h : some (acc, st) = some (as, rest) := h
    cases h
    exact ⟨xa, xs, rfl, List.reverse_reverse _, h1, h3, h2, by omega, rfl⟩
  | k + 1, acc, st, as, rest, h, xa, xs, h1, h2, h3 => by
    cases st with
    | nil => cases (show none = some (as, rest) from h)
    | cons v t =>
      obtain ⟨g1, g2⟩ := ex_bifs (show (bif Nat.beq (ex_cat v) 1 then ex_take k (v :: acc) t else none) = some (as, rest) from h)
      obtain ⟨x, xr, rfl, hv, hr⟩ := ex_sr_cons h3
      obtain ⟨va, xr', -, -, c1, c2, c3, c4, c5⟩ := ex_take_ok g2 (xa := x :: xa) (xs := xr) ⟨hv, h1⟩ (fun w hw => by
        rcases List.mem_cons.mp hw with rfl | hw
        · exact ex_beq g1
        · exact h2 w hw) hr
      refine ⟨va, xr', rfl, List.reverse_reverse _, c1, c2, c3, by rw [List.length_cons] at c4; omega, ?_⟩
      rw [← c5, List.reverse_cons, List.append_assoc]
      rfl
theorem ex_args_ok : ∀ {as : List ex_V} {va : List Value}, ex_sr ρ b ws as va → (∀ v ∈ as, ex_cat v = 1) → ∀ i : Nat, ex_lr ρ b ws (ex_args as i) (lv_args i va) ∧ (lg_sl va).length = va.length
  | [], [], _, _, _ => ⟨trivial, rfl⟩
  | [], _ :: _, h, _, _ => h.elim
  | _ :: _, [], h, _, _ => h.elim
  | v :: t, x :: r, h, hc, i => by
    have hx : x.category = 1 := (ex_cat_ok h.1).trans (hc v List.mem_cons_self)
    obtain ⟨i1, i2⟩ := ex_args_ok h.2 (fun w hw => hc w (List.mem_cons_of_mem _ hw)) (i + 1)
    refine ⟨?_, ?_⟩
    · show ex_lr ρ b ws ((i, v) :: ex_args t (i + 1)) ((i, x) :: lv_args (if x.category = 2 then i + 2 else i + 1) r)
      rw [if_neg (by omega)]
      exact ⟨⟨rfl, h.1⟩, i1⟩
    · show (lg_sl (x :: r)).length = r.length + 1
      unfold lg_sl at i2 ⊢
      rw [List.flatMap_cons, if_neg (by omega), List.length_append, i2]
      show 1 + r.length = _
      omega
end EXJ
end
section
theorem ex_opt_eq (o : Instr) (ho : o = .iadd ∨ o = .isub ∨ o = .imul ∨ o = .iand ∨ o = .ior ∨ o = .ixor ∨ o = .ishl ∨ o = .ishr ∨ o = .idiv ∨ o = .irem) (en : ex_E) (a b : ex_V) : ex_opt (ex_tag o) en a b = ex_op o en a b := by
  unfold ex_opt ex_op
  rcases ho with rfl | rfl | rfl | rfl | rfl | rfl | rfl | rfl | rfl | rfl <;> (cases ex_cst en a <;> cases ex_cst en b <;> rfl)
theorem ex_bin2_eq (q : ex_P) (ho : q.2.1 = .iadd ∨ q.2.1 = .isub ∨ q.2.1 = .imul ∨ q.2.1 = .iand ∨ q.2.1 = .ior ∨ q.2.1 = .ixor ∨ q.2.1 = .ishl ∨ q.2.1 = .ishr ∨ q.2.1 = .idiv ∨ q.2.1 = .irem) (r : List ex_P) (en : ex_E) (lv : ex_L) (st : List ex_V) (h : ex_H) (n cc ss : Nat) : ex_bin2 q r en lv st h n cc ss = ex_bin q r en lv st h n cc ss := by
  unfold ex_bin2 ex_bin
  split
  · rw [ex_opt_eq _ ho]
  · rfl
theorem ex_step2_eq (pr : List ex_P) (isl : Bool) (L mL : Nat) (cap : Nat × Nat) (df : Nat → List ex_V) (en : ex_E) (q : ex_P) (r : List ex_P) (lv : ex_L) (st : List ex_V) (h : ex_H) (n cc ss : Nat) : ex_step2 pr isl L mL cap df en q r lv st h n cc ss = ex_step pr isl L mL cap df en q r lv st h n cc ss := by
  obtain ⟨pc, ins, len, a1, a2, a3, ts⟩ := q
  cases ins with
  | iadd => exact ex_bin2_eq _ (Or.inl rfl) _ _ _ _ _ _ _ _
  | isub => exact ex_bin2_eq _ (Or.inr (Or.inl rfl)) _ _ _ _ _ _ _ _
  | imul => exact ex_bin2_eq _ (Or.inr (Or.inr (Or.inl rfl))) _ _ _ _ _ _ _ _
  | iand => exact ex_bin2_eq _ (Or.inr (Or.inr (Or.inr (Or.inl rfl)))) _ _ _ _ _ _ _ _
  | ior => exact ex_bin2_eq _ (Or.inr (Or.inr (Or.inr (Or.inr (Or.inl rfl))))) _ _ _ _ _ _ _ _
  | ixor => exact ex_bin2_eq _ (Or.inr (Or.inr (Or.inr (Or.inr (Or.inr (Or.inl rfl)))))) _ _ _ _ _ _ _ _
  | ishl => exact ex_bin2_eq _ (Or.inr (Or.inr (Or.inr (Or.inr (Or.inr (Or.inr (Or.inl rfl))))))) _ _ _ _ _ _ _ _
  | ishr => exact ex_bin2_eq _ (Or.inr (Or.inr (Or.inr (Or.inr (Or.inr (Or.inr (Or.inr (Or.inl rfl)))))))) _ _ _ _ _ _ _ _
  | idiv => exact ex_bin2_eq _ (Or.inr (Or.inr (Or.inr (Or.inr (Or.inr (Or.inr (Or.inr (Or.inr (Or.inl rfl))))))))) _ _ _ _ _ _ _ _
  | irem => exact ex_bin2_eq _ (Or.inr (Or.inr (Or.inr (Or.inr (Or.inr (Or.inr (Or.inr (Or.inr (Or.inr rfl))))))))) _ _ _ _ _ _ _ _
  | _ => rfl
end
section
abbrev ex_I : Type := MethodName × ByteArray × Option FieldType × Nat × Nat
noncomputable def ex_ck (mi : Nat → Option ex_I) (own : String) (q : ex_P) : Bool := match q with
  | (_, ins, len, a1, a2, a3, ts) => Nat.beq len 3 && (match mi a1, ts with
    | some I, [wi, ne] => (match ins with
      | .invokevirtual ix => ex_wd wi (Cond.methodLink own ix I.1) && Nat.beq I.2.2.2.1 0 && Nat.beq a2 (I.2.2.2.2 + 1) && (match vwCl[a3]? with
        | some rc => decide (rc.1 = I.1.cls)
        | none => false)
      | .invokestatic ix => ex_wd wi (Cond.methodLink own ix I.1) && Nat.beq I.2.2.2.1 1 && Nat.beq a2 I.2.2.2.2
      | .invokespecial ix => Nat.beq I.2.2.2.1 2 && Nat.beq a2 (I.2.2.2.2 + 1) && (bif Nat.beq ne 0 then ex_wd wi (Cond.methodLink own ix I.1) else decide (Cond.methodLinkNest own ix I.1 "HatchLights" ∈ ex_nest))
      | _ => false)
    | _, _ => false)
def ex_ek (z : Nat) (ret : Option FieldType) (q : ex_P) : Bool := match q.2.1, ret with
  | .ireturn, some .int => Nat.beq q.2.2.1 1
  | .ireturn, some .boolean => Nat.beq q.2.2.1 1 && Nat.beq z 1
  | .areturn, some (.object _) => Nat.beq q.2.2.1 1
  | .return_, none => Nat.beq q.2.2.1 1
  | _, _ => false
noncomputable def ex_qk (mi : Nat → Option ex_I) (own nm : String) (z : Nat) (ret : Option FieldType) (q : ex_P) : Bool := bif ex_end q then ex_ek z ret q else bif ex_call q then ex_ck mi own q else ex_pk own nm q
def ex_PO (mi : Nat → Option ex_I) (own nm : String) (cd : ByteArray) (z : Nat) (ret : Option FieldType) (pr : List ex_P) : Prop := ∀ q ∈ pr, decode cd q.1 = .ok (q.2.1, q.2.2.1) ∧ ex_qk mi own nm z ret q = true
def ex_MO (mi : Nat → Option ex_I) (M : ex_M) (I : ex_I) : Prop := plainName I.1.cls = true ∧ Cond.code I.1 I.2.1 M.2.1 I.2.2.1 ∈ ex_tb ∧ M.2.1 ≤ 40 ∧ Cond.initialized I.1.cls ∈ ex_tb ∧ (I.1.cls ≠ "java/lang/invoke/MethodHandle" ∧ I.1.cls ≠ "java/lang/invoke/VarHandle" ∧ (parseMethodDescriptor I.1.desc).map (fun d => d.parameters.length) = some I.2.2.2.2) ∧ ((I.2.2.2.1 = 0 → Cond.instanceMethod I.1 ∈ ex_tb ∧ Cond.selects I.1.cls I.1 I.1 ∈ ex_tb) ∧ (I.2.2.2.1 = 1 → Cond.static I.1 ∈ ex_tb) ∧ (I.2.2.2.1 = 2 → I.1.name = "<init>" ∧ Cond.instanceMethod I.1 ∈ ex_tb ∧ I.2.2.1 = none)) ∧ (I.2.2.2.2 + 1 ≤ M.2.1 ∨ (I.2.2.2.1 = 1 ∧ I.2.2.2.2 ≤ M.2.1)) ∧ (∃ q r, M.1 = q :: r ∧ q.1 = 0) ∧ ex_PO mi I.1.cls I.1.name I.2.1 M.2.2.1 I.2.2.1 M.1
def ex_Snd (mt : Nat → Option ex_M) (mi : Nat → Option ex_I) (df : Nat → List ex_V) (L : Nat) (l : Launch) (f : Nat) : Prop := ∀ (stop d : Nat) (isl : Bool) (M : ex_M) (en : ex_E) (S : ex_S) (o : List (ex_E × ex_S)), ex_run mt df L f stop d isl M en S = some o → ∀ (own nm : String) (cd : ByteArray) (ret : Option FieldType), ex_PO mi own nm cd M.2.2.1 ret M.1 → ∀ (p : Program) (e : Env) (R : Room) (s : State) (m : MethodId) (args : Array Value) (below : List Frame) (meth : Method) (c : Code) (Q : State → Prop) (D : va_G) (ρ : Nat → Int32) (b : Nat) (A : Nat → Prop) (w0 : va_W) (t0 : List (ClassId × FieldType)), ex_X p R s m args meth c ρ b L A own nm cd M.2.1 d (M.2.2.2.1, M.2.2.2.2) isl → (∀ x ∈ o, ex_G p l e R s m args below meth c Q D ρ b A M.2.1 w0 t0 M.1 x.1 x.2) → S.1 ≠ [] ∧ ex_G p l e R s m args below meth c Q D ρ b A M.2.1 w0 t0 M.1 en S
def ex_Pc (D : va_G) (ws : va_W) (tys : List (ClassId × FieldType)) (sz : Nat) (U : State) : Prop := U.heap.size = sz ∧ va_P D vwCl ws U.heap ∧ va_K D vwCl tys U ∧ va_D (fun _ => True) ws ∧ (∀ w ∈ ex_nest, va_Nw w U) ∧ va_AO "HatchLights$Scene" U
def ex_Qc (D : va_G) (ρ : Nat → Int32) (b : Nat) (ws : va_W) (tys : List (ClassId × FieldType)) (sz : Nat) (outs : List ex_A) : Array Value → State → Outcome → State → Prop := fun _ st oc t => (∃ a ∈ outs, ∃ (vo : Option Value) (ws' : va_W) (tys' : List (ClassId × FieldType)), oc = .returned vo ∧ ex_er ρ a.1 ∧ ex_sr ρ b ws' a.2.1 vo.toList ∧ ex_hr ρ b tys' ws' a.2.2.1 a.2.2.2 ∧ va_P D vwCl ws' t.heap ∧ va_K D vwCl tys' t ∧ va_D (va_A ws sz) ws' ∧ ex_xt ws ws' ∧ ∀ x ∈ tys, x ∈ tys') ∧ va_F (va_A ws sz) st t
theorem ex_zok_ok {ρ : Nat → Int32} {b : Nat} {ws : va_W} {en : ex_E} {z : Nat} {v : ex_V} {y : Int32} (he : ex_er ρ en) (hz : z = 1) (hk : ex_zok en z v = true) (hv : ex_vr ρ b ws v (.int y)) : narrow .boolean (.int y) = .int y := by
  subst hz
  have hk : (match ex_cst en v with
    | some u => Nat.beq u 2147483648 || Nat.beq u 2147483649
    | none => false) = true := hk
  split at hk
  · rename_i u hu
    have e1 := ex_cst_ok he hu hv
    have hy : y = 0 ∨ y = 1 := by
      rcases Bool.or_eq_true _ _ |>.mp hk with h1 | h1
      · exact Or.inl (ex_u_inj (by rw [e1, ex_beq h1, ex_u_0]))
      · exact Or.inr (ex_u_inj (by rw [e1, ex_beq h1]; decide))
    rcases hy with rfl | rfl <;> rfl
  · cases hk
set_option maxHeartbeats 4000000 in
theorem ex_met {mt : Nat → Option ex_M} {mi : Nat → Option ex_I} {df : Nat → List ex_V} {L : Nat} {l : Launch} {f : Nat} (hs : ex_Snd mt mi df L l f) {M : ex_M} {I : ex_I} (hMO : ex_MO mi M I) {d : Nat} {en : ex_E} {as : List ex_V} {h : ex_H} {n : Nat} {outs : List (ex_E × ex_S)} {l1 : List ex_A} (hr : ex_run mt df L f 1000000 d false M en (M.1, ex_args as 0, [], h, n, 0, 0) = some outs) (hrt : ex_rets M.2.2.1 M.2.2.2.1 M.2.2.2.2 outs = some l1)
    {ρ : Nat → Int32} {b : Nat} {D : va_G} {ws : va_W} {tys : List (ClassId × FieldType)} {va : List Value} {sz : Nat} (he : ex_er ρ en) (ha : ex_sr ρ b ws as va) (hc : ∀ v ∈ as, ex_cat v = 1) (hlen : va.length ≤ M.2.1) (hh : ex_hr ρ b tys ws h n) :
    Met l I.1 (Cond.code I.1 I.2.1 M.2.1 I.2.2.1 :: ex_tb) { frames := d + 1, cells := M.2.2.2.1, slots := M.2.2.2.2, locals := 60 * (d + 1) } (va_Pc va (ex_Pc D ws tys sz)) (ex_Qc D ρ b ws tys sz l1) M.2.2.2.1 M.2.2.2.2 (va_A ws sz) := by
  obtain ⟨m1, m2, m3, m4, m5, m6, m7, m8, m9⟩ := hMO
  refine Met.ofW (cc := I.2.1) (maxL := M.2.1) (ret := I.2.2.1) m1 rfl ?_
  intro p e s m args below meth c s₁ B hml hv
  obtain ⟨rfl, hsz, hP, hK, hD0, hNw, hAO⟩ := hv
  subst hsz
  have hts := atoms_spec (ws := Cond.code I.1 I.2.1 M.2.1 I.2.2.1 :: ex_tb) B.pre
  have X : ex_X p (headSpec (Cond.code I.1 I.2.1 M.2.1 I.2.2.1 :: ex_tb) { frames := d + 1, cells := M.2.2.2.1, slots := M.2.2.2.2, locals := 60 * (d + 1) }).room s m va.toArray meth c ρ b L (va_A ws s.heap.size) I.1.cls I.1.name I.2.1 M.2.1 d (M.2.2.2.1, M.2.2.2.2) false := ⟨B.exec, B.bytes, hml, findClass_of_methodNamed B.named, fun w hw => hts w (List.mem_cons_of_mem _ hw), fun q hq => Or.inr hq, hNw, hAO, (fun z => by cases z), (name_of_methodNamed B.named B.method).1, ⟨Nat.le_refl _, Nat.le_refl _⟩, Nat.le_refl _, Nat.le_refl _⟩
  have hG := (hs _ _ _ M en _ outs hr I.1.cls I.1.name I.2.1 I.2.2.1 m9 p e _ s m va.toArray below meth c (MQ below (ex_Qc D ρ b ws tys s.heap.size l1) va.toArray s M.2.2.2.1 M.2.2.2.2 (va_A ws s.heap.size)) D ρ b (va_A ws s.heap.size) ws tys X (fun x hx => by
    obtain ⟨a, ha', hra0⟩ := ex_rets_ok hrt x hx
    intro pc ls xs ws' tys' H locs hh0 hsub hR
    obtain ⟨q, r, e0, e1⟩ := hh0
    obtain ⟨e', sx, lv, st, h', n', c', s'⟩ := x
    have e0 : sx = q :: r := e0
    subst e0
    subst e1
    have hra : (bif Nat.ble c' M.2.2.2.1 && Nat.ble s' M.2.2.2.2 then (match q.2.1, st with
      | .ireturn, [v] => bif ex_isI v && ex_zok e' M.2.2.1 v then some ((e', [v], h', n') : ex_A) else none
      | .areturn, [v] => bif ex_isR v then some (e', [v], h', n') else none
      | .return_, [] => some (e', [], h', n')
      | _, _ => none) else none) = some a := hra0
    clear hra0
    obtain ⟨g0, g2⟩ := ex_bifs hra
    clear hra
    obtain ⟨g1, g3⟩ := ex_and g0
    clear g0
    refine W.widen (ex_ble g1) (ex_ble g3) ?_
    obtain ⟨hdq, hqk⟩ := m9 q (hsub q List.mem_cons_self)
    obtain ⟨pc, ins, len, a1, a2, a3, ts⟩ := q
    have hx10 := hR.2.2.2.2.2.2.2.2.1
    have hx11 := hR.2.2.2.2.2.2.2.2.2
    split at g2
    · rename_i v hins
      have hins : ins = .ireturn := hins
      subst hins
      obtain ⟨g4, g5⟩ := ex_bifs g2
      obtain ⟨g4, g6⟩ := ex_and g4
      injection g5 with g5
      subst g5
      obtain ⟨x, xr, rfl, hv, hr'⟩ := ex_sr_cons hR.sr
      obtain ⟨y, rfl⟩ := ex_vr_int hv g4
      have hxr := ex_sr_nil hr'
      subst hxr
      have hek : ex_ek M.2.2.1 I.2.2.1 (pc, .ireturn, len, a1, a2, a3, ts) = true := hqk
      have fin : ∀ ty : FieldType, I.2.2.1 = some ty → narrow ty (.int y) = .int y → len = 1 → W p l e (headSpec (Cond.code I.1 I.2.1 M.2.1 I.2.2.1 :: ex_tb) { frames := d + 1, cells := M.2.2.2.1, slots := M.2.2.2.2, locals := 60 * (d + 1) }).room s m va.toArray below meth c H locs M.2.2.2.1 M.2.2.2.2 (MQ below (ex_Qc D ρ b ws tys s.heap.size l1) va.toArray s M.2.2.2.1 M.2.2.2.2 (va_A ws s.heap.size)) (F0 m pc ls [.int y]) := fun ty hty hnar hl => by
        subst hl
        exact W.zret (ty := ty) B.exec B.bytes (B.returns.trans hty) hnar (fun t ht hW => ⟨⟨_, ha', some (.int y), ws', tys', rfl, hR.er, ⟨hv, trivial⟩, hR.hr, by rw [ht]; exact hR.hP, va_K.moved hW.alike hR.hK, hR.hD, hx10, hx11⟩, hR.hS.F ht⟩) hR.hS.2.2 hdq (hlocks := B.notSynchronized)
      cases hret : I.2.2.1 with
      | none => rw [hret] at hek; cases (show false = true from hek)
      | some ty =>
        rw [hret] at hek
        cases ty with
        | int => exact fin .int hret rfl (ex_beq hek)
        | boolean =>
          obtain ⟨z1, z2⟩ := ex_and (show (Nat.beq len 1 && Nat.beq M.2.2.1 1) = true from hek)
          exact fin .boolean hret (ex_zok_ok hR.er (ex_beq z2) g6 hv) (ex_beq z1)
        | _ => cases (show false = true from hek)
    · rename_i v hins
      have hins : ins = .areturn := hins
      subst hins
      obtain ⟨g4, g5⟩ := ex_bifs g2
      injection g5 with g5
      subst g5
      obtain ⟨x, xr, rfl, hv, hr'⟩ := ex_sr_cons hR.sr
      have hxr := ex_sr_nil hr'
      subst hxr
      have hek : ex_ek M.2.2.1 I.2.2.1 (pc, .areturn, len, a1, a2, a3, ts) = true := hqk
      cases hret : I.2.2.1 with
      | none => rw [hret] at hek; cases (show false = true from hek)
      | some ty =>
        rw [hret] at hek
        cases ty with
        | object C =>
          have hl : len = 1 := ex_beq hek
          subst hl
          exact W.aret (rt := .object C) B.exec B.bytes (B.returns.trans hret) (Or.inl ⟨C, rfl⟩) (ex_isR_ok hv g4) (fun t ht hW => ⟨⟨_, ha', some x, ws', tys', rfl, hR.er, ⟨hv, trivial⟩, hR.hr, by rw [ht]; exact hR.hP, va_K.moved hW.alike hR.hK, hR.hD, hx10, hx11⟩, hR.hS.F ht⟩) hR.hS.2.2 hdq (hlocks := B.notSynchronized)
        | _ => cases (show false = true from hek)
    · rename_i hins
      have hins : ins = .return_ := hins
      subst hins
      injection g2 with g5
      subst g5
      have hxr := ex_sr_nil hR.sr
      subst hxr
      have hek : ex_ek M.2.2.1 I.2.2.1 (pc, .return_, len, a1, a2, a3, ts) = true := hqk
      cases hret : I.2.2.1 with
      | none =>
        rw [hret] at hek
        have hl : len = 1 := ex_beq hek
        subst hl
        exact W.vret B.exec B.bytes (B.returns.trans hret) (fun t ht hW => ⟨⟨_, ha', none, ws', tys', rfl, hR.er, trivial, hR.hr, by rw [ht]; exact hR.hP, va_K.moved hW.alike hR.hK, hR.hD, hx10, hx11⟩, hR.hS.F ht⟩) hR.hS.2.2 hdq (hlocks := B.notSynchronized)
      | some ty => rw [hret] at hek; cases (show false = true from hek)
    · cases g2)).2
  rw [lg_entry_eq]
  obtain ⟨a1, a2⟩ := ex_args_ok ha hc 0
  have hl := lv_entry va (n := M.2.1) (by rw [a2]; exact hlen)
  obtain ⟨q, r, hq, hq0⟩ := m8
  exact hG 0 _ [] ws tys s.heap [] ⟨q, r, hq, hq0⟩ (fun q h => h) ⟨⟨_, hl, a1⟩, he, trivial, hh, hK, hP, hD0.self, va_S.rf, ex_xt.rf, fun _ h => h⟩
end
section
section EXC
variable {p : Program} {l : Launch} {e : Env} {R : Room} {s : State} {m : MethodId} {args : Array Value} {below : List Frame} {meth : Method} {c : Code} {H : Heap} {locs : List Loc} {cells slots : Nat} {Q : State → Prop}
/-- behind a call, whatever it answers -/
theorem ex_callk {pc : Nat} {ls : Array Slot} {rest st0 : List Value} {A0 A1 : Nat → Prop} {H0 : Heap} {mc ms : Nat} {free : Addr → Prop} {Qa : State → Outcome → State → Prop} (hr : va_Run p l e R s m args below meth c H locs cells slots mc ms (F0 m pc ls st0) rest Qa free) (hS : va_S A0 H0 H locs) (hA : ∀ q, q < H.size → A1 q → A0 q) (hf : ∀ q, free q → A0 q) (hQ : ∀ st oc t, Qa st oc t → va_F A1 st t)
    (kk : ∀ (vo : Option Value) (st₀ t : State) (locs1 : List Loc), st₀.heap = H → s.vm.Alike t.vm → Qa st₀ (.returned vo) t → va_S A0 H0 t.heap locs1 → W p l e R s m args below meth c t.heap locs1 (cells + mc) (slots + ms) Q (F0 m (pc + 3) ls (vo.toList ++ rest))) : W p l e R s m args below meth c H locs cells slots Q (F0 m pc ls st0) := by
  intro T hT X
  obtain ⟨v, st₀, t, T', L, h0, X', hL, e1, e2, hq, st⟩ := hr T hT X
  obtain ⟨hz, hk⟩ := hQ _ _ _ hq
  rw [h0] at hz hk
  obtain ⟨t2, a1, b1⟩ := kk v st₀ t (locs ++ L) h0 (by rw [← e2]; exact X'.warmed.alike) hq ⟨Nat.le_trans hS.1 hz, fun q h1 h2 => by rw [hk q (Nat.lt_of_lt_of_le h1 hS.1) (fun z => h2 (hA q (Nat.lt_of_lt_of_le h1 hS.1) z))]; exact hS.2.1 q h1 h2, fun q hq => by
    rcases List.mem_append.mp hq with h | h
    · exact hS.2.2 q h
    · exact hf _ (hL q h)⟩ T' e1 X'
  exact ⟨t2, st t2 a1, b1⟩
end EXC
theorem ex_good {ws : List Cond} (h : ∀ w ∈ ws, w ∈ ex_tb) : GoodIn ex_tb ws := fun w hw => ⟨h w hw, good_of_word (List.mem_filter.mp (h w hw)).2⟩
theorem ex_nest_warm {s U : State} (hW : s.WarmedH U.vm) (h : ∀ w ∈ ex_nest, va_Nw w s) : ∀ w ∈ ex_nest, va_Nw w U := by
  intro w hw
  have h1 := h w hw
  simp only [ex_nest, List.mem_cons, List.not_mem_nil, or_false] at hw
  rcases hw with rfl | rfl | rfl | rfl | rfl <;> exact va_Nw.warmM hW h1
theorem ex_nest_same {s U : State} (hW : s.vm = U.vm) (h : ∀ w ∈ ex_nest, va_Nw w s) : ∀ w ∈ ex_nest, va_Nw w U := by
  intro w hw
  have h1 := h w hw
  simp only [ex_nest, List.mem_cons, List.not_mem_nil, or_false] at hw
  rcases hw with rfl | rfl | rfl | rfl | rfl <;> exact va_Nw.same rfl hW h1
theorem ex_ck_ok {mi : Nat → Option ex_I} {own : String} {pc len a1 a2 a3 : Nat} {ins : Instr} {ts : List Nat} {I : ex_I} (hI : mi a1 = some I) (hck : ex_ck mi own (pc, ins, len, a1, a2, a3, ts) = true) : len = 3 ∧ ((∃ ix rc, ins = .invokevirtual ix ∧ Cond.methodLink own ix I.1 ∈ ex_tb ∧ I.2.2.2.1 = 0 ∧ a2 = I.2.2.2.2 + 1 ∧ vwCl[a3]? = some rc ∧ rc.1 = I.1.cls) ∨ (∃ ix, ins = .invokestatic ix ∧ Cond.methodLink own ix I.1 ∈ ex_tb ∧ I.2.2.2.1 = 1 ∧ a2 = I.2.2.2.2) ∨ (∃ ix, ins = .invokespecial ix ∧ I.2.2.2.1 = 2 ∧ a2 = I.2.2.2.2 + 1 ∧ (Cond.methodLink own ix I.1 ∈ ex_tb ∨ Cond.methodLinkNest own ix I.1 "HatchLights" ∈ ex_nest))) := by
  unfold ex_ck at hck
  obtain ⟨k0, k9⟩ := ex_and hck
  refine ⟨ex_beq k0, ?_⟩
  split at k9
  · rename_i I' wi ne hI'
    rw [hI] at hI'
    injection hI' with hI'
    subst hI'
    split at k9
    · rename_i ix
      obtain ⟨k9, k4⟩ := ex_and k9
      obtain ⟨k9, k3⟩ := ex_and k9
      obtain ⟨k1, k2⟩ := ex_and k9
      split at k4
      · rename_i rc hrc
        exact Or.inl ⟨ix, rc, rfl, ex_wd_ok k1, ex_beq k2, ex_beq k3, hrc, of_decide_eq_true k4⟩
      · cases k4
    · rename_i ix
      obtain ⟨k9, k3⟩ := ex_and k9
      obtain ⟨k1, k2⟩ := ex_and k9
      exact Or.inr (Or.inl ⟨ix, rfl, ex_wd_ok k1, ex_beq k2, ex_beq k3⟩)
    · rename_i ix
      obtain ⟨k9, k3⟩ := ex_and k9
      obtain ⟨k1, k2⟩ := ex_and k9
      refine Or.inr (Or.inr ⟨ix, rfl, ex_beq k1, ex_beq k2, ?_⟩)
      rcases ex_bif (P := fun z => z = true) k3 with ⟨z1, z2⟩ | ⟨z1, z2⟩
      · exact Or.inl (ex_wd_ok z2)
      · exact Or.inr (of_decide_eq_true z2)
    · cases k9
  · cases k9
set_option maxHeartbeats 4000000 in
set_option maxRecDepth 100000 in
theorem ex_run_ok {mt : Nat → Option ex_M} {mi : Nat → Option ex_I} {df : Nat → List ex_V} {L : Nat} {l : Launch} (hgw : ex_gw) (hgd : ex_gd df) (hmt : ∀ (j : Nat) (M : ex_M), mt j = some M → ∃ I, mi j = some I ∧ ex_MO mi M I) (f : Nat) : ex_Snd mt mi df L l f := by
  induction f with
  | zero =>
    intro stop d isl M en S o hr
    cases (show none = some o from hr)
  | succ f ih =>
    intro stop d isl M en S o hr0 own nm cd ret hPO p e R s m args below meth c Q D ρ b A w0 t0 X hG
    obtain ⟨sx, lv, st, h, n, k1, k2⟩ := S
    cases sx with
    | nil => cases (show none = some o from hr0)
    | cons q r =>
      refine ⟨List.cons_ne_nil _ _, ?_⟩
      have hr : (bif ex_end q || Nat.ble stop q.1 then some [(en, (q :: r, lv, st, h, n, k1, k2))] else
        bif ex_call q then ex_cl (ex_run mt df L f) mt stop d isl M en q r lv st h n k1 k2 else ex_sp (ex_run mt df L f) df L stop d isl M en q r lv st h n k1 k2) = some o := hr0
      clear hr0
      intro pc ls xs ws tys H locs hh0 hsub hR
      obtain ⟨q0, r0, e0, e1⟩ := hh0
      have e0 : q :: r = q0 :: r0 := e0
      injection e0 with e0 e2
      subst e0
      subst e1
      have hsub : ∀ x ∈ q :: r, x ∈ M.1 := hsub
      have hR : ex_Rl s D ρ b A M.2.1 w0 t0 en lv st h n ls xs ws tys H locs := hR
      show W p l e R s m args below meth c H locs k1 k2 Q (F0 m q.1 ls xs)
      obtain ⟨hdq, hqk⟩ := hPO q (hsub q List.mem_cons_self)
      rcases ex_bif (P := fun z => z = some o) hr with ⟨g1, g2⟩ | ⟨g1, g2⟩
      · injection g2 with g2
        subst g2
        exact hG _ (List.mem_singleton.mpr rfl) q.1 ls xs ws tys H locs ⟨q, r, rfl, rfl⟩ hsub hR
      · obtain ⟨g1e, -⟩ := Bool.or_eq_false_iff.mp g1
        have hqk : (bif ex_call q then ex_ck mi own q else ex_pk own nm q) = true := by
          unfold ex_qk at hqk
          rw [g1e] at hqk
          exact hqk
        rcases ex_bif (P := fun z => z = some o) g2 with ⟨g3, g4⟩ | ⟨g3, g4⟩
        · rw [g3] at hqk
          have hck : ex_ck mi own q = true := hqk
          unfold ex_cl at g4
          split at g4
          · cases g4
          · rename_i d'
            split at g4
            · cases g4
            · rename_i M' hM'
              obtain ⟨I, hI, hMO⟩ := hmt _ _ hM'
              split at g4
              · cases g4
              · rename_i ar har
                obtain ⟨as, rest⟩ := ar
                obtain ⟨g5, g6⟩ := ex_bifs g4
                obtain ⟨g5, c5⟩ := ex_and g5
                obtain ⟨g5, c4⟩ := ex_and g5
                obtain ⟨g5, c3⟩ := ex_and g5
                obtain ⟨c1, c2⟩ := ex_and g5
                have c1 : rest.length ≤ 4 := by have := ex_ble c1; rw [ex_len_eq] at this; exact this
                have c2 := ex_ble c2
                have c3 := ex_ble c3
                split at g6
                · cases g6
                · rename_i outs houts
                  split at g6
                  · cases g6
                  · rename_i la hla
                    split at g6
                    · cases g6
                    · rename_i lm hlm
                      obtain ⟨x1, x2, x3, x4, x5, x6, x7, x8, x9, x10, x11, x12, x13⟩ := id X
                      obtain ⟨va, xr, -, -, t1, t2, t3, t4, t5⟩ := ex_take_ok har (xa := []) (ρ := ρ) (b := b) (ws := ws) trivial (fun v hv => by cases hv) hR.sr
                      have hxs : xs = va.reverse ++ xr := t5
                      have t4 : va.length = q.2.2.2.2.1 := t4
                      obtain ⟨lw, hl1, hl2⟩ := hR.1
                      have hsum := ex_sum_le t2
                      obtain ⟨o1, o2, o3, o4, o5, ⟨o6a, o6b, o6c⟩, o7, o8, o9⟩ := id hMO
                      -- behind the call
                      have kk : ∀ (vo : Option Value) (st₀ t : State) (locs1 : List Loc), st₀.heap = H → s.vm.Alike t.vm → ex_Qc D ρ b ws tys H.size la va.toArray st₀ (.returned vo) t → va_S A s.heap t.heap locs1 → W p l e R s m args below meth c t.heap locs1 (k1 + M'.2.2.2.1) (k2 + M'.2.2.2.2) Q (F0 m (q.1 + 3) ls (vo.toList ++ xr)) := by
                        intro vo st₀ t locs1 hst0 hvm hq hS1
                        obtain ⟨⟨a, ha, vo', ws', tys', ho, f1, f2, f3, f4, f5, f6, f7, f8⟩, -⟩ := hq
                        injection ho with ho
                        subst ho
                        obtain ⟨mm, hmm, j1, j2, j3, j4⟩ := ex_mg_ok hlm ha
                        obtain ⟨ox, hox1, hox2⟩ := ex_all_ok g6 (ex_bk r lv rest (k1 + M'.2.2.2.1) (k2 + M'.2.2.2.2) mm) (by rw [ex_map_eq]; exact List.mem_map.mpr ⟨mm, hmm, rfl⟩)
                        have hG1 := (ih stop (d' + 1) isl M _ _ ox hox1 own nm cd ret hPO p e R s m args below meth c Q D ρ b A w0 t0 X (fun x hx => hG x (hox2 x hx))).2
                        cases r with
                        | nil => cases (show false = true from c4)
                        | cons q' r' =>
                          refine hG1 (q.1 + 3) ls (vo.toList ++ xr) ws' tys' t.heap locs1 ⟨q', r', rfl, ex_beq c4⟩ (fun x hx => hsub x (List.mem_cons_of_mem _ hx)) ⟨⟨lw, hl1, hl2.mono f7⟩, ?_, ?_, ?_, va_K.moved hvm.symm f5, f4, f6.weaken (fun k x hk hx => ?_), hS1, hR.2.2.2.2.2.2.2.2.1.tr f7, fun x hx => f8 x (hR.2.2.2.2.2.2.2.2.2 x hx)⟩
                          · intro i z hz
                            obtain ⟨z', z1, z2, z3⟩ := j1 i z hz
                            have := f1 i z' z1
                            omega
                          · show ex_sr ρ b ws' (ex_app mm.2.1 rest) (vo.toList ++ xr)
                            rw [ex_app_eq, ← j2]
                            exact ex_sr_app f2 (t2.mono f7)
                          · show ex_hr ρ b tys' ws' mm.2.2.1 mm.2.2.2
                            exact ⟨f3.1.trans j3, fun k cc hk => f3.2 k cc (j4 k cc hk)⟩
                          · rcases hx with ⟨k', ev, hk'⟩ | hx
                            · exact hR.hD.2 k' (x.1, ev) hk'
                            · exact x6 _ (Nat.le_trans hR.hS.1 hx)
                      have hFa : ∀ z, va_A ws H.size z → A z := fun z hz => by
                        rcases hz with ⟨k', ev, hk'⟩ | hz
                        · exact hR.hD.2 k' (z, ev) hk'
                        · exact x6 _ (Nat.le_trans hR.hS.1 hz)
                      have hQF : ∀ st oc t, ex_Qc D ρ b ws tys H.size la va.toArray st oc t → va_F (va_A ws H.size) st t := fun _ _ _ hq => hq.2
                      have hfin : va.length ≤ M'.2.1 → ∀ rr, va_Run p l e R s m args below meth c H locs k1 k2 M'.2.2.2.1 M'.2.2.2.2 (F0 m q.1 ls xs) xr (ex_Qc D ρ b ws tys H.size la va.toArray) rr → (∀ z, rr z → A z) → W p l e R s m args below meth c H locs k1 k2 Q (F0 m q.1 ls xs) := fun _ rr hrun hrr => ex_callk hrun hR.hS (fun z _ hz => hFa z hz) hrr hQF kk
                      have hblind : FrameBlind (va_Pc va (ex_Pc D ws tys H.size)) := fun a U g mk qq => by
                        obtain ⟨q0, q1, qP, qK, qD, qN, qA⟩ := qq
                        exact ⟨q0, q1, qP, va_K.moved (u := U) (U := U.calling g mk a) (Vm.Alike.refl U.vm) qK, qD, ex_nest_same (s := U) (U := U.calling g mk a) rfl qN, va_AO.moved (U := U.calling g mk a) (Vm.Alike.refl U.vm) qA⟩
                      have hpre : ∀ U : State, U.heap = H → s.WarmedH U.vm → va_Pc va (ex_Pc D ws tys H.size) va.toArray U := fun U hU hW => ⟨rfl, by rw [hU], by rw [hU]; exact hR.hP, va_K.moved hW.alike hR.hK, hR.hD.weaken (fun _ _ _ _ => trivial), ex_nest_warm hW x7, va_AO.moved hW.alike x8⟩
                      have hroom : ({ frames := d' + 1, cells := M'.2.2.2.1, slots := M'.2.2.2.2, locals := 60 * (d' + 1) } : Room).frames + 1 ≤ R.frames ∧ 8 + (M'.2.1 + 11) + ({ frames := d' + 1, cells := M'.2.2.2.1, slots := M'.2.2.2.2, locals := 60 * (d' + 1) } : Room).locals ≤ R.locals := ⟨x12, by
                        show 8 + (M'.2.1 + 11) + 60 * (d' + 1) ≤ R.locals
                        omega⟩
                      have hcap : k1 + M'.2.2.2.1 ≤ R.cells ∧ k2 + M'.2.2.2.2 ≤ R.slots := ⟨Nat.le_trans c2 x11.1, Nat.le_trans c3 x11.2⟩
                      have hsub8 : 2 * (F0 m q.1 ls xs).monitorRoom + (xr.map fun v => v.category).sum ≤ 8 := lv_room (st := xr) (by omega)
                      have hcode : ∀ w ∈ (Cond.code I.1 I.2.1 M'.2.1 I.2.2.1 :: ex_tb), w ∈ ex_tb := fun w hw => by
                        rcases List.mem_cons.mp hw with rfl | hw
                        · exact o2
                        · exact hw
                      have fix : CallFix p m c cd M.2.1 s args ex_tb own := ⟨x1, x2, x3, x4, x5⟩
                      obtain ⟨pc, ins, len, a1, a2, a3, ts⟩ := q
                      obtain ⟨hlen3, hcs⟩ := ex_ck_ok hI hck
                      subst hlen3
                      rcases hcs with ⟨ix, rc, rfl, k1', k2', k3, hrc, k4⟩ | ⟨ix, rfl, k1', k2', k3⟩ | ⟨ix, rfl, k2', k3, k1'⟩
                      · match as, va, t1, t3, c5, t4, hxs, hfin, hblind, hpre, houts with
                        | .inr (.inl (some ob)) :: as', va, t1, t3, c5, t4, hxs, hfin, hblind, hpre, houts =>
                          obtain ⟨x, va', rfl, hv, hr'⟩ := ex_sr_cons t1
                          obtain ⟨a, ev, hw, rfl⟩ := hv
                          unfold ex_rcv at c5
                          dsimp only at c5
                          split at c5
                          · rename_i oc hoc
                            have c5 := ex_beq c5
                            obtain ⟨a', vs, y1, y2, y3⟩ := hR.hr.obj hoc
                            have ea := ex_at hw y1
                            subst ea
                            rw [c5] at y1
                            have t4 : va'.length + 1 = a2 := t4
                            have hlv : (Value.ref a :: va').length ≤ M'.2.1 := by
                              show va'.length + 1 ≤ _
                              rcases o7 with z | z <;> omega
                            have hM := ex_met ih hMO houts hla (D := D) (sz := H.size) hR.er t1 t3 hlv hR.hr
                            refine hfin hlv _ (va_runV (As := va') (b := a) (C := I.1.cls) fix hM (cwV I.2.2.2.2 x5 (ex_good (fun w hw => ?_)) rfl rfl rfl ⟨rfl, o5⟩ hroom) ⟨hblind, ?_, hpre⟩ rfl ?_ hl1.1 ?_ hsub8 hdq hcap) hFa
                            · simp only [wsV, List.mem_append, List.mem_cons, List.not_mem_nil, or_false] at hw
                              rcases hw with (rfl | rfl | rfl | rfl) | rfl | hw
                              · exact k1'
                              · exact (o6a k2').1
                              · exact (o6a k2').2
                              · exact o4
                              · exact o2
                              · exact hw
                            · rw [← k4]
                              exact va_recv hR.hK hR.hP hrc y1
                            · show va'.length = I.2.2.2.2
                              omega
                            · show xs = va'.reverse ++ .ref a :: xr
                              rw [hxs, List.reverse_cons, List.append_assoc]
                              rfl
                          · cases c5
                        | [], va, t1, t3, c5, t4, hxs, hfin, hblind, hpre, houts => cases c5
                        | .inl _ :: _, va, t1, t3, c5, t4, hxs, hfin, hblind, hpre, houts => cases c5
                        | .inr (.inl none) :: _, va, t1, t3, c5, t4, hxs, hfin, hblind, hpre, houts => cases c5
                        | .inr (.inr _) :: _, va, t1, t3, c5, t4, hxs, hfin, hblind, hpre, houts => cases c5
                      · have t4 : va.length = a2 := t4
                        have hlv : va.length ≤ M'.2.1 := by rcases o7 with z | z <;> omega
                        have hM := ex_met ih hMO houts hla (D := D) (sz := H.size) hR.er t1 t3 hlv hR.hr
                        refine hfin hlv _ (va_runS (As := va) fix hM (va_cwS I.2.2.2.2 x5 (ex_good (fun w hw => ?_)) rfl rfl rfl o5 hroom) ⟨hblind, hpre⟩ rfl (by omega) hl1.1 hxs hsub8 hdq hcap) hFa
                        simp only [va_wsS, List.mem_append, List.mem_cons, List.not_mem_nil, or_false] at hw
                        rcases hw with (rfl | rfl | rfl) | rfl | hw
                        · exact k1'
                        · exact o6b k2'
                        · exact o4
                        · exact o2
                        · exact hw
                      · obtain ⟨z1, z2, z3⟩ := o6c k2'
                        match as, va, t1, t3, c5, t4, hxs, hfin, hblind, hpre, houts with
                        | .inr (.inl (some ob)) :: as', va, t1, t3, c5, t4, hxs, hfin, hblind, hpre, houts =>
                          obtain ⟨x, va', rfl, hv, hr'⟩ := ex_sr_cons t1
                          obtain ⟨a, ev, hw, rfl⟩ := hv
                          have t4 : va'.length + 1 = a2 := t4
                          have hlv : (Value.ref a :: va').length ≤ M'.2.1 := by
                            show va'.length + 1 ≤ _
                            rcases o7 with z | z <;> omega
                          have hM := ex_met ih hMO houts hla (D := D) (sz := H.size) hR.er t1 t3 hlv hR.hr
                          have hcode' := hcode
                          rw [z3] at hM hcode'
                          have hstk : (F0 m pc ls xs).stack = va'.reverse ++ .ref a :: xr := by
                            show xs = va'.reverse ++ .ref a :: xr
                            rw [hxs, List.reverse_cons, List.append_assoc]
                            rfl
                          rcases k1' with k1' | k1'
                          · exact hfin hlv _ (va_runI (As := va') (b := a) fix hM (cwI I.2.2.2.2 x5 (ex_good hcode') rfl rfl rfl (x5 _ o4) (x5 _ k1') (x5 _ z2) z1 o5 hroom) ⟨hblind, hpre⟩ rfl (by omega) hl1.1 hstk hsub8 hdq hcap) hFa
                          · exact hfin hlv _ (va_runIN (As := va') (b := a) fix hM ⟨va_cnB I.2.2.2.2 x5 (ex_good hcode') rfl rfl rfl (x7 _ k1') (x5 _ o4) o5 hroom, z1, x5 _ z2⟩ ⟨hblind, hpre⟩ rfl (by omega) hl1.1 hstk hsub8 hdq hcap) hFa
                        | [], va, t1, t3, c5, t4, hxs, hfin, hblind, hpre, houts => cases c5
                        | .inl _ :: _, va, t1, t3, c5, t4, hxs, hfin, hblind, hpre, houts => cases c5
                        | .inr (.inl none) :: _, va, t1, t3, c5, t4, hxs, hfin, hblind, hpre, houts => cases c5
                        | .inr (.inr _) :: _, va, t1, t3, c5, t4, hxs, hfin, hblind, hpre, houts => cases c5
        · rw [g3] at hqk
          unfold ex_sp at g4
          split at g4
          · cases g4
          · rename_i lx hlx
            rw [ex_step2_eq] at hlx
            exact ex_step_ok hgw hgd X hqk hdq hlx (fun x hx => by
              obtain ⟨ox, h1, h2⟩ := ex_all_ok g4 x hx
              exact ih stop d isl M _ _ ox h1 own nm cd ret hPO p e R s m args below meth c Q D ρ b A w0 t0 X (fun y hy => hG y (h2 y hy))) hsub hR
end
section
/-! the programs, as far as they are reached from a new object by one call -/
def ex_p_X0_init : List ex_P := [(0, .aload_n 0, 1, 0, 0, 0, []), (1, .invokespecial 3, 3, 0, 0, 1, [436]), (4, .aload_n 0, 1, 0, 0, 0, []), (5, .iconst 0, 1, 2147483648, 0, 0, []), (6, .putfield 9, 3, 0, 0, 0, [439]), (9, .aload_n 0, 1, 0, 0, 0, []), (10, .iconst 0, 1, 2147483648, 0, 0, []), (11, .putfield 15, 3, 0, 1, 0, [441]), (14, .aload_n 0, 1, 0, 0, 0, []), (15, .bipush 41, 2, 2147483689, 0, 0, []), (17, .anewarray 18, 3, 4, 0, 0, [437]), (20, .putfield 20, 3, 0, 2, 1, [443]), (23, .aload_n 0, 1, 0, 0, 0, []), (24, .iconst 0, 1, 2147483648, 0, 0, []), (25, .putfield 24, 3, 0, 3, 0, [444]), (28, .iconst 0, 1, 2147483648, 0, 0, []), (29, .istore_n 2, 1, 2, 0, 0, []), (30, .iload_n 2, 1, 2, 0, 0, []), (31, .aload_n 0, 1, 0, 0, 0, []), (32, .getfield 20, 3, 0, 2, 1, [443]), (35, .arraylength, 1, 0, 0, 0, []), (36, .if_icmp .ge 23, 3, 59, 0, 0, []), (39, .aload_n 0, 1, 0, 0, 0, []), (40, .getfield 20, 3, 0, 2, 1, [443]), (43, .iload_n 2, 1, 2, 0, 0, []), (44, .new 18, 3, 4, 13, 0, [437]), (47, .dup, 1, 0, 0, 0, []), (48, .aload_n 1, 1, 1, 0, 0, []), (49, .invokespecial 27, 3, 13, 2, 0, [438, 0]), (52, .aastore, 1, 0, 0, 0, []), (53, .iinc 2 1, 3, 2, 1, 0, []), (56, .goto (-26), 3, 30, 0, 0, []), (59, .return_, 1, 0, 0, 0, [])]
def ex_p_X0_forget : List ex_P := [(0, .aload_n 0, 1, 0, 0, 0, []), (1, .iconst 0, 1, 2147483648, 0, 0, []), (2, .putfield 24, 3, 0, 3, 0, [444]), (5, .aload_n 0, 1, 0, 0, 0, []), (6, .iconst 0, 1, 2147483648, 0, 0, []), (7, .putfield 9, 3, 0, 0, 0, [439]), (10, .aload_n 0, 1, 0, 0, 0, []), (11, .iconst 0, 1, 2147483648, 0, 0, []), (12, .putfield 15, 3, 0, 1, 0, [441]), (15, .aload_n 0, 1, 0, 0, 0, []), (16, .getfield 20, 3, 0, 2, 1, [443]), (19, .iconst 0, 1, 2147483648, 0, 0, []), (20, .aaload, 1, 0, 0, 0, []), (21, .aload_n 1, 1, 1, 0, 0, []), (22, .invokevirtual 30, 3, 15, 2, 4, [527, 0]), (25, .return_, 1, 0, 0, 0, [])]
def ex_p_X0_add : List ex_P := [(0, .aload_n 0, 1, 0, 0, 0, []), (1, .getfield 9, 3, 0, 0, 0, [439]), (4, .bipush 40, 2, 2147483688, 0, 0, []), (6, .if_icmp .ge 16, 3, 22, 0, 0, []), (9, .aload_n 0, 1, 0, 0, 0, []), (10, .dup, 1, 0, 0, 0, []), (11, .getfield 9, 3, 0, 0, 0, [439]), (14, .iconst 1, 1, 2147483649, 0, 0, []), (15, .iadd, 1, 0, 0, 0, []), (16, .putfield 9, 3, 0, 0, 0, [439]), (19, .goto 16, 3, 35, 0, 0, []), (35, .aload_n 0, 1, 0, 0, 0, []), (36, .aload_n 0, 1, 0, 0, 0, []), (37, .getfield 9, 3, 0, 0, 0, [439]), (40, .putfield 15, 3, 0, 1, 0, [441]), (43, .aload_n 0, 1, 0, 0, 0, []), (44, .invokevirtual 34, 3, 5, 1, 0, [964, 0]), (47, .aload_n 1, 1, 1, 0, 0, []), (48, .invokevirtual 30, 3, 15, 2, 4, [527, 0]), (51, .return_, 1, 0, 0, 0, [])]
def ex_p_X0_takeBack : List ex_P := [(0, .aload_n 0, 1, 0, 0, 0, []), (1, .getfield 9, 3, 0, 0, 0, [439]), (4, .ifCond .ne 5, 3, 9, 0, 0, []), (7, .iconst 0, 1, 2147483648, 0, 0, []), (8, .ireturn, 1, 0, 0, 0, [])]
def ex_p_X0_doAgain : List ex_P := [(0, .aload_n 0, 1, 0, 0, 0, []), (1, .getfield 9, 3, 0, 0, 0, [439]), (4, .aload_n 0, 1, 0, 0, 0, []), (5, .getfield 15, 3, 0, 1, 0, [441]), (8, .if_icmp .ne 5, 3, 13, 0, 0, []), (11, .iconst 0, 1, 2147483648, 0, 0, []), (12, .ireturn, 1, 0, 0, 0, [])]
def ex_p_X0_current : List ex_P := [(0, .aload_n 0, 1, 0, 0, 0, []), (1, .getfield 20, 3, 0, 2, 1, [443]), (4, .aload_n 0, 1, 0, 0, 0, []), (5, .getfield 24, 3, 0, 3, 0, [444]), (8, .aload_n 0, 1, 0, 0, 0, []), (9, .getfield 9, 3, 0, 0, 0, [439]), (12, .iadd, 1, 0, 0, 0, []), (13, .bipush 41, 2, 2147483689, 0, 0, []), (15, .irem, 1, 0, 0, 0, []), (16, .aaload, 1, 0, 0, 0, []), (17, .areturn, 1, 0, 0, 0, [])]
def ex_p_X1_init : List ex_P := [(0, .aload_n 0, 1, 0, 0, 0, []), (1, .invokespecial 3, 3, 0, 0, 1, [351]), (4, .return_, 1, 0, 0, 0, [])]
def ex_p_X2_init : List ex_P := [(0, .aload_n 0, 1, 0, 0, 0, []), (1, .invokespecial 3, 3, 0, 0, 1, [173]), (4, .aload_n 0, 1, 0, 0, 0, []), (5, .sipush 300, 3, 2147483948, 0, 0, []), (8, .newarray .int, 2, 0, 0, 0, []), (10, .putfield 11, 3, 2, 0, 1, [174]), (13, .aload_n 0, 1, 0, 0, 0, []), (14, .sipush 300, 3, 2147483948, 0, 0, []), (17, .newarray .int, 2, 0, 0, 0, []), (19, .putfield 15, 3, 2, 1, 1, [175]), (22, .aload_n 0, 1, 0, 0, 0, []), (23, .bipush 48, 2, 2147483696, 0, 0, []), (25, .newarray .int, 2, 0, 0, 0, []), (27, .putfield 18, 3, 2, 2, 1, [176]), (30, .aload_n 0, 1, 0, 0, 0, []), (31, .iconst 0, 1, 2147483648, 0, 0, []), (32, .putfield 21, 3, 2, 3, 0, [177]), (35, .return_, 1, 0, 0, 0, [])]
def ex_p_X2_clear : List ex_P := [(0, .aload_n 0, 1, 0, 0, 0, []), (1, .iconst 0, 1, 2147483648, 0, 0, []), (2, .putfield 21, 3, 2, 3, 0, [177]), (5, .return_, 1, 0, 0, 0, [])]
def ex_p_X2_add : List ex_P := [(0, .aload_n 0, 1, 0, 0, 0, []), (1, .getfield 21, 3, 2, 3, 0, [177]), (4, .sipush 300, 3, 2147483948, 0, 0, []), (7, .if_icmp .ge 33, 3, 40, 0, 0, []), (10, .aload_n 0, 1, 0, 0, 0, []), (11, .getfield 11, 3, 2, 0, 1, [174]), (14, .aload_n 0, 1, 0, 0, 0, []), (15, .getfield 21, 3, 2, 3, 0, [177]), (18, .iload_n 1, 1, 1, 0, 0, []), (19, .iastore, 1, 0, 0, 0, []), (20, .aload_n 0, 1, 0, 0, 0, []), (21, .getfield 15, 3, 2, 1, 1, [175]), (24, .aload_n 0, 1, 0, 0, 0, []), (25, .getfield 21, 3, 2, 3, 0, [177]), (28, .iload_n 2, 1, 2, 0, 0, []), (29, .iastore, 1, 0, 0, 0, []), (30, .aload_n 0, 1, 0, 0, 0, []), (31, .dup, 1, 0, 0, 0, []), (32, .getfield 21, 3, 2, 3, 0, [177]), (35, .iconst 1, 1, 2147483649, 0, 0, []), (36, .iadd, 1, 0, 0, 0, []), (37, .putfield 21, 3, 2, 3, 0, [177]), (40, .return_, 1, 0, 0, 0, [])]
def ex_p_X2_copy : List ex_P := [(0, .aload_n 0, 1, 0, 0, 0, []), (1, .aload_n 1, 1, 1, 0, 0, []), (2, .getfield 21, 3, 2, 3, 0, [177]), (5, .putfield 21, 3, 2, 3, 0, [177]), (8, .aload_n 1, 1, 1, 0, 0, []), (9, .getfield 11, 3, 2, 0, 1, [174]), (12, .iconst 0, 1, 2147483648, 0, 0, []), (13, .aload_n 0, 1, 0, 0, 0, []), (14, .getfield 11, 3, 2, 0, 1, [174]), (17, .iconst 0, 1, 2147483648, 0, 0, []), (18, .aload_n 0, 1, 0, 0, 0, []), (19, .getfield 21, 3, 2, 3, 0, [177]), (22, .invokestatic 25, 3, 0, 0, 1, [827]), (25, .aload_n 1, 1, 1, 0, 0, []), (26, .getfield 15, 3, 2, 1, 1, [175]), (29, .iconst 0, 1, 2147483648, 0, 0, []), (30, .aload_n 0, 1, 0, 0, 0, []), (31, .getfield 15, 3, 2, 1, 1, [175]), (34, .iconst 0, 1, 2147483648, 0, 0, []), (35, .aload_n 0, 1, 0, 0, 0, []), (36, .getfield 21, 3, 2, 3, 0, [177]), (39, .invokestatic 25, 3, 0, 0, 1, [827]), (42, .return_, 1, 0, 0, 0, [])]
def ex_p_X3_init : List ex_P := [(0, .aload_n 0, 1, 0, 0, 0, []), (1, .invokespecial 3, 3, 0, 0, 1, [161]), (4, .aload_n 0, 1, 0, 0, 0, []), (5, .new 9, 3, 8, 13, 0, [162]), (8, .dup, 1, 0, 0, 0, []), (9, .invokespecial 11, 3, 31, 1, 0, [164, 0]), (12, .putfield 12, 3, 3, 0, 1, [298]), (15, .aload_n 0, 1, 0, 0, 0, []), (16, .iconst 0, 1, 2147483648, 0, 0, []), (17, .putfield 18, 3, 3, 1, 0, [300]), (20, .aload_n 0, 1, 0, 0, 0, []), (21, .iconst (-1), 1, 2147483647, 0, 0, []), (22, .putfield 22, 3, 3, 2, 0, [302]), (25, .aload_n 0, 1, 0, 0, 0, []), (26, .new 25, 3, 7, 4, 0, [274]), (29, .dup, 1, 0, 0, 0, []), (30, .invokespecial 27, 3, 27, 1, 0, [276, 1]), (33, .putfield 28, 3, 3, 3, 1, [304]), (36, .aload_n 0, 1, 0, 0, 0, []), (37, .bipush 8, 2, 2147483656, 0, 0, []), (39, .newarray .long, 2, 2, 0, 0, []), (41, .putfield 32, 3, 3, 4, 1, [305]), (44, .aload_n 0, 1, 0, 0, 0, []), (45, .bipush 8, 2, 2147483656, 0, 0, []), (47, .newarray .long, 2, 2, 0, 0, []), (49, .putfield 36, 3, 3, 5, 1, [306]), (52, .aload_n 0, 1, 0, 0, 0, []), (53, .iconst 0, 1, 2147483648, 0, 0, []), (54, .putfield 39, 3, 3, 6, 0, [307]), (57, .aload_n 0, 1, 0, 0, 0, []), (58, .bipush 33, 2, 2147483681, 0, 0, []), (60, .putfield 42, 3, 3, 7, 0, [308]), (63, .aload_n 0, 1, 0, 0, 0, []), (64, .iconst 0, 1, 2147483648, 0, 0, []), (65, .putfield 45, 3, 3, 8, 0, [309]), (68, .aload_n 0, 1, 0, 0, 0, []), (69, .iconst 0, 1, 2147483648, 0, 0, []), (70, .putfield 48, 3, 3, 9, 0, [310]), (73, .aload_n 0, 1, 0, 0, 0, []), (74, .iconst 0, 1, 2147483648, 0, 0, []), (75, .putfield 51, 3, 3, 10, 0, [311]), (78, .aload_n 0, 1, 0, 0, 0, []), (79, .aload_n 0, 1, 0, 0, 0, []), (80, .getfield 12, 3, 3, 0, 1, [298]), (83, .getfield 54, 3, 8, 11, 1, [242]), (86, .putfield 58, 3, 3, 11, 1, [312]), (89, .return_, 1, 0, 0, 0, [])]
def ex_p_X3_read : List ex_P := [(0, .aload_n 0, 1, 0, 0, 0, []), (1, .getfield 12, 3, 3, 0, 1, [298]), (4, .invokevirtual 61, 3, 32, 1, 8, [601, 0]), (7, .aload_n 0, 1, 0, 0, 0, []), (8, .iconst 0, 1, 2147483648, 0, 0, []), (9, .putfield 18, 3, 3, 1, 0, [300]), (12, .aload_n 0, 1, 0, 0, 0, []), (13, .iconst (-1), 1, 2147483647, 0, 0, []), (14, .putfield 22, 3, 3, 2, 0, [302]), (17, .aload_n 0, 1, 0, 0, 0, []), (18, .iconst 0, 1, 2147483648, 0, 0, []), (19, .putfield 48, 3, 3, 9, 0, [310]), (22, .aload_n 0, 1, 0, 0, 0, []), (23, .getfield 28, 3, 3, 3, 1, [304]), (26, .aload_n 1, 1, 1, 0, 0, []), (27, .invokevirtual 64, 3, 28, 2, 7, [602, 0]), (30, .aload_n 0, 1, 0, 0, 0, []), (31, .iconst 0, 1, 2147483648, 0, 0, []), (32, .putfield 39, 3, 3, 6, 0, [307]), (35, .aload_n 0, 1, 0, 0, 0, []), (36, .aload_n 0, 1, 0, 0, 0, []), (37, .getfield 28, 3, 3, 3, 1, [304]), (40, .getfield 68, 3, 7, 0, 1, [281]), (43, .iconst 0, 1, 2147483648, 0, 0, []), (44, .iaload, 1, 0, 0, 0, []), (45, .putfield 42, 3, 3, 7, 0, [308]), (48, .iconst 0, 1, 2147483648, 0, 0, []), (49, .istore_n 2, 1, 2, 0, 0, []), (50, .iload_n 2, 1, 2, 0, 0, []), (51, .sipush 1600, 3, 2147485248, 0, 0, []), (54, .if_icmp .ge 27, 3, 81, 0, 0, []), (57, .aload_n 0, 1, 0, 0, 0, []), (58, .getfield 42, 3, 3, 7, 0, [308]), (61, .bipush 33, 2, 2147483681, 0, 0, []), (63, .if_icmp .eq 18, 3, 81, 0, 0, []), (81, .iconst 1, 1, 2147483649, 0, 0, []), (82, .ireturn, 1, 0, 0, 0, [])]
def ex_p_X4_init : List ex_P := [(0, .aload_n 0, 1, 0, 0, 0, []), (1, .invokespecial 3, 3, 0, 0, 1, [345]), (4, .aload_n 0, 1, 0, 0, 0, []), (5, .bipush 8, 2, 2147483656, 0, 0, []), (7, .newarray .int, 2, 0, 0, 0, []), (9, .putfield 9, 3, 4, 0, 1, [377]), (12, .aload_n 0, 1, 0, 0, 0, []), (13, .bipush 8, 2, 2147483656, 0, 0, []), (15, .newarray .int, 2, 0, 0, 0, []), (17, .putfield 15, 3, 4, 1, 1, [379]), (20, .aload_n 0, 1, 0, 0, 0, []), (21, .bipush 8, 2, 2147483656, 0, 0, []), (23, .newarray .int, 2, 0, 0, 0, []), (25, .putfield 18, 3, 4, 2, 1, [381]), (28, .aload_n 0, 1, 0, 0, 0, []), (29, .bipush 8, 2, 2147483656, 0, 0, []), (31, .newarray .int, 2, 0, 0, 0, []), (33, .putfield 21, 3, 4, 3, 1, [383]), (36, .aload_n 0, 1, 0, 0, 0, []), (37, .bipush 8, 2, 2147483656, 0, 0, []), (39, .newarray .int, 2, 0, 0, 0, []), (41, .putfield 24, 3, 4, 4, 1, [385]), (44, .aload_n 0, 1, 0, 0, 0, []), (45, .iconst 4, 1, 2147483652, 0, 0, []), (46, .newarray .int, 2, 0, 0, 0, []), (48, .putfield 27, 3, 4, 5, 1, [388]), (51, .aload_n 0, 1, 0, 0, 0, []), (52, .iconst 0, 1, 2147483648, 0, 0, []), (53, .putfield 30, 3, 4, 6, 0, [390]), (56, .aload_n 0, 1, 0, 0, 0, []), (57, .iconst 0, 1, 2147483648, 0, 0, []), (58, .putfield 34, 3, 4, 7, 0, [392]), (61, .aload_n 0, 1, 0, 0, 0, []), (62, .iconst 0, 1, 2147483648, 0, 0, []), (63, .putfield 37, 3, 4, 8, 0, [394]), (66, .aload_n 0, 1, 0, 0, 0, []), (67, .iconst 0, 1, 2147483648, 0, 0, []), (68, .putfield 40, 3, 4, 9, 0, [396]), (71, .aload_n 0, 1, 0, 0, 0, []), (72, .iconst 0, 1, 2147483648, 0, 0, []), (73, .putfield 43, 3, 4, 10, 0, [399]), (76, .aload_n 0, 1, 0, 0, 0, []), (77, .new 46, 3, 1, 6, 0, [346]), (80, .dup, 1, 0, 0, 0, []), (81, .invokespecial 48, 3, 6, 1, 0, [348, 1]), (84, .putfield 49, 3, 4, 12, 1, [402]), (87, .aload_n 0, 1, 0, 0, 0, []), (88, .aload_n 1, 1, 1, 0, 0, []), (89, .putfield 53, 3, 4, 11, 1, [401]), (92, .return_, 1, 0, 0, 0, [])]
def ex_p_X4_begin : List ex_P := [(0, .aload_n 0, 1, 0, 0, 0, []), (1, .getfield 27, 3, 4, 5, 1, [388]), (4, .iconst 0, 1, 2147483648, 0, 0, []), (5, .invokestatic 57, 3, 180, 2, 0, [513, 0]), (8, .aload_n 0, 1, 0, 0, 0, []), (9, .getfield 21, 3, 4, 3, 1, [383]), (12, .iconst 0, 1, 2147483648, 0, 0, []), (13, .invokestatic 57, 3, 180, 2, 0, [513, 0]), (16, .iconst 0, 1, 2147483648, 0, 0, []), (17, .istore_n 1, 1, 1, 0, 0, []), (18, .iload_n 1, 1, 1, 0, 0, []), (19, .aload_n 0, 1, 0, 0, 0, []), (20, .getfield 53, 3, 4, 11, 1, [401]), (23, .getfield 63, 3, 8, 2, 0, [210]), (26, .if_icmp .ge 23, 3, 49, 0, 0, []), (49, .aload_n 0, 1, 0, 0, 0, []), (50, .getfield 53, 3, 4, 11, 1, [401]), (53, .getfield 73, 3, 8, 10, 1, [238]), (56, .iconst 0, 1, 2147483648, 0, 0, []), (57, .aload_n 0, 1, 0, 0, 0, []), (58, .getfield 18, 3, 4, 2, 1, [381]), (61, .iconst 0, 1, 2147483648, 0, 0, []), (62, .bipush 8, 2, 2147483656, 0, 0, []), (64, .invokestatic 74, 3, 0, 0, 1, [520]), (67, .aload_n 0, 1, 0, 0, 0, []), (68, .getfield 53, 3, 4, 11, 1, [401]), (71, .getfield 80, 3, 8, 7, 1, [227]), (74, .iconst 0, 1, 2147483648, 0, 0, []), (75, .aload_n 0, 1, 0, 0, 0, []), (76, .getfield 24, 3, 4, 4, 1, [385]), (79, .iconst 0, 1, 2147483648, 0, 0, []), (80, .bipush 8, 2, 2147483656, 0, 0, []), (82, .invokestatic 74, 3, 0, 0, 1, [520]), (85, .aload_n 0, 1, 0, 0, 0, []), (86, .aload_n 0, 1, 0, 0, 0, []), (87, .getfield 53, 3, 4, 11, 1, [401]), (90, .getfield 81, 3, 8, 3, 0, [214]), (93, .putfield 30, 3, 4, 6, 0, [390]), (96, .aload_n 0, 1, 0, 0, 0, []), (97, .iconst 0, 1, 2147483648, 0, 0, []), (98, .putfield 34, 3, 4, 7, 0, [392]), (101, .aload_n 0, 1, 0, 0, 0, []), (102, .iconst 0, 1, 2147483648, 0, 0, []), (103, .putfield 37, 3, 4, 8, 0, [394]), (106, .aload_n 0, 1, 0, 0, 0, []), (107, .iconst 0, 1, 2147483648, 0, 0, []), (108, .putfield 40, 3, 4, 9, 0, [396]), (111, .aload_n 0, 1, 0, 0, 0, []), (112, .aload_n 0, 1, 0, 0, 0, []), (113, .getfield 53, 3, 4, 11, 1, [401]), (116, .getfield 82, 3, 8, 5, 0, [221]), (119, .putfield 43, 3, 4, 10, 0, [399]), (122, .return_, 1, 0, 0, 0, [])]
def ex_p_X4_copy : List ex_P := [(0, .aload_n 1, 1, 1, 0, 0, []), (1, .getfield 9, 3, 4, 0, 1, [377]), (4, .iconst 0, 1, 2147483648, 0, 0, []), (5, .aload_n 0, 1, 0, 0, 0, []), (6, .getfield 9, 3, 4, 0, 1, [377]), (9, .iconst 0, 1, 2147483648, 0, 0, []), (10, .bipush 8, 2, 2147483656, 0, 0, []), (12, .invokestatic 74, 3, 0, 0, 1, [520]), (15, .aload_n 1, 1, 1, 0, 0, []), (16, .getfield 15, 3, 4, 1, 1, [379]), (19, .iconst 0, 1, 2147483648, 0, 0, []), (20, .aload_n 0, 1, 0, 0, 0, []), (21, .getfield 15, 3, 4, 1, 1, [379]), (24, .iconst 0, 1, 2147483648, 0, 0, []), (25, .bipush 8, 2, 2147483656, 0, 0, []), (27, .invokestatic 74, 3, 0, 0, 1, [520]), (30, .aload_n 1, 1, 1, 0, 0, []), (31, .getfield 18, 3, 4, 2, 1, [381]), (34, .iconst 0, 1, 2147483648, 0, 0, []), (35, .aload_n 0, 1, 0, 0, 0, []), (36, .getfield 18, 3, 4, 2, 1, [381]), (39, .iconst 0, 1, 2147483648, 0, 0, []), (40, .bipush 8, 2, 2147483656, 0, 0, []), (42, .invokestatic 74, 3, 0, 0, 1, [520]), (45, .aload_n 1, 1, 1, 0, 0, []), (46, .getfield 21, 3, 4, 3, 1, [383]), (49, .iconst 0, 1, 2147483648, 0, 0, []), (50, .aload_n 0, 1, 0, 0, 0, []), (51, .getfield 21, 3, 4, 3, 1, [383]), (54, .iconst 0, 1, 2147483648, 0, 0, []), (55, .bipush 8, 2, 2147483656, 0, 0, []), (57, .invokestatic 74, 3, 0, 0, 1, [520]), (60, .aload_n 1, 1, 1, 0, 0, []), (61, .getfield 24, 3, 4, 4, 1, [385]), (64, .iconst 0, 1, 2147483648, 0, 0, []), (65, .aload_n 0, 1, 0, 0, 0, []), (66, .getfield 24, 3, 4, 4, 1, [385]), (69, .iconst 0, 1, 2147483648, 0, 0, []), (70, .bipush 8, 2, 2147483656, 0, 0, []), (72, .invokestatic 74, 3, 0, 0, 1, [520]), (75, .aload_n 1, 1, 1, 0, 0, []), (76, .getfield 27, 3, 4, 5, 1, [388]), (79, .iconst 0, 1, 2147483648, 0, 0, []), (80, .aload_n 0, 1, 0, 0, 0, []), (81, .getfield 27, 3, 4, 5, 1, [388]), (84, .iconst 0, 1, 2147483648, 0, 0, []), (85, .iconst 4, 1, 2147483652, 0, 0, []), (86, .invokestatic 74, 3, 0, 0, 1, [520]), (89, .aload_n 0, 1, 0, 0, 0, []), (90, .aload_n 1, 1, 1, 0, 0, []), (91, .getfield 30, 3, 4, 6, 0, [390]), (94, .putfield 30, 3, 4, 6, 0, [390]), (97, .aload_n 0, 1, 0, 0, 0, []), (98, .aload_n 1, 1, 1, 0, 0, []), (99, .getfield 34, 3, 4, 7, 0, [392]), (102, .putfield 34, 3, 4, 7, 0, [392]), (105, .aload_n 0, 1, 0, 0, 0, []), (106, .aload_n 1, 1, 1, 0, 0, []), (107, .getfield 37, 3, 4, 8, 0, [394]), (110, .putfield 37, 3, 4, 8, 0, [394]), (113, .aload_n 0, 1, 0, 0, 0, []), (114, .aload_n 1, 1, 1, 0, 0, []), (115, .getfield 40, 3, 4, 9, 0, [396]), (118, .putfield 40, 3, 4, 9, 0, [396]), (121, .aload_n 0, 1, 0, 0, 0, []), (122, .aload_n 1, 1, 1, 0, 0, []), (123, .getfield 43, 3, 4, 10, 0, [399]), (126, .putfield 43, 3, 4, 10, 0, [399]), (129, .return_, 1, 0, 0, 0, [])]
def ex_p_X4_whoIsBy : List ex_P := [(0, .iconst 0, 1, 2147483648, 0, 0, []), (1, .istore_n 1, 1, 1, 0, 0, []), (2, .iconst 0, 1, 2147483648, 0, 0, []), (3, .istore_n 2, 1, 2, 0, 0, []), (4, .iload_n 2, 1, 2, 0, 0, []), (5, .aload_n 0, 1, 0, 0, 0, []), (6, .getfield 53, 3, 4, 11, 1, [401]), (9, .getfield 63, 3, 8, 2, 0, [210]), (12, .if_icmp .ge 24, 3, 36, 0, 0, []), (36, .iload_n 1, 1, 1, 0, 0, []), (37, .ireturn, 1, 0, 0, 0, [])]
def ex_p_X4_waiting : List ex_P := [(0, .aload_n 0, 1, 0, 0, 0, []), (1, .getfield 27, 3, 4, 5, 1, [388]), (4, .iconst 0, 1, 2147483648, 0, 0, []), (5, .iaload, 1, 0, 0, 0, []), (6, .aload_n 0, 1, 0, 0, 0, []), (7, .getfield 27, 3, 4, 5, 1, [388]), (10, .iconst 1, 1, 2147483649, 0, 0, []), (11, .iaload, 1, 0, 0, 0, []), (12, .iadd, 1, 0, 0, 0, []), (13, .aload_n 0, 1, 0, 0, 0, []), (14, .getfield 27, 3, 4, 5, 1, [388]), (17, .iconst 2, 1, 2147483650, 0, 0, []), (18, .iaload, 1, 0, 0, 0, []), (19, .iadd, 1, 0, 0, 0, []), (20, .aload_n 0, 1, 0, 0, 0, []), (21, .getfield 27, 3, 4, 5, 1, [388]), (24, .iconst 3, 1, 2147483651, 0, 0, []), (25, .iaload, 1, 0, 0, 0, []), (26, .iadd, 1, 0, 0, 0, []), (27, .ireturn, 1, 0, 0, 0, [])]
def ex_p_X4_drawWhim : List ex_P := [(0, .aload_n 0, 1, 0, 0, 0, []), (1, .aload_n 0, 1, 0, 0, 0, []), (2, .getfield 43, 3, 4, 10, 0, [399]), (5, .sipush 137, 3, 2147483785, 0, 0, []), (8, .imul, 1, 0, 0, 0, []), (9, .bipush 71, 2, 2147483719, 0, 0, []), (11, .iadd, 1, 0, 0, 0, []), (12, .sipush 1000, 3, 2147484648, 0, 0, []), (15, .irem, 1, 0, 0, 0, []), (16, .putfield 43, 3, 4, 10, 0, [399]), (19, .aload_n 0, 1, 0, 0, 0, []), (20, .getfield 43, 3, 4, 10, 0, [399]), (23, .bipush 100, 2, 2147483748, 0, 0, []), (25, .irem, 1, 0, 0, 0, []), (26, .aload_n 0, 1, 0, 0, 0, []), (27, .getfield 53, 3, 4, 11, 1, [401]), (30, .getfield 138, 3, 8, 4, 0, [218]), (33, .if_icmp .ge 7, 3, 40, 0, 0, []), (40, .iconst 0, 1, 2147483648, 0, 0, []), (41, .ireturn, 1, 0, 0, 0, [])]
def ex_p_X4_openTo : List ex_P := [(0, .aload_n 0, 1, 0, 0, 0, []), (1, .iload_n 1, 1, 1, 0, 0, []), (2, .invokevirtual 141, 3, 20, 2, 4, [948, 0]), (5, .istore_n 3, 1, 3, 0, 0, []), (6, .iload_n 3, 1, 3, 0, 0, []), (7, .iconst (-1), 1, 2147483647, 0, 0, []), (8, .if_icmp .eq 9, 3, 17, 0, 0, []), (17, .iconst 0, 1, 2147483648, 0, 0, []), (18, .istore 4, 2, 4, 0, 0, []), (20, .iload 4, 2, 4, 0, 0, []), (22, .aload_n 0, 1, 0, 0, 0, []), (23, .getfield 53, 3, 4, 11, 1, [401]), (26, .getfield 63, 3, 8, 2, 0, [210]), (29, .if_icmp .ge 43, 3, 72, 0, 0, []), (72, .aload_n 0, 1, 0, 0, 0, []), (73, .dup, 1, 0, 0, 0, []), (74, .getfield 37, 3, 4, 8, 0, [394]), (77, .iconst 1, 1, 2147483649, 0, 0, []), (78, .iadd, 1, 0, 0, 0, []), (79, .putfield 37, 3, 4, 8, 0, [394]), (82, .aload_n 0, 1, 0, 0, 0, []), (83, .iload_n 1, 1, 1, 0, 0, []), (84, .iconst 1, 1, 2147483649, 0, 0, []), (85, .iadd, 1, 0, 0, 0, []), (86, .aload_n 0, 1, 0, 0, 0, []), (87, .getfield 53, 3, 4, 11, 1, [401]), (90, .getfield 148, 3, 8, 0, 0, [202]), (93, .if_icmp .ge 9, 3, 102, 0, 0, []), (96, .iload_n 1, 1, 1, 0, 0, []), (97, .iconst 1, 1, 2147483649, 0, 0, []), (98, .iadd, 1, 0, 0, 0, []), (99, .goto 4, 3, 103, 0, 0, []), (102, .iconst 0, 1, 2147483648, 0, 0, []), (103, .putfield 40, 3, 4, 9, 0, [396]), (106, .iload_n 3, 1, 3, 0, 0, []), (107, .ireturn, 1, 0, 0, 0, [])]
def ex_p_X4_firstOf : List ex_P := [(0, .iconst 0, 1, 2147483648, 0, 0, []), (1, .istore_n 2, 1, 2, 0, 0, []), (2, .iload_n 2, 1, 2, 0, 0, []), (3, .aload_n 0, 1, 0, 0, 0, []), (4, .getfield 53, 3, 4, 11, 1, [401]), (7, .getfield 63, 3, 8, 2, 0, [210]), (10, .if_icmp .ge 30, 3, 40, 0, 0, []), (40, .iconst (-1), 1, 2147483647, 0, 0, []), (41, .ireturn, 1, 0, 0, 0, [])]
def ex_p_X5_init : List ex_P := [(0, .aload_n 0, 1, 0, 0, 0, []), (1, .invokespecial 3, 3, 0, 0, 1, [459]), (4, .aload_n 0, 1, 0, 0, 0, []), (5, .iconst 0, 1, 2147483648, 0, 0, []), (6, .putfield 9, 3, 5, 0, 0, [462]), (9, .aload_n 0, 1, 0, 0, 0, []), (10, .bipush 100, 2, 2147483748, 0, 0, []), (12, .newarray .int, 2, 0, 0, 0, []), (14, .putfield 15, 3, 5, 1, 1, [464]), (17, .aload_n 0, 1, 0, 0, 0, []), (18, .bipush 30, 2, 2147483678, 0, 0, []), (20, .newarray .int, 2, 0, 0, 0, []), (22, .putfield 19, 3, 5, 4, 1, [468]), (25, .aload_n 0, 1, 0, 0, 0, []), (26, .bipush 30, 2, 2147483678, 0, 0, []), (28, .newarray .int, 2, 0, 0, 0, []), (30, .putfield 22, 3, 5, 5, 1, [469]), (33, .aload_n 0, 1, 0, 0, 0, []), (34, .bipush 30, 2, 2147483678, 0, 0, []), (36, .newarray .boolean, 2, 3, 0, 0, []), (38, .putfield 25, 3, 5, 6, 1, [470]), (41, .aload_n 0, 1, 0, 0, 0, []), (42, .bipush 30, 2, 2147483678, 0, 0, []), (44, .newarray .int, 2, 0, 0, 0, []), (46, .putfield 29, 3, 5, 7, 1, [471]), (49, .aload_n 0, 1, 0, 0, 0, []), (50, .bipush 30, 2, 2147483678, 0, 0, []), (52, .newarray .int, 2, 0, 0, 0, []), (54, .putfield 32, 3, 5, 8, 1, [472]), (57, .aload_n 0, 1, 0, 0, 0, []), (58, .bipush 30, 2, 2147483678, 0, 0, []), (60, .newarray .boolean, 2, 3, 0, 0, []), (62, .putfield 35, 3, 5, 9, 1, [473]), (65, .aload_n 0, 1, 0, 0, 0, []), (66, .sipush 2100, 3, 2147485748, 0, 0, []), (69, .newarray .int, 2, 0, 0, 0, []), (71, .putfield 38, 3, 5, 10, 1, [474]), (74, .aload_n 0, 1, 0, 0, 0, []), (75, .iconst 0, 1, 2147483648, 0, 0, []), (76, .putfield 41, 3, 5, 11, 2, [475]), (79, .aload_n 0, 1, 0, 0, 0, []), (80, .sipush 256, 3, 2147483904, 0, 0, []), (83, .newarray .int, 2, 0, 0, 0, []), (85, .putfield 45, 3, 5, 12, 1, [476]), (88, .aload_n 0, 1, 0, 0, 0, []), (89, .aload_n 1, 1, 1, 0, 0, []), (90, .putfield 48, 3, 5, 2, 1, [466]), (93, .aload_n 0, 1, 0, 0, 0, []), (94, .new 52, 3, 4, 13, 0, [460]), (97, .dup, 1, 0, 0, 0, []), (98, .aload_n 1, 1, 1, 0, 0, []), (99, .invokespecial 54, 3, 13, 2, 0, [461, 0]), (102, .putfield 57, 3, 5, 3, 1, [467]), (105, .return_, 1, 0, 0, 0, [])]
def ex_p_X5_forget : List ex_P := [(0, .aload_n 0, 1, 0, 0, 0, []), (1, .iconst 0, 1, 2147483648, 0, 0, []), (2, .putfield 9, 3, 5, 0, 0, [462]), (5, .aload_n 0, 1, 0, 0, 0, []), (6, .iconst 0, 1, 2147483648, 0, 0, []), (7, .putfield 41, 3, 5, 11, 2, [475]), (10, .return_, 1, 0, 0, 0, [])]
def ex_p_X5_takeBack : List ex_P := [(0, .iload_n 1, 1, 1, 0, 0, []), (1, .ifCond .lt 20, 3, 21, 0, 0, []), (4, .iload_n 1, 1, 1, 0, 0, []), (5, .aload_n 0, 1, 0, 0, 0, []), (6, .getfield 9, 3, 5, 0, 0, [462]), (9, .if_icmp .ge 12, 3, 21, 0, 0, []), (21, .iconst 0, 1, 2147483648, 0, 0, []), (22, .ireturn, 1, 0, 0, 0, [])]
def ex_p_X5_findFitting : List ex_P := [(0, .aload_n 0, 1, 0, 0, 0, []), (1, .getfield 48, 3, 5, 2, 1, [466]), (4, .getfield 61, 3, 8, 1, 0, [205]), (7, .ifCond .ne 5, 3, 12, 0, 0, []), (10, .iconst 0, 1, 2147483648, 0, 0, []), (11, .ireturn, 1, 0, 0, 0, [])]
def ex_p_X6_init : List ex_P := [(0, .aload_n 0, 1, 0, 0, 0, []), (1, .invokespecial 3, 3, 0, 0, 1, [144]), (4, .aload_n 0, 1, 0, 0, 0, []), (5, .sipush 1600, 3, 2147485248, 0, 0, []), (8, .newarray .byte, 2, 1, 0, 0, []), (10, .putfield 9, 3, 6, 0, 1, [145]), (13, .aload_n 0, 1, 0, 0, 0, []), (14, .iconst 0, 1, 2147483648, 0, 0, []), (15, .putfield 15, 3, 6, 1, 0, [147]), (18, .return_, 1, 0, 0, 0, [])]
def ex_p_X6_put : List ex_P := [(0, .bipush 24, 2, 2147483672, 0, 0, []), (2, .istore_n 2, 1, 2, 0, 0, []), (3, .iload_n 2, 1, 2, 0, 0, []), (4, .ifCond .lt 42, 3, 46, 0, 0, []), (7, .aload_n 0, 1, 0, 0, 0, []), (8, .getfield 15, 3, 6, 1, 0, [147]), (11, .sipush 1600, 3, 2147485248, 0, 0, []), (14, .if_icmp .ge 32, 3, 46, 0, 0, []), (17, .aload_n 0, 1, 0, 0, 0, []), (18, .getfield 9, 3, 6, 0, 1, [145]), (21, .aload_n 0, 1, 0, 0, 0, []), (22, .getfield 15, 3, 6, 1, 0, [147]), (25, .iload_n 1, 1, 1, 0, 0, []), (26, .iload_n 2, 1, 2, 0, 0, []), (27, .ishr, 1, 0, 0, 0, []), (28, .i2b, 1, 0, 0, 0, []), (29, .bastore, 1, 0, 0, 0, []), (30, .aload_n 0, 1, 0, 0, 0, []), (31, .dup, 1, 0, 0, 0, []), (32, .getfield 15, 3, 6, 1, 0, [147]), (35, .iconst 1, 1, 2147483649, 0, 0, []), (36, .iadd, 1, 0, 0, 0, []), (37, .putfield 15, 3, 6, 1, 0, [147]), (40, .iinc 2 (-8), 3, 2, 4294967288, 0, []), (43, .goto (-40), 3, 3, 0, 0, []), (46, .return_, 1, 0, 0, 0, [])]
def ex_p_X7_init : List ex_P := [(0, .aload_n 0, 1, 0, 0, 0, []), (1, .invokespecial 3, 3, 0, 0, 1, [279]), (4, .aload_n 0, 1, 0, 0, 0, []), (5, .sipush 1601, 3, 2147485249, 0, 0, []), (8, .newarray .int, 2, 0, 0, 0, []), (10, .putfield 9, 3, 7, 0, 1, [280]), (13, .aload_n 0, 1, 0, 0, 0, []), (14, .sipush 1601, 3, 2147485249, 0, 0, []), (17, .newarray .int, 2, 0, 0, 0, []), (19, .putfield 15, 3, 7, 1, 1, [282]), (22, .aload_n 0, 1, 0, 0, 0, []), (23, .sipush 1601, 3, 2147485249, 0, 0, []), (26, .newarray .long, 2, 2, 0, 0, []), (28, .putfield 18, 3, 7, 2, 1, [284]), (31, .aload_n 0, 1, 0, 0, 0, []), (32, .iconst 0, 1, 2147483648, 0, 0, []), (33, .putfield 22, 3, 7, 3, 0, [286]), (36, .return_, 1, 0, 0, 0, [])]
def ex_p_X7_cut : List ex_P := [(0, .aload_n 0, 1, 0, 0, 0, []), (1, .iconst 0, 1, 2147483648, 0, 0, []), (2, .putfield 22, 3, 7, 3, 0, [286]), (5, .iconst 0, 1, 2147483648, 0, 0, []), (6, .istore_n 2, 1, 2, 0, 0, []), (7, .iconst 0, 1, 2147483648, 0, 0, []), (8, .istore_n 3, 1, 3, 0, 0, []), (9, .iload_n 3, 1, 3, 0, 0, []), (10, .aload_n 1, 1, 1, 0, 0, []), (11, .getfield 26, 3, 6, 1, 0, [149]), (14, .if_icmp .gt 96, 3, 110, 0, 0, []), (17, .aload_n 0, 1, 0, 0, 0, []), (18, .aload_n 1, 1, 1, 0, 0, []), (19, .iload_n 2, 1, 2, 0, 0, []), (20, .invokevirtual 31, 3, 29, 3, 7, [606, 0]), (23, .istore_n 2, 1, 2, 0, 0, []), (24, .aload_n 0, 1, 0, 0, 0, []), (25, .getfield 15, 3, 7, 1, 1, [282]), (28, .aload_n 0, 1, 0, 0, 0, []), (29, .getfield 22, 3, 7, 3, 0, [286]), (32, .iload_n 2, 1, 2, 0, 0, []), (33, .iastore, 1, 0, 0, 0, []), (34, .aload_n 0, 1, 0, 0, 0, []), (35, .getfield 18, 3, 7, 2, 1, [284]), (38, .aload_n 0, 1, 0, 0, 0, []), (39, .getfield 22, 3, 7, 3, 0, [286]), (42, .lconst 0, 1, 0, 0, 0, []), (43, .lastore, 1, 0, 0, 0, []), (44, .iload_n 2, 1, 2, 0, 0, []), (45, .iload_n 2, 1, 2, 0, 0, []), (46, .aload_n 1, 1, 1, 0, 0, []), (47, .getfield 26, 3, 6, 1, 0, [149]), (50, .if_icmp .ge 12, 3, 62, 0, 0, []), (62, .aload_n 0, 1, 0, 0, 0, []), (63, .invokevirtual 38, 3, 30, 1, 7, [741, 0]), (66, .iadd, 1, 0, 0, 0, []), (67, .istore_n 2, 1, 2, 0, 0, []), (68, .aload_n 0, 1, 0, 0, 0, []), (69, .getfield 9, 3, 7, 0, 1, [280]), (72, .aload_n 0, 1, 0, 0, 0, []), (73, .getfield 22, 3, 7, 3, 0, [286]), (76, .iaload, 1, 0, 0, 0, []), (77, .istore 4, 2, 4, 0, 0, []), (79, .aload_n 0, 1, 0, 0, 0, []), (80, .dup, 1, 0, 0, 0, []), (81, .getfield 22, 3, 7, 3, 0, [286]), (84, .iconst 1, 1, 2147483649, 0, 0, []), (85, .iadd, 1, 0, 0, 0, []), (86, .putfield 22, 3, 7, 3, 0, [286]), (89, .iload 4, 2, 4, 0, 0, []), (91, .bipush 33, 2, 2147483681, 0, 0, []), (93, .if_icmp .eq 10, 3, 103, 0, 0, []), (103, .return_, 1, 0, 0, 0, [])]
def ex_p_X7_skipBlanks : List ex_P := [(0, .iload_n 2, 1, 2, 0, 0, []), (1, .istore_n 3, 1, 3, 0, 0, []), (2, .iload_n 3, 1, 3, 0, 0, []), (3, .aload_n 1, 1, 1, 0, 0, []), (4, .getfield 26, 3, 6, 1, 0, [149]), (7, .if_icmp .ge 31, 3, 38, 0, 0, []), (38, .iload_n 3, 1, 3, 0, 0, []), (39, .ireturn, 1, 0, 0, 0, [])]
def ex_p_X7_cutEnd : List ex_P := [(0, .aload_n 0, 1, 0, 0, 0, []), (1, .getfield 9, 3, 7, 0, 1, [280]), (4, .aload_n 0, 1, 0, 0, 0, []), (5, .getfield 22, 3, 7, 3, 0, [286]), (8, .bipush 33, 2, 2147483681, 0, 0, []), (10, .iastore, 1, 0, 0, 0, []), (11, .iconst 0, 1, 2147483648, 0, 0, []), (12, .ireturn, 1, 0, 0, 0, [])]
def ex_p_X8_init : List ex_P := [(0, .aload_n 0, 1, 0, 0, 0, []), (1, .invokespecial 3, 3, 0, 0, 1, [167]), (4, .aload_n 0, 1, 0, 0, 0, []), (5, .bipush 8, 2, 2147483656, 0, 0, []), (7, .newarray .int, 2, 0, 0, 0, []), (9, .putfield 9, 3, 8, 7, 1, [226]), (12, .aload_n 0, 1, 0, 0, 0, []), (13, .bipush 8, 2, 2147483656, 0, 0, []), (15, .newarray .int, 2, 0, 0, 0, []), (17, .putfield 15, 3, 8, 8, 1, [230]), (20, .aload_n 0, 1, 0, 0, 0, []), (21, .bipush 8, 2, 2147483656, 0, 0, []), (23, .newarray .int, 2, 0, 0, 0, []), (25, .putfield 18, 3, 8, 9, 1, [234]), (28, .aload_n 0, 1, 0, 0, 0, []), (29, .bipush 8, 2, 2147483656, 0, 0, []), (31, .newarray .int, 2, 0, 0, 0, []), (33, .putfield 21, 3, 8, 10, 1, [237]), (36, .aload_n 0, 1, 0, 0, 0, []), (37, .new 24, 3, 2, 4, 0, [168]), (40, .dup, 1, 0, 0, 0, []), (41, .invokespecial 26, 3, 7, 1, 0, [170, 1]), (44, .putfield 27, 3, 8, 11, 1, [241]), (47, .aload_n 0, 1, 0, 0, 0, []), (48, .new 24, 3, 2, 4, 0, [168]), (51, .dup, 1, 0, 0, 0, []), (52, .invokespecial 26, 3, 7, 1, 0, [170, 1]), (55, .putfield 31, 3, 8, 12, 1, [244]), (58, .aload_n 0, 1, 0, 0, 0, []), (59, .invokevirtual 34, 3, 32, 1, 8, [188, 0]), (62, .return_, 1, 0, 0, 0, [])]
def ex_p_X8_clear : List ex_P := [(0, .aload_n 0, 1, 0, 0, 0, []), (1, .iconst 4, 1, 2147483652, 0, 0, []), (2, .putfield 37, 3, 8, 0, 0, [200]), (5, .aload_n 0, 1, 0, 0, 0, []), (6, .iconst 0, 1, 2147483648, 0, 0, []), (7, .putfield 41, 3, 8, 1, 0, [204]), (10, .aload_n 0, 1, 0, 0, 0, []), (11, .iconst 0, 1, 2147483648, 0, 0, []), (12, .putfield 44, 3, 8, 2, 0, [209]), (15, .aload_n 0, 1, 0, 0, 0, []), (16, .bipush 50, 2, 2147483698, 0, 0, []), (18, .putfield 47, 3, 8, 3, 0, [213]), (21, .aload_n 0, 1, 0, 0, 0, []), (22, .iconst 0, 1, 2147483648, 0, 0, []), (23, .putfield 50, 3, 8, 4, 0, [216]), (26, .aload_n 0, 1, 0, 0, 0, []), (27, .iconst 0, 1, 2147483648, 0, 0, []), (28, .putfield 53, 3, 8, 5, 0, [220]), (31, .aload_n 0, 1, 0, 0, 0, []), (32, .iconst 0, 1, 2147483648, 0, 0, []), (33, .putfield 56, 3, 8, 6, 0, [223]), (36, .aload_n 0, 1, 0, 0, 0, []), (37, .getfield 27, 3, 8, 11, 1, [241]), (40, .invokevirtual 59, 3, 8, 1, 2, [192, 0]), (43, .aload_n 0, 1, 0, 0, 0, []), (44, .getfield 27, 3, 8, 11, 1, [241]), (47, .bipush 15, 2, 2147483663, 0, 0, []), (49, .iconst 0, 1, 2147483648, 0, 0, []), (50, .invokevirtual 60, 3, 9, 3, 2, [196, 0]), (53, .aload_n 0, 1, 0, 0, 0, []), (54, .getfield 27, 3, 8, 11, 1, [241]), (57, .bipush 32, 2, 2147483680, 0, 0, []), (59, .bipush 9, 2, 2147483657, 0, 0, []), (61, .invokevirtual 60, 3, 9, 3, 2, [196, 0]), (64, .aload_n 0, 1, 0, 0, 0, []), (65, .getfield 27, 3, 8, 11, 1, [241]), (68, .bipush 27, 2, 2147483675, 0, 0, []), (70, .iconst 0, 1, 2147483648, 0, 0, []), (71, .invokevirtual 60, 3, 9, 3, 2, [196, 0]), (74, .aload_n 0, 1, 0, 0, 0, []), (75, .getfield 31, 3, 8, 12, 1, [244]), (78, .invokevirtual 59, 3, 8, 1, 2, [192, 0]), (81, .aload_n 0, 1, 0, 0, 0, []), (82, .getfield 31, 3, 8, 12, 1, [244]), (85, .bipush 32, 2, 2147483680, 0, 0, []), (87, .iconst 5, 1, 2147483653, 0, 0, []), (88, .invokevirtual 60, 3, 9, 3, 2, [196, 0]), (91, .aload_n 0, 1, 0, 0, 0, []), (92, .getfield 31, 3, 8, 12, 1, [244]), (95, .bipush 16, 2, 2147483664, 0, 0, []), (97, .iconst 0, 1, 2147483648, 0, 0, []), (98, .invokevirtual 60, 3, 9, 3, 2, [196, 0]), (101, .aload_n 0, 1, 0, 0, 0, []), (102, .getfield 31, 3, 8, 12, 1, [244]), (105, .bipush 28, 2, 2147483676, 0, 0, []), (107, .iconst 0, 1, 2147483648, 0, 0, []), (108, .invokevirtual 60, 3, 9, 3, 2, [196, 0]), (111, .return_, 1, 0, 0, 0, [])]
def ex_p_X8_copy : List ex_P := [(0, .aload_n 0, 1, 0, 0, 0, []), (1, .aload_n 1, 1, 1, 0, 0, []), (2, .getfield 37, 3, 8, 0, 0, [200]), (5, .putfield 37, 3, 8, 0, 0, [200]), (8, .aload_n 0, 1, 0, 0, 0, []), (9, .aload_n 1, 1, 1, 0, 0, []), (10, .getfield 41, 3, 8, 1, 0, [204]), (13, .putfield 41, 3, 8, 1, 0, [204]), (16, .aload_n 0, 1, 0, 0, 0, []), (17, .aload_n 1, 1, 1, 0, 0, []), (18, .getfield 44, 3, 8, 2, 0, [209]), (21, .putfield 44, 3, 8, 2, 0, [209]), (24, .aload_n 0, 1, 0, 0, 0, []), (25, .aload_n 1, 1, 1, 0, 0, []), (26, .getfield 47, 3, 8, 3, 0, [213]), (29, .putfield 47, 3, 8, 3, 0, [213]), (32, .aload_n 0, 1, 0, 0, 0, []), (33, .aload_n 1, 1, 1, 0, 0, []), (34, .getfield 50, 3, 8, 4, 0, [216]), (37, .putfield 50, 3, 8, 4, 0, [216]), (40, .aload_n 0, 1, 0, 0, 0, []), (41, .aload_n 1, 1, 1, 0, 0, []), (42, .getfield 53, 3, 8, 5, 0, [220]), (45, .putfield 53, 3, 8, 5, 0, [220]), (48, .aload_n 0, 1, 0, 0, 0, []), (49, .aload_n 1, 1, 1, 0, 0, []), (50, .getfield 56, 3, 8, 6, 0, [223]), (53, .putfield 56, 3, 8, 6, 0, [223]), (56, .aload_n 1, 1, 1, 0, 0, []), (57, .getfield 9, 3, 8, 7, 1, [226]), (60, .iconst 0, 1, 2147483648, 0, 0, []), (61, .aload_n 0, 1, 0, 0, 0, []), (62, .getfield 9, 3, 8, 7, 1, [226]), (65, .iconst 0, 1, 2147483648, 0, 0, []), (66, .bipush 8, 2, 2147483656, 0, 0, []), (68, .invokestatic 64, 3, 0, 0, 1, [822]), (71, .aload_n 1, 1, 1, 0, 0, []), (72, .getfield 15, 3, 8, 8, 1, [230]), (75, .iconst 0, 1, 2147483648, 0, 0, []), (76, .aload_n 0, 1, 0, 0, 0, []), (77, .getfield 15, 3, 8, 8, 1, [230]), (80, .iconst 0, 1, 2147483648, 0, 0, []), (81, .bipush 8, 2, 2147483656, 0, 0, []), (83, .invokestatic 64, 3, 0, 0, 1, [822]), (86, .aload_n 1, 1, 1, 0, 0, []), (87, .getfield 18, 3, 8, 9, 1, [234]), (90, .iconst 0, 1, 2147483648, 0, 0, []), (91, .aload_n 0, 1, 0, 0, 0, []), (92, .getfield 18, 3, 8, 9, 1, [234]), (95, .iconst 0, 1, 2147483648, 0, 0, []), (96, .bipush 8, 2, 2147483656, 0, 0, []), (98, .invokestatic 64, 3, 0, 0, 1, [822]), (101, .aload_n 1, 1, 1, 0, 0, []), (102, .getfield 21, 3, 8, 10, 1, [237]), (105, .iconst 0, 1, 2147483648, 0, 0, []), (106, .aload_n 0, 1, 0, 0, 0, []), (107, .getfield 21, 3, 8, 10, 1, [237]), (110, .iconst 0, 1, 2147483648, 0, 0, []), (111, .bipush 8, 2, 2147483656, 0, 0, []), (113, .invokestatic 64, 3, 0, 0, 1, [822]), (116, .aload_n 0, 1, 0, 0, 0, []), (117, .getfield 27, 3, 8, 11, 1, [241]), (120, .aload_n 1, 1, 1, 0, 0, []), (121, .getfield 27, 3, 8, 11, 1, [241]), (124, .invokevirtual 70, 3, 10, 2, 2, [823, 0]), (127, .aload_n 0, 1, 0, 0, 0, []), (128, .getfield 31, 3, 8, 12, 1, [244]), (131, .aload_n 1, 1, 1, 0, 0, []), (132, .getfield 31, 3, 8, 12, 1, [244]), (135, .invokevirtual 70, 3, 10, 2, 2, [823, 0]), (138, .return_, 1, 0, 0, 0, [])]
def ex_p_X8_allComers : List ex_P := [(0, .iconst 1, 1, 2147483649, 0, 0, []), (1, .aload_n 0, 1, 0, 0, 0, []), (2, .getfield 44, 3, 8, 2, 0, [209]), (5, .ishl, 1, 0, 0, 0, []), (6, .iconst 1, 1, 2147483649, 0, 0, []), (7, .isub, 1, 0, 0, 0, []), (8, .ireturn, 1, 0, 0, 0, [])]
def ex_p_X9_init : List ex_P := [(0, .aload_n 0, 1, 0, 0, 0, []), (1, .invokespecial 1, 3, 0, 0, 1, [136]), (4, .aload_n 0, 1, 0, 0, 0, []), (5, .new 7, 3, 6, 2, 0, [139]), (8, .dup, 1, 0, 0, 0, []), (9, .invokespecial 9, 3, 25, 1, 0, [141, 1]), (12, .putfield 10, 3, 9, 0, 1, [535]), (15, .aload_n 0, 1, 0, 0, 0, []), (16, .new 16, 3, 3, 12, 0, [156]), (19, .dup, 1, 0, 0, 0, []), (20, .invokespecial 18, 3, 11, 1, 0, [158, 1]), (23, .putfield 19, 3, 9, 1, 1, [536]), (26, .aload_n 0, 1, 0, 0, 0, []), (27, .new 23, 3, 8, 13, 0, [338]), (30, .dup, 1, 0, 0, 0, []), (31, .invokespecial 25, 3, 31, 1, 0, [339, 0]), (34, .putfield 26, 3, 9, 2, 1, [537]), (37, .aload_n 0, 1, 0, 0, 0, []), (38, .new 30, 3, 4, 13, 0, [340]), (41, .dup, 1, 0, 0, 0, []), (42, .aload_n 0, 1, 0, 0, 0, []), (43, .getfield 26, 3, 9, 2, 1, [537]), (46, .invokespecial 32, 3, 13, 2, 0, [342, 0]), (49, .putfield 35, 3, 9, 3, 1, [538]), (52, .aload_n 0, 1, 0, 0, 0, []), (53, .new 30, 3, 4, 13, 0, [340]), (56, .dup, 1, 0, 0, 0, []), (57, .aload_n 0, 1, 0, 0, 0, []), (58, .getfield 26, 3, 9, 2, 1, [537]), (61, .invokespecial 32, 3, 13, 2, 0, [342, 0]), (64, .putfield 39, 3, 9, 4, 1, [539]), (67, .aload_n 0, 1, 0, 0, 0, []), (68, .bipush 8, 2, 2147483656, 0, 0, []), (70, .anewarray 30, 3, 4, 0, 0, [340]), (73, .putfield 42, 3, 9, 5, 1, [540]), (76, .aload_n 0, 1, 0, 0, 0, []), (77, .new 46, 3, 0, 4, 0, [431]), (80, .dup, 1, 0, 0, 0, []), (81, .aload_n 0, 1, 0, 0, 0, []), (82, .getfield 26, 3, 9, 2, 1, [537]), (85, .invokespecial 48, 3, 0, 2, 0, [433, 0]), (88, .putfield 49, 3, 9, 6, 1, [541]), (91, .aload_n 0, 1, 0, 0, 0, []), (92, .iconst 3, 1, 2147483651, 0, 0, []), (93, .anewarray 30, 3, 4, 0, 0, [340]), (96, .putfield 53, 3, 9, 7, 1, [542]), (99, .aload_n 0, 1, 0, 0, 0, []), (100, .iconst 3, 1, 2147483651, 0, 0, []), (101, .newarray .boolean, 2, 3, 0, 0, []), (103, .putfield 56, 3, 9, 8, 1, [543]), (106, .aload_n 0, 1, 0, 0, 0, []), (107, .new 60, 3, 5, 13, 0, [454]), (110, .dup, 1, 0, 0, 0, []), (111, .aload_n 0, 1, 0, 0, 0, []), (112, .getfield 26, 3, 9, 2, 1, [537]), (115, .invokespecial 62, 3, 21, 2, 0, [456, 0]), (118, .putfield 63, 3, 9, 9, 1, [544]), (121, .aload_n 0, 1, 0, 0, 0, []), (122, .bipush 7, 2, 2147483655, 0, 0, []), (124, .newarray .int, 2, 0, 0, 0, []), (126, .putfield 67, 3, 9, 10, 1, [545]), (129, .aload_n 0, 1, 0, 0, 0, []), (130, .bipush 64, 2, 2147483712, 0, 0, []), (132, .newarray .int, 2, 0, 0, 0, []), (134, .putfield 71, 3, 9, 11, 1, [546]), (137, .aload_n 0, 1, 0, 0, 0, []), (138, .bipush 64, 2, 2147483712, 0, 0, []), (140, .newarray .int, 2, 0, 0, 0, []), (142, .putfield 74, 3, 9, 12, 1, [547]), (145, .aload_n 0, 1, 0, 0, 0, []), (146, .iconst 0, 1, 2147483648, 0, 0, []), (147, .putfield 77, 3, 9, 13, 0, [548]), (150, .aload_n 0, 1, 0, 0, 0, []), (151, .iconst 0, 1, 2147483648, 0, 0, []), (152, .putfield 81, 3, 9, 14, 0, [549]), (155, .iconst 0, 1, 2147483648, 0, 0, []), (156, .istore_n 1, 1, 1, 0, 0, []), (157, .iload_n 1, 1, 1, 0, 0, []), (158, .aload_n 0, 1, 0, 0, 0, []), (159, .getfield 42, 3, 9, 5, 1, [540]), (162, .arraylength, 1, 0, 0, 0, []), (163, .if_icmp .ge 26, 3, 189, 0, 0, []), (166, .aload_n 0, 1, 0, 0, 0, []), (167, .getfield 42, 3, 9, 5, 1, [540]), (170, .iload_n 1, 1, 1, 0, 0, []), (171, .new 30, 3, 4, 13, 0, [340]), (174, .dup, 1, 0, 0, 0, []), (175, .aload_n 0, 1, 0, 0, 0, []), (176, .getfield 26, 3, 9, 2, 1, [537]), (179, .invokespecial 32, 3, 13, 2, 0, [342, 0]), (182, .aastore, 1, 0, 0, 0, []), (183, .iinc 1 1, 3, 1, 1, 0, []), (186, .goto (-29), 3, 157, 0, 0, []), (189, .iconst 0, 1, 2147483648, 0, 0, []), (190, .istore_n 1, 1, 1, 0, 0, []), (191, .iload_n 1, 1, 1, 0, 0, []), (192, .aload_n 0, 1, 0, 0, 0, []), (193, .getfield 53, 3, 9, 7, 1, [542]), (196, .arraylength, 1, 0, 0, 0, []), (197, .if_icmp .ge 26, 3, 223, 0, 0, []), (200, .aload_n 0, 1, 0, 0, 0, []), (201, .getfield 53, 3, 9, 7, 1, [542]), (204, .iload_n 1, 1, 1, 0, 0, []), (205, .new 30, 3, 4, 13, 0, [340]), (208, .dup, 1, 0, 0, 0, []), (209, .aload_n 0, 1, 0, 0, 0, []), (210, .getfield 26, 3, 9, 2, 1, [537]), (213, .invokespecial 32, 3, 13, 2, 0, [342, 0]), (216, .aastore, 1, 0, 0, 0, []), (217, .iinc 1 1, 3, 1, 1, 0, []), (220, .goto (-29), 3, 191, 0, 0, []), (223, .aload_n 0, 1, 0, 0, 0, []), (224, .invokevirtual 84, 3, 40, 1, 9, [505, 0]), (227, .return_, 1, 0, 0, 0, [])]
def ex_p_X9_feed : List ex_P := [(0, .aload_n 0, 1, 0, 0, 0, []), (1, .getfield 10, 3, 9, 0, 1, [535]), (4, .getfield 87, 3, 6, 1, 0, [148]), (7, .bipush 20, 2, 2147483668, 0, 0, []), (9, .iadd, 1, 0, 0, 0, []), (10, .sipush 1600, 3, 2147485248, 0, 0, []), (13, .if_icmp .le 5, 3, 18, 0, 0, []), (18, .aload_n 0, 1, 0, 0, 0, []), (19, .getfield 10, 3, 9, 0, 1, [535]), (22, .iload_n 1, 1, 1, 0, 0, []), (23, .invokevirtual 90, 3, 26, 2, 6, [585, 0]), (26, .aload_n 0, 1, 0, 0, 0, []), (27, .getfield 10, 3, 9, 0, 1, [535]), (30, .iload_n 2, 1, 2, 0, 0, []), (31, .invokevirtual 90, 3, 26, 2, 6, [585, 0]), (34, .aload_n 0, 1, 0, 0, 0, []), (35, .getfield 10, 3, 9, 0, 1, [535]), (38, .iload_n 3, 1, 3, 0, 0, []), (39, .invokevirtual 90, 3, 26, 2, 6, [585, 0]), (42, .aload_n 0, 1, 0, 0, 0, []), (43, .getfield 10, 3, 9, 0, 1, [535]), (46, .iload 4, 2, 4, 0, 0, []), (48, .invokevirtual 90, 3, 26, 2, 6, [585, 0]), (51, .aload_n 0, 1, 0, 0, 0, []), (52, .getfield 10, 3, 9, 0, 1, [535]), (55, .iload 5, 2, 5, 0, 0, []), (57, .invokevirtual 90, 3, 26, 2, 6, [585, 0]), (60, .aload_n 0, 1, 0, 0, 0, []), (61, .getfield 10, 3, 9, 0, 1, [535]), (64, .getfield 87, 3, 6, 1, 0, [148]), (67, .ireturn, 1, 0, 0, 0, [])]
def ex_p_X9_end : List ex_P := [(0, .iload_n 1, 1, 1, 0, 0, []), (1, .ifCond .lt 14, 3, 15, 0, 0, []), (4, .iload_n 1, 1, 1, 0, 0, []), (5, .aload_n 0, 1, 0, 0, 0, []), (6, .getfield 10, 3, 9, 0, 1, [535]), (9, .getfield 87, 3, 6, 1, 0, [148]), (12, .if_icmp .le 5, 3, 17, 0, 0, []), (15, .iconst (-1), 1, 2147483647, 0, 0, []), (16, .ireturn, 1, 0, 0, 0, []), (17, .aload_n 0, 1, 0, 0, 0, []), (18, .getfield 10, 3, 9, 0, 1, [535]), (21, .iload_n 1, 1, 1, 0, 0, []), (22, .putfield 87, 3, 6, 1, 0, [148]), (25, .iload_n 1, 1, 1, 0, 0, []), (26, .ireturn, 1, 0, 0, 0, [])]
def ex_p_X9_crossing : List ex_P := [(0, .aload_n 0, 1, 0, 0, 0, []), (1, .getfield 19, 3, 9, 1, 1, [536]), (4, .aload_n 0, 1, 0, 0, 0, []), (5, .getfield 10, 3, 9, 0, 1, [535]), (8, .invokevirtual 94, 3, 12, 2, 3, [597, 0]), (11, .ifCond .ne 5, 3, 16, 0, 0, []), (16, .aload_n 0, 1, 0, 0, 0, []), (17, .getfield 26, 3, 9, 2, 1, [537]), (20, .aload_n 0, 1, 0, 0, 0, []), (21, .getfield 19, 3, 9, 1, 1, [536]), (24, .getfield 98, 3, 3, 0, 1, [299]), (27, .invokevirtual 101, 3, 33, 2, 8, [818, 0]), (30, .aload_n 0, 1, 0, 0, 0, []), (31, .getfield 10, 3, 9, 0, 1, [535]), (34, .iconst 0, 1, 2147483648, 0, 0, []), (35, .putfield 87, 3, 6, 1, 0, [148]), (38, .aload_n 0, 1, 0, 0, 0, []), (39, .invokevirtual 84, 3, 40, 1, 9, [505, 0]), (42, .aload_n 0, 1, 0, 0, 0, []), (43, .getfield 26, 3, 9, 2, 1, [537]), (46, .getfield 104, 3, 8, 2, 0, [211]), (49, .ireturn, 1, 0, 0, 0, [])]
def ex_p_X9_fault : List ex_P := [(0, .iload_n 1, 1, 1, 0, 0, []), (1, .lookupswitch 43 #[(0, 27), (1, 35)], 27, 44, 0, 0, [2147483648, 28, 2147483649, 36]), (28, .aload_n 0, 1, 0, 0, 0, []), (29, .getfield 19, 3, 9, 1, 1, [536]), (32, .getfield 107, 3, 3, 1, 0, [301]), (35, .ireturn, 1, 0, 0, 0, []), (36, .aload_n 0, 1, 0, 0, 0, []), (37, .getfield 19, 3, 9, 1, 1, [536]), (40, .getfield 110, 3, 3, 2, 0, [303]), (43, .ireturn, 1, 0, 0, 0, []), (44, .iconst (-1), 1, 2147483647, 0, 0, []), (45, .ireturn, 1, 0, 0, 0, [])]
def ex_p_X9_startAsTold : List ex_P := [(0, .aload_n 0, 1, 0, 0, 0, []), (1, .getfield 35, 3, 9, 3, 1, [538]), (4, .invokevirtual 113, 3, 14, 1, 4, [509, 0]), (7, .aload_n 0, 1, 0, 0, 0, []), (8, .getfield 49, 3, 9, 6, 1, [541]), (11, .aload_n 0, 1, 0, 0, 0, []), (12, .getfield 35, 3, 9, 3, 1, [538]), (15, .invokevirtual 116, 3, 1, 2, 0, [523, 0]), (18, .aload_n 0, 1, 0, 0, 0, []), (19, .getfield 63, 3, 9, 9, 1, [544]), (22, .invokevirtual 120, 3, 22, 1, 5, [531, 0]), (25, .iconst 0, 1, 2147483648, 0, 0, []), (26, .istore_n 1, 1, 1, 0, 0, []), (27, .iload_n 1, 1, 1, 0, 0, []), (28, .aload_n 0, 1, 0, 0, 0, []), (29, .getfield 56, 3, 9, 8, 1, [543]), (32, .arraylength, 1, 0, 0, 0, []), (33, .if_icmp .ge 16, 3, 49, 0, 0, []), (36, .aload_n 0, 1, 0, 0, 0, []), (37, .getfield 56, 3, 9, 8, 1, [543]), (40, .iload_n 1, 1, 1, 0, 0, []), (41, .iconst 0, 1, 2147483648, 0, 0, []), (42, .bastore, 1, 0, 0, 0, []), (43, .iinc 1 1, 3, 1, 1, 0, []), (46, .goto (-19), 3, 27, 0, 0, []), (49, .aload_n 0, 1, 0, 0, 0, []), (50, .iconst 0, 1, 2147483648, 0, 0, []), (51, .putfield 77, 3, 9, 13, 0, [548]), (54, .return_, 1, 0, 0, 0, [])]
def ex_p_X9_word : List ex_P := [(0, .aload_n 0, 1, 0, 0, 0, []), (1, .iload_n 1, 1, 1, 0, 0, []), (2, .invokevirtual 122, 3, 54, 2, 9, [836, 0]), (5, .ifCond .ne 6, 3, 11, 0, 0, []), (8, .bipush (-2), 2, 2147483646, 0, 0, []), (10, .ireturn, 1, 0, 0, 0, [])]
def ex_p_X9_comer : List ex_P := [(0, .aload_n 0, 1, 0, 0, 0, []), (1, .iload_n 1, 1, 1, 0, 0, []), (2, .invokevirtual 136, 3, 52, 2, 9, [848, 0]), (5, .ifCond .ne 6, 3, 11, 0, 0, []), (8, .bipush (-2), 2, 2147483646, 0, 0, []), (10, .ireturn, 1, 0, 0, 0, [])]
def ex_p_X9_worth : List ex_P := [(0, .aload_n 0, 1, 0, 0, 0, []), (1, .iload_n 1, 1, 1, 0, 0, []), (2, .invokevirtual 151, 3, 53, 2, 9, [856, 0]), (5, .ifCond .eq 14, 3, 19, 0, 0, []), (19, .ldc 157, 2, 1147483648, 881, 0, []), (21, .ireturn, 1, 0, 0, 0, [])]
def ex_p_X9_keeps : List ex_P := [(0, .aload_n 0, 1, 0, 0, 0, []), (1, .iload_n 1, 1, 1, 0, 0, []), (2, .invokevirtual 151, 3, 53, 2, 9, [856, 0]), (5, .ifCond .eq 14, 3, 19, 0, 0, []), (19, .iconst (-1), 1, 2147483647, 0, 0, []), (20, .ireturn, 1, 0, 0, 0, [])]
def ex_p_X9_row : List ex_P := [(0, .aload_n 0, 1, 0, 0, 0, []), (1, .iload_n 1, 1, 1, 0, 0, []), (2, .invokevirtual 161, 3, 55, 2, 9, [899, 0]), (5, .ifCond .eq 15, 3, 20, 0, 0, []), (8, .aload_n 0, 1, 0, 0, 0, []), (9, .getfield 35, 3, 9, 3, 1, [538]), (12, .getfield 164, 3, 4, 5, 1, [389]), (15, .iload_n 1, 1, 1, 0, 0, []), (16, .iaload, 1, 0, 0, 0, []), (17, .goto 4, 3, 21, 0, 0, []), (20, .iconst (-1), 1, 2147483647, 0, 0, []), (21, .ireturn, 1, 0, 0, 0, [])]
def ex_p_X9_ready : List ex_P := [(0, .iconst 0, 1, 2147483648, 0, 0, []), (1, .istore_n 1, 1, 1, 0, 0, []), (2, .iconst 0, 1, 2147483648, 0, 0, []), (3, .istore_n 2, 1, 2, 0, 0, []), (4, .iload_n 2, 1, 2, 0, 0, []), (5, .aload_n 0, 1, 0, 0, 0, []), (6, .getfield 26, 3, 9, 2, 1, [537]), (9, .getfield 104, 3, 8, 2, 0, [211]), (12, .if_icmp .ge 38, 3, 50, 0, 0, []), (50, .iload_n 1, 1, 1, 0, 0, []), (51, .ireturn, 1, 0, 0, 0, [])]
def ex_p_X9_oldest : List ex_P := [(0, .iconst (-1), 1, 2147483647, 0, 0, []), (1, .istore_n 1, 1, 1, 0, 0, []), (2, .iconst 0, 1, 2147483648, 0, 0, []), (3, .istore_n 2, 1, 2, 0, 0, []), (4, .iload_n 2, 1, 2, 0, 0, []), (5, .aload_n 0, 1, 0, 0, 0, []), (6, .getfield 26, 3, 9, 2, 1, [537]), (9, .getfield 104, 3, 8, 2, 0, [211]), (12, .if_icmp .ge 45, 3, 57, 0, 0, []), (57, .iload_n 1, 1, 1, 0, 0, []), (58, .ireturn, 1, 0, 0, 0, [])]
def ex_p_X9_fashion : List ex_P := [(0, .iconst (-1), 1, 2147483647, 0, 0, []), (1, .istore_n 1, 1, 1, 0, 0, []), (2, .iconst (-1), 1, 2147483647, 0, 0, []), (3, .istore_n 2, 1, 2, 0, 0, []), (4, .iconst 0, 1, 2147483648, 0, 0, []), (5, .istore_n 3, 1, 3, 0, 0, []), (6, .iload_n 3, 1, 3, 0, 0, []), (7, .aload_n 0, 1, 0, 0, 0, []), (8, .getfield 26, 3, 9, 2, 1, [537]), (11, .getfield 167, 3, 8, 1, 0, [208]), (14, .if_icmp .ge 33, 3, 47, 0, 0, []), (47, .iload_n 1, 1, 1, 0, 0, []), (48, .ireturn, 1, 0, 0, 0, [])]
def ex_p_X9_lull : List ex_P := [(0, .aload_n 0, 1, 0, 0, 0, []), (1, .iload_n 1, 1, 1, 0, 0, []), (2, .invokevirtual 122, 3, 54, 2, 9, [836, 0]), (5, .ifCond .ne 5, 3, 10, 0, 0, []), (8, .iconst (-1), 1, 2147483647, 0, 0, []), (9, .ireturn, 1, 0, 0, 0, [])]
def ex_p_X9_lies : List ex_P := [(0, .iload_n 1, 1, 1, 0, 0, []), (1, .ifCond .lt 29, 3, 30, 0, 0, []), (4, .iload_n 1, 1, 1, 0, 0, []), (5, .aload_n 0, 1, 0, 0, 0, []), (6, .getfield 77, 3, 9, 13, 0, [548]), (9, .if_icmp .ge 21, 3, 30, 0, 0, []), (30, .iconst (-1), 1, 2147483647, 0, 0, []), (31, .ireturn, 1, 0, 0, 0, [])]
def ex_p_X9_about : List ex_P := [(0, .iload_n 1, 1, 1, 0, 0, []), (1, .tableswitch 209 0 15 #[79, 87, 95, 103, 111, 119, 127, 135, 143, 151, 159, 175, 183, 188, 196, 204], 79, 210, 2147483648, 0, [80, 88, 96, 104, 112, 120, 128, 136, 144, 152, 160, 176, 184, 189, 197, 205]), (80, .aload_n 0, 1, 0, 0, 0, []), (81, .getfield 26, 3, 9, 2, 1, [537]), (84, .getfield 104, 3, 8, 2, 0, [211]), (87, .ireturn, 1, 0, 0, 0, []), (88, .aload_n 0, 1, 0, 0, 0, []), (89, .getfield 26, 3, 9, 2, 1, [537]), (92, .getfield 167, 3, 8, 1, 0, [208]), (95, .ireturn, 1, 0, 0, 0, []), (96, .aload_n 0, 1, 0, 0, 0, []), (97, .getfield 26, 3, 9, 2, 1, [537]), (100, .getfield 175, 3, 8, 0, 0, [203]), (103, .ireturn, 1, 0, 0, 0, []), (104, .aload_n 0, 1, 0, 0, 0, []), (105, .getfield 35, 3, 9, 3, 1, [538]), (108, .invokevirtual 178, 3, 16, 1, 4, [928, 0]), (111, .ireturn, 1, 0, 0, 0, []), (112, .aload_n 0, 1, 0, 0, 0, []), (113, .getfield 35, 3, 9, 3, 1, [538]), (116, .getfield 182, 3, 4, 6, 0, [391]), (119, .ireturn, 1, 0, 0, 0, []), (120, .aload_n 0, 1, 0, 0, 0, []), (121, .getfield 35, 3, 9, 3, 1, [538]), (124, .getfield 185, 3, 4, 7, 0, [393]), (127, .ireturn, 1, 0, 0, 0, []), (128, .aload_n 0, 1, 0, 0, 0, []), (129, .getfield 35, 3, 9, 3, 1, [538]), (132, .getfield 188, 3, 4, 8, 0, [395]), (135, .ireturn, 1, 0, 0, 0, []), (136, .aload_n 0, 1, 0, 0, 0, []), (137, .getfield 35, 3, 9, 3, 1, [538]), (140, .getfield 191, 3, 4, 9, 0, [398]), (143, .ireturn, 1, 0, 0, 0, []), (144, .aload_n 0, 1, 0, 0, 0, []), (145, .getfield 35, 3, 9, 3, 1, [538]), (148, .getfield 194, 3, 4, 10, 0, [400]), (151, .ireturn, 1, 0, 0, 0, []), (152, .aload_n 0, 1, 0, 0, 0, []), (153, .getfield 49, 3, 9, 6, 1, [541]), (156, .getfield 197, 3, 0, 0, 0, [440]), (159, .ireturn, 1, 0, 0, 0, []), (160, .aload_n 0, 1, 0, 0, 0, []), (161, .getfield 49, 3, 9, 6, 1, [541]), (164, .getfield 200, 3, 0, 1, 0, [442]), (167, .aload_n 0, 1, 0, 0, 0, []), (168, .getfield 49, 3, 9, 6, 1, [541]), (171, .getfield 197, 3, 0, 0, 0, [440]), (174, .isub, 1, 0, 0, 0, []), (175, .ireturn, 1, 0, 0, 0, []), (176, .aload_n 0, 1, 0, 0, 0, []), (177, .getfield 63, 3, 9, 9, 1, [544]), (180, .getfield 203, 3, 5, 0, 0, [463]), (183, .ireturn, 1, 0, 0, 0, []), (184, .aload_n 0, 1, 0, 0, 0, []), (185, .getfield 81, 3, 9, 14, 0, [549]), (188, .ireturn, 1, 0, 0, 0, []), (189, .aload_n 0, 1, 0, 0, 0, []), (190, .getfield 10, 3, 9, 0, 1, [535]), (193, .getfield 87, 3, 6, 1, 0, [148]), (196, .ireturn, 1, 0, 0, 0, []), (197, .aload_n 0, 1, 0, 0, 0, []), (198, .getfield 26, 3, 9, 2, 1, [537]), (201, .getfield 206, 3, 8, 6, 0, [225]), (204, .ireturn, 1, 0, 0, 0, []), (205, .aload_n 0, 1, 0, 0, 0, []), (206, .getfield 77, 3, 9, 13, 0, [548]), (209, .ireturn, 1, 0, 0, 0, []), (210, .iconst (-1), 1, 2147483647, 0, 0, []), (211, .ireturn, 1, 0, 0, 0, [])]
def ex_p_X9_isComer : List ex_P := [(0, .iload_n 1, 1, 1, 0, 0, []), (1, .ifCond .lt 18, 3, 19, 0, 0, []), (4, .iload_n 1, 1, 1, 0, 0, []), (5, .aload_n 0, 1, 0, 0, 0, []), (6, .getfield 26, 3, 9, 2, 1, [537]), (9, .getfield 104, 3, 8, 2, 0, [211]), (12, .if_icmp .ge 7, 3, 19, 0, 0, []), (19, .iconst 0, 1, 2147483648, 0, 0, []), (20, .ireturn, 1, 0, 0, 0, [])]
def ex_p_X9_isWaiting : List ex_P := [(0, .aload_n 0, 1, 0, 0, 0, []), (1, .iload_n 1, 1, 1, 0, 0, []), (2, .invokevirtual 136, 3, 52, 2, 9, [848, 0]), (5, .ifCond .eq 19, 3, 24, 0, 0, []), (24, .iconst 0, 1, 2147483648, 0, 0, []), (25, .ireturn, 1, 0, 0, 0, [])]
def ex_p_X9_isWord : List ex_P := [(0, .iload_n 1, 1, 1, 0, 0, []), (1, .ifCond .lt 18, 3, 19, 0, 0, []), (4, .iload_n 1, 1, 1, 0, 0, []), (5, .aload_n 0, 1, 0, 0, 0, []), (6, .getfield 26, 3, 9, 2, 1, [537]), (9, .getfield 167, 3, 8, 1, 0, [208]), (12, .if_icmp .ge 7, 3, 19, 0, 0, []), (19, .iconst 0, 1, 2147483648, 0, 0, []), (20, .ireturn, 1, 0, 0, 0, [])]
def ex_p_X9_isRoad : List ex_P := [(0, .iload_n 1, 1, 1, 0, 0, []), (1, .ifCond .lt 18, 3, 19, 0, 0, []), (4, .iload_n 1, 1, 1, 0, 0, []), (5, .aload_n 0, 1, 0, 0, 0, []), (6, .getfield 26, 3, 9, 2, 1, [537]), (9, .getfield 175, 3, 8, 0, 0, [203]), (12, .if_icmp .ge 7, 3, 19, 0, 0, []), (15, .iconst 1, 1, 2147483649, 0, 0, []), (16, .goto 4, 3, 20, 0, 0, []), (19, .iconst 0, 1, 2147483648, 0, 0, []), (20, .ireturn, 1, 0, 0, 0, [])]
def ex_p_X9_isAhead : List ex_P := [(0, .iload_n 0, 1, 0, 0, 0, []), (1, .ifCond .lt 13, 3, 14, 0, 0, []), (4, .iload_n 0, 1, 0, 0, 0, []), (5, .bipush 60, 2, 2147483708, 0, 0, []), (7, .if_icmp .gt 7, 3, 14, 0, 0, []), (10, .iconst 1, 1, 2147483649, 0, 0, []), (11, .goto 4, 3, 15, 0, 0, []), (14, .iconst 0, 1, 2147483648, 0, 0, []), (15, .ireturn, 1, 0, 0, 0, [])]
def ex_p_X9_isEither : List ex_P := [(0, .iload_n 0, 1, 0, 0, 0, []), (1, .ifCond .eq 8, 3, 9, 0, 0, []), (4, .iload_n 0, 1, 0, 0, 0, []), (5, .iconst 1, 1, 2147483649, 0, 0, []), (6, .if_icmp .ne 7, 3, 13, 0, 0, []), (9, .iconst 1, 1, 2147483649, 0, 0, []), (10, .goto 4, 3, 14, 0, 0, []), (13, .iconst 0, 1, 2147483648, 0, 0, []), (14, .ireturn, 1, 0, 0, 0, [])]
def ex_p_X9_hatch : List ex_P := [(0, .aload_n 0, 1, 0, 0, 0, []), (1, .aload_n 0, 1, 0, 0, 0, []), (2, .getfield 35, 3, 9, 3, 1, [538]), (5, .getfield 191, 3, 4, 9, 0, [398]), (8, .invokevirtual 209, 3, 60, 2, 9, [936, 0]), (11, .ireturn, 1, 0, 0, 0, [])]
def ex_p_X9_open : List ex_P := [(0, .aload_n 0, 1, 0, 0, 0, []), (1, .iload_n 1, 1, 1, 0, 0, []), (2, .invokevirtual 161, 3, 55, 2, 9, [899, 0]), (5, .ifCond .eq 11, 3, 16, 0, 0, []), (8, .aload_n 0, 1, 0, 0, 0, []), (9, .iload_n 1, 1, 1, 0, 0, []), (10, .invokevirtual 209, 3, 60, 2, 9, [936, 0]), (13, .goto 5, 3, 18, 0, 0, []), (16, .bipush (-2), 2, 2147483646, 0, 0, []), (18, .ireturn, 1, 0, 0, 0, [])]
def ex_p_X9_openInEarnest : List ex_P := [(0, .aload_n 0, 1, 0, 0, 0, []), (1, .getfield 35, 3, 9, 3, 1, [538]), (4, .getfield 188, 3, 4, 8, 0, [395]), (7, .sipush 999, 3, 2147484647, 0, 0, []), (10, .if_icmp .lt 6, 3, 16, 0, 0, []), (16, .aload_n 0, 1, 0, 0, 0, []), (17, .getfield 35, 3, 9, 3, 1, [538]), (20, .invokevirtual 212, 3, 18, 1, 4, [940, 0]), (23, .istore_n 2, 1, 2, 0, 0, []), (24, .aload_n 0, 1, 0, 0, 0, []), (25, .getfield 35, 3, 9, 3, 1, [538]), (28, .iload_n 1, 1, 1, 0, 0, []), (29, .iload_n 2, 1, 2, 0, 0, []), (30, .invokevirtual 216, 3, 19, 3, 4, [944, 0]), (33, .istore_n 3, 1, 3, 0, 0, []), (34, .aload_n 0, 1, 0, 0, 0, []), (35, .getfield 49, 3, 9, 6, 1, [541]), (38, .aload_n 0, 1, 0, 0, 0, []), (39, .getfield 35, 3, 9, 3, 1, [538]), (42, .invokevirtual 220, 3, 2, 2, 0, [960, 0]), (45, .iload_n 3, 1, 3, 0, 0, []), (46, .iconst (-1), 1, 2147483647, 0, 0, []), (47, .if_icmp .eq 15, 3, 62, 0, 0, []), (62, .iconst (-1), 1, 2147483647, 0, 0, []), (63, .ireturn, 1, 0, 0, 0, [])]
def ex_p_X9_rehearse : List ex_P := [(0, .aload_n 0, 1, 0, 0, 0, []), (1, .iload_n 1, 1, 1, 0, 0, []), (2, .invokevirtual 151, 3, 53, 2, 9, [856, 0]), (5, .ifCond .eq 24, 3, 29, 0, 0, []), (29, .ldc 157, 2, 1147483648, 881, 0, []), (31, .ireturn, 1, 0, 0, 0, [])]
def ex_p_X9_turn : List ex_P := [(0, .aload_n 0, 1, 0, 0, 0, []), (1, .iload_n 1, 1, 1, 0, 0, []), (2, .invokevirtual 151, 3, 53, 2, 9, [856, 0]), (5, .ifCond .eq 24, 3, 29, 0, 0, []), (29, .iconst (-1), 1, 2147483647, 0, 0, []), (30, .ireturn, 1, 0, 0, 0, [])]
def ex_p_X9_revive : List ex_P := [(0, .aload_n 0, 1, 0, 0, 0, []), (1, .iload_n 1, 1, 1, 0, 0, []), (2, .invokevirtual 122, 3, 54, 2, 9, [836, 0]), (5, .ifCond .eq 24, 3, 29, 0, 0, []), (29, .iconst (-1), 1, 2147483647, 0, 0, []), (30, .ireturn, 1, 0, 0, 0, [])]
def ex_p_X9_humour : List ex_P := [(0, .iload_n 1, 1, 1, 0, 0, []), (1, .ifCond .lt 20, 3, 21, 0, 0, []), (4, .iload_n 1, 1, 1, 0, 0, []), (5, .bipush 99, 2, 2147483747, 0, 0, []), (7, .if_icmp .gt 14, 3, 21, 0, 0, []), (10, .iload_n 1, 1, 1, 0, 0, []), (11, .aload_n 0, 1, 0, 0, 0, []), (12, .getfield 35, 3, 9, 3, 1, [538]), (15, .getfield 182, 3, 4, 6, 0, [391]), (18, .if_icmp .ne 5, 3, 23, 0, 0, []), (21, .iconst (-1), 1, 2147483647, 0, 0, []), (22, .ireturn, 1, 0, 0, 0, []), (23, .aload_n 0, 1, 0, 0, 0, []), (24, .getfield 35, 3, 9, 3, 1, [538]), (27, .getfield 182, 3, 4, 6, 0, [391]), (30, .istore_n 2, 1, 2, 0, 0, []), (31, .aload_n 0, 1, 0, 0, 0, []), (32, .getfield 35, 3, 9, 3, 1, [538]), (35, .iload_n 1, 1, 1, 0, 0, []), (36, .putfield 182, 3, 4, 6, 0, [391]), (39, .aload_n 0, 1, 0, 0, 0, []), (40, .getfield 49, 3, 9, 6, 1, [541]), (43, .aload_n 0, 1, 0, 0, 0, []), (44, .getfield 35, 3, 9, 3, 1, [538]), (47, .invokevirtual 220, 3, 2, 2, 0, [960, 0]), (50, .iload_n 2, 1, 2, 0, 0, []), (51, .ireturn, 1, 0, 0, 0, [])]
def ex_p_X9_undo : List ex_P := [(0, .aload_n 0, 1, 0, 0, 0, []), (1, .getfield 49, 3, 9, 6, 1, [541]), (4, .aload_n 0, 1, 0, 0, 0, []), (5, .getfield 35, 3, 9, 3, 1, [538]), (8, .invokevirtual 234, 3, 3, 2, 0, [1004, 0]), (11, .ireturn, 1, 0, 0, 0, [])]
def ex_p_X9_redo : List ex_P := [(0, .aload_n 0, 1, 0, 0, 0, []), (1, .getfield 49, 3, 9, 6, 1, [541]), (4, .aload_n 0, 1, 0, 0, 0, []), (5, .getfield 35, 3, 9, 3, 1, [538]), (8, .invokevirtual 238, 3, 4, 2, 0, [1012, 0]), (11, .ireturn, 1, 0, 0, 0, [])]
def ex_p_X9_image : List ex_P := [(0, .iload_n 1, 1, 1, 0, 0, []), (1, .ifCond .lt 8, 3, 9, 0, 0, []), (4, .iload_n 1, 1, 1, 0, 0, []), (5, .iconst 3, 1, 2147483651, 0, 0, []), (6, .if_icmp .lt 5, 3, 11, 0, 0, []), (9, .iconst (-1), 1, 2147483647, 0, 0, []), (10, .ireturn, 1, 0, 0, 0, []), (11, .aload_n 0, 1, 0, 0, 0, []), (12, .getfield 53, 3, 9, 7, 1, [542]), (15, .iload_n 1, 1, 1, 0, 0, []), (16, .aaload, 1, 0, 0, 0, []), (17, .aload_n 0, 1, 0, 0, 0, []), (18, .getfield 35, 3, 9, 3, 1, [538]), (21, .invokevirtual 241, 3, 15, 2, 4, [1020, 0]), (24, .aload_n 0, 1, 0, 0, 0, []), (25, .getfield 56, 3, 9, 8, 1, [543]), (28, .iload_n 1, 1, 1, 0, 0, []), (29, .iconst 1, 1, 2147483649, 0, 0, []), (30, .bastore, 1, 0, 0, 0, []), (31, .aload_n 0, 1, 0, 0, 0, []), (32, .getfield 35, 3, 9, 3, 1, [538]), (35, .getfield 188, 3, 4, 8, 0, [395]), (38, .ireturn, 1, 0, 0, 0, [])]
def ex_p_X9_back : List ex_P := [(0, .iload_n 1, 1, 1, 0, 0, []), (1, .ifCond .lt 17, 3, 18, 0, 0, []), (4, .iload_n 1, 1, 1, 0, 0, []), (5, .iconst 3, 1, 2147483651, 0, 0, []), (6, .if_icmp .ge 12, 3, 18, 0, 0, []), (9, .aload_n 0, 1, 0, 0, 0, []), (10, .getfield 56, 3, 9, 8, 1, [543]), (13, .iload_n 1, 1, 1, 0, 0, []), (14, .baload, 1, 0, 0, 0, []), (15, .ifCond .ne 5, 3, 20, 0, 0, []), (18, .iconst (-1), 1, 2147483647, 0, 0, []), (19, .ireturn, 1, 0, 0, 0, [])]
def ex_p_X9_will : List ex_P := [(0, .iload_n 1, 1, 1, 0, 0, []), (1, .invokestatic 243, 3, 56, 1, 0, [1029, 0]), (4, .ifCond .eq 10, 3, 14, 0, 0, []), (7, .iload_n 2, 1, 2, 0, 0, []), (8, .invokestatic 246, 3, 57, 1, 0, [1032, 0]), (11, .ifCond .ne 5, 3, 16, 0, 0, []), (14, .iconst (-1), 1, 2147483647, 0, 0, []), (15, .ireturn, 1, 0, 0, 0, []), (16, .aload_n 0, 1, 0, 0, 0, []), (17, .getfield 39, 3, 9, 4, 1, [539]), (20, .aload_n 0, 1, 0, 0, 0, []), (21, .getfield 35, 3, 9, 3, 1, [538]), (24, .invokevirtual 241, 3, 15, 2, 4, [1020, 0]), (27, .iconst 0, 1, 2147483648, 0, 0, []), (28, .istore_n 3, 1, 3, 0, 0, []), (29, .iload_n 3, 1, 3, 0, 0, []), (30, .iload_n 1, 1, 1, 0, 0, []), (31, .if_icmp .ge 48, 3, 79, 0, 0, []), (34, .iload_n 2, 1, 2, 0, 0, []), (35, .iconst 1, 1, 2147483649, 0, 0, []), (36, .if_icmp .ne 17, 3, 53, 0, 0, []), (39, .aload_n 0, 1, 0, 0, 0, []), (40, .getfield 39, 3, 9, 4, 1, [539]), (43, .invokevirtual 212, 3, 18, 1, 4, [940, 0]), (46, .ifCond .eq 7, 3, 53, 0, 0, []), (53, .iconst 0, 1, 2147483648, 0, 0, []), (54, .istore 4, 2, 4, 0, 0, []), (56, .aload_n 0, 1, 0, 0, 0, []), (57, .getfield 39, 3, 9, 4, 1, [539]), (60, .aload_n 0, 1, 0, 0, 0, []), (61, .getfield 39, 3, 9, 4, 1, [539]), (64, .getfield 191, 3, 4, 9, 0, [398]), (67, .iload 4, 2, 4, 0, 0, []), (69, .invokevirtual 216, 3, 19, 3, 4, [944, 0]), (72, .pop, 1, 0, 0, 0, []), (73, .iinc 3 1, 3, 3, 1, 0, []), (76, .goto (-47), 3, 29, 0, 0, []), (79, .aload_n 0, 1, 0, 0, 0, []), (80, .getfield 39, 3, 9, 4, 1, [539]), (83, .invokevirtual 178, 3, 16, 1, 4, [928, 0]), (86, .ireturn, 1, 0, 0, 0, [])]
def ex_p_X9_when : List ex_P := [(0, .aload_n 0, 1, 0, 0, 0, []), (1, .iload_n 1, 1, 1, 0, 0, []), (2, .invokevirtual 136, 3, 52, 2, 9, [848, 0]), (5, .ifCond .ne 5, 3, 10, 0, 0, []), (8, .iconst (-1), 1, 2147483647, 0, 0, []), (9, .ireturn, 1, 0, 0, 0, [])]
def ex_p_X9_lookAhead : List ex_P := [(0, .aload_n 0, 1, 0, 0, 0, []), (1, .getfield 39, 3, 9, 4, 1, [539]), (4, .aload_n 0, 1, 0, 0, 0, []), (5, .getfield 35, 3, 9, 3, 1, [538]), (8, .invokevirtual 241, 3, 15, 2, 4, [1020, 0]), (11, .iconst 0, 1, 2147483648, 0, 0, []), (12, .istore_n 2, 1, 2, 0, 0, []), (13, .iload_n 2, 1, 2, 0, 0, []), (14, .iload_n 1, 1, 1, 0, 0, []), (15, .if_icmp .ge 25, 3, 40, 0, 0, []), (18, .aload_n 0, 1, 0, 0, 0, []), (19, .getfield 39, 3, 9, 4, 1, [539]), (22, .aload_n 0, 1, 0, 0, 0, []), (23, .getfield 39, 3, 9, 4, 1, [539]), (26, .getfield 191, 3, 4, 9, 0, [398]), (29, .iconst 0, 1, 2147483648, 0, 0, []), (30, .invokevirtual 216, 3, 19, 3, 4, [944, 0]), (33, .pop, 1, 0, 0, 0, []), (34, .iinc 2 1, 3, 2, 1, 0, []), (37, .goto (-24), 3, 13, 0, 0, []), (40, .return_, 1, 0, 0, 0, [])]
def ex_p_X9_clock : List ex_P := [(0, .iload_n 1, 1, 1, 0, 0, []), (1, .invokestatic 243, 3, 56, 1, 0, [1029, 0]), (4, .ifCond .ne 5, 3, 9, 0, 0, []), (7, .iconst (-1), 1, 2147483647, 0, 0, []), (8, .ireturn, 1, 0, 0, 0, []), (9, .aload_n 0, 1, 0, 0, 0, []), (10, .iload_n 1, 1, 1, 0, 0, []), (11, .invokevirtual 252, 3, 71, 2, 9, [1047, 0]), (14, .aload_n 0, 1, 0, 0, 0, []), (15, .getfield 39, 3, 9, 4, 1, [539]), (18, .getfield 185, 3, 4, 7, 0, [393]), (21, .ireturn, 1, 0, 0, 0, [])]
def ex_p_X9_temper : List ex_P := [(0, .iload_n 1, 1, 1, 0, 0, []), (1, .invokestatic 243, 3, 56, 1, 0, [1029, 0]), (4, .ifCond .ne 5, 3, 9, 0, 0, []), (7, .iconst (-1), 1, 2147483647, 0, 0, []), (8, .ireturn, 1, 0, 0, 0, []), (9, .aload_n 0, 1, 0, 0, 0, []), (10, .iload_n 1, 1, 1, 0, 0, []), (11, .invokevirtual 252, 3, 71, 2, 9, [1047, 0]), (14, .aload_n 0, 1, 0, 0, 0, []), (15, .getfield 39, 3, 9, 4, 1, [539]), (18, .getfield 182, 3, 4, 6, 0, [391]), (21, .ireturn, 1, 0, 0, 0, [])]
def ex_p_X9_clears : List ex_P := [(0, .aload_n 0, 1, 0, 0, 0, []), (1, .iload_n 1, 1, 1, 0, 0, []), (2, .invokevirtual 161, 3, 55, 2, 9, [899, 0]), (5, .ifCond .eq 10, 3, 15, 0, 0, []), (8, .iload_n 2, 1, 2, 0, 0, []), (9, .invokestatic 243, 3, 56, 1, 0, [1029, 0]), (12, .ifCond .ne 5, 3, 17, 0, 0, []), (15, .iconst (-1), 1, 2147483647, 0, 0, []), (16, .ireturn, 1, 0, 0, 0, []), (17, .aload_n 0, 1, 0, 0, 0, []), (18, .iload_n 2, 1, 2, 0, 0, []), (19, .invokevirtual 252, 3, 71, 2, 9, [1047, 0]), (22, .iconst 0, 1, 2147483648, 0, 0, []), (23, .istore_n 3, 1, 3, 0, 0, []), (24, .iconst 0, 1, 2147483648, 0, 0, []), (25, .istore 4, 2, 4, 0, 0, []), (27, .iload 4, 2, 4, 0, 0, []), (29, .aload_n 0, 1, 0, 0, 0, []), (30, .getfield 26, 3, 9, 2, 1, [537]), (33, .getfield 104, 3, 8, 2, 0, [211]), (36, .if_icmp .ge 43, 3, 79, 0, 0, []), (79, .iload_n 3, 1, 3, 0, 0, []), (80, .ireturn, 1, 0, 0, 0, [])]
def ex_p_X9_jam : List ex_P := [(0, .aload_n 0, 1, 0, 0, 0, []), (1, .bipush 60, 2, 2147483708, 0, 0, []), (3, .invokevirtual 252, 3, 71, 2, 9, [1047, 0]), (6, .aload_n 0, 1, 0, 0, 0, []), (7, .getfield 26, 3, 9, 2, 1, [537]), (10, .invokevirtual 255, 3, 34, 1, 8, [1063, 0]), (13, .aload_n 0, 1, 0, 0, 0, []), (14, .getfield 39, 3, 9, 4, 1, [539]), (17, .invokevirtual 178, 3, 16, 1, 4, [928, 0]), (20, .iconst (-1), 1, 2147483647, 0, 0, []), (21, .ixor, 1, 0, 0, 0, []), (22, .iand, 1, 0, 0, 0, []), (23, .ireturn, 1, 0, 0, 0, [])]
def ex_p_X9_press : List ex_P := [(0, .iload_n 1, 1, 1, 0, 0, []), (1, .invokestatic 243, 3, 56, 1, 0, [1029, 0]), (4, .ifCond .ne 5, 3, 9, 0, 0, []), (7, .iconst (-1), 1, 2147483647, 0, 0, []), (8, .ireturn, 1, 0, 0, 0, []), (9, .aload_n 0, 1, 0, 0, 0, []), (10, .getfield 39, 3, 9, 4, 1, [539]), (13, .aload_n 0, 1, 0, 0, 0, []), (14, .getfield 35, 3, 9, 3, 1, [538]), (17, .invokevirtual 241, 3, 15, 2, 4, [1020, 0]), (20, .aload_n 0, 1, 0, 0, 0, []), (21, .iload_n 1, 1, 1, 0, 0, []), (22, .invokevirtual 258, 3, 77, 2, 9, [1071, 0]), (25, .ireturn, 1, 0, 0, 0, [])]
def ex_p_X9_pressOfTrial : List ex_P := [(0, .iconst 0, 1, 2147483648, 0, 0, []), (1, .istore_n 2, 1, 2, 0, 0, []), (2, .iconst 0, 1, 2147483648, 0, 0, []), (3, .istore_n 3, 1, 3, 0, 0, []), (4, .iload_n 3, 1, 3, 0, 0, []), (5, .iload_n 1, 1, 1, 0, 0, []), (6, .if_icmp .ge 45, 3, 51, 0, 0, []), (9, .aload_n 0, 1, 0, 0, 0, []), (10, .getfield 39, 3, 9, 4, 1, [539]), (13, .invokevirtual 261, 3, 17, 1, 4, [1075, 0]), (16, .ifCond .le 35, 3, 51, 0, 0, []), (51, .iload_n 2, 1, 2, 0, 0, []), (52, .ireturn, 1, 0, 0, 0, [])]
def ex_p_X9_reorder : List ex_P := [(0, .iload_n 1, 1, 1, 0, 0, []), (1, .invokestatic 243, 3, 56, 1, 0, [1029, 0]), (4, .ifCond .eq 12, 3, 16, 0, 0, []), (7, .iload_n 2, 1, 2, 0, 0, []), (8, .ifCond .lt 8, 3, 16, 0, 0, []), (11, .iload_n 2, 1, 2, 0, 0, []), (12, .iconst 2, 1, 2147483650, 0, 0, []), (13, .if_icmp .le 5, 3, 18, 0, 0, []), (16, .iconst (-1), 1, 2147483647, 0, 0, []), (17, .ireturn, 1, 0, 0, 0, []), (18, .aload_n 0, 1, 0, 0, 0, []), (19, .getfield 39, 3, 9, 4, 1, [539]), (22, .aload_n 0, 1, 0, 0, 0, []), (23, .getfield 35, 3, 9, 3, 1, [538]), (26, .invokevirtual 241, 3, 15, 2, 4, [1020, 0]), (29, .aload_n 0, 1, 0, 0, 0, []), (30, .iload_n 1, 1, 1, 0, 0, []), (31, .invokevirtual 258, 3, 77, 2, 9, [1071, 0]), (34, .istore_n 3, 1, 3, 0, 0, []), (35, .iconst (-1), 1, 2147483647, 0, 0, []), (36, .istore 4, 2, 4, 0, 0, []), (38, .iconst (-1), 1, 2147483647, 0, 0, []), (39, .istore 5, 2, 5, 0, 0, []), (41, .iconst 0, 1, 2147483648, 0, 0, []), (42, .istore 6, 2, 6, 0, 0, []), (44, .iload 6, 2, 6, 0, 0, []), (46, .aload_n 0, 1, 0, 0, 0, []), (47, .getfield 26, 3, 9, 2, 1, [537]), (50, .getfield 104, 3, 8, 2, 0, [211]), (53, .if_icmp .ge 118, 3, 171, 0, 0, []), (171, .iload 4, 2, 4, 0, 0, []), (173, .iconst (-1), 1, 2147483647, 0, 0, []), (174, .if_icmp .ne 5, 3, 179, 0, 0, []), (177, .iconst (-1), 1, 2147483647, 0, 0, []), (178, .ireturn, 1, 0, 0, 0, [])]
def ex_p_X9_spends : List ex_P := [(0, .aload_n 0, 1, 0, 0, 0, []), (1, .iload_n 1, 1, 1, 0, 0, []), (2, .invokevirtual 151, 3, 53, 2, 9, [856, 0]), (5, .ifCond .ne 5, 3, 10, 0, 0, []), (8, .iconst (-1), 1, 2147483647, 0, 0, []), (9, .ireturn, 1, 0, 0, 0, [])]
def ex_p_X9_echoes : List ex_P := [(0, .aload_n 0, 1, 0, 0, 0, []), (1, .iload_n 1, 1, 1, 0, 0, []), (2, .invokevirtual 122, 3, 54, 2, 9, [836, 0]), (5, .ifCond .eq 10, 3, 15, 0, 0, []), (15, .iconst (-1), 1, 2147483647, 0, 0, []), (16, .ireturn, 1, 0, 0, 0, [])]
def ex_p_X9_best : List ex_P := [(0, .aload_n 0, 1, 0, 0, 0, []), (1, .iload_n 1, 1, 1, 0, 0, []), (2, .invokevirtual 151, 3, 53, 2, 9, [856, 0]), (5, .ifCond .eq 10, 3, 15, 0, 0, []), (15, .iconst (-1), 1, 2147483647, 0, 0, []), (16, .ireturn, 1, 0, 0, 0, [])]
def ex_p_X9_soonest : List ex_P := [(0, .aload_n 0, 1, 0, 0, 0, []), (1, .iconst 0, 1, 2147483648, 0, 0, []), (2, .putfield 77, 3, 9, 13, 0, [548]), (5, .aload_n 0, 1, 0, 0, 0, []), (6, .getfield 42, 3, 9, 5, 1, [540]), (9, .iconst 0, 1, 2147483648, 0, 0, []), (10, .aaload, 1, 0, 0, 0, []), (11, .aload_n 0, 1, 0, 0, 0, []), (12, .getfield 35, 3, 9, 3, 1, [538]), (15, .invokevirtual 241, 3, 15, 2, 4, [1020, 0]), (18, .iconst 0, 1, 2147483648, 0, 0, []), (19, .istore_n 1, 1, 1, 0, 0, []), (20, .iload_n 1, 1, 1, 0, 0, []), (21, .bipush 7, 2, 2147483655, 0, 0, []), (23, .if_icmp .gt 25, 3, 48, 0, 0, []), (26, .aload_n 0, 1, 0, 0, 0, []), (27, .iconst 0, 1, 2147483648, 0, 0, []), (28, .iload_n 1, 1, 1, 0, 0, []), (29, .invokevirtual 267, 3, 83, 3, 9, [1103, 0]), (32, .ifCond .eq 10, 3, 42, 0, 0, []), (35, .aload_n 0, 1, 0, 0, 0, []), (36, .iload_n 1, 1, 1, 0, 0, []), (37, .putfield 77, 3, 9, 13, 0, [548]), (40, .iload_n 1, 1, 1, 0, 0, []), (41, .ireturn, 1, 0, 0, 0, [])]
def ex_p_X9_allByWithin : List ex_P := [(0, .aload_n 0, 1, 0, 0, 0, []), (1, .getfield 42, 3, 9, 5, 1, [540]), (4, .iload_n 1, 1, 1, 0, 0, []), (5, .aaload, 1, 0, 0, 0, []), (6, .astore_n 3, 1, 3, 0, 0, []), (7, .aload_n 3, 1, 3, 0, 0, []), (8, .invokevirtual 261, 3, 17, 1, 4, [1075, 0]), (11, .istore 4, 2, 4, 0, 0, []), (13, .iload 4, 2, 4, 0, 0, []), (15, .ifCond .ne 5, 3, 20, 0, 0, []), (18, .iconst 1, 1, 2147483649, 0, 0, []), (19, .ireturn, 1, 0, 0, 0, [])]
def ex_p_X9_rivals : List ex_P := [(0, .aload_n 0, 1, 0, 0, 0, []), (1, .iconst 0, 1, 2147483648, 0, 0, []), (2, .putfield 77, 3, 9, 13, 0, [548]), (5, .iload_n 1, 1, 1, 0, 0, []), (6, .iload_n 2, 1, 2, 0, 0, []), (7, .if_icmp .eq 19, 3, 26, 0, 0, []), (10, .aload_n 0, 1, 0, 0, 0, []), (11, .iload_n 1, 1, 1, 0, 0, []), (12, .invokevirtual 151, 3, 53, 2, 9, [856, 0]), (15, .ifCond .eq 11, 3, 26, 0, 0, []), (26, .iconst (-1), 1, 2147483647, 0, 0, []), (27, .ireturn, 1, 0, 0, 0, [])]
def ex_p_X9_shortest : List ex_P := [(0, .aload_n 0, 1, 0, 0, 0, []), (1, .iload_n 1, 1, 1, 0, 0, []), (2, .invokevirtual 151, 3, 53, 2, 9, [856, 0]), (5, .ifCond .eq 26, 3, 31, 0, 0, []), (31, .iconst (-1), 1, 2147483647, 0, 0, []), (32, .ireturn, 1, 0, 0, 0, [])]
def ex_p_X9_honest : List ex_P := [(0, .aload_n 0, 1, 0, 0, 0, []), (1, .iload_n 1, 1, 1, 0, 0, []), (2, .invokevirtual 151, 3, 53, 2, 9, [856, 0]), (5, .ifCond .eq 28, 3, 33, 0, 0, []), (33, .iconst (-1), 1, 2147483647, 0, 0, []), (34, .ireturn, 1, 0, 0, 0, [])]
def ex_p_X9_spark : List ex_P := [(0, .aload_n 0, 1, 0, 0, 0, []), (1, .iload_n 1, 1, 1, 0, 0, []), (2, .invokevirtual 151, 3, 53, 2, 9, [856, 0]), (5, .ifCond .eq 10, 3, 15, 0, 0, []), (15, .ldc 157, 2, 1147483648, 881, 0, []), (17, .ireturn, 1, 0, 0, 0, [])]
def ex_p_X9_drop : List ex_P := [(0, .aload_n 0, 1, 0, 0, 0, []), (1, .iload_n 1, 1, 1, 0, 0, []), (2, .invokevirtual 151, 3, 53, 2, 9, [856, 0]), (5, .ifCond .eq 10, 3, 15, 0, 0, []), (15, .ldc 157, 2, 1147483648, 881, 0, []), (17, .ireturn, 1, 0, 0, 0, [])]
def ex_p_X9_coax : List ex_P := [(0, .aload_n 0, 1, 0, 0, 0, []), (1, .iload_n 1, 1, 1, 0, 0, []), (2, .invokevirtual 151, 3, 53, 2, 9, [856, 0]), (5, .ifCond .ne 5, 3, 10, 0, 0, []), (8, .iconst (-1), 1, 2147483647, 0, 0, []), (9, .ireturn, 1, 0, 0, 0, [])]
def ex_p_X9_law : List ex_P := [(0, .iload_n 1, 1, 1, 0, 0, []), (1, .ifCond .lt 9, 3, 10, 0, 0, []), (4, .iload_n 1, 1, 1, 0, 0, []), (5, .bipush 99, 2, 2147483747, 0, 0, []), (7, .if_icmp .le 5, 3, 12, 0, 0, []), (10, .iconst (-1), 1, 2147483647, 0, 0, []), (11, .ireturn, 1, 0, 0, 0, []), (12, .iconst 0, 1, 2147483648, 0, 0, []), (13, .istore_n 2, 1, 2, 0, 0, []), (14, .iconst 0, 1, 2147483648, 0, 0, []), (15, .istore_n 3, 1, 3, 0, 0, []), (16, .iload_n 3, 1, 3, 0, 0, []), (17, .aload_n 0, 1, 0, 0, 0, []), (18, .getfield 26, 3, 9, 2, 1, [537]), (21, .getfield 104, 3, 8, 2, 0, [211]), (24, .if_icmp .ge 32, 3, 56, 0, 0, []), (56, .iload_n 2, 1, 2, 0, 0, []), (57, .ireturn, 1, 0, 0, 0, [])]
def ex_p_X9_odds : List ex_P := [(0, .iload_n 1, 1, 1, 0, 0, []), (1, .ifCond .lt 15, 3, 16, 0, 0, []), (4, .iload_n 1, 1, 1, 0, 0, []), (5, .iconst 4, 1, 2147483652, 0, 0, []), (6, .if_icmp .gt 10, 3, 16, 0, 0, []), (9, .iload_n 2, 1, 2, 0, 0, []), (10, .invokestatic 246, 3, 57, 1, 0, [1032, 0]), (13, .ifCond .ne 5, 3, 18, 0, 0, []), (16, .iconst (-1), 1, 2147483647, 0, 0, []), (17, .ireturn, 1, 0, 0, 0, []), (18, .bipush 100, 2, 2147483748, 0, 0, []), (20, .bipush 100, 2, 2147483748, 0, 0, []), (22, .aload_n 0, 1, 0, 0, 0, []), (23, .getfield 26, 3, 9, 2, 1, [537]), (26, .getfield 292, 3, 8, 4, 0, [219]), (29, .isub, 1, 0, 0, 0, []), (30, .invokestatic 295, 3, 92, 2, 0, [1163, 0]), (33, .istore_n 3, 1, 3, 0, 0, []), (34, .iload_n 3, 1, 3, 0, 0, []), (35, .ifCond .le 18, 3, 53, 0, 0, []), (38, .bipush 100, 2, 2147483748, 0, 0, []), (40, .aload_n 0, 1, 0, 0, 0, []), (41, .getfield 26, 3, 9, 2, 1, [537]), (44, .getfield 292, 3, 8, 4, 0, [219]), (47, .isub, 1, 0, 0, 0, []), (48, .iload_n 3, 1, 3, 0, 0, []), (49, .idiv, 1, 0, 0, 0, []), (50, .goto 4, 3, 54, 0, 0, []), (54, .istore 4, 2, 4, 0, 0, []), (56, .iload_n 3, 1, 3, 0, 0, []), (57, .ifCond .le 10, 3, 67, 0, 0, []), (60, .bipush 100, 2, 2147483748, 0, 0, []), (62, .iload_n 3, 1, 3, 0, 0, []), (63, .idiv, 1, 0, 0, 0, []), (64, .goto 4, 3, 68, 0, 0, []), (68, .istore 5, 2, 5, 0, 0, []), (70, .iload_n 2, 1, 2, 0, 0, []), (71, .ifCond .ne 8, 3, 79, 0, 0, []), (74, .iload 4, 2, 4, 0, 0, []), (76, .goto 5, 3, 81, 0, 0, []), (79, .iload 5, 2, 5, 0, 0, []), (81, .istore 6, 2, 6, 0, 0, []), (83, .iconst 1, 1, 2147483649, 0, 0, []), (84, .istore 7, 2, 7, 0, 0, []), (86, .iconst 0, 1, 2147483648, 0, 0, []), (87, .istore 8, 2, 8, 0, 0, []), (89, .iload 8, 2, 8, 0, 0, []), (91, .iload_n 1, 1, 1, 0, 0, []), (92, .if_icmp .ge 16, 3, 108, 0, 0, []), (95, .iload 7, 2, 7, 0, 0, []), (97, .iload 6, 2, 6, 0, 0, []), (99, .imul, 1, 0, 0, 0, []), (100, .istore 7, 2, 7, 0, 0, []), (102, .iinc 8 1, 3, 8, 1, 0, []), (105, .goto (-16), 3, 89, 0, 0, []), (108, .iload 7, 2, 7, 0, 0, []), (110, .ireturn, 1, 0, 0, 0, [])]
def ex_p_X9_commonDivisor : List ex_P := [(0, .iload_n 0, 1, 0, 0, 0, []), (1, .istore_n 2, 1, 2, 0, 0, []), (2, .iload_n 1, 1, 1, 0, 0, []), (3, .istore_n 3, 1, 3, 0, 0, []), (4, .iconst 0, 1, 2147483648, 0, 0, []), (5, .istore 4, 2, 4, 0, 0, []), (7, .iload 4, 2, 4, 0, 0, []), (9, .bipush 100, 2, 2147483748, 0, 0, []), (11, .if_icmp .ge 23, 3, 34, 0, 0, []), (14, .iload_n 3, 1, 3, 0, 0, []), (15, .ifCond .le 19, 3, 34, 0, 0, []), (18, .iload_n 2, 1, 2, 0, 0, []), (19, .iload_n 3, 1, 3, 0, 0, []), (20, .irem, 1, 0, 0, 0, []), (21, .istore 5, 2, 5, 0, 0, []), (23, .iload_n 3, 1, 3, 0, 0, []), (24, .istore_n 2, 1, 2, 0, 0, []), (25, .iload 5, 2, 5, 0, 0, []), (27, .istore_n 3, 1, 3, 0, 0, []), (28, .iinc 4 1, 3, 4, 1, 0, []), (31, .goto (-24), 3, 7, 0, 0, []), (34, .iload_n 2, 1, 2, 0, 0, []), (35, .ireturn, 1, 0, 0, 0, [])]
def ex_p_X9_seen : List ex_P := [(0, .iload_n 1, 1, 1, 0, 0, []), (1, .ifCond .lt 17, 3, 18, 0, 0, []), (4, .iload_n 1, 1, 1, 0, 0, []), (5, .bipush 20, 2, 2147483668, 0, 0, []), (7, .if_icmp .gt 11, 3, 18, 0, 0, []), (10, .aload_n 0, 1, 0, 0, 0, []), (11, .iload_n 2, 1, 2, 0, 0, []), (12, .invokevirtual 136, 3, 52, 2, 9, [848, 0]), (15, .ifCond .ne 5, 3, 20, 0, 0, []), (18, .iconst (-1), 1, 2147483647, 0, 0, []), (19, .ireturn, 1, 0, 0, 0, [])]
def ex_p_X9_untell : List ex_P := [(0, .aload_n 0, 1, 0, 0, 0, []), (1, .getfield 63, 3, 9, 9, 1, [544]), (4, .iload_n 1, 1, 1, 0, 0, []), (5, .aload_n 0, 1, 0, 0, 0, []), (6, .getfield 81, 3, 9, 14, 0, [549]), (9, .invokevirtual 301, 3, 23, 3, 5, [1178, 0]), (12, .ireturn, 1, 0, 0, 0, [])]
def ex_p_X9_later : List ex_P := [(0, .iload_n 1, 1, 1, 0, 0, []), (1, .ifCond .lt 22, 3, 23, 0, 0, []), (4, .iload_n 1, 1, 1, 0, 0, []), (5, .sipush 1000, 3, 2147484648, 0, 0, []), (8, .if_icmp .gt 15, 3, 23, 0, 0, []), (11, .aload_n 0, 1, 0, 0, 0, []), (12, .getfield 81, 3, 9, 14, 0, [549]), (15, .iload_n 1, 1, 1, 0, 0, []), (16, .iadd, 1, 0, 0, 0, []), (17, .ldc_w 303, 3, 2147583648, 1186, 0, []), (20, .if_icmp .le 5, 3, 25, 0, 0, []), (23, .iconst (-1), 1, 2147483647, 0, 0, []), (24, .ireturn, 1, 0, 0, 0, []), (25, .aload_n 0, 1, 0, 0, 0, []), (26, .dup, 1, 0, 0, 0, []), (27, .getfield 81, 3, 9, 14, 0, [549]), (30, .iload_n 1, 1, 1, 0, 0, []), (31, .iadd, 1, 0, 0, 0, []), (32, .putfield 81, 3, 9, 14, 0, [549]), (35, .aload_n 0, 1, 0, 0, 0, []), (36, .getfield 81, 3, 9, 14, 0, [549]), (39, .ireturn, 1, 0, 0, 0, [])]
def ex_p_X9_fits : List ex_P := [(0, .aload_n 0, 1, 0, 0, 0, []), (1, .getfield 63, 3, 9, 9, 1, [544]), (4, .iload_n 1, 1, 1, 0, 0, []), (5, .invokevirtual 304, 3, 24, 2, 5, [1191, 0]), (8, .ireturn, 1, 0, 0, 0, [])]
def ex_p_X9_sure : List ex_P := [(0, .aload_n 0, 1, 0, 0, 0, []), (1, .getfield 63, 3, 9, 9, 1, [544]), (4, .iload_n 2, 1, 2, 0, 0, []), (5, .invokevirtual 304, 3, 24, 2, 5, [1191, 0]), (8, .istore_n 3, 1, 3, 0, 0, []), (9, .iload_n 3, 1, 3, 0, 0, []), (10, .ifCond .eq 10, 3, 20, 0, 0, []), (20, .iconst (-1), 1, 2147483647, 0, 0, []), (21, .ireturn, 1, 0, 0, 0, [])]
def ex_p_X9_ask : List ex_P := [(0, .aload_n 0, 1, 0, 0, 0, []), (1, .getfield 63, 3, 9, 9, 1, [544]), (4, .iload_n 2, 1, 2, 0, 0, []), (5, .invokevirtual 304, 3, 24, 2, 5, [1191, 0]), (8, .istore_n 3, 1, 3, 0, 0, []), (9, .iload_n 3, 1, 3, 0, 0, []), (10, .ifCond .eq 10, 3, 20, 0, 0, []), (20, .iconst (-1), 1, 2147483647, 0, 0, []), (21, .ireturn, 1, 0, 0, 0, [])]
def ex_p_X10_init : List ex_P := [(0, .aload_n 0, 1, 0, 0, 0, []), (1, .invokespecial 1, 3, 0, 0, 1, [1225]), (4, .aload_n 0, 1, 0, 0, 0, []), (5, .sipush 1620, 3, 2147485268, 0, 0, []), (8, .newarray .byte, 2, 1, 0, 0, []), (10, .putfield 7, 3, 10, 0, 1, [1246]), (13, .aload_n 0, 1, 0, 0, 0, []), (14, .sipush 1600, 3, 2147485248, 0, 0, []), (17, .newarray .byte, 2, 1, 0, 0, []), (19, .putfield 13, 3, 10, 1, 1, [1247]), (22, .aload_n 0, 1, 0, 0, 0, []), (23, .iconst (-1), 1, 2147483647, 0, 0, []), (24, .putfield 16, 3, 10, 5, 0, [1251]), (27, .aload_n 0, 1, 0, 0, 0, []), (28, .iconst 2, 1, 2147483650, 0, 0, []), (29, .newarray .int, 2, 0, 0, 0, []), (31, .putfield 20, 3, 10, 11, 1, [1257]), (34, .aload_n 0, 1, 0, 0, 0, []), (35, .iconst 2, 1, 2147483650, 0, 0, []), (36, .newarray .int, 2, 0, 0, 0, []), (38, .putfield 24, 3, 10, 12, 1, [1258]), (41, .aload_n 0, 1, 0, 0, 0, []), (42, .iconst 2, 1, 2147483650, 0, 0, []), (43, .newarray .int, 2, 0, 0, 0, []), (45, .putfield 27, 3, 10, 13, 1, [1259]), (48, .aload_n 0, 1, 0, 0, 0, []), (49, .iconst 2, 1, 2147483650, 0, 0, []), (50, .newarray .int, 2, 0, 0, 0, []), (52, .putfield 30, 3, 10, 14, 1, [1260]), (55, .aload_n 0, 1, 0, 0, 0, []), (56, .iconst 2, 1, 2147483650, 0, 0, []), (57, .newarray .int, 2, 0, 0, 0, []), (59, .putfield 33, 3, 10, 15, 1, [1261]), (62, .aload_n 0, 1, 0, 0, 0, []), (63, .iconst 2, 1, 2147483650, 0, 0, []), (64, .newarray .int, 2, 0, 0, 0, []), (66, .putfield 36, 3, 10, 16, 1, [1262]), (69, .aload_n 0, 1, 0, 0, 0, []), (70, .iconst 2, 1, 2147483650, 0, 0, []), (71, .newarray .int, 2, 0, 0, 0, []), (73, .putfield 39, 3, 10, 17, 1, [1263]), (76, .aload_n 0, 1, 0, 0, 0, []), (77, .iconst 2, 1, 2147483650, 0, 0, []), (78, .newarray .int, 2, 0, 0, 0, []), (80, .putfield 42, 3, 10, 18, 1, [1264]), (83, .aload_n 0, 1, 0, 0, 0, []), (84, .iconst 2, 1, 2147483650, 0, 0, []), (85, .newarray .int, 2, 0, 0, 0, []), (87, .putfield 45, 3, 10, 19, 1, [1265]), (90, .aload_n 0, 1, 0, 0, 0, []), (91, .bipush 16, 2, 2147483664, 0, 0, []), (93, .newarray .int, 2, 0, 0, 0, []), (95, .putfield 48, 3, 10, 20, 1, [1266]), (98, .aload_n 0, 1, 0, 0, 0, []), (99, .bipush 16, 2, 2147483664, 0, 0, []), (101, .newarray .int, 2, 0, 0, 0, []), (103, .putfield 51, 3, 10, 21, 1, [1267]), (106, .aload_n 0, 1, 0, 0, 0, []), (107, .bipush 16, 2, 2147483664, 0, 0, []), (109, .newarray .int, 2, 0, 0, 0, []), (111, .putfield 54, 3, 10, 22, 1, [1268]), (114, .aload_n 0, 1, 0, 0, 0, []), (115, .bipush 16, 2, 2147483664, 0, 0, []), (117, .newarray .int, 2, 0, 0, 0, []), (119, .putfield 57, 3, 10, 23, 1, [1269]), (122, .aload_n 0, 1, 0, 0, 0, []), (123, .iconst 4, 1, 2147483652, 0, 0, []), (124, .newarray .int, 2, 0, 0, 0, []), (126, .putfield 60, 3, 10, 24, 1, [1270]), (129, .aload_n 0, 1, 0, 0, 0, []), (130, .iconst 4, 1, 2147483652, 0, 0, []), (131, .newarray .int, 2, 0, 0, 0, []), (133, .putfield 63, 3, 10, 25, 1, [1271]), (136, .aload_n 0, 1, 0, 0, 0, []), (137, .bipush 16, 2, 2147483664, 0, 0, []), (139, .newarray .long, 2, 2, 0, 0, []), (141, .putfield 66, 3, 10, 26, 1, [1272]), (144, .aload_n 0, 1, 0, 0, 0, []), (145, .bipush 16, 2, 2147483664, 0, 0, []), (147, .newarray .long, 2, 2, 0, 0, []), (149, .putfield 70, 3, 10, 27, 1, [1273]), (152, .aload_n 0, 1, 0, 0, 0, []), (153, .sipush 1120, 3, 2147484768, 0, 0, []), (156, .newarray .int, 2, 0, 0, 0, []), (158, .putfield 73, 3, 10, 28, 1, [1274]), (161, .aload_n 0, 1, 0, 0, 0, []), (162, .sipush 1120, 3, 2147484768, 0, 0, []), (165, .newarray .int, 2, 0, 0, 0, []), (167, .putfield 76, 3, 10, 29, 1, [1275]), (170, .aload_n 0, 1, 0, 0, 0, []), (171, .bipush 90, 2, 2147483738, 0, 0, []), (173, .newarray .int, 2, 0, 0, 0, []), (175, .putfield 79, 3, 10, 30, 1, [1276]), (178, .aload_n 0, 1, 0, 0, 0, []), (179, .bipush 90, 2, 2147483738, 0, 0, []), (181, .newarray .int, 2, 0, 0, 0, []), (183, .putfield 82, 3, 10, 31, 1, [1277]), (186, .aload_n 0, 1, 0, 0, 0, []), (187, .bipush 60, 2, 2147483708, 0, 0, []), (189, .newarray .int, 2, 0, 0, 0, []), (191, .putfield 85, 3, 10, 32, 1, [1278]), (194, .aload_n 0, 1, 0, 0, 0, []), (195, .bipush 46, 2, 2147483694, 0, 0, []), (197, .newarray .int, 2, 0, 0, 0, []), (199, .putfield 88, 3, 10, 43, 1, [1289]), (202, .aload_n 0, 1, 0, 0, 0, []), (203, .iconst (-1), 1, 2147483647, 0, 0, []), (204, .putfield 91, 3, 10, 44, 0, [1290]), (207, .aload_n 0, 1, 0, 0, 0, []), (208, .sipush 1886, 3, 2147485534, 0, 0, []), (211, .newarray .int, 2, 0, 0, 0, []), (213, .putfield 94, 3, 10, 47, 1, [1293]), (216, .aload_n 0, 1, 0, 0, 0, []), (217, .bipush 46, 2, 2147483694, 0, 0, []), (219, .newarray .int, 2, 0, 0, 0, []), (221, .putfield 97, 3, 10, 50, 1, [1296]), (224, .aload_n 0, 1, 0, 0, 0, []), (225, .bipush 7, 2, 2147483655, 0, 0, []), (227, .newarray .int, 2, 0, 0, 0, []), (229, .putfield 100, 3, 10, 51, 1, [1297]), (232, .aload_n 0, 1, 0, 0, 0, []), (233, .sipush 128, 3, 2147483776, 0, 0, []), (236, .newarray .int, 2, 0, 0, 0, []), (238, .putfield 103, 3, 10, 56, 1, [1302]), (241, .aload_n 0, 1, 0, 0, 0, []), (242, .sipush 2100, 3, 2147485748, 0, 0, []), (245, .newarray .int, 2, 0, 0, 0, []), (247, .putfield 106, 3, 10, 57, 1, [1303]), (250, .aload_n 0, 1, 0, 0, 0, []), (251, .bipush 30, 2, 2147483678, 0, 0, []), (253, .newarray .int, 2, 0, 0, 0, []), (255, .putfield 109, 3, 10, 58, 1, [1304]), (258, .aload_n 0, 1, 0, 0, 0, []), (259, .bipush 30, 2, 2147483678, 0, 0, []), (261, .newarray .int, 2, 0, 0, 0, []), (263, .putfield 112, 3, 10, 59, 1, [1305]), (266, .aload_n 0, 1, 0, 0, 0, []), (267, .bipush 30, 2, 2147483678, 0, 0, []), (269, .newarray .int, 2, 0, 0, 0, []), (271, .putfield 115, 3, 10, 60, 1, [1306]), (274, .aload_n 0, 1, 0, 0, 0, []), (275, .bipush 30, 2, 2147483678, 0, 0, []), (277, .newarray .int, 2, 0, 0, 0, []), (279, .putfield 118, 3, 10, 61, 1, [1307]), (282, .aload_n 0, 1, 0, 0, 0, []), (283, .bipush 30, 2, 2147483678, 0, 0, []), (285, .newarray .int, 2, 0, 0, 0, []), (287, .putfield 121, 3, 10, 62, 1, [1308]), (290, .aload_n 0, 1, 0, 0, 0, []), (291, .sipush 256, 3, 2147483904, 0, 0, []), (294, .newarray .int, 2, 0, 0, 0, []), (296, .putfield 124, 3, 10, 63, 1, [1309]), (299, .aload_n 0, 1, 0, 0, 0, []), (300, .sipush 138, 3, 2147483786, 0, 0, []), (303, .newarray .int, 2, 0, 0, 0, []), (305, .putfield 127, 3, 10, 66, 1, [1312]), (308, .aload_n 0, 1, 0, 0, 0, []), (309, .iconst 3, 1, 2147483651, 0, 0, []), (310, .newarray .boolean, 2, 3, 0, 0, []), (312, .putfield 130, 3, 10, 67, 1, [1313]), (315, .aload_n 0, 1, 0, 0, 0, []), (316, .invokevirtual 134, 3, 103, 1, 10, [1226, 0]), (319, .aload_n 0, 1, 0, 0, 0, []), (320, .invokevirtual 137, 3, 117, 1, 10, [1230, 0]), (323, .return_, 1, 0, 0, 0, [])]
def ex_p_X10_sign : List ex_P := [(0, .iload_n 1, 1, 1, 0, 0, []), (1, .aload_n 0, 1, 0, 0, 0, []), (2, .getfield 140, 3, 10, 3, 0, [1249]), (5, .if_icmp .ge 16, 3, 21, 0, 0, []), (21, .iconst 0, 1, 2147483648, 0, 0, []), (22, .ireturn, 1, 0, 0, 0, [])]
def ex_p_X10_isGood : List ex_P := [(0, .aload_n 0, 1, 0, 0, 0, []), (1, .getfield 143, 3, 10, 4, 0, [1250]), (4, .ifCond .ne 7, 3, 11, 0, 0, []), (7, .iconst 1, 1, 2147483649, 0, 0, []), (8, .goto 4, 3, 12, 0, 0, []), (12, .ireturn, 1, 0, 0, 0, [])]
def ex_p_X10_goOn : List ex_P := [(0, .aload_n 0, 1, 0, 0, 0, []), (1, .aload_n 0, 1, 0, 0, 0, []), (2, .getfield 186, 3, 10, 7, 0, [1253]), (5, .putfield 189, 3, 10, 6, 0, [1252]), (8, .aload_n 0, 1, 0, 0, 0, []), (9, .getfield 189, 3, 10, 6, 0, [1252]), (12, .aload_n 0, 1, 0, 0, 0, []), (13, .getfield 140, 3, 10, 3, 0, [1249]), (16, .if_icmp .ge 42, 3, 58, 0, 0, []), (58, .aload_n 0, 1, 0, 0, 0, []), (59, .aload_n 0, 1, 0, 0, 0, []), (60, .getfield 189, 3, 10, 6, 0, [1252]), (63, .invokevirtual 192, 3, 100, 2, 10, [1459, 0]), (66, .istore_n 1, 1, 1, 0, 0, []), (67, .aload_n 0, 1, 0, 0, 0, []), (68, .aload_n 0, 1, 0, 0, 0, []), (69, .getfield 189, 3, 10, 6, 0, [1252]), (72, .iconst 1, 1, 2147483649, 0, 0, []), (73, .iadd, 1, 0, 0, 0, []), (74, .putfield 186, 3, 10, 7, 0, [1253]), (77, .aload_n 0, 1, 0, 0, 0, []), (78, .getfield 189, 3, 10, 6, 0, [1252]), (81, .aload_n 0, 1, 0, 0, 0, []), (82, .getfield 140, 3, 10, 3, 0, [1249]), (85, .if_icmp .lt 27, 3, 112, 0, 0, []), (88, .aload_n 0, 1, 0, 0, 0, []), (89, .iconst 0, 1, 2147483648, 0, 0, []), (90, .putfield 196, 3, 10, 8, 0, [1254]), (93, .aload_n 0, 1, 0, 0, 0, []), (94, .aload_n 0, 1, 0, 0, 0, []), (95, .getfield 140, 3, 10, 3, 0, [1249]), (98, .putfield 189, 3, 10, 6, 0, [1252]), (101, .aload_n 0, 1, 0, 0, 0, []), (102, .aload_n 0, 1, 0, 0, 0, []), (103, .getfield 140, 3, 10, 3, 0, [1249]), (106, .putfield 186, 3, 10, 7, 0, [1253]), (109, .goto 268, 3, 377, 0, 0, []), (377, .return_, 1, 0, 0, 0, [])]
def ex_p_X10_clearBank : List ex_P := [(0, .aload_n 0, 1, 0, 0, 0, []), (1, .getfield 20, 3, 10, 11, 1, [1257]), (4, .aload_n 0, 1, 0, 0, 0, []), (5, .getfield 245, 3, 10, 34, 0, [1280]), (8, .iconst 4, 1, 2147483652, 0, 0, []), (9, .iastore, 1, 0, 0, 0, []), (10, .aload_n 0, 1, 0, 0, 0, []), (11, .getfield 24, 3, 10, 12, 1, [1258]), (14, .aload_n 0, 1, 0, 0, 0, []), (15, .getfield 245, 3, 10, 34, 0, [1280]), (18, .iconst 0, 1, 2147483648, 0, 0, []), (19, .iastore, 1, 0, 0, 0, []), (20, .aload_n 0, 1, 0, 0, 0, []), (21, .getfield 27, 3, 10, 13, 1, [1259]), (24, .aload_n 0, 1, 0, 0, 0, []), (25, .getfield 245, 3, 10, 34, 0, [1280]), (28, .iconst 0, 1, 2147483648, 0, 0, []), (29, .iastore, 1, 0, 0, 0, []), (30, .aload_n 0, 1, 0, 0, 0, []), (31, .getfield 30, 3, 10, 14, 1, [1260]), (34, .aload_n 0, 1, 0, 0, 0, []), (35, .getfield 245, 3, 10, 34, 0, [1280]), (38, .iconst 0, 1, 2147483648, 0, 0, []), (39, .iastore, 1, 0, 0, 0, []), (40, .aload_n 0, 1, 0, 0, 0, []), (41, .getfield 33, 3, 10, 15, 1, [1261]), (44, .aload_n 0, 1, 0, 0, 0, []), (45, .getfield 245, 3, 10, 34, 0, [1280]), (48, .iconst 0, 1, 2147483648, 0, 0, []), (49, .iastore, 1, 0, 0, 0, []), (50, .aload_n 0, 1, 0, 0, 0, []), (51, .getfield 36, 3, 10, 16, 1, [1262]), (54, .aload_n 0, 1, 0, 0, 0, []), (55, .getfield 245, 3, 10, 34, 0, [1280]), (58, .bipush 50, 2, 2147483698, 0, 0, []), (60, .iastore, 1, 0, 0, 0, []), (61, .aload_n 0, 1, 0, 0, 0, []), (62, .getfield 39, 3, 10, 17, 1, [1263]), (65, .aload_n 0, 1, 0, 0, 0, []), (66, .getfield 245, 3, 10, 34, 0, [1280]), (69, .iconst 0, 1, 2147483648, 0, 0, []), (70, .iastore, 1, 0, 0, 0, []), (71, .aload_n 0, 1, 0, 0, 0, []), (72, .getfield 42, 3, 10, 18, 1, [1264]), (75, .aload_n 0, 1, 0, 0, 0, []), (76, .getfield 245, 3, 10, 34, 0, [1280]), (79, .iconst 0, 1, 2147483648, 0, 0, []), (80, .iastore, 1, 0, 0, 0, []), (81, .aload_n 0, 1, 0, 0, 0, []), (82, .getfield 45, 3, 10, 19, 1, [1265]), (85, .aload_n 0, 1, 0, 0, 0, []), (86, .getfield 245, 3, 10, 34, 0, [1280]), (89, .iconst 0, 1, 2147483648, 0, 0, []), (90, .iastore, 1, 0, 0, 0, []), (91, .aload_n 0, 1, 0, 0, 0, []), (92, .sipush 560, 3, 2147484208, 0, 0, []), (95, .aload_n 0, 1, 0, 0, 0, []), (96, .getfield 245, 3, 10, 34, 0, [1280]), (99, .imul, 1, 0, 0, 0, []), (100, .putfield 248, 3, 10, 35, 0, [1281]), (103, .return_, 1, 0, 0, 0, [])]
def ex_p_X10_crossing : List ex_P := [(0, .aload_n 0, 1, 0, 0, 0, []), (1, .iconst 0, 1, 2147483648, 0, 0, []), (2, .putfield 143, 3, 10, 4, 0, [1250]), (5, .aload_n 0, 1, 0, 0, 0, []), (6, .iconst (-1), 1, 2147483647, 0, 0, []), (7, .putfield 16, 3, 10, 5, 0, [1251]), (10, .aload_n 0, 1, 0, 0, 0, []), (11, .aload_n 0, 1, 0, 0, 0, []), (12, .getfield 251, 3, 10, 2, 0, [1248]), (15, .putfield 140, 3, 10, 3, 0, [1249]), (18, .iconst 0, 1, 2147483648, 0, 0, []), (19, .istore_n 1, 1, 1, 0, 0, []), (20, .iload_n 1, 1, 1, 0, 0, []), (21, .aload_n 0, 1, 0, 0, 0, []), (22, .getfield 140, 3, 10, 3, 0, [1249]), (25, .if_icmp .ge 21, 3, 46, 0, 0, []), (46, .aload_n 0, 1, 0, 0, 0, []), (47, .iconst 0, 1, 2147483648, 0, 0, []), (48, .putfield 251, 3, 10, 2, 0, [1248]), (51, .aload_n 0, 1, 0, 0, 0, []), (52, .iconst 0, 1, 2147483648, 0, 0, []), (53, .putfield 186, 3, 10, 7, 0, [1253]), (56, .aload_n 0, 1, 0, 0, 0, []), (57, .iconst 1, 1, 2147483649, 0, 0, []), (58, .aload_n 0, 1, 0, 0, 0, []), (59, .getfield 254, 3, 10, 33, 0, [1279]), (62, .isub, 1, 0, 0, 0, []), (63, .putfield 245, 3, 10, 34, 0, [1280]), (66, .aload_n 0, 1, 0, 0, 0, []), (67, .invokevirtual 134, 3, 103, 1, 10, [1226, 0]), (70, .aload_n 0, 1, 0, 0, 0, []), (71, .invokevirtual 228, 3, 102, 1, 10, [1455, 0]), (74, .aload_n 0, 1, 0, 0, 0, []), (75, .invokevirtual 224, 3, 101, 1, 10, [1495, 0]), (78, .ifCond .eq 17, 3, 95, 0, 0, []), (81, .aload_n 0, 1, 0, 0, 0, []), (82, .getfield 196, 3, 10, 8, 0, [1254]), (85, .ifCond .eq 10, 3, 95, 0, 0, []), (95, .aload_n 0, 1, 0, 0, 0, []), (96, .invokevirtual 224, 3, 101, 1, 10, [1495, 0]), (99, .ifCond .ne 5, 3, 104, 0, 0, []), (104, .aload_n 0, 1, 0, 0, 0, []), (105, .aload_n 0, 1, 0, 0, 0, []), (106, .getfield 245, 3, 10, 34, 0, [1280]), (109, .putfield 254, 3, 10, 33, 0, [1279]), (112, .aload_n 0, 1, 0, 0, 0, []), (113, .invokevirtual 137, 3, 117, 1, 10, [1230, 0]), (116, .aload_n 0, 1, 0, 0, 0, []), (117, .getfield 30, 3, 10, 14, 1, [1260]), (120, .aload_n 0, 1, 0, 0, 0, []), (121, .getfield 254, 3, 10, 33, 0, [1279]), (124, .iaload, 1, 0, 0, 0, []), (125, .ireturn, 1, 0, 0, 0, [])]
def ex_p_X10_fault : List ex_P := [(0, .iload_n 1, 1, 1, 0, 0, []), (1, .ifCond .ne 10, 3, 11, 0, 0, []), (4, .aload_n 0, 1, 0, 0, 0, []), (5, .getfield 143, 3, 10, 4, 0, [1250]), (8, .goto 16, 3, 24, 0, 0, []), (11, .iload_n 1, 1, 1, 0, 0, []), (12, .iconst 1, 1, 2147483649, 0, 0, []), (13, .if_icmp .ne 10, 3, 23, 0, 0, []), (16, .aload_n 0, 1, 0, 0, 0, []), (17, .getfield 16, 3, 10, 5, 0, [1251]), (20, .goto 4, 3, 24, 0, 0, []), (23, .iconst (-1), 1, 2147483647, 0, 0, []), (24, .ireturn, 1, 0, 0, 0, [])]
def ex_p_X10_isIn : List ex_P := [(0, .iload_n 0, 1, 0, 0, 0, []), (1, .iload_n 1, 1, 1, 0, 0, []), (2, .if_icmp .lt 12, 3, 14, 0, 0, []), (5, .iload_n 0, 1, 0, 0, 0, []), (6, .iload_n 2, 1, 2, 0, 0, []), (7, .if_icmp .gt 7, 3, 14, 0, 0, []), (10, .iconst 1, 1, 2147483649, 0, 0, []), (11, .goto 4, 3, 15, 0, 0, []), (14, .iconst 0, 1, 2147483648, 0, 0, []), (15, .ireturn, 1, 0, 0, 0, [])]
def ex_p_X10_bitsOf : List ex_P := [(0, .iconst 0, 1, 2147483648, 0, 0, []), (1, .istore_n 1, 1, 1, 0, 0, []), (2, .iload_n 0, 1, 0, 0, 0, []), (3, .istore_n 2, 1, 2, 0, 0, []), (4, .iload_n 2, 1, 2, 0, 0, []), (5, .ifCond .eq 15, 3, 20, 0, 0, []), (20, .iload_n 1, 1, 1, 0, 0, []), (21, .ireturn, 1, 0, 0, 0, [])]
def ex_p_X10_divisor : List ex_P := [(0, .iload_n 0, 1, 0, 0, 0, []), (1, .istore_n 2, 1, 2, 0, 0, []), (2, .iload_n 1, 1, 1, 0, 0, []), (3, .istore_n 3, 1, 3, 0, 0, []), (4, .iload_n 3, 1, 3, 0, 0, []), (5, .ifCond .le 16, 3, 21, 0, 0, []), (8, .iload_n 2, 1, 2, 0, 0, []), (9, .iload_n 3, 1, 3, 0, 0, []), (10, .irem, 1, 0, 0, 0, []), (11, .istore 4, 2, 4, 0, 0, []), (13, .iload_n 3, 1, 3, 0, 0, []), (14, .istore_n 2, 1, 2, 0, 0, []), (15, .iload 4, 2, 4, 0, 0, []), (17, .istore_n 3, 1, 3, 0, 0, []), (18, .goto (-14), 3, 4, 0, 0, []), (21, .iload_n 2, 1, 2, 0, 0, []), (22, .ireturn, 1, 0, 0, 0, [])]
def ex_p_X10_power : List ex_P := [(0, .iconst 1, 1, 2147483649, 0, 0, []), (1, .istore_n 2, 1, 2, 0, 0, []), (2, .iconst 0, 1, 2147483648, 0, 0, []), (3, .istore_n 3, 1, 3, 0, 0, []), (4, .iload_n 3, 1, 3, 0, 0, []), (5, .iload_n 1, 1, 1, 0, 0, []), (6, .if_icmp .ge 13, 3, 19, 0, 0, []), (9, .iload_n 2, 1, 2, 0, 0, []), (10, .iload_n 0, 1, 0, 0, 0, []), (11, .imul, 1, 0, 0, 0, []), (12, .istore_n 2, 1, 2, 0, 0, []), (13, .iinc 3 1, 3, 3, 1, 0, []), (16, .goto (-12), 3, 4, 0, 0, []), (19, .iload_n 2, 1, 2, 0, 0, []), (20, .ireturn, 1, 0, 0, 0, [])]
def ex_p_X10_many : List ex_P := [(0, .aload_n 0, 1, 0, 0, 0, []), (1, .getfield 30, 3, 10, 14, 1, [1260]), (4, .aload_n 0, 1, 0, 0, 0, []), (5, .getfield 254, 3, 10, 33, 0, [1279]), (8, .iaload, 1, 0, 0, 0, []), (9, .ireturn, 1, 0, 0, 0, [])]
def ex_p_X10_kinds : List ex_P := [(0, .aload_n 0, 1, 0, 0, 0, []), (1, .getfield 27, 3, 10, 13, 1, [1259]), (4, .aload_n 0, 1, 0, 0, 0, []), (5, .getfield 254, 3, 10, 33, 0, [1279]), (8, .iaload, 1, 0, 0, 0, []), (9, .ireturn, 1, 0, 0, 0, [])]
def ex_p_X10_isComer : List ex_P := [(0, .iload_n 1, 1, 1, 0, 0, []), (1, .iconst 0, 1, 2147483648, 0, 0, []), (2, .aload_n 0, 1, 0, 0, 0, []), (3, .invokevirtual 354, 3, 110, 1, 10, [1242, 0]), (6, .iconst 1, 1, 2147483649, 0, 0, []), (7, .isub, 1, 0, 0, 0, []), (8, .invokestatic 357, 3, 106, 3, 0, [1613, 0]), (11, .ireturn, 1, 0, 0, 0, [])]
def ex_p_X10_isWordNumber : List ex_P := [(0, .iload_n 1, 1, 1, 0, 0, []), (1, .iconst 0, 1, 2147483648, 0, 0, []), (2, .aload_n 0, 1, 0, 0, 0, []), (3, .invokevirtual 361, 3, 111, 1, 10, [1238, 0]), (6, .iconst 1, 1, 2147483649, 0, 0, []), (7, .isub, 1, 0, 0, 0, []), (8, .invokestatic 357, 3, 106, 3, 0, [1613, 0]), (11, .ireturn, 1, 0, 0, 0, [])]
def ex_p_X10_isRoad : List ex_P := [(0, .iload_n 1, 1, 1, 0, 0, []), (1, .iconst 0, 1, 2147483648, 0, 0, []), (2, .aload_n 0, 1, 0, 0, 0, []), (3, .getfield 20, 3, 10, 11, 1, [1257]), (6, .aload_n 0, 1, 0, 0, 0, []), (7, .getfield 254, 3, 10, 33, 0, [1279]), (10, .iaload, 1, 0, 0, 0, []), (11, .iconst 1, 1, 2147483649, 0, 0, []), (12, .isub, 1, 0, 0, 0, []), (13, .invokestatic 357, 3, 106, 3, 0, [1613, 0]), (16, .ireturn, 1, 0, 0, 0, [])]
def ex_p_X10_isThere : List ex_P := [(0, .aload_n 0, 1, 0, 0, 0, []), (1, .iload_n 1, 1, 1, 0, 0, []), (2, .invokevirtual 364, 3, 112, 2, 10, [1628, 0]), (5, .ifCond .eq 15, 3, 20, 0, 0, []), (20, .iconst 0, 1, 2147483648, 0, 0, []), (21, .ireturn, 1, 0, 0, 0, [])]
def ex_p_X10_isAhead : List ex_P := [(0, .iload_n 0, 1, 0, 0, 0, []), (1, .ifCond .lt 13, 3, 14, 0, 0, []), (4, .iload_n 0, 1, 0, 0, 0, []), (5, .bipush 60, 2, 2147483708, 0, 0, []), (7, .if_icmp .gt 7, 3, 14, 0, 0, []), (10, .iconst 1, 1, 2147483649, 0, 0, []), (11, .goto 4, 3, 15, 0, 0, []), (14, .iconst 0, 1, 2147483648, 0, 0, []), (15, .ireturn, 1, 0, 0, 0, [])]
def ex_p_X10_startAnew : List ex_P := [(0, .aload_n 0, 1, 0, 0, 0, []), (1, .invokevirtual 370, 3, 118, 1, 10, [1234, 0]), (4, .aload_n 0, 1, 0, 0, 0, []), (5, .iconst 0, 1, 2147483648, 0, 0, []), (6, .putfield 373, 3, 10, 48, 0, [1294]), (9, .aload_n 0, 1, 0, 0, 0, []), (10, .iconst 0, 1, 2147483648, 0, 0, []), (11, .putfield 376, 3, 10, 49, 0, [1295]), (14, .aload_n 0, 1, 0, 0, 0, []), (15, .iconst 0, 1, 2147483648, 0, 0, []), (16, .putfield 379, 3, 10, 64, 0, [1310]), (19, .aload_n 0, 1, 0, 0, 0, []), (20, .iconst 0, 1, 2147483648, 0, 0, []), (21, .putfield 382, 3, 10, 52, 0, [1298]), (24, .iconst 0, 1, 2147483648, 0, 0, []), (25, .istore_n 1, 1, 1, 0, 0, []), (26, .iload_n 1, 1, 1, 0, 0, []), (27, .iconst 3, 1, 2147483651, 0, 0, []), (28, .if_icmp .ge 16, 3, 44, 0, 0, []), (31, .aload_n 0, 1, 0, 0, 0, []), (32, .getfield 130, 3, 10, 67, 1, [1313]), (35, .iload_n 1, 1, 1, 0, 0, []), (36, .iconst 0, 1, 2147483648, 0, 0, []), (37, .bastore, 1, 0, 0, 0, []), (38, .iinc 1 1, 3, 1, 1, 0, []), (41, .goto (-15), 3, 26, 0, 0, []), (44, .return_, 1, 0, 0, 0, [])]
def ex_p_X10_layTold : List ex_P := [(0, .iconst 0, 1, 2147483648, 0, 0, []), (1, .istore_n 1, 1, 1, 0, 0, []), (2, .iload_n 1, 1, 1, 0, 0, []), (3, .bipush 46, 2, 2147483694, 0, 0, []), (5, .if_icmp .ge 16, 3, 21, 0, 0, []), (8, .aload_n 0, 1, 0, 0, 0, []), (9, .getfield 88, 3, 10, 43, 1, [1289]), (12, .iload_n 1, 1, 1, 0, 0, []), (13, .iconst 0, 1, 2147483648, 0, 0, []), (14, .iastore, 1, 0, 0, 0, []), (15, .iinc 1 1, 3, 1, 1, 0, []), (18, .goto (-16), 3, 2, 0, 0, []), (21, .iconst 0, 1, 2147483648, 0, 0, []), (22, .istore_n 1, 1, 1, 0, 0, []), (23, .iload_n 1, 1, 1, 0, 0, []), (24, .aload_n 0, 1, 0, 0, 0, []), (25, .invokevirtual 361, 3, 111, 1, 10, [1238, 0]), (28, .if_icmp .ge 55, 3, 83, 0, 0, []), (83, .iconst 0, 1, 2147483648, 0, 0, []), (84, .istore_n 1, 1, 1, 0, 0, []), (85, .iload_n 1, 1, 1, 0, 0, []), (86, .bipush 8, 2, 2147483656, 0, 0, []), (88, .if_icmp .ge 89, 3, 177, 0, 0, []), (91, .aload_n 0, 1, 0, 0, 0, []), (92, .getfield 88, 3, 10, 43, 1, [1289]), (95, .bipush 8, 2, 2147483656, 0, 0, []), (97, .iload_n 1, 1, 1, 0, 0, []), (98, .iadd, 1, 0, 0, 0, []), (99, .iload_n 1, 1, 1, 0, 0, []), (100, .aload_n 0, 1, 0, 0, 0, []), (101, .invokevirtual 354, 3, 110, 1, 10, [1242, 0]), (104, .if_icmp .ge 20, 3, 124, 0, 0, []), (124, .iconst 0, 1, 2147483648, 0, 0, []), (125, .iastore, 1, 0, 0, 0, []), (126, .aload_n 0, 1, 0, 0, 0, []), (127, .getfield 88, 3, 10, 43, 1, [1289]), (130, .bipush 24, 2, 2147483672, 0, 0, []), (132, .iload_n 1, 1, 1, 0, 0, []), (133, .iadd, 1, 0, 0, 0, []), (134, .iload_n 1, 1, 1, 0, 0, []), (135, .aload_n 0, 1, 0, 0, 0, []), (136, .invokevirtual 354, 3, 110, 1, 10, [1242, 0]), (139, .if_icmp .ge 20, 3, 159, 0, 0, []), (159, .iconst (-1), 1, 2147483647, 0, 0, []), (160, .iastore, 1, 0, 0, 0, []), (161, .aload_n 0, 1, 0, 0, 0, []), (162, .getfield 88, 3, 10, 43, 1, [1289]), (165, .bipush 32, 2, 2147483680, 0, 0, []), (167, .iload_n 1, 1, 1, 0, 0, []), (168, .iadd, 1, 0, 0, 0, []), (169, .iload_n 1, 1, 1, 0, 0, []), (170, .iastore, 1, 0, 0, 0, []), (171, .iinc 1 1, 3, 1, 1, 0, []), (174, .goto (-89), 3, 85, 0, 0, []), (177, .aload_n 0, 1, 0, 0, 0, []), (178, .getfield 88, 3, 10, 43, 1, [1289]), (181, .bipush 40, 2, 2147483688, 0, 0, []), (183, .aload_n 0, 1, 0, 0, 0, []), (184, .getfield 36, 3, 10, 16, 1, [1262]), (187, .aload_n 0, 1, 0, 0, 0, []), (188, .getfield 254, 3, 10, 33, 0, [1279]), (191, .iaload, 1, 0, 0, 0, []), (192, .iastore, 1, 0, 0, 0, []), (193, .aload_n 0, 1, 0, 0, 0, []), (194, .getfield 88, 3, 10, 43, 1, [1289]), (197, .bipush 44, 2, 2147483692, 0, 0, []), (199, .aload_n 0, 1, 0, 0, 0, []), (200, .getfield 42, 3, 10, 18, 1, [1264]), (203, .aload_n 0, 1, 0, 0, 0, []), (204, .getfield 254, 3, 10, 33, 0, [1279]), (207, .iaload, 1, 0, 0, 0, []), (208, .iastore, 1, 0, 0, 0, []), (209, .aload_n 0, 1, 0, 0, 0, []), (210, .getfield 88, 3, 10, 43, 1, [1289]), (213, .bipush 45, 2, 2147483693, 0, 0, []), (215, .bipush 8, 2, 2147483656, 0, 0, []), (217, .iastore, 1, 0, 0, 0, []), (218, .return_, 1, 0, 0, 0, [])]
def ex_p_X10_thoseBy : List ex_P := [(0, .iconst 0, 1, 2147483648, 0, 0, []), (1, .istore_n 1, 1, 1, 0, 0, []), (2, .iconst 0, 1, 2147483648, 0, 0, []), (3, .istore_n 2, 1, 2, 0, 0, []), (4, .iload_n 2, 1, 2, 0, 0, []), (5, .aload_n 0, 1, 0, 0, 0, []), (6, .invokevirtual 354, 3, 110, 1, 10, [1242, 0]), (9, .if_icmp .ge 23, 3, 32, 0, 0, []), (32, .iload_n 1, 1, 1, 0, 0, []), (33, .ireturn, 1, 0, 0, 0, [])]
def ex_p_X10_rowOf : List ex_P := [(0, .iconst 0, 1, 2147483648, 0, 0, []), (1, .istore_n 2, 1, 2, 0, 0, []), (2, .iconst 0, 1, 2147483648, 0, 0, []), (3, .istore_n 3, 1, 3, 0, 0, []), (4, .iload_n 3, 1, 3, 0, 0, []), (5, .aload_n 0, 1, 0, 0, 0, []), (6, .invokevirtual 354, 3, 110, 1, 10, [1242, 0]), (9, .if_icmp .ge 28, 3, 37, 0, 0, []), (37, .iload_n 2, 1, 2, 0, 0, []), (38, .ireturn, 1, 0, 0, 0, [])]
def ex_p_X10_firstOf : List ex_P := [(0, .iconst (-1), 1, 2147483647, 0, 0, []), (1, .istore_n 2, 1, 2, 0, 0, []), (2, .iconst 0, 1, 2147483648, 0, 0, []), (3, .istore_n 3, 1, 3, 0, 0, []), (4, .iload_n 3, 1, 3, 0, 0, []), (5, .aload_n 0, 1, 0, 0, 0, []), (6, .invokevirtual 354, 3, 110, 1, 10, [1242, 0]), (9, .if_icmp .ge 49, 3, 58, 0, 0, []), (58, .iload_n 2, 1, 2, 0, 0, []), (59, .ireturn, 1, 0, 0, 0, [])]
def ex_p_X10_goHatch : List ex_P := [(0, .aload_n 0, 1, 0, 0, 0, []), (1, .aload_n 0, 1, 0, 0, 0, []), (2, .iload_n 1, 1, 1, 0, 0, []), (3, .invokevirtual 406, 3, 121, 2, 10, [1699, 0]), (6, .putfield 409, 3, 10, 45, 0, [1291]), (9, .iconst (-1), 1, 2147483647, 0, 0, []), (10, .istore_n 3, 1, 3, 0, 0, []), (11, .aload_n 0, 1, 0, 0, 0, []), (12, .getfield 409, 3, 10, 45, 0, [1291]), (15, .ifCond .lt 186, 3, 201, 0, 0, []), (201, .aload_n 0, 1, 0, 0, 0, []), (202, .iconst 0, 1, 2147483648, 0, 0, []), (203, .putfield 421, 3, 10, 46, 0, [1292]), (206, .iconst 0, 1, 2147483648, 0, 0, []), (207, .istore 4, 2, 4, 0, 0, []), (209, .iload 4, 2, 4, 0, 0, []), (211, .aload_n 0, 1, 0, 0, 0, []), (212, .invokevirtual 354, 3, 110, 1, 10, [1242, 0]), (215, .if_icmp .ge 61, 3, 276, 0, 0, []), (276, .aload_n 0, 1, 0, 0, 0, []), (277, .getfield 88, 3, 10, 43, 1, [1289]), (280, .bipush 42, 2, 2147483690, 0, 0, []), (282, .dup2, 1, 0, 0, 0, []), (283, .iaload, 1, 0, 0, 0, []), (284, .iconst 1, 1, 2147483649, 0, 0, []), (285, .iadd, 1, 0, 0, 0, []), (286, .iastore, 1, 0, 0, 0, []), (287, .aload_n 0, 1, 0, 0, 0, []), (288, .getfield 88, 3, 10, 43, 1, [1289]), (291, .bipush 43, 2, 2147483691, 0, 0, []), (293, .iload_n 1, 1, 1, 0, 0, []), (294, .iconst 1, 1, 2147483649, 0, 0, []), (295, .iadd, 1, 0, 0, 0, []), (296, .aload_n 0, 1, 0, 0, 0, []), (297, .getfield 20, 3, 10, 11, 1, [1257]), (300, .aload_n 0, 1, 0, 0, 0, []), (301, .getfield 254, 3, 10, 33, 0, [1279]), (304, .iaload, 1, 0, 0, 0, []), (305, .irem, 1, 0, 0, 0, []), (306, .iastore, 1, 0, 0, 0, []), (307, .iload_n 3, 1, 3, 0, 0, []), (308, .ireturn, 1, 0, 0, 0, [])]
def ex_p_X10_goOnce : List ex_P := [(0, .aload_n 0, 1, 0, 0, 0, []), (1, .aload_n 0, 1, 0, 0, 0, []), (2, .getfield 88, 3, 10, 43, 1, [1289]), (5, .bipush 43, 2, 2147483691, 0, 0, []), (7, .iaload, 1, 0, 0, 0, []), (8, .iconst 0, 1, 2147483648, 0, 0, []), (9, .invokevirtual 424, 3, 122, 3, 10, [1727, 0]), (12, .ireturn, 1, 0, 0, 0, [])]
def ex_p_X10_goInEarnest : List ex_P := [(0, .aload_n 0, 1, 0, 0, 0, []), (1, .getfield 88, 3, 10, 43, 1, [1289]), (4, .bipush 44, 2, 2147483692, 0, 0, []), (6, .sipush 137, 3, 2147483785, 0, 0, []), (9, .aload_n 0, 1, 0, 0, 0, []), (10, .getfield 88, 3, 10, 43, 1, [1289]), (13, .bipush 44, 2, 2147483692, 0, 0, []), (15, .iaload, 1, 0, 0, 0, []), (16, .imul, 1, 0, 0, 0, []), (17, .bipush 71, 2, 2147483719, 0, 0, []), (19, .iadd, 1, 0, 0, 0, []), (20, .sipush 1000, 3, 2147484648, 0, 0, []), (23, .irem, 1, 0, 0, 0, []), (24, .iastore, 1, 0, 0, 0, []), (25, .aload_n 0, 1, 0, 0, 0, []), (26, .iload_n 1, 1, 1, 0, 0, []), (27, .aload_n 0, 1, 0, 0, 0, []), (28, .getfield 88, 3, 10, 43, 1, [1289]), (31, .bipush 44, 2, 2147483692, 0, 0, []), (33, .iaload, 1, 0, 0, 0, []), (34, .bipush 100, 2, 2147483748, 0, 0, []), (36, .irem, 1, 0, 0, 0, []), (37, .aload_n 0, 1, 0, 0, 0, []), (38, .getfield 39, 3, 10, 17, 1, [1263]), (41, .aload_n 0, 1, 0, 0, 0, []), (42, .getfield 254, 3, 10, 33, 0, [1279]), (45, .iaload, 1, 0, 0, 0, []), (46, .if_icmp .ge 7, 3, 53, 0, 0, []), (53, .iconst 0, 1, 2147483648, 0, 0, []), (54, .invokevirtual 424, 3, 122, 3, 10, [1727, 0]), (57, .ireturn, 1, 0, 0, 0, [])]
def ex_p_X10_word : List ex_P := [(0, .aload_n 0, 1, 0, 0, 0, []), (1, .iload_n 1, 1, 1, 0, 0, []), (2, .invokevirtual 428, 3, 113, 2, 10, [1609, 0]), (5, .ifCond .ne 6, 3, 11, 0, 0, []), (8, .bipush (-2), 2, 2147483646, 0, 0, []), (10, .ireturn, 1, 0, 0, 0, [])]
def ex_p_X10_comer : List ex_P := [(0, .aload_n 0, 1, 0, 0, 0, []), (1, .iload_n 1, 1, 1, 0, 0, []), (2, .invokevirtual 364, 3, 112, 2, 10, [1628, 0]), (5, .ifCond .ne 6, 3, 11, 0, 0, []), (8, .bipush (-2), 2, 2147483646, 0, 0, []), (10, .ireturn, 1, 0, 0, 0, [])]
def ex_p_X10_worth : List ex_P := [(0, .aload_n 0, 1, 0, 0, 0, []), (1, .iload_n 1, 1, 1, 0, 0, []), (2, .invokevirtual 434, 3, 115, 2, 10, [1640, 0]), (5, .ifCond .eq 11, 3, 16, 0, 0, []), (16, .ldc_w 437, 3, 1147483648, 1675, 0, []), (19, .ireturn, 1, 0, 0, 0, [])]
def ex_p_X10_keeps : List ex_P := [(0, .aload_n 0, 1, 0, 0, 0, []), (1, .iload_n 1, 1, 1, 0, 0, []), (2, .invokevirtual 434, 3, 115, 2, 10, [1640, 0]), (5, .ifCond .eq 11, 3, 16, 0, 0, []), (16, .iconst (-1), 1, 2147483647, 0, 0, []), (17, .ireturn, 1, 0, 0, 0, [])]
def ex_p_X10_row : List ex_P := [(0, .aload_n 0, 1, 0, 0, 0, []), (1, .iload_n 1, 1, 1, 0, 0, []), (2, .invokevirtual 438, 3, 114, 2, 10, [1691, 0]), (5, .ifCond .eq 14, 3, 19, 0, 0, []), (8, .aload_n 0, 1, 0, 0, 0, []), (9, .iload_n 1, 1, 1, 0, 0, []), (10, .invokevirtual 388, 3, 120, 2, 10, [1660, 0]), (13, .invokestatic 299, 3, 107, 1, 0, [1554, 0]), (16, .goto 4, 3, 20, 0, 0, []), (19, .iconst (-1), 1, 2147483647, 0, 0, []), (20, .ireturn, 1, 0, 0, 0, [])]
def ex_p_X10_ready : List ex_P := [(0, .iconst 0, 1, 2147483648, 0, 0, []), (1, .istore_n 1, 1, 1, 0, 0, []), (2, .iconst 0, 1, 2147483648, 0, 0, []), (3, .istore_n 2, 1, 2, 0, 0, []), (4, .iload_n 2, 1, 2, 0, 0, []), (5, .aload_n 0, 1, 0, 0, 0, []), (6, .invokevirtual 354, 3, 110, 1, 10, [1242, 0]), (9, .if_icmp .ge 48, 3, 57, 0, 0, []), (57, .iload_n 1, 1, 1, 0, 0, []), (58, .ireturn, 1, 0, 0, 0, [])]
def ex_p_X10_oldest : List ex_P := [(0, .iconst (-1), 1, 2147483647, 0, 0, []), (1, .istore_n 1, 1, 1, 0, 0, []), (2, .iconst 0, 1, 2147483648, 0, 0, []), (3, .istore_n 2, 1, 2, 0, 0, []), (4, .iload_n 2, 1, 2, 0, 0, []), (5, .aload_n 0, 1, 0, 0, 0, []), (6, .invokevirtual 354, 3, 110, 1, 10, [1242, 0]), (9, .if_icmp .ge 44, 3, 53, 0, 0, []), (53, .iload_n 1, 1, 1, 0, 0, []), (54, .ireturn, 1, 0, 0, 0, [])]
def ex_p_X10_fashion : List ex_P := [(0, .iconst (-1), 1, 2147483647, 0, 0, []), (1, .istore_n 1, 1, 1, 0, 0, []), (2, .iconst 0, 1, 2147483648, 0, 0, []), (3, .istore_n 2, 1, 2, 0, 0, []), (4, .iload_n 2, 1, 2, 0, 0, []), (5, .aload_n 0, 1, 0, 0, 0, []), (6, .invokevirtual 361, 3, 111, 1, 10, [1238, 0]), (9, .if_icmp .ge 34, 3, 43, 0, 0, []), (43, .iload_n 1, 1, 1, 0, 0, []), (44, .ireturn, 1, 0, 0, 0, [])]
def ex_p_X10_lull : List ex_P := [(0, .aload_n 0, 1, 0, 0, 0, []), (1, .iload_n 1, 1, 1, 0, 0, []), (2, .invokevirtual 428, 3, 113, 2, 10, [1609, 0]), (5, .ifCond .ne 5, 3, 10, 0, 0, []), (8, .iconst (-1), 1, 2147483647, 0, 0, []), (9, .ireturn, 1, 0, 0, 0, [])]
def ex_p_X10_keepAct : List ex_P := [(0, .aload_n 0, 1, 0, 0, 0, []), (1, .getfield 373, 3, 10, 48, 0, [1294]), (4, .bipush 40, 2, 2147483688, 0, 0, []), (6, .if_icmp .ne 43, 3, 49, 0, 0, []), (49, .iconst 0, 1, 2147483648, 0, 0, []), (50, .istore_n 1, 1, 1, 0, 0, []), (51, .iload_n 1, 1, 1, 0, 0, []), (52, .bipush 46, 2, 2147483694, 0, 0, []), (54, .if_icmp .ge 29, 3, 83, 0, 0, []), (57, .aload_n 0, 1, 0, 0, 0, []), (58, .getfield 94, 3, 10, 47, 1, [1293]), (61, .bipush 46, 2, 2147483694, 0, 0, []), (63, .aload_n 0, 1, 0, 0, 0, []), (64, .getfield 373, 3, 10, 48, 0, [1294]), (67, .imul, 1, 0, 0, 0, []), (68, .iload_n 1, 1, 1, 0, 0, []), (69, .iadd, 1, 0, 0, 0, []), (70, .aload_n 0, 1, 0, 0, 0, []), (71, .getfield 88, 3, 10, 43, 1, [1289]), (74, .iload_n 1, 1, 1, 0, 0, []), (75, .iaload, 1, 0, 0, 0, []), (76, .iastore, 1, 0, 0, 0, []), (77, .iinc 1 1, 3, 1, 1, 0, []), (80, .goto (-29), 3, 51, 0, 0, []), (83, .aload_n 0, 1, 0, 0, 0, []), (84, .dup, 1, 0, 0, 0, []), (85, .getfield 373, 3, 10, 48, 0, [1294]), (88, .iconst 1, 1, 2147483649, 0, 0, []), (89, .iadd, 1, 0, 0, 0, []), (90, .putfield 373, 3, 10, 48, 0, [1294]), (93, .aload_n 0, 1, 0, 0, 0, []), (94, .iconst 0, 1, 2147483648, 0, 0, []), (95, .putfield 376, 3, 10, 49, 0, [1295]), (98, .return_, 1, 0, 0, 0, [])]
def ex_p_X10_open : List ex_P := [(0, .aload_n 0, 1, 0, 0, 0, []), (1, .iload_n 1, 1, 1, 0, 0, []), (2, .invokevirtual 438, 3, 114, 2, 10, [1691, 0]), (5, .ifCond .eq 16, 3, 21, 0, 0, []), (8, .aload_n 0, 1, 0, 0, 0, []), (9, .getfield 88, 3, 10, 43, 1, [1289]), (12, .bipush 42, 2, 2147483690, 0, 0, []), (14, .iaload, 1, 0, 0, 0, []), (15, .sipush 999, 3, 2147484647, 0, 0, []), (18, .if_icmp .ne 6, 3, 24, 0, 0, []), (21, .bipush (-2), 2, 2147483646, 0, 0, []), (23, .ireturn, 1, 0, 0, 0, []), (24, .aload_n 0, 1, 0, 0, 0, []), (25, .invokevirtual 441, 3, 134, 1, 10, [1719, 0]), (28, .aload_n 0, 1, 0, 0, 0, []), (29, .iload_n 1, 1, 1, 0, 0, []), (30, .invokevirtual 444, 3, 124, 2, 10, [1723, 0]), (33, .ireturn, 1, 0, 0, 0, [])]
def ex_p_X10_hatch : List ex_P := [(0, .aload_n 0, 1, 0, 0, 0, []), (1, .aload_n 0, 1, 0, 0, 0, []), (2, .getfield 88, 3, 10, 43, 1, [1289]), (5, .bipush 43, 2, 2147483691, 0, 0, []), (7, .iaload, 1, 0, 0, 0, []), (8, .invokevirtual 447, 3, 135, 2, 10, [1739, 0]), (11, .ireturn, 1, 0, 0, 0, [])]
def ex_p_X10_rehearse : List ex_P := [(0, .aload_n 0, 1, 0, 0, 0, []), (1, .iload_n 1, 1, 1, 0, 0, []), (2, .invokevirtual 434, 3, 115, 2, 10, [1640, 0]), (5, .ifCond .eq 40, 3, 45, 0, 0, []), (45, .ldc_w 437, 3, 1147483648, 1675, 0, []), (48, .ireturn, 1, 0, 0, 0, [])]
def ex_p_X10_turn : List ex_P := [(0, .aload_n 0, 1, 0, 0, 0, []), (1, .iload_n 1, 1, 1, 0, 0, []), (2, .invokevirtual 434, 3, 115, 2, 10, [1640, 0]), (5, .ifCond .eq 24, 3, 29, 0, 0, []), (29, .iconst (-1), 1, 2147483647, 0, 0, []), (30, .ireturn, 1, 0, 0, 0, [])]
def ex_p_X10_revive : List ex_P := [(0, .aload_n 0, 1, 0, 0, 0, []), (1, .iload_n 1, 1, 1, 0, 0, []), (2, .invokevirtual 428, 3, 113, 2, 10, [1609, 0]), (5, .ifCond .eq 28, 3, 33, 0, 0, []), (33, .iconst (-1), 1, 2147483647, 0, 0, []), (34, .ireturn, 1, 0, 0, 0, [])]
def ex_p_X10_humour : List ex_P := [(0, .iload_n 1, 1, 1, 0, 0, []), (1, .iconst 0, 1, 2147483648, 0, 0, []), (2, .bipush 99, 2, 2147483747, 0, 0, []), (4, .invokestatic 357, 3, 106, 3, 0, [1613, 0]), (7, .ifCond .eq 14, 3, 21, 0, 0, []), (10, .aload_n 0, 1, 0, 0, 0, []), (11, .getfield 88, 3, 10, 43, 1, [1289]), (14, .bipush 40, 2, 2147483688, 0, 0, []), (16, .iaload, 1, 0, 0, 0, []), (17, .iload_n 1, 1, 1, 0, 0, []), (18, .if_icmp .ne 5, 3, 23, 0, 0, []), (21, .iconst (-1), 1, 2147483647, 0, 0, []), (22, .ireturn, 1, 0, 0, 0, []), (23, .aload_n 0, 1, 0, 0, 0, []), (24, .invokevirtual 441, 3, 134, 1, 10, [1719, 0]), (27, .aload_n 0, 1, 0, 0, 0, []), (28, .getfield 88, 3, 10, 43, 1, [1289]), (31, .bipush 40, 2, 2147483688, 0, 0, []), (33, .iaload, 1, 0, 0, 0, []), (34, .istore_n 2, 1, 2, 0, 0, []), (35, .aload_n 0, 1, 0, 0, 0, []), (36, .getfield 88, 3, 10, 43, 1, [1289]), (39, .bipush 40, 2, 2147483688, 0, 0, []), (41, .iload_n 1, 1, 1, 0, 0, []), (42, .iastore, 1, 0, 0, 0, []), (43, .iload_n 2, 1, 2, 0, 0, []), (44, .ireturn, 1, 0, 0, 0, [])]
def ex_p_X10_undo : List ex_P := [(0, .aload_n 0, 1, 0, 0, 0, []), (1, .getfield 373, 3, 10, 48, 0, [1294]), (4, .ifCond .ne 5, 3, 9, 0, 0, []), (7, .iconst 0, 1, 2147483648, 0, 0, []), (8, .ireturn, 1, 0, 0, 0, [])]
def ex_p_X10_redo : List ex_P := [(0, .aload_n 0, 1, 0, 0, 0, []), (1, .getfield 376, 3, 10, 49, 0, [1295]), (4, .ifCond .ne 5, 3, 9, 0, 0, []), (7, .iconst 0, 1, 2147483648, 0, 0, []), (8, .ireturn, 1, 0, 0, 0, [])]
def ex_p_X10_lies : List ex_P := [(0, .iload_n 1, 1, 1, 0, 0, []), (1, .iconst 0, 1, 2147483648, 0, 0, []), (2, .aload_n 0, 1, 0, 0, 0, []), (3, .getfield 382, 3, 10, 52, 0, [1298]), (6, .iconst 1, 1, 2147483649, 0, 0, []), (7, .isub, 1, 0, 0, 0, []), (8, .invokestatic 357, 3, 106, 3, 0, [1613, 0]), (11, .ifCond .eq 12, 3, 23, 0, 0, []), (23, .iconst (-1), 1, 2147483647, 0, 0, []), (24, .ireturn, 1, 0, 0, 0, [])]
def ex_p_X10_keepNow : List ex_P := [(0, .iconst 0, 1, 2147483648, 0, 0, []), (1, .istore_n 1, 1, 1, 0, 0, []), (2, .iload_n 1, 1, 1, 0, 0, []), (3, .bipush 46, 2, 2147483694, 0, 0, []), (5, .if_icmp .ge 21, 3, 26, 0, 0, []), (8, .aload_n 0, 1, 0, 0, 0, []), (9, .getfield 97, 3, 10, 50, 1, [1296]), (12, .iload_n 1, 1, 1, 0, 0, []), (13, .aload_n 0, 1, 0, 0, 0, []), (14, .getfield 88, 3, 10, 43, 1, [1289]), (17, .iload_n 1, 1, 1, 0, 0, []), (18, .iaload, 1, 0, 0, 0, []), (19, .iastore, 1, 0, 0, 0, []), (20, .iinc 1 1, 3, 1, 1, 0, []), (23, .goto (-21), 3, 2, 0, 0, []), (26, .return_, 1, 0, 0, 0, [])]
def ex_p_X10_bringBack : List ex_P := [(0, .iconst 0, 1, 2147483648, 0, 0, []), (1, .istore_n 1, 1, 1, 0, 0, []), (2, .iload_n 1, 1, 1, 0, 0, []), (3, .bipush 46, 2, 2147483694, 0, 0, []), (5, .if_icmp .ge 21, 3, 26, 0, 0, []), (8, .aload_n 0, 1, 0, 0, 0, []), (9, .getfield 88, 3, 10, 43, 1, [1289]), (12, .iload_n 1, 1, 1, 0, 0, []), (13, .aload_n 0, 1, 0, 0, 0, []), (14, .getfield 97, 3, 10, 50, 1, [1296]), (17, .iload_n 1, 1, 1, 0, 0, []), (18, .iaload, 1, 0, 0, 0, []), (19, .iastore, 1, 0, 0, 0, []), (20, .iinc 1 1, 3, 1, 1, 0, []), (23, .goto (-21), 3, 2, 0, 0, []), (26, .return_, 1, 0, 0, 0, [])]
def ex_p_X10_goHatches : List ex_P := [(0, .aload_n 0, 1, 0, 0, 0, []), (1, .iconst 0, 1, 2147483648, 0, 0, []), (2, .putfield 453, 3, 10, 53, 0, [1299]), (5, .aload_n 0, 1, 0, 0, 0, []), (6, .iconst 0, 1, 2147483648, 0, 0, []), (7, .putfield 456, 3, 10, 54, 0, [1300]), (10, .aload_n 0, 1, 0, 0, 0, []), (11, .iconst 0, 1, 2147483648, 0, 0, []), (12, .putfield 459, 3, 10, 55, 0, [1301]), (15, .iconst 0, 1, 2147483648, 0, 0, []), (16, .istore 4, 2, 4, 0, 0, []), (18, .iload 4, 2, 4, 0, 0, []), (20, .iload_n 1, 1, 1, 0, 0, []), (21, .if_icmp .ge 119, 3, 140, 0, 0, []), (24, .aload_n 0, 1, 0, 0, 0, []), (25, .getfield 88, 3, 10, 43, 1, [1289]), (28, .bipush 41, 2, 2147483689, 0, 0, []), (30, .iaload, 1, 0, 0, 0, []), (31, .istore 5, 2, 5, 0, 0, []), (33, .aload_n 0, 1, 0, 0, 0, []), (34, .invokevirtual 462, 3, 123, 1, 10, [1783, 0]), (37, .istore 6, 2, 6, 0, 0, []), (39, .aload_n 0, 1, 0, 0, 0, []), (40, .dup, 1, 0, 0, 0, []), (41, .getfield 453, 3, 10, 53, 0, [1299]), (44, .aload_n 0, 1, 0, 0, 0, []), (45, .getfield 421, 3, 10, 46, 0, [1292]), (48, .iadd, 1, 0, 0, 0, []), (49, .putfield 453, 3, 10, 53, 0, [1299]), (52, .aload_n 0, 1, 0, 0, 0, []), (53, .dup, 1, 0, 0, 0, []), (54, .getfield 456, 3, 10, 54, 0, [1300]), (57, .aload_n 0, 1, 0, 0, 0, []), (58, .getfield 409, 3, 10, 45, 0, [1291]), (61, .ifCond .lt 24, 3, 85, 0, 0, []), (85, .iconst 0, 1, 2147483648, 0, 0, []), (86, .iadd, 1, 0, 0, 0, []), (87, .putfield 456, 3, 10, 54, 0, [1300]), (90, .aload_n 0, 1, 0, 0, 0, []), (91, .dup, 1, 0, 0, 0, []), (92, .getfield 459, 3, 10, 55, 0, [1301]), (95, .aload_n 0, 1, 0, 0, 0, []), (96, .getfield 409, 3, 10, 45, 0, [1291]), (99, .ifCond .lt 30, 3, 129, 0, 0, []), (129, .iconst 0, 1, 2147483648, 0, 0, []), (130, .iadd, 1, 0, 0, 0, []), (131, .putfield 459, 3, 10, 55, 0, [1301]), (134, .iinc 4 1, 3, 4, 1, 0, []), (137, .goto (-119), 3, 18, 0, 0, []), (140, .return_, 1, 0, 0, 0, [])]
def ex_p_X10_will : List ex_P := [(0, .iload_n 1, 1, 1, 0, 0, []), (1, .invokestatic 465, 3, 116, 1, 0, [1776, 0]), (4, .ifCond .eq 12, 3, 16, 0, 0, []), (7, .iload_n 2, 1, 2, 0, 0, []), (8, .iconst 0, 1, 2147483648, 0, 0, []), (9, .iconst 1, 1, 2147483649, 0, 0, []), (10, .invokestatic 357, 3, 106, 3, 0, [1613, 0]), (13, .ifCond .ne 5, 3, 18, 0, 0, []), (16, .iconst (-1), 1, 2147483647, 0, 0, []), (17, .ireturn, 1, 0, 0, 0, []), (18, .aload_n 0, 1, 0, 0, 0, []), (19, .invokevirtual 468, 3, 144, 1, 10, [1779, 0]), (22, .iconst (-1), 1, 2147483647, 0, 0, []), (23, .istore_n 3, 1, 3, 0, 0, []), (24, .iconst 0, 1, 2147483648, 0, 0, []), (25, .istore 4, 2, 4, 0, 0, []), (27, .iload 4, 2, 4, 0, 0, []), (29, .iload_n 1, 1, 1, 0, 0, []), (30, .if_icmp .ge 33, 3, 63, 0, 0, []), (33, .iload_n 2, 1, 2, 0, 0, []), (34, .iconst 1, 1, 2147483649, 0, 0, []), (35, .if_icmp .ne 17, 3, 52, 0, 0, []), (38, .aload_n 0, 1, 0, 0, 0, []), (39, .aload_n 0, 1, 0, 0, 0, []), (40, .getfield 88, 3, 10, 43, 1, [1289]), (43, .bipush 43, 2, 2147483691, 0, 0, []), (45, .iaload, 1, 0, 0, 0, []), (46, .invokevirtual 444, 3, 124, 2, 10, [1723, 0]), (49, .goto 7, 3, 56, 0, 0, []), (52, .aload_n 0, 1, 0, 0, 0, []), (53, .invokevirtual 462, 3, 123, 1, 10, [1783, 0]), (56, .istore_n 3, 1, 3, 0, 0, []), (57, .iinc 4 1, 3, 4, 1, 0, []), (60, .goto (-33), 3, 27, 0, 0, []), (63, .aload_n 0, 1, 0, 0, 0, []), (64, .invokevirtual 471, 3, 119, 1, 10, [1787, 0]), (67, .istore 4, 2, 4, 0, 0, []), (69, .aload_n 0, 1, 0, 0, 0, []), (70, .invokevirtual 474, 3, 145, 1, 10, [1791, 0]), (73, .iload 4, 2, 4, 0, 0, []), (75, .ireturn, 1, 0, 0, 0, [])]
def ex_p_X10_clock : List ex_P := [(0, .iload_n 1, 1, 1, 0, 0, []), (1, .invokestatic 465, 3, 116, 1, 0, [1776, 0]), (4, .ifCond .ne 5, 3, 9, 0, 0, []), (7, .iconst (-1), 1, 2147483647, 0, 0, []), (8, .ireturn, 1, 0, 0, 0, []), (9, .aload_n 0, 1, 0, 0, 0, []), (10, .invokevirtual 468, 3, 144, 1, 10, [1779, 0]), (13, .aload_n 0, 1, 0, 0, 0, []), (14, .iload_n 1, 1, 1, 0, 0, []), (15, .iconst (-1), 1, 2147483647, 0, 0, []), (16, .iconst (-1), 1, 2147483647, 0, 0, []), (17, .invokevirtual 477, 3, 146, 4, 10, [1799, 0]), (20, .aload_n 0, 1, 0, 0, 0, []), (21, .getfield 88, 3, 10, 43, 1, [1289]), (24, .bipush 41, 2, 2147483689, 0, 0, []), (26, .iaload, 1, 0, 0, 0, []), (27, .istore_n 2, 1, 2, 0, 0, []), (28, .aload_n 0, 1, 0, 0, 0, []), (29, .invokevirtual 474, 3, 145, 1, 10, [1791, 0]), (32, .iload_n 2, 1, 2, 0, 0, []), (33, .ireturn, 1, 0, 0, 0, [])]
def ex_p_X10_temper : List ex_P := [(0, .iload_n 1, 1, 1, 0, 0, []), (1, .invokestatic 465, 3, 116, 1, 0, [1776, 0]), (4, .ifCond .ne 5, 3, 9, 0, 0, []), (7, .iconst (-1), 1, 2147483647, 0, 0, []), (8, .ireturn, 1, 0, 0, 0, []), (9, .aload_n 0, 1, 0, 0, 0, []), (10, .invokevirtual 468, 3, 144, 1, 10, [1779, 0]), (13, .aload_n 0, 1, 0, 0, 0, []), (14, .iload_n 1, 1, 1, 0, 0, []), (15, .iconst (-1), 1, 2147483647, 0, 0, []), (16, .iconst (-1), 1, 2147483647, 0, 0, []), (17, .invokevirtual 477, 3, 146, 4, 10, [1799, 0]), (20, .aload_n 0, 1, 0, 0, 0, []), (21, .getfield 88, 3, 10, 43, 1, [1289]), (24, .bipush 40, 2, 2147483688, 0, 0, []), (26, .iaload, 1, 0, 0, 0, []), (27, .istore_n 2, 1, 2, 0, 0, []), (28, .aload_n 0, 1, 0, 0, 0, []), (29, .invokevirtual 474, 3, 145, 1, 10, [1791, 0]), (32, .iload_n 2, 1, 2, 0, 0, []), (33, .ireturn, 1, 0, 0, 0, [])]
def ex_p_X10_pressIn : List ex_P := [(0, .aload_n 0, 1, 0, 0, 0, []), (1, .iload_n 1, 1, 1, 0, 0, []), (2, .iconst (-1), 1, 2147483647, 0, 0, []), (3, .iconst (-1), 1, 2147483647, 0, 0, []), (4, .invokevirtual 477, 3, 146, 4, 10, [1799, 0]), (7, .aload_n 0, 1, 0, 0, 0, []), (8, .invokevirtual 474, 3, 145, 1, 10, [1791, 0]), (11, .aload_n 0, 1, 0, 0, 0, []), (12, .getfield 453, 3, 10, 53, 0, [1299]), (15, .ireturn, 1, 0, 0, 0, [])]
def ex_p_X10_press : List ex_P := [(0, .iload_n 1, 1, 1, 0, 0, []), (1, .invokestatic 465, 3, 116, 1, 0, [1776, 0]), (4, .ifCond .ne 5, 3, 9, 0, 0, []), (7, .iconst (-1), 1, 2147483647, 0, 0, []), (8, .ireturn, 1, 0, 0, 0, []), (9, .aload_n 0, 1, 0, 0, 0, []), (10, .invokevirtual 468, 3, 144, 1, 10, [1779, 0]), (13, .aload_n 0, 1, 0, 0, 0, []), (14, .iload_n 1, 1, 1, 0, 0, []), (15, .invokevirtual 481, 3, 150, 2, 10, [1811, 0]), (18, .ireturn, 1, 0, 0, 0, [])]
def ex_p_X10_echoes : List ex_P := [(0, .aload_n 0, 1, 0, 0, 0, []), (1, .iload_n 1, 1, 1, 0, 0, []), (2, .invokevirtual 428, 3, 113, 2, 10, [1609, 0]), (5, .ifCond .eq 10, 3, 15, 0, 0, []), (15, .iconst (-1), 1, 2147483647, 0, 0, []), (16, .ireturn, 1, 0, 0, 0, [])]
def ex_p_X10_when : List ex_P := [(0, .aload_n 0, 1, 0, 0, 0, []), (1, .iload_n 1, 1, 1, 0, 0, []), (2, .invokevirtual 364, 3, 112, 2, 10, [1628, 0]), (5, .ifCond .ne 5, 3, 10, 0, 0, []), (8, .iconst (-1), 1, 2147483647, 0, 0, []), (9, .ireturn, 1, 0, 0, 0, [])]
def ex_p_X10_spends : List ex_P := [(0, .aload_n 0, 1, 0, 0, 0, []), (1, .iload_n 1, 1, 1, 0, 0, []), (2, .invokevirtual 434, 3, 115, 2, 10, [1640, 0]), (5, .ifCond .ne 5, 3, 10, 0, 0, []), (8, .iconst (-1), 1, 2147483647, 0, 0, []), (9, .ireturn, 1, 0, 0, 0, [])]
def ex_p_X10_jam : List ex_P := [(0, .aload_n 0, 1, 0, 0, 0, []), (1, .invokevirtual 468, 3, 144, 1, 10, [1779, 0]), (4, .aload_n 0, 1, 0, 0, 0, []), (5, .bipush 60, 2, 2147483708, 0, 0, []), (7, .iconst (-1), 1, 2147483647, 0, 0, []), (8, .iconst (-1), 1, 2147483647, 0, 0, []), (9, .invokevirtual 477, 3, 146, 4, 10, [1799, 0]), (12, .iconst 1, 1, 2147483649, 0, 0, []), (13, .aload_n 0, 1, 0, 0, 0, []), (14, .invokevirtual 354, 3, 110, 1, 10, [1242, 0]), (17, .ishl, 1, 0, 0, 0, []), (18, .iconst 1, 1, 2147483649, 0, 0, []), (19, .isub, 1, 0, 0, 0, []), (20, .aload_n 0, 1, 0, 0, 0, []), (21, .invokevirtual 471, 3, 119, 1, 10, [1787, 0]), (24, .iconst (-1), 1, 2147483647, 0, 0, []), (25, .ixor, 1, 0, 0, 0, []), (26, .iand, 1, 0, 0, 0, []), (27, .istore_n 1, 1, 1, 0, 0, []), (28, .aload_n 0, 1, 0, 0, 0, []), (29, .invokevirtual 474, 3, 145, 1, 10, [1791, 0]), (32, .iload_n 1, 1, 1, 0, 0, []), (33, .ireturn, 1, 0, 0, 0, [])]
def ex_p_X10_clears : List ex_P := [(0, .aload_n 0, 1, 0, 0, 0, []), (1, .iload_n 1, 1, 1, 0, 0, []), (2, .invokevirtual 438, 3, 114, 2, 10, [1691, 0]), (5, .ifCond .eq 10, 3, 15, 0, 0, []), (8, .iload_n 2, 1, 2, 0, 0, []), (9, .invokestatic 465, 3, 116, 1, 0, [1776, 0]), (12, .ifCond .ne 5, 3, 17, 0, 0, []), (15, .iconst (-1), 1, 2147483647, 0, 0, []), (16, .ireturn, 1, 0, 0, 0, []), (17, .aload_n 0, 1, 0, 0, 0, []), (18, .iload_n 1, 1, 1, 0, 0, []), (19, .invokevirtual 388, 3, 120, 2, 10, [1660, 0]), (22, .istore_n 3, 1, 3, 0, 0, []), (23, .aload_n 0, 1, 0, 0, 0, []), (24, .invokevirtual 468, 3, 144, 1, 10, [1779, 0]), (27, .aload_n 0, 1, 0, 0, 0, []), (28, .iload_n 2, 1, 2, 0, 0, []), (29, .iconst (-1), 1, 2147483647, 0, 0, []), (30, .iconst (-1), 1, 2147483647, 0, 0, []), (31, .invokevirtual 477, 3, 146, 4, 10, [1799, 0]), (34, .iload_n 3, 1, 3, 0, 0, []), (35, .aload_n 0, 1, 0, 0, 0, []), (36, .invokevirtual 471, 3, 119, 1, 10, [1787, 0]), (39, .iand, 1, 0, 0, 0, []), (40, .istore_n 3, 1, 3, 0, 0, []), (41, .aload_n 0, 1, 0, 0, 0, []), (42, .invokevirtual 474, 3, 145, 1, 10, [1791, 0]), (45, .iload_n 3, 1, 3, 0, 0, []), (46, .ireturn, 1, 0, 0, 0, [])]
def ex_p_X10_best : List ex_P := [(0, .aload_n 0, 1, 0, 0, 0, []), (1, .iload_n 1, 1, 1, 0, 0, []), (2, .invokevirtual 434, 3, 115, 2, 10, [1640, 0]), (5, .ifCond .eq 12, 3, 17, 0, 0, []), (17, .iconst (-1), 1, 2147483647, 0, 0, []), (18, .ireturn, 1, 0, 0, 0, [])]
def ex_p_X10_reorder : List ex_P := [(0, .iload_n 1, 1, 1, 0, 0, []), (1, .invokestatic 465, 3, 116, 1, 0, [1776, 0]), (4, .ifCond .eq 12, 3, 16, 0, 0, []), (7, .iload_n 2, 1, 2, 0, 0, []), (8, .iconst 0, 1, 2147483648, 0, 0, []), (9, .iconst 2, 1, 2147483650, 0, 0, []), (10, .invokestatic 357, 3, 106, 3, 0, [1613, 0]), (13, .ifCond .ne 5, 3, 18, 0, 0, []), (16, .iconst (-1), 1, 2147483647, 0, 0, []), (17, .ireturn, 1, 0, 0, 0, []), (18, .aload_n 0, 1, 0, 0, 0, []), (19, .invokevirtual 468, 3, 144, 1, 10, [1779, 0]), (22, .aload_n 0, 1, 0, 0, 0, []), (23, .iload_n 1, 1, 1, 0, 0, []), (24, .invokevirtual 481, 3, 150, 2, 10, [1811, 0]), (27, .istore_n 3, 1, 3, 0, 0, []), (28, .iconst (-1), 1, 2147483647, 0, 0, []), (29, .istore 4, 2, 4, 0, 0, []), (31, .iconst 0, 1, 2147483648, 0, 0, []), (32, .istore 5, 2, 5, 0, 0, []), (34, .iload 5, 2, 5, 0, 0, []), (36, .bipush 64, 2, 2147483712, 0, 0, []), (38, .if_icmp .ge 141, 3, 179, 0, 0, []), (41, .iload 5, 2, 5, 0, 0, []), (43, .bipush 8, 2, 2147483656, 0, 0, []), (45, .idiv, 1, 0, 0, 0, []), (46, .istore 6, 2, 6, 0, 0, []), (48, .iload 5, 2, 5, 0, 0, []), (50, .bipush 8, 2, 2147483656, 0, 0, []), (52, .irem, 1, 0, 0, 0, []), (53, .istore 7, 2, 7, 0, 0, []), (55, .iload 6, 2, 6, 0, 0, []), (57, .iload 7, 2, 7, 0, 0, []), (59, .if_icmp .ge 114, 3, 173, 0, 0, []), (62, .aload_n 0, 1, 0, 0, 0, []), (63, .iload 6, 2, 6, 0, 0, []), (65, .invokevirtual 434, 3, 115, 2, 10, [1640, 0]), (68, .ifCond .eq 105, 3, 173, 0, 0, []), (173, .iinc 5 1, 3, 5, 1, 0, []), (176, .goto (-142), 3, 34, 0, 0, []), (179, .iload 4, 2, 4, 0, 0, []), (181, .ifCond .ge 7, 3, 188, 0, 0, []), (184, .iconst (-1), 1, 2147483647, 0, 0, []), (185, .goto 29, 3, 214, 0, 0, []), (214, .ireturn, 1, 0, 0, 0, [])]
def ex_p_X10_areAllBy : List ex_P := [(0, .aload_n 0, 1, 0, 0, 0, []), (1, .invokevirtual 468, 3, 144, 1, 10, [1779, 0]), (4, .iconst (-1), 1, 2147483647, 0, 0, []), (5, .istore_n 3, 1, 3, 0, 0, []), (6, .iload_n 2, 1, 2, 0, 0, []), (7, .iconst 1, 1, 2147483649, 0, 0, []), (8, .isub, 1, 0, 0, 0, []), (9, .istore 4, 2, 4, 0, 0, []), (11, .iload 4, 2, 4, 0, 0, []), (13, .ifCond .lt 41, 3, 54, 0, 0, []), (54, .aload_n 0, 1, 0, 0, 0, []), (55, .invokevirtual 471, 3, 119, 1, 10, [1787, 0]), (58, .iconst 1, 1, 2147483649, 0, 0, []), (59, .aload_n 0, 1, 0, 0, 0, []), (60, .invokevirtual 354, 3, 110, 1, 10, [1242, 0]), (63, .ishl, 1, 0, 0, 0, []), (64, .iconst 1, 1, 2147483649, 0, 0, []), (65, .isub, 1, 0, 0, 0, []), (66, .if_icmp .ne 7, 3, 73, 0, 0, []), (69, .iconst 1, 1, 2147483649, 0, 0, []), (70, .goto 4, 3, 74, 0, 0, []), (74, .istore 4, 2, 4, 0, 0, []), (76, .aload_n 0, 1, 0, 0, 0, []), (77, .invokevirtual 474, 3, 145, 1, 10, [1791, 0]), (80, .iload 4, 2, 4, 0, 0, []), (82, .ireturn, 1, 0, 0, 0, [])]
def ex_p_X10_soonest : List ex_P := [(0, .aload_n 0, 1, 0, 0, 0, []), (1, .iconst 0, 1, 2147483648, 0, 0, []), (2, .putfield 382, 3, 10, 52, 0, [1298]), (5, .iconst 0, 1, 2147483648, 0, 0, []), (6, .istore_n 1, 1, 1, 0, 0, []), (7, .iload_n 1, 1, 1, 0, 0, []), (8, .bipush 7, 2, 2147483655, 0, 0, []), (10, .if_icmp .gt 101, 3, 111, 0, 0, []), (13, .iconst 0, 1, 2147483648, 0, 0, []), (14, .istore_n 2, 1, 2, 0, 0, []), (15, .iload_n 2, 1, 2, 0, 0, []), (16, .aload_n 0, 1, 0, 0, 0, []), (17, .getfield 20, 3, 10, 11, 1, [1257]), (20, .aload_n 0, 1, 0, 0, 0, []), (21, .getfield 254, 3, 10, 33, 0, [1279]), (24, .iaload, 1, 0, 0, 0, []), (25, .iload_n 1, 1, 1, 0, 0, []), (26, .invokestatic 487, 3, 109, 2, 0, [1851, 0]), (29, .if_icmp .ge 76, 3, 105, 0, 0, []), (32, .aload_n 0, 1, 0, 0, 0, []), (33, .iload_n 2, 1, 2, 0, 0, []), (34, .iload_n 1, 1, 1, 0, 0, []), (35, .invokevirtual 490, 3, 159, 3, 10, [1854, 0]), (38, .ifCond .ne 6, 3, 44, 0, 0, []), (44, .iconst 0, 1, 2147483648, 0, 0, []), (45, .istore_n 3, 1, 3, 0, 0, []), (46, .iload_n 3, 1, 3, 0, 0, []), (47, .iload_n 1, 1, 1, 0, 0, []), (48, .if_icmp .ge 44, 3, 92, 0, 0, []), (92, .aload_n 0, 1, 0, 0, 0, []), (93, .iload_n 1, 1, 1, 0, 0, []), (94, .putfield 382, 3, 10, 52, 0, [1298]), (97, .iload_n 1, 1, 1, 0, 0, []), (98, .ireturn, 1, 0, 0, 0, [])]
def ex_p_X10_shortest : List ex_P := [(0, .aload_n 0, 1, 0, 0, 0, []), (1, .iload_n 1, 1, 1, 0, 0, []), (2, .invokevirtual 434, 3, 115, 2, 10, [1640, 0]), (5, .ifCond .eq 29, 3, 34, 0, 0, []), (34, .iconst (-1), 1, 2147483647, 0, 0, []), (35, .ireturn, 1, 0, 0, 0, [])]
def ex_p_X10_honest : List ex_P := [(0, .aload_n 0, 1, 0, 0, 0, []), (1, .iload_n 1, 1, 1, 0, 0, []), (2, .invokevirtual 434, 3, 115, 2, 10, [1640, 0]), (5, .ifCond .eq 35, 3, 40, 0, 0, []), (40, .iconst (-1), 1, 2147483647, 0, 0, []), (41, .ireturn, 1, 0, 0, 0, [])]
def ex_p_X10_spark : List ex_P := [(0, .aload_n 0, 1, 0, 0, 0, []), (1, .iload_n 1, 1, 1, 0, 0, []), (2, .invokevirtual 434, 3, 115, 2, 10, [1640, 0]), (5, .ifCond .eq 28, 3, 33, 0, 0, []), (33, .ldc_w 437, 3, 1147483648, 1675, 0, []), (36, .ireturn, 1, 0, 0, 0, [])]
def ex_p_X10_drop : List ex_P := [(0, .aload_n 0, 1, 0, 0, 0, []), (1, .iload_n 1, 1, 1, 0, 0, []), (2, .invokevirtual 434, 3, 115, 2, 10, [1640, 0]), (5, .ifCond .eq 28, 3, 33, 0, 0, []), (33, .ldc_w 437, 3, 1147483648, 1675, 0, []), (36, .ireturn, 1, 0, 0, 0, [])]
def ex_p_X10_coax : List ex_P := [(0, .aload_n 0, 1, 0, 0, 0, []), (1, .iload_n 1, 1, 1, 0, 0, []), (2, .invokevirtual 434, 3, 115, 2, 10, [1640, 0]), (5, .ifCond .ne 5, 3, 10, 0, 0, []), (8, .iconst (-1), 1, 2147483647, 0, 0, []), (9, .ireturn, 1, 0, 0, 0, [])]
def ex_p_X10_law : List ex_P := [(0, .iload_n 1, 1, 1, 0, 0, []), (1, .iconst 0, 1, 2147483648, 0, 0, []), (2, .bipush 99, 2, 2147483747, 0, 0, []), (4, .invokestatic 357, 3, 106, 3, 0, [1613, 0]), (7, .ifCond .ne 5, 3, 12, 0, 0, []), (10, .iconst (-1), 1, 2147483647, 0, 0, []), (11, .ireturn, 1, 0, 0, 0, []), (12, .aload_n 0, 1, 0, 0, 0, []), (13, .getfield 88, 3, 10, 43, 1, [1289]), (16, .bipush 40, 2, 2147483688, 0, 0, []), (18, .iaload, 1, 0, 0, 0, []), (19, .istore_n 2, 1, 2, 0, 0, []), (20, .aload_n 0, 1, 0, 0, 0, []), (21, .getfield 88, 3, 10, 43, 1, [1289]), (24, .bipush 40, 2, 2147483688, 0, 0, []), (26, .iload_n 1, 1, 1, 0, 0, []), (27, .iastore, 1, 0, 0, 0, []), (28, .iconst 0, 1, 2147483648, 0, 0, []), (29, .istore_n 3, 1, 3, 0, 0, []), (30, .iconst 0, 1, 2147483648, 0, 0, []), (31, .istore 4, 2, 4, 0, 0, []), (33, .iload 4, 2, 4, 0, 0, []), (35, .aload_n 0, 1, 0, 0, 0, []), (36, .invokevirtual 354, 3, 110, 1, 10, [1242, 0]), (39, .if_icmp .ge 30, 3, 69, 0, 0, []), (69, .aload_n 0, 1, 0, 0, 0, []), (70, .getfield 88, 3, 10, 43, 1, [1289]), (73, .bipush 40, 2, 2147483688, 0, 0, []), (75, .iload_n 2, 1, 2, 0, 0, []), (76, .iastore, 1, 0, 0, 0, []), (77, .iload_n 3, 1, 3, 0, 0, []), (78, .ireturn, 1, 0, 0, 0, [])]
def ex_p_X10_rivals : List ex_P := [(0, .aload_n 0, 1, 0, 0, 0, []), (1, .iconst 0, 1, 2147483648, 0, 0, []), (2, .putfield 382, 3, 10, 52, 0, [1298]), (5, .aload_n 0, 1, 0, 0, 0, []), (6, .iload_n 1, 1, 1, 0, 0, []), (7, .invokevirtual 434, 3, 115, 2, 10, [1640, 0]), (10, .ifCond .eq 23, 3, 33, 0, 0, []), (33, .iconst (-1), 1, 2147483647, 0, 0, []), (34, .ireturn, 1, 0, 0, 0, [])]
def ex_p_X10_odds : List ex_P := [(0, .iload_n 1, 1, 1, 0, 0, []), (1, .iconst 0, 1, 2147483648, 0, 0, []), (2, .iconst 4, 1, 2147483652, 0, 0, []), (3, .invokestatic 357, 3, 106, 3, 0, [1613, 0]), (6, .ifCond .eq 12, 3, 18, 0, 0, []), (9, .iload_n 2, 1, 2, 0, 0, []), (10, .iconst 0, 1, 2147483648, 0, 0, []), (11, .iconst 1, 1, 2147483649, 0, 0, []), (12, .invokestatic 357, 3, 106, 3, 0, [1613, 0]), (15, .ifCond .ne 5, 3, 20, 0, 0, []), (18, .iconst (-1), 1, 2147483647, 0, 0, []), (19, .ireturn, 1, 0, 0, 0, []), (20, .bipush 100, 2, 2147483748, 0, 0, []), (22, .aload_n 0, 1, 0, 0, 0, []), (23, .getfield 39, 3, 10, 17, 1, [1263]), (26, .aload_n 0, 1, 0, 0, 0, []), (27, .getfield 254, 3, 10, 33, 0, [1279]), (30, .iaload, 1, 0, 0, 0, []), (31, .isub, 1, 0, 0, 0, []), (32, .iload_n 1, 1, 1, 0, 0, []), (33, .invokestatic 487, 3, 109, 2, 0, [1851, 0]), (36, .istore_n 3, 1, 3, 0, 0, []), (37, .bipush 100, 2, 2147483748, 0, 0, []), (39, .iload_n 1, 1, 1, 0, 0, []), (40, .invokestatic 487, 3, 109, 2, 0, [1851, 0]), (43, .istore 4, 2, 4, 0, 0, []), (45, .iload_n 2, 1, 2, 0, 0, []), (46, .ifCond .ne 7, 3, 53, 0, 0, []), (49, .iload_n 3, 1, 3, 0, 0, []), (50, .goto 5, 3, 55, 0, 0, []), (53, .iload 4, 2, 4, 0, 0, []), (55, .iload 4, 2, 4, 0, 0, []), (57, .iload_n 3, 1, 3, 0, 0, []), (58, .invokestatic 502, 3, 108, 2, 0, [1902, 0]), (61, .idiv, 1, 0, 0, 0, []), (62, .ireturn, 1, 0, 0, 0, [])]
def ex_p_X10_seen : List ex_P := [(0, .iload_n 1, 1, 1, 0, 0, []), (1, .iconst 0, 1, 2147483648, 0, 0, []), (2, .bipush 20, 2, 2147483668, 0, 0, []), (4, .invokestatic 357, 3, 106, 3, 0, [1613, 0]), (7, .ifCond .eq 27, 3, 34, 0, 0, []), (10, .aload_n 0, 1, 0, 0, 0, []), (11, .iload_n 2, 1, 2, 0, 0, []), (12, .invokevirtual 364, 3, 112, 2, 10, [1628, 0]), (15, .ifCond .eq 19, 3, 34, 0, 0, []), (34, .iconst (-1), 1, 2147483647, 0, 0, []), (35, .ireturn, 1, 0, 0, 0, [])]
def ex_p_X10_untell : List ex_P := [(0, .iload_n 1, 1, 1, 0, 0, []), (1, .iconst 0, 1, 2147483648, 0, 0, []), (2, .aload_n 0, 1, 0, 0, 0, []), (3, .getfield 379, 3, 10, 64, 0, [1310]), (6, .iconst 1, 1, 2147483649, 0, 0, []), (7, .isub, 1, 0, 0, 0, []), (8, .invokestatic 357, 3, 106, 3, 0, [1613, 0]), (11, .ifCond .eq 12, 3, 23, 0, 0, []), (23, .iconst 0, 1, 2147483648, 0, 0, []), (24, .ireturn, 1, 0, 0, 0, [])]
def ex_p_X10_later : List ex_P := [(0, .iload_n 1, 1, 1, 0, 0, []), (1, .iconst 0, 1, 2147483648, 0, 0, []), (2, .sipush 1000, 3, 2147484648, 0, 0, []), (5, .invokestatic 357, 3, 106, 3, 0, [1613, 0]), (8, .ifCond .eq 15, 3, 23, 0, 0, []), (11, .aload_n 0, 1, 0, 0, 0, []), (12, .getfield 505, 3, 10, 65, 0, [1311]), (15, .iload_n 1, 1, 1, 0, 0, []), (16, .iadd, 1, 0, 0, 0, []), (17, .ldc_w 508, 3, 2147583648, 1917, 0, []), (20, .if_icmp .le 5, 3, 25, 0, 0, []), (23, .iconst (-1), 1, 2147483647, 0, 0, []), (24, .ireturn, 1, 0, 0, 0, []), (25, .aload_n 0, 1, 0, 0, 0, []), (26, .dup, 1, 0, 0, 0, []), (27, .getfield 505, 3, 10, 65, 0, [1311]), (30, .iload_n 1, 1, 1, 0, 0, []), (31, .iadd, 1, 0, 0, 0, []), (32, .putfield 505, 3, 10, 65, 0, [1311]), (35, .aload_n 0, 1, 0, 0, 0, []), (36, .getfield 505, 3, 10, 65, 0, [1311]), (39, .ireturn, 1, 0, 0, 0, [])]
def ex_p_X10_fits : List ex_P := [(0, .aload_n 0, 1, 0, 0, 0, []), (1, .invokevirtual 361, 3, 111, 1, 10, [1238, 0]), (4, .ifCond .ne 5, 3, 9, 0, 0, []), (7, .iconst 0, 1, 2147483648, 0, 0, []), (8, .ireturn, 1, 0, 0, 0, [])]
def ex_p_X10_sure : List ex_P := [(0, .iload_n 1, 1, 1, 0, 0, []), (1, .iconst 0, 1, 2147483648, 0, 0, []), (2, .iconst 1, 1, 2147483649, 0, 0, []), (3, .invokestatic 357, 3, 106, 3, 0, [1613, 0]), (6, .ifCond .eq 11, 3, 17, 0, 0, []), (9, .aload_n 0, 1, 0, 0, 0, []), (10, .iload_n 2, 1, 2, 0, 0, []), (11, .invokevirtual 515, 3, 172, 2, 10, [1934, 0]), (14, .ifCond .ne 5, 3, 19, 0, 0, []), (17, .iconst (-1), 1, 2147483647, 0, 0, []), (18, .ireturn, 1, 0, 0, 0, [])]
def ex_p_X10_ask : List ex_P := [(0, .iload_n 1, 1, 1, 0, 0, []), (1, .iconst 0, 1, 2147483648, 0, 0, []), (2, .iconst 1, 1, 2147483649, 0, 0, []), (3, .invokestatic 357, 3, 106, 3, 0, [1613, 0]), (6, .ifCond .eq 11, 3, 17, 0, 0, []), (9, .aload_n 0, 1, 0, 0, 0, []), (10, .iload_n 2, 1, 2, 0, 0, []), (11, .invokevirtual 515, 3, 172, 2, 10, [1934, 0]), (14, .ifCond .ne 5, 3, 19, 0, 0, []), (17, .iconst (-1), 1, 2147483647, 0, 0, []), (18, .ireturn, 1, 0, 0, 0, [])]
def ex_p_X10_image : List ex_P := [(0, .iload_n 1, 1, 1, 0, 0, []), (1, .iconst 0, 1, 2147483648, 0, 0, []), (2, .iconst 2, 1, 2147483650, 0, 0, []), (3, .invokestatic 357, 3, 106, 3, 0, [1613, 0]), (6, .ifCond .ne 5, 3, 11, 0, 0, []), (9, .iconst (-1), 1, 2147483647, 0, 0, []), (10, .ireturn, 1, 0, 0, 0, []), (11, .iconst 0, 1, 2147483648, 0, 0, []), (12, .istore_n 2, 1, 2, 0, 0, []), (13, .iload_n 2, 1, 2, 0, 0, []), (14, .bipush 46, 2, 2147483694, 0, 0, []), (16, .if_icmp .ge 26, 3, 42, 0, 0, []), (19, .aload_n 0, 1, 0, 0, 0, []), (20, .getfield 127, 3, 10, 66, 1, [1312]), (23, .bipush 46, 2, 2147483694, 0, 0, []), (25, .iload_n 1, 1, 1, 0, 0, []), (26, .imul, 1, 0, 0, 0, []), (27, .iload_n 2, 1, 2, 0, 0, []), (28, .iadd, 1, 0, 0, 0, []), (29, .aload_n 0, 1, 0, 0, 0, []), (30, .getfield 88, 3, 10, 43, 1, [1289]), (33, .iload_n 2, 1, 2, 0, 0, []), (34, .iaload, 1, 0, 0, 0, []), (35, .iastore, 1, 0, 0, 0, []), (36, .iinc 2 1, 3, 2, 1, 0, []), (39, .goto (-26), 3, 13, 0, 0, []), (42, .aload_n 0, 1, 0, 0, 0, []), (43, .getfield 130, 3, 10, 67, 1, [1313]), (46, .iload_n 1, 1, 1, 0, 0, []), (47, .iconst 1, 1, 2147483649, 0, 0, []), (48, .bastore, 1, 0, 0, 0, []), (49, .aload_n 0, 1, 0, 0, 0, []), (50, .getfield 88, 3, 10, 43, 1, [1289]), (53, .bipush 42, 2, 2147483690, 0, 0, []), (55, .iaload, 1, 0, 0, 0, []), (56, .ireturn, 1, 0, 0, 0, [])]
def ex_p_X10_back : List ex_P := [(0, .iload_n 1, 1, 1, 0, 0, []), (1, .iconst 0, 1, 2147483648, 0, 0, []), (2, .iconst 2, 1, 2147483650, 0, 0, []), (3, .invokestatic 357, 3, 106, 3, 0, [1613, 0]), (6, .ifCond .eq 12, 3, 18, 0, 0, []), (9, .aload_n 0, 1, 0, 0, 0, []), (10, .getfield 130, 3, 10, 67, 1, [1313]), (13, .iload_n 1, 1, 1, 0, 0, []), (14, .baload, 1, 0, 0, 0, []), (15, .ifCond .ne 5, 3, 20, 0, 0, []), (18, .iconst (-1), 1, 2147483647, 0, 0, []), (19, .ireturn, 1, 0, 0, 0, [])]
def ex_p_X10_about : List ex_P := [(0, .iload_n 1, 1, 1, 0, 0, []), (1, .tableswitch 184 0 15 #[79, 84, 89, 99, 104, 112, 120, 128, 136, 144, 149, 154, 159, 164, 169, 179], 79, 185, 2147483648, 0, [80, 85, 90, 100, 105, 113, 121, 129, 137, 145, 150, 155, 160, 165, 170, 180]), (80, .aload_n 0, 1, 0, 0, 0, []), (81, .invokevirtual 354, 3, 110, 1, 10, [1242, 0]), (84, .ireturn, 1, 0, 0, 0, []), (85, .aload_n 0, 1, 0, 0, 0, []), (86, .invokevirtual 361, 3, 111, 1, 10, [1238, 0]), (89, .ireturn, 1, 0, 0, 0, []), (90, .aload_n 0, 1, 0, 0, 0, []), (91, .getfield 20, 3, 10, 11, 1, [1257]), (94, .aload_n 0, 1, 0, 0, 0, []), (95, .getfield 254, 3, 10, 33, 0, [1279]), (98, .iaload, 1, 0, 0, 0, []), (99, .ireturn, 1, 0, 0, 0, []), (100, .aload_n 0, 1, 0, 0, 0, []), (101, .invokevirtual 471, 3, 119, 1, 10, [1787, 0]), (104, .ireturn, 1, 0, 0, 0, []), (105, .aload_n 0, 1, 0, 0, 0, []), (106, .getfield 88, 3, 10, 43, 1, [1289]), (109, .bipush 40, 2, 2147483688, 0, 0, []), (111, .iaload, 1, 0, 0, 0, []), (112, .ireturn, 1, 0, 0, 0, []), (113, .aload_n 0, 1, 0, 0, 0, []), (114, .getfield 88, 3, 10, 43, 1, [1289]), (117, .bipush 41, 2, 2147483689, 0, 0, []), (119, .iaload, 1, 0, 0, 0, []), (120, .ireturn, 1, 0, 0, 0, []), (121, .aload_n 0, 1, 0, 0, 0, []), (122, .getfield 88, 3, 10, 43, 1, [1289]), (125, .bipush 42, 2, 2147483690, 0, 0, []), (127, .iaload, 1, 0, 0, 0, []), (128, .ireturn, 1, 0, 0, 0, []), (129, .aload_n 0, 1, 0, 0, 0, []), (130, .getfield 88, 3, 10, 43, 1, [1289]), (133, .bipush 43, 2, 2147483691, 0, 0, []), (135, .iaload, 1, 0, 0, 0, []), (136, .ireturn, 1, 0, 0, 0, []), (137, .aload_n 0, 1, 0, 0, 0, []), (138, .getfield 88, 3, 10, 43, 1, [1289]), (141, .bipush 44, 2, 2147483692, 0, 0, []), (143, .iaload, 1, 0, 0, 0, []), (144, .ireturn, 1, 0, 0, 0, []), (145, .aload_n 0, 1, 0, 0, 0, []), (146, .getfield 373, 3, 10, 48, 0, [1294]), (149, .ireturn, 1, 0, 0, 0, []), (150, .aload_n 0, 1, 0, 0, 0, []), (151, .getfield 376, 3, 10, 49, 0, [1295]), (154, .ireturn, 1, 0, 0, 0, []), (155, .aload_n 0, 1, 0, 0, 0, []), (156, .getfield 379, 3, 10, 64, 0, [1310]), (159, .ireturn, 1, 0, 0, 0, []), (160, .aload_n 0, 1, 0, 0, 0, []), (161, .getfield 505, 3, 10, 65, 0, [1311]), (164, .ireturn, 1, 0, 0, 0, []), (165, .aload_n 0, 1, 0, 0, 0, []), (166, .getfield 251, 3, 10, 2, 0, [1248]), (169, .ireturn, 1, 0, 0, 0, []), (170, .aload_n 0, 1, 0, 0, 0, []), (171, .getfield 33, 3, 10, 15, 1, [1261]), (174, .aload_n 0, 1, 0, 0, 0, []), (175, .getfield 254, 3, 10, 33, 0, [1279]), (178, .iaload, 1, 0, 0, 0, []), (179, .ireturn, 1, 0, 0, 0, []), (180, .aload_n 0, 1, 0, 0, 0, []), (181, .getfield 382, 3, 10, 52, 0, [1298]), (184, .ireturn, 1, 0, 0, 0, []), (185, .iconst (-1), 1, 2147483647, 0, 0, []), (186, .ireturn, 1, 0, 0, 0, [])]
def ex_p_X10_feed : List ex_P := [(0, .aload_n 0, 1, 0, 0, 0, []), (1, .getfield 251, 3, 10, 2, 0, [1248]), (4, .bipush 20, 2, 2147483668, 0, 0, []), (6, .iadd, 1, 0, 0, 0, []), (7, .sipush 1600, 3, 2147485248, 0, 0, []), (10, .if_icmp .le 5, 3, 15, 0, 0, []), (15, .iconst 0, 1, 2147483648, 0, 0, []), (16, .istore 6, 2, 6, 0, 0, []), (18, .iload 6, 2, 6, 0, 0, []), (20, .bipush 20, 2, 2147483668, 0, 0, []), (22, .if_icmp .ge 83, 3, 105, 0, 0, []), (25, .iload 6, 2, 6, 0, 0, []), (27, .iconst 4, 1, 2147483652, 0, 0, []), (28, .if_icmp .ge 7, 3, 35, 0, 0, []), (31, .iload_n 1, 1, 1, 0, 0, []), (32, .goto 39, 3, 71, 0, 0, []), (35, .iload 6, 2, 6, 0, 0, []), (37, .bipush 8, 2, 2147483656, 0, 0, []), (39, .if_icmp .ge 7, 3, 46, 0, 0, []), (42, .iload_n 2, 1, 2, 0, 0, []), (43, .goto 28, 3, 71, 0, 0, []), (46, .iload 6, 2, 6, 0, 0, []), (48, .bipush 12, 2, 2147483660, 0, 0, []), (50, .if_icmp .ge 7, 3, 57, 0, 0, []), (53, .iload_n 3, 1, 3, 0, 0, []), (54, .goto 17, 3, 71, 0, 0, []), (57, .iload 6, 2, 6, 0, 0, []), (59, .bipush 16, 2, 2147483664, 0, 0, []), (61, .if_icmp .ge 8, 3, 69, 0, 0, []), (64, .iload 4, 2, 4, 0, 0, []), (66, .goto 5, 3, 71, 0, 0, []), (69, .iload 5, 2, 5, 0, 0, []), (71, .istore 7, 2, 7, 0, 0, []), (73, .aload_n 0, 1, 0, 0, 0, []), (74, .getfield 7, 3, 10, 0, 1, [1246]), (77, .aload_n 0, 1, 0, 0, 0, []), (78, .getfield 251, 3, 10, 2, 0, [1248]), (81, .iload 6, 2, 6, 0, 0, []), (83, .iadd, 1, 0, 0, 0, []), (84, .iload 7, 2, 7, 0, 0, []), (86, .bipush 24, 2, 2147483672, 0, 0, []), (88, .bipush 8, 2, 2147483656, 0, 0, []), (90, .iload 6, 2, 6, 0, 0, []), (92, .iconst 3, 1, 2147483651, 0, 0, []), (93, .iand, 1, 0, 0, 0, []), (94, .imul, 1, 0, 0, 0, []), (95, .isub, 1, 0, 0, 0, []), (96, .ishr, 1, 0, 0, 0, []), (97, .i2b, 1, 0, 0, 0, []), (98, .bastore, 1, 0, 0, 0, []), (99, .iinc 6 1, 3, 6, 1, 0, []), (102, .goto (-84), 3, 18, 0, 0, []), (105, .aload_n 0, 1, 0, 0, 0, []), (106, .dup, 1, 0, 0, 0, []), (107, .getfield 251, 3, 10, 2, 0, [1248]), (110, .bipush 20, 2, 2147483668, 0, 0, []), (112, .iadd, 1, 0, 0, 0, []), (113, .putfield 251, 3, 10, 2, 0, [1248]), (116, .aload_n 0, 1, 0, 0, 0, []), (117, .getfield 251, 3, 10, 2, 0, [1248]), (120, .ireturn, 1, 0, 0, 0, [])]
def ex_p_X10_end : List ex_P := [(0, .iload_n 1, 1, 1, 0, 0, []), (1, .ifCond .lt 11, 3, 12, 0, 0, []), (4, .iload_n 1, 1, 1, 0, 0, []), (5, .aload_n 0, 1, 0, 0, 0, []), (6, .getfield 251, 3, 10, 2, 0, [1248]), (9, .if_icmp .le 5, 3, 14, 0, 0, []), (12, .iconst (-1), 1, 2147483647, 0, 0, []), (13, .ireturn, 1, 0, 0, 0, []), (14, .aload_n 0, 1, 0, 0, 0, []), (15, .iload_n 1, 1, 1, 0, 0, []), (16, .putfield 251, 3, 10, 2, 0, [1248]), (19, .iload_n 1, 1, 1, 0, 0, []), (20, .ireturn, 1, 0, 0, 0, [])]
def ex_p_J7_fill_53178 : List ex_P := [(0, .iconst 0, 1, 2147483648, 0, 0, []), (1, .istore_n 2, 1, 2, 0, 0, []), (2, .aload_n 0, 1, 0, 0, 0, []), (3, .arraylength, 1, 0, 0, 0, []), (4, .istore_n 3, 1, 3, 0, 0, []), (5, .iload_n 2, 1, 2, 0, 0, []), (6, .iload_n 3, 1, 3, 0, 0, []), (7, .if_icmp .ge 13, 3, 20, 0, 0, []), (10, .aload_n 0, 1, 0, 0, 0, []), (11, .iload_n 2, 1, 2, 0, 0, []), (12, .iload_n 1, 1, 1, 0, 0, []), (13, .iastore, 1, 0, 0, 0, []), (14, .iinc 2 1, 3, 2, 1, 0, []), (17, .goto (-12), 3, 5, 0, 0, []), (20, .return_, 1, 0, 0, 0, [])]
def ex_p_L_law : List ex_P := [(0, .new 7, 3, 9, 15, 0, [131]), (3, .dup, 1, 0, 0, 0, []), (4, .invokespecial 9, 3, 35, 1, 0, [133, 0]), (7, .astore_n 1, 1, 1, 0, 0, []), (8, .new 10, 3, 10, 68, 0, [1220]), (11, .dup, 1, 0, 0, 0, []), (12, .invokespecial 12, 3, 99, 1, 0, [1222, 0]), (15, .astore_n 2, 1, 2, 0, 0, []), (16, .iconst 0, 1, 2147483648, 0, 0, []), (17, .istore_n 3, 1, 3, 0, 0, []), (18, .iload_n 3, 1, 3, 0, 0, []), (19, .aload_n 0, 1, 0, 0, 0, []), (20, .arraylength, 1, 0, 0, 0, []), (21, .bipush 6, 2, 2147483654, 0, 0, []), (23, .isub, 1, 0, 0, 0, []), (24, .if_icmp .gt 1563, 3, 1587, 0, 0, []), (27, .aload_n 0, 1, 0, 0, 0, []), (28, .iload_n 3, 1, 3, 0, 0, []), (29, .iaload, 1, 0, 0, 0, []), (30, .bipush 63, 2, 2147483711, 0, 0, []), (32, .iand, 1, 0, 0, 0, []), (33, .tableswitch 1548 0 50 #[219, 282, 305, 318, 341, 374, 407, 430, 453, 476, 489, 512, 545, 578, 601, 624, 637, 650, 683, 706, 729, 762, 795, 808, 841, 864, 897, 920, 953, 976, 1009, 1032, 1065, 1098, 1131, 1144, 1157, 1170, 1193, 1206, 1229, 1262, 1285, 1344, 1367, 1390, 1413, 1446, 1479, 1502, 1525], 219, 1581, 2147483648, 0, [252, 315, 338, 351, 374, 407, 440, 463, 486, 509, 522, 545, 578, 611, 634, 657, 670, 683, 716, 739, 762, 795, 828, 841, 874, 897, 930, 953, 986, 1009, 1042, 1065, 1098, 1131, 1164, 1177, 1190, 1203, 1226, 1239, 1262, 1295, 1318, 1377, 1400, 1423, 1446, 1479, 1512, 1535, 1558]), (252, .aload_n 1, 1, 1, 0, 0, []), (253, .aload_n 0, 1, 0, 0, 0, []), (254, .iload_n 3, 1, 3, 0, 0, []), (255, .iconst 1, 1, 2147483649, 0, 0, []), (256, .iadd, 1, 0, 0, 0, []), (257, .iaload, 1, 0, 0, 0, []), (258, .aload_n 0, 1, 0, 0, 0, []), (259, .iload_n 3, 1, 3, 0, 0, []), (260, .iconst 2, 1, 2147483650, 0, 0, []), (261, .iadd, 1, 0, 0, 0, []), (262, .iaload, 1, 0, 0, 0, []), (263, .aload_n 0, 1, 0, 0, 0, []), (264, .iload_n 3, 1, 3, 0, 0, []), (265, .iconst 3, 1, 2147483651, 0, 0, []), (266, .iadd, 1, 0, 0, 0, []), (267, .iaload, 1, 0, 0, 0, []), (268, .aload_n 0, 1, 0, 0, 0, []), (269, .iload_n 3, 1, 3, 0, 0, []), (270, .iconst 4, 1, 2147483652, 0, 0, []), (271, .iadd, 1, 0, 0, 0, []), (272, .iaload, 1, 0, 0, 0, []), (273, .aload_n 0, 1, 0, 0, 0, []), (274, .iload_n 3, 1, 3, 0, 0, []), (275, .iconst 5, 1, 2147483653, 0, 0, []), (276, .iadd, 1, 0, 0, 0, []), (277, .iaload, 1, 0, 0, 0, []), (278, .invokevirtual 13, 3, 36, 6, 9, [581, 0]), (281, .aload_n 2, 1, 2, 0, 0, []), (282, .aload_n 0, 1, 0, 0, 0, []), (283, .iload_n 3, 1, 3, 0, 0, []), (284, .iconst 1, 1, 2147483649, 0, 0, []), (285, .iadd, 1, 0, 0, 0, []), (286, .iaload, 1, 0, 0, 0, []), (287, .aload_n 0, 1, 0, 0, 0, []), (288, .iload_n 3, 1, 3, 0, 0, []), (289, .iconst 2, 1, 2147483650, 0, 0, []), (290, .iadd, 1, 0, 0, 0, []), (291, .iaload, 1, 0, 0, 0, []), (292, .aload_n 0, 1, 0, 0, 0, []), (293, .iload_n 3, 1, 3, 0, 0, []), (294, .iconst 3, 1, 2147483651, 0, 0, []), (295, .iadd, 1, 0, 0, 0, []), (296, .iaload, 1, 0, 0, 0, []), (297, .aload_n 0, 1, 0, 0, 0, []), (298, .iload_n 3, 1, 3, 0, 0, []), (299, .iconst 4, 1, 2147483652, 0, 0, []), (300, .iadd, 1, 0, 0, 0, []), (301, .iaload, 1, 0, 0, 0, []), (302, .aload_n 0, 1, 0, 0, 0, []), (303, .iload_n 3, 1, 3, 0, 0, []), (304, .iconst 5, 1, 2147483653, 0, 0, []), (305, .iadd, 1, 0, 0, 0, []), (306, .iaload, 1, 0, 0, 0, []), (307, .invokevirtual 17, 3, 178, 6, 10, [1955, 0]), (310, .if_icmp .eq 1271, 3, 1581, 0, 0, []), (315, .aload_n 1, 1, 1, 0, 0, []), (316, .aload_n 0, 1, 0, 0, 0, []), (317, .iload_n 3, 1, 3, 0, 0, []), (318, .iconst 1, 1, 2147483649, 0, 0, []), (319, .iadd, 1, 0, 0, 0, []), (320, .iaload, 1, 0, 0, 0, []), (321, .invokevirtual 18, 3, 37, 2, 9, [589, 0]), (324, .aload_n 2, 1, 2, 0, 0, []), (325, .aload_n 0, 1, 0, 0, 0, []), (326, .iload_n 3, 1, 3, 0, 0, []), (327, .iconst 1, 1, 2147483649, 0, 0, []), (328, .iadd, 1, 0, 0, 0, []), (329, .iaload, 1, 0, 0, 0, []), (330, .invokevirtual 22, 3, 179, 2, 10, [1959, 0]), (333, .if_icmp .eq 1248, 3, 1581, 0, 0, []), (338, .aload_n 1, 1, 1, 0, 0, []), (339, .invokevirtual 23, 3, 38, 1, 9, [593, 0]), (342, .aload_n 2, 1, 2, 0, 0, []), (343, .invokevirtual 27, 3, 104, 1, 10, [1451, 0]), (346, .if_icmp .eq 1235, 3, 1581, 0, 0, []), (351, .aload_n 1, 1, 1, 0, 0, []), (352, .aload_n 0, 1, 0, 0, 0, []), (353, .iload_n 3, 1, 3, 0, 0, []), (354, .iconst 1, 1, 2147483649, 0, 0, []), (355, .iadd, 1, 0, 0, 0, []), (356, .iaload, 1, 0, 0, 0, []), (357, .invokevirtual 28, 3, 39, 2, 9, [828, 0]), (360, .aload_n 2, 1, 2, 0, 0, []), (361, .aload_n 0, 1, 0, 0, 0, []), (362, .iload_n 3, 1, 3, 0, 0, []), (363, .iconst 1, 1, 2147483649, 0, 0, []), (364, .iadd, 1, 0, 0, 0, []), (365, .iaload, 1, 0, 0, 0, []), (366, .invokevirtual 31, 3, 105, 2, 10, [1601, 0]), (369, .if_icmp .eq 1212, 3, 1581, 0, 0, []), (374, .aload_n 1, 1, 1, 0, 0, []), (375, .aload_n 0, 1, 0, 0, 0, []), (376, .iload_n 3, 1, 3, 0, 0, []), (377, .iconst 1, 1, 2147483649, 0, 0, []), (378, .iadd, 1, 0, 0, 0, []), (379, .iaload, 1, 0, 0, 0, []), (380, .aload_n 0, 1, 0, 0, 0, []), (381, .iload_n 3, 1, 3, 0, 0, []), (382, .iconst 2, 1, 2147483650, 0, 0, []), (383, .iadd, 1, 0, 0, 0, []), (384, .iaload, 1, 0, 0, 0, []), (385, .invokevirtual 32, 3, 41, 3, 9, [832, 0]), (388, .aload_n 2, 1, 2, 0, 0, []), (389, .aload_n 0, 1, 0, 0, 0, []), (390, .iload_n 3, 1, 3, 0, 0, []), (391, .iconst 1, 1, 2147483649, 0, 0, []), (392, .iadd, 1, 0, 0, 0, []), (393, .iaload, 1, 0, 0, 0, []), (394, .aload_n 0, 1, 0, 0, 0, []), (395, .iload_n 3, 1, 3, 0, 0, []), (396, .iconst 2, 1, 2147483650, 0, 0, []), (397, .iadd, 1, 0, 0, 0, []), (398, .iaload, 1, 0, 0, 0, []), (399, .invokevirtual 36, 3, 125, 3, 10, [1605, 0]), (402, .if_icmp .eq 1179, 3, 1581, 0, 0, []), (407, .aload_n 1, 1, 1, 0, 0, []), (408, .aload_n 0, 1, 0, 0, 0, []), (409, .iload_n 3, 1, 3, 0, 0, []), (410, .iconst 1, 1, 2147483649, 0, 0, []), (411, .iadd, 1, 0, 0, 0, []), (412, .iaload, 1, 0, 0, 0, []), (413, .aload_n 0, 1, 0, 0, 0, []), (414, .iload_n 3, 1, 3, 0, 0, []), (415, .iconst 2, 1, 2147483650, 0, 0, []), (416, .iadd, 1, 0, 0, 0, []), (417, .iaload, 1, 0, 0, 0, []), (418, .invokevirtual 37, 3, 42, 3, 9, [844, 0]), (421, .aload_n 2, 1, 2, 0, 0, []), (422, .aload_n 0, 1, 0, 0, 0, []), (423, .iload_n 3, 1, 3, 0, 0, []), (424, .iconst 1, 1, 2147483649, 0, 0, []), (425, .iadd, 1, 0, 0, 0, []), (426, .iaload, 1, 0, 0, 0, []), (427, .aload_n 0, 1, 0, 0, 0, []), (428, .iload_n 3, 1, 3, 0, 0, []), (429, .iconst 2, 1, 2147483650, 0, 0, []), (430, .iadd, 1, 0, 0, 0, []), (431, .iaload, 1, 0, 0, 0, []), (432, .invokevirtual 40, 3, 126, 3, 10, [1624, 0]), (435, .if_icmp .eq 1146, 3, 1581, 0, 0, []), (440, .aload_n 1, 1, 1, 0, 0, []), (441, .aload_n 0, 1, 0, 0, 0, []), (442, .iload_n 3, 1, 3, 0, 0, []), (443, .iconst 1, 1, 2147483649, 0, 0, []), (444, .iadd, 1, 0, 0, 0, []), (445, .iaload, 1, 0, 0, 0, []), (446, .invokevirtual 41, 3, 43, 2, 9, [852, 0]), (449, .aload_n 2, 1, 2, 0, 0, []), (450, .aload_n 0, 1, 0, 0, 0, []), (451, .iload_n 3, 1, 3, 0, 0, []), (452, .iconst 1, 1, 2147483649, 0, 0, []), (453, .iadd, 1, 0, 0, 0, []), (454, .iaload, 1, 0, 0, 0, []), (455, .invokevirtual 44, 3, 127, 2, 10, [1636, 0]), (458, .if_icmp .eq 1123, 3, 1581, 0, 0, []), (463, .aload_n 1, 1, 1, 0, 0, []), (464, .aload_n 0, 1, 0, 0, 0, []), (465, .iload_n 3, 1, 3, 0, 0, []), (466, .iconst 1, 1, 2147483649, 0, 0, []), (467, .iadd, 1, 0, 0, 0, []), (468, .iaload, 1, 0, 0, 0, []), (469, .invokevirtual 45, 3, 44, 2, 9, [882, 0]), (472, .aload_n 2, 1, 2, 0, 0, []), (473, .aload_n 0, 1, 0, 0, 0, []), (474, .iload_n 3, 1, 3, 0, 0, []), (475, .iconst 1, 1, 2147483649, 0, 0, []), (476, .iadd, 1, 0, 0, 0, []), (477, .iaload, 1, 0, 0, 0, []), (478, .invokevirtual 48, 3, 128, 2, 10, [1676, 0]), (481, .if_icmp .eq 1100, 3, 1581, 0, 0, []), (486, .aload_n 1, 1, 1, 0, 0, []), (487, .aload_n 0, 1, 0, 0, 0, []), (488, .iload_n 3, 1, 3, 0, 0, []), (489, .iconst 1, 1, 2147483649, 0, 0, []), (490, .iadd, 1, 0, 0, 0, []), (491, .iaload, 1, 0, 0, 0, []), (492, .invokevirtual 49, 3, 45, 2, 9, [895, 0]), (495, .aload_n 2, 1, 2, 0, 0, []), (496, .aload_n 0, 1, 0, 0, 0, []), (497, .iload_n 3, 1, 3, 0, 0, []), (498, .iconst 1, 1, 2147483649, 0, 0, []), (499, .iadd, 1, 0, 0, 0, []), (500, .iaload, 1, 0, 0, 0, []), (501, .invokevirtual 52, 3, 129, 2, 10, [1687, 0]), (504, .if_icmp .eq 1077, 3, 1581, 0, 0, []), (509, .aload_n 1, 1, 1, 0, 0, []), (510, .invokevirtual 53, 3, 58, 1, 9, [932, 0]), (513, .aload_n 2, 1, 2, 0, 0, []), (514, .invokevirtual 56, 3, 136, 1, 10, [1735, 0]), (517, .if_icmp .eq 1064, 3, 1581, 0, 0, []), (522, .aload_n 1, 1, 1, 0, 0, []), (523, .aload_n 0, 1, 0, 0, 0, []), (524, .iload_n 3, 1, 3, 0, 0, []), (525, .iconst 1, 1, 2147483649, 0, 0, []), (526, .iadd, 1, 0, 0, 0, []), (527, .iaload, 1, 0, 0, 0, []), (528, .invokevirtual 57, 3, 59, 2, 9, [968, 0]), (531, .aload_n 2, 1, 2, 0, 0, []), (532, .aload_n 0, 1, 0, 0, 0, []), (533, .iload_n 3, 1, 3, 0, 0, []), (534, .iconst 1, 1, 2147483649, 0, 0, []), (535, .iadd, 1, 0, 0, 0, []), (536, .iaload, 1, 0, 0, 0, []), (537, .invokevirtual 60, 3, 135, 2, 10, [1715, 0]), (540, .if_icmp .eq 1041, 3, 1581, 0, 0, []), (545, .aload_n 1, 1, 1, 0, 0, []), (546, .aload_n 0, 1, 0, 0, 0, []), (547, .iload_n 3, 1, 3, 0, 0, []), (548, .iconst 1, 1, 2147483649, 0, 0, []), (549, .iadd, 1, 0, 0, 0, []), (550, .iaload, 1, 0, 0, 0, []), (551, .aload_n 0, 1, 0, 0, 0, []), (552, .iload_n 3, 1, 3, 0, 0, []), (553, .iconst 2, 1, 2147483650, 0, 0, []), (554, .iadd, 1, 0, 0, 0, []), (555, .iaload, 1, 0, 0, 0, []), (556, .invokevirtual 61, 3, 61, 3, 9, [972, 0]), (559, .aload_n 2, 1, 2, 0, 0, []), (560, .aload_n 0, 1, 0, 0, 0, []), (561, .iload_n 3, 1, 3, 0, 0, []), (562, .iconst 1, 1, 2147483649, 0, 0, []), (563, .iadd, 1, 0, 0, 0, []), (564, .iaload, 1, 0, 0, 0, []), (565, .aload_n 0, 1, 0, 0, 0, []), (566, .iload_n 3, 1, 3, 0, 0, []), (567, .iconst 2, 1, 2147483650, 0, 0, []), (568, .iadd, 1, 0, 0, 0, []), (569, .iaload, 1, 0, 0, 0, []), (570, .invokevirtual 64, 3, 137, 3, 10, [1740, 0]), (573, .if_icmp .eq 1008, 3, 1581, 0, 0, []), (578, .aload_n 1, 1, 1, 0, 0, []), (579, .aload_n 0, 1, 0, 0, 0, []), (580, .iload_n 3, 1, 3, 0, 0, []), (581, .iconst 1, 1, 2147483649, 0, 0, []), (582, .iadd, 1, 0, 0, 0, []), (583, .iaload, 1, 0, 0, 0, []), (584, .aload_n 0, 1, 0, 0, 0, []), (585, .iload_n 3, 1, 3, 0, 0, []), (586, .iconst 2, 1, 2147483650, 0, 0, []), (587, .iadd, 1, 0, 0, 0, []), (588, .iaload, 1, 0, 0, 0, []), (589, .invokevirtual 65, 3, 62, 3, 9, [984, 0]), (592, .aload_n 2, 1, 2, 0, 0, []), (593, .aload_n 0, 1, 0, 0, 0, []), (594, .iload_n 3, 1, 3, 0, 0, []), (595, .iconst 1, 1, 2147483649, 0, 0, []), (596, .iadd, 1, 0, 0, 0, []), (597, .iaload, 1, 0, 0, 0, []), (598, .aload_n 0, 1, 0, 0, 0, []), (599, .iload_n 3, 1, 3, 0, 0, []), (600, .iconst 2, 1, 2147483650, 0, 0, []), (601, .iadd, 1, 0, 0, 0, []), (602, .iaload, 1, 0, 0, 0, []), (603, .invokevirtual 68, 3, 138, 3, 10, [1744, 0]), (606, .if_icmp .eq 975, 3, 1581, 0, 0, []), (611, .aload_n 1, 1, 1, 0, 0, []), (612, .aload_n 0, 1, 0, 0, 0, []), (613, .iload_n 3, 1, 3, 0, 0, []), (614, .iconst 1, 1, 2147483649, 0, 0, []), (615, .iadd, 1, 0, 0, 0, []), (616, .iaload, 1, 0, 0, 0, []), (617, .invokevirtual 69, 3, 63, 2, 9, [992, 0]), (620, .aload_n 2, 1, 2, 0, 0, []), (621, .aload_n 0, 1, 0, 0, 0, []), (622, .iload_n 3, 1, 3, 0, 0, []), (623, .iconst 1, 1, 2147483649, 0, 0, []), (624, .iadd, 1, 0, 0, 0, []), (625, .iaload, 1, 0, 0, 0, []), (626, .invokevirtual 72, 3, 139, 2, 10, [1748, 0]), (629, .if_icmp .eq 952, 3, 1581, 0, 0, []), (634, .aload_n 1, 1, 1, 0, 0, []), (635, .aload_n 0, 1, 0, 0, 0, []), (636, .iload_n 3, 1, 3, 0, 0, []), (637, .iconst 1, 1, 2147483649, 0, 0, []), (638, .iadd, 1, 0, 0, 0, []), (639, .iaload, 1, 0, 0, 0, []), (640, .invokevirtual 73, 3, 64, 2, 9, [996, 0]), (643, .aload_n 2, 1, 2, 0, 0, []), (644, .aload_n 0, 1, 0, 0, 0, []), (645, .iload_n 3, 1, 3, 0, 0, []), (646, .iconst 1, 1, 2147483649, 0, 0, []), (647, .iadd, 1, 0, 0, 0, []), (648, .iaload, 1, 0, 0, 0, []), (649, .invokevirtual 76, 3, 140, 2, 10, [1752, 0]), (652, .if_icmp .eq 929, 3, 1581, 0, 0, []), (657, .aload_n 1, 1, 1, 0, 0, []), (658, .invokevirtual 77, 3, 65, 1, 9, [1000, 0]), (661, .aload_n 2, 1, 2, 0, 0, []), (662, .invokevirtual 81, 3, 141, 1, 10, [1756, 0]), (665, .if_icmp .eq 916, 3, 1581, 0, 0, []), (670, .aload_n 1, 1, 1, 0, 0, []), (671, .invokevirtual 82, 3, 66, 1, 9, [1008, 0]), (674, .aload_n 2, 1, 2, 0, 0, []), (675, .invokevirtual 85, 3, 142, 1, 10, [1764, 0]), (678, .if_icmp .eq 903, 3, 1581, 0, 0, []), (683, .aload_n 1, 1, 1, 0, 0, []), (684, .aload_n 0, 1, 0, 0, 0, []), (685, .iload_n 3, 1, 3, 0, 0, []), (686, .iconst 1, 1, 2147483649, 0, 0, []), (687, .iadd, 1, 0, 0, 0, []), (688, .iaload, 1, 0, 0, 0, []), (689, .aload_n 0, 1, 0, 0, 0, []), (690, .iload_n 3, 1, 3, 0, 0, []), (691, .iconst 2, 1, 2147483650, 0, 0, []), (692, .iadd, 1, 0, 0, 0, []), (693, .iaload, 1, 0, 0, 0, []), (694, .invokevirtual 86, 3, 69, 3, 9, [1025, 0]), (697, .aload_n 2, 1, 2, 0, 0, []), (698, .aload_n 0, 1, 0, 0, 0, []), (699, .iload_n 3, 1, 3, 0, 0, []), (700, .iconst 1, 1, 2147483649, 0, 0, []), (701, .iadd, 1, 0, 0, 0, []), (702, .iaload, 1, 0, 0, 0, []), (703, .aload_n 0, 1, 0, 0, 0, []), (704, .iload_n 3, 1, 3, 0, 0, []), (705, .iconst 2, 1, 2147483650, 0, 0, []), (706, .iadd, 1, 0, 0, 0, []), (707, .iaload, 1, 0, 0, 0, []), (708, .invokevirtual 89, 3, 147, 3, 10, [1772, 0]), (711, .if_icmp .eq 870, 3, 1581, 0, 0, []), (716, .aload_n 1, 1, 1, 0, 0, []), (717, .aload_n 0, 1, 0, 0, 0, []), (718, .iload_n 3, 1, 3, 0, 0, []), (719, .iconst 1, 1, 2147483649, 0, 0, []), (720, .iadd, 1, 0, 0, 0, []), (721, .iaload, 1, 0, 0, 0, []), (722, .invokevirtual 90, 3, 70, 2, 9, [1035, 0]), (725, .aload_n 2, 1, 2, 0, 0, []), (726, .aload_n 0, 1, 0, 0, 0, []), (727, .iload_n 3, 1, 3, 0, 0, []), (728, .iconst 1, 1, 2147483649, 0, 0, []), (729, .iadd, 1, 0, 0, 0, []), (730, .iaload, 1, 0, 0, 0, []), (731, .invokevirtual 93, 3, 153, 2, 10, [1819, 0]), (734, .if_icmp .eq 847, 3, 1581, 0, 0, []), (739, .aload_n 1, 1, 1, 0, 0, []), (740, .aload_n 0, 1, 0, 0, 0, []), (741, .iload_n 3, 1, 3, 0, 0, []), (742, .iconst 1, 1, 2147483649, 0, 0, []), (743, .iadd, 1, 0, 0, 0, []), (744, .iaload, 1, 0, 0, 0, []), (745, .invokevirtual 94, 3, 72, 2, 9, [1043, 0]), (748, .aload_n 2, 1, 2, 0, 0, []), (749, .aload_n 0, 1, 0, 0, 0, []), (750, .iload_n 3, 1, 3, 0, 0, []), (751, .iconst 1, 1, 2147483649, 0, 0, []), (752, .iadd, 1, 0, 0, 0, []), (753, .iaload, 1, 0, 0, 0, []), (754, .invokevirtual 97, 3, 148, 2, 10, [1795, 0]), (757, .if_icmp .eq 824, 3, 1581, 0, 0, []), (762, .aload_n 1, 1, 1, 0, 0, []), (763, .aload_n 0, 1, 0, 0, 0, []), (764, .iload_n 3, 1, 3, 0, 0, []), (765, .iconst 1, 1, 2147483649, 0, 0, []), (766, .iadd, 1, 0, 0, 0, []), (767, .iaload, 1, 0, 0, 0, []), (768, .aload_n 0, 1, 0, 0, 0, []), (769, .iload_n 3, 1, 3, 0, 0, []), (770, .iconst 2, 1, 2147483650, 0, 0, []), (771, .iadd, 1, 0, 0, 0, []), (772, .iaload, 1, 0, 0, 0, []), (773, .invokevirtual 98, 3, 85, 3, 9, [1119, 0]), (776, .aload_n 2, 1, 2, 0, 0, []), (777, .aload_n 0, 1, 0, 0, 0, []), (778, .iload_n 3, 1, 3, 0, 0, []), (779, .iconst 1, 1, 2147483649, 0, 0, []), (780, .iadd, 1, 0, 0, 0, []), (781, .iaload, 1, 0, 0, 0, []), (782, .aload_n 0, 1, 0, 0, 0, []), (783, .iload_n 3, 1, 3, 0, 0, []), (784, .iconst 2, 1, 2147483650, 0, 0, []), (785, .iadd, 1, 0, 0, 0, []), (786, .iaload, 1, 0, 0, 0, []), (787, .invokevirtual 101, 3, 161, 3, 10, [1858, 0]), (790, .if_icmp .eq 791, 3, 1581, 0, 0, []), (795, .aload_n 1, 1, 1, 0, 0, []), (796, .aload_n 0, 1, 0, 0, 0, []), (797, .iload_n 3, 1, 3, 0, 0, []), (798, .iconst 1, 1, 2147483649, 0, 0, []), (799, .iadd, 1, 0, 0, 0, []), (800, .iaload, 1, 0, 0, 0, []), (801, .aload_n 0, 1, 0, 0, 0, []), (802, .iload_n 3, 1, 3, 0, 0, []), (803, .iconst 2, 1, 2147483650, 0, 0, []), (804, .iadd, 1, 0, 0, 0, []), (805, .iaload, 1, 0, 0, 0, []), (806, .invokevirtual 102, 3, 86, 3, 9, [1131, 0]), (809, .aload_n 2, 1, 2, 0, 0, []), (810, .aload_n 0, 1, 0, 0, 0, []), (811, .iload_n 3, 1, 3, 0, 0, []), (812, .iconst 1, 1, 2147483649, 0, 0, []), (813, .iadd, 1, 0, 0, 0, []), (814, .iaload, 1, 0, 0, 0, []), (815, .aload_n 0, 1, 0, 0, 0, []), (816, .iload_n 3, 1, 3, 0, 0, []), (817, .iconst 2, 1, 2147483650, 0, 0, []), (818, .iadd, 1, 0, 0, 0, []), (819, .iaload, 1, 0, 0, 0, []), (820, .invokevirtual 105, 3, 162, 3, 10, [1866, 0]), (823, .if_icmp .eq 758, 3, 1581, 0, 0, []), (828, .aload_n 1, 1, 1, 0, 0, []), (829, .invokevirtual 106, 3, 82, 1, 9, [1099, 0]), (832, .aload_n 2, 1, 2, 0, 0, []), (833, .invokevirtual 109, 3, 160, 1, 10, [1847, 0]), (836, .if_icmp .eq 745, 3, 1581, 0, 0, []), (841, .aload_n 1, 1, 1, 0, 0, []), (842, .aload_n 0, 1, 0, 0, 0, []), (843, .iload_n 3, 1, 3, 0, 0, []), (844, .iconst 1, 1, 2147483649, 0, 0, []), (845, .iadd, 1, 0, 0, 0, []), (846, .iaload, 1, 0, 0, 0, []), (847, .aload_n 0, 1, 0, 0, 0, []), (848, .iload_n 3, 1, 3, 0, 0, []), (849, .iconst 2, 1, 2147483650, 0, 0, []), (850, .iadd, 1, 0, 0, 0, []), (851, .iaload, 1, 0, 0, 0, []), (852, .invokevirtual 110, 3, 81, 3, 9, [1095, 0]), (855, .aload_n 2, 1, 2, 0, 0, []), (856, .aload_n 0, 1, 0, 0, 0, []), (857, .iload_n 3, 1, 3, 0, 0, []), (858, .iconst 1, 1, 2147483649, 0, 0, []), (859, .iadd, 1, 0, 0, 0, []), (860, .iaload, 1, 0, 0, 0, []), (861, .aload_n 0, 1, 0, 0, 0, []), (862, .iload_n 3, 1, 3, 0, 0, []), (863, .iconst 2, 1, 2147483650, 0, 0, []), (864, .iadd, 1, 0, 0, 0, []), (865, .iaload, 1, 0, 0, 0, []), (866, .invokevirtual 113, 3, 157, 3, 10, [1839, 0]), (869, .if_icmp .eq 712, 3, 1581, 0, 0, []), (874, .aload_n 1, 1, 1, 0, 0, []), (875, .aload_n 0, 1, 0, 0, 0, []), (876, .iload_n 3, 1, 3, 0, 0, []), (877, .iconst 1, 1, 2147483649, 0, 0, []), (878, .iadd, 1, 0, 0, 0, []), (879, .iaload, 1, 0, 0, 0, []), (880, .invokevirtual 114, 3, 49, 2, 9, [916, 0]), (883, .aload_n 2, 1, 2, 0, 0, []), (884, .aload_n 0, 1, 0, 0, 0, []), (885, .iload_n 3, 1, 3, 0, 0, []), (886, .iconst 1, 1, 2147483649, 0, 0, []), (887, .iadd, 1, 0, 0, 0, []), (888, .iaload, 1, 0, 0, 0, []), (889, .invokevirtual 117, 3, 133, 2, 10, [1711, 0]), (892, .if_icmp .eq 689, 3, 1581, 0, 0, []), (897, .aload_n 1, 1, 1, 0, 0, []), (898, .aload_n 0, 1, 0, 0, 0, []), (899, .iload_n 3, 1, 3, 0, 0, []), (900, .iconst 1, 1, 2147483649, 0, 0, []), (901, .iadd, 1, 0, 0, 0, []), (902, .iaload, 1, 0, 0, 0, []), (903, .aload_n 0, 1, 0, 0, 0, []), (904, .iload_n 3, 1, 3, 0, 0, []), (905, .iconst 2, 1, 2147483650, 0, 0, []), (906, .iadd, 1, 0, 0, 0, []), (907, .iaload, 1, 0, 0, 0, []), (908, .invokevirtual 118, 3, 84, 3, 9, [1107, 0]), (911, .aload_n 2, 1, 2, 0, 0, []), (912, .aload_n 0, 1, 0, 0, 0, []), (913, .iload_n 3, 1, 3, 0, 0, []), (914, .iconst 1, 1, 2147483649, 0, 0, []), (915, .iadd, 1, 0, 0, 0, []), (916, .iaload, 1, 0, 0, 0, []), (917, .aload_n 0, 1, 0, 0, 0, []), (918, .iload_n 3, 1, 3, 0, 0, []), (919, .iconst 2, 1, 2147483650, 0, 0, []), (920, .iadd, 1, 0, 0, 0, []), (921, .iaload, 1, 0, 0, 0, []), (922, .invokevirtual 121, 3, 167, 3, 10, [1886, 0]), (925, .if_icmp .eq 656, 3, 1581, 0, 0, []), (930, .aload_n 1, 1, 1, 0, 0, []), (931, .aload_n 0, 1, 0, 0, 0, []), (932, .iload_n 3, 1, 3, 0, 0, []), (933, .iconst 1, 1, 2147483649, 0, 0, []), (934, .iadd, 1, 0, 0, 0, []), (935, .iaload, 1, 0, 0, 0, []), (936, .invokevirtual 122, 3, 76, 2, 9, [1067, 0]), (939, .aload_n 2, 1, 2, 0, 0, []), (940, .aload_n 0, 1, 0, 0, 0, []), (941, .iload_n 3, 1, 3, 0, 0, []), (942, .iconst 1, 1, 2147483649, 0, 0, []), (943, .iadd, 1, 0, 0, 0, []), (944, .iaload, 1, 0, 0, 0, []), (945, .invokevirtual 125, 3, 151, 2, 10, [1807, 0]), (948, .if_icmp .eq 633, 3, 1581, 0, 0, []), (953, .aload_n 1, 1, 1, 0, 0, []), (954, .aload_n 0, 1, 0, 0, 0, []), (955, .iload_n 3, 1, 3, 0, 0, []), (956, .iconst 1, 1, 2147483649, 0, 0, []), (957, .iadd, 1, 0, 0, 0, []), (958, .iaload, 1, 0, 0, 0, []), (959, .aload_n 0, 1, 0, 0, 0, []), (960, .iload_n 3, 1, 3, 0, 0, []), (961, .iconst 2, 1, 2147483650, 0, 0, []), (962, .iadd, 1, 0, 0, 0, []), (963, .iaload, 1, 0, 0, 0, []), (964, .invokevirtual 126, 3, 87, 3, 9, [1135, 0]), (967, .aload_n 2, 1, 2, 0, 0, []), (968, .aload_n 0, 1, 0, 0, 0, []), (969, .iload_n 3, 1, 3, 0, 0, []), (970, .iconst 1, 1, 2147483649, 0, 0, []), (971, .iadd, 1, 0, 0, 0, []), (972, .iaload, 1, 0, 0, 0, []), (973, .aload_n 0, 1, 0, 0, 0, []), (974, .iload_n 3, 1, 3, 0, 0, []), (975, .iconst 2, 1, 2147483650, 0, 0, []), (976, .iadd, 1, 0, 0, 0, []), (977, .iaload, 1, 0, 0, 0, []), (978, .invokevirtual 129, 3, 163, 3, 10, [1870, 0]), (981, .if_icmp .eq 600, 3, 1581, 0, 0, []), (986, .aload_n 1, 1, 1, 0, 0, []), (987, .aload_n 0, 1, 0, 0, 0, []), (988, .iload_n 3, 1, 3, 0, 0, []), (989, .iconst 1, 1, 2147483649, 0, 0, []), (990, .iadd, 1, 0, 0, 0, []), (991, .iaload, 1, 0, 0, 0, []), (992, .invokevirtual 130, 3, 79, 2, 9, [1087, 0]), (995, .aload_n 2, 1, 2, 0, 0, []), (996, .aload_n 0, 1, 0, 0, 0, []), (997, .iload_n 3, 1, 3, 0, 0, []), (998, .iconst 1, 1, 2147483649, 0, 0, []), (999, .iadd, 1, 0, 0, 0, []), (1000, .iaload, 1, 0, 0, 0, []), (1001, .invokevirtual 133, 3, 154, 2, 10, [1827, 0]), (1004, .if_icmp .eq 577, 3, 1581, 0, 0, []), (1009, .aload_n 1, 1, 1, 0, 0, []), (1010, .aload_n 0, 1, 0, 0, 0, []), (1011, .iload_n 3, 1, 3, 0, 0, []), (1012, .iconst 1, 1, 2147483649, 0, 0, []), (1013, .iadd, 1, 0, 0, 0, []), (1014, .iaload, 1, 0, 0, 0, []), (1015, .aload_n 0, 1, 0, 0, 0, []), (1016, .iload_n 3, 1, 3, 0, 0, []), (1017, .iconst 2, 1, 2147483650, 0, 0, []), (1018, .iadd, 1, 0, 0, 0, []), (1019, .iaload, 1, 0, 0, 0, []), (1020, .invokevirtual 134, 3, 80, 3, 9, [1091, 0]), (1023, .aload_n 2, 1, 2, 0, 0, []), (1024, .aload_n 0, 1, 0, 0, 0, []), (1025, .iload_n 3, 1, 3, 0, 0, []), (1026, .iconst 1, 1, 2147483649, 0, 0, []), (1027, .iadd, 1, 0, 0, 0, []), (1028, .iaload, 1, 0, 0, 0, []), (1029, .aload_n 0, 1, 0, 0, 0, []), (1030, .iload_n 3, 1, 3, 0, 0, []), (1031, .iconst 2, 1, 2147483650, 0, 0, []), (1032, .iadd, 1, 0, 0, 0, []), (1033, .iaload, 1, 0, 0, 0, []), (1034, .invokevirtual 137, 3, 152, 3, 10, [1815, 0]), (1037, .if_icmp .eq 544, 3, 1581, 0, 0, []), (1042, .aload_n 1, 1, 1, 0, 0, []), (1043, .aload_n 0, 1, 0, 0, 0, []), (1044, .iload_n 3, 1, 3, 0, 0, []), (1045, .iconst 1, 1, 2147483649, 0, 0, []), (1046, .iadd, 1, 0, 0, 0, []), (1047, .iaload, 1, 0, 0, 0, []), (1048, .invokevirtual 138, 3, 89, 2, 9, [1147, 0]), (1051, .aload_n 2, 1, 2, 0, 0, []), (1052, .aload_n 0, 1, 0, 0, 0, []), (1053, .iload_n 3, 1, 3, 0, 0, []), (1054, .iconst 1, 1, 2147483649, 0, 0, []), (1055, .iadd, 1, 0, 0, 0, []), (1056, .iaload, 1, 0, 0, 0, []), (1057, .invokevirtual 141, 3, 165, 2, 10, [1878, 0]), (1060, .if_icmp .eq 521, 3, 1581, 0, 0, []), (1065, .aload_n 1, 1, 1, 0, 0, []), (1066, .aload_n 0, 1, 0, 0, 0, []), (1067, .iload_n 3, 1, 3, 0, 0, []), (1068, .iconst 1, 1, 2147483649, 0, 0, []), (1069, .iadd, 1, 0, 0, 0, []), (1070, .iaload, 1, 0, 0, 0, []), (1071, .aload_n 0, 1, 0, 0, 0, []), (1072, .iload_n 3, 1, 3, 0, 0, []), (1073, .iconst 2, 1, 2147483650, 0, 0, []), (1074, .iadd, 1, 0, 0, 0, []), (1075, .iaload, 1, 0, 0, 0, []), (1076, .invokevirtual 142, 3, 88, 3, 9, [1143, 0]), (1079, .aload_n 2, 1, 2, 0, 0, []), (1080, .aload_n 0, 1, 0, 0, 0, []), (1081, .iload_n 3, 1, 3, 0, 0, []), (1082, .iconst 1, 1, 2147483649, 0, 0, []), (1083, .iadd, 1, 0, 0, 0, []), (1084, .iaload, 1, 0, 0, 0, []), (1085, .aload_n 0, 1, 0, 0, 0, []), (1086, .iload_n 3, 1, 3, 0, 0, []), (1087, .iconst 2, 1, 2147483650, 0, 0, []), (1088, .iadd, 1, 0, 0, 0, []), (1089, .iaload, 1, 0, 0, 0, []), (1090, .invokevirtual 145, 3, 164, 3, 10, [1874, 0]), (1093, .if_icmp .eq 488, 3, 1581, 0, 0, []), (1098, .aload_n 1, 1, 1, 0, 0, []), (1099, .aload_n 0, 1, 0, 0, 0, []), (1100, .iload_n 3, 1, 3, 0, 0, []), (1101, .iconst 1, 1, 2147483649, 0, 0, []), (1102, .iadd, 1, 0, 0, 0, []), (1103, .iaload, 1, 0, 0, 0, []), (1104, .aload_n 0, 1, 0, 0, 0, []), (1105, .iload_n 3, 1, 3, 0, 0, []), (1106, .iconst 2, 1, 2147483650, 0, 0, []), (1107, .iadd, 1, 0, 0, 0, []), (1108, .iaload, 1, 0, 0, 0, []), (1109, .invokevirtual 146, 3, 74, 3, 9, [1055, 0]), (1112, .aload_n 2, 1, 2, 0, 0, []), (1113, .aload_n 0, 1, 0, 0, 0, []), (1114, .iload_n 3, 1, 3, 0, 0, []), (1115, .iconst 1, 1, 2147483649, 0, 0, []), (1116, .iadd, 1, 0, 0, 0, []), (1117, .iaload, 1, 0, 0, 0, []), (1118, .aload_n 0, 1, 0, 0, 0, []), (1119, .iload_n 3, 1, 3, 0, 0, []), (1120, .iconst 2, 1, 2147483650, 0, 0, []), (1121, .iadd, 1, 0, 0, 0, []), (1122, .iaload, 1, 0, 0, 0, []), (1123, .invokevirtual 149, 3, 156, 3, 10, [1835, 0]), (1126, .if_icmp .eq 455, 3, 1581, 0, 0, []), (1131, .aload_n 1, 1, 1, 0, 0, []), (1132, .aload_n 0, 1, 0, 0, 0, []), (1133, .iload_n 3, 1, 3, 0, 0, []), (1134, .iconst 1, 1, 2147483649, 0, 0, []), (1135, .iadd, 1, 0, 0, 0, []), (1136, .iaload, 1, 0, 0, 0, []), (1137, .aload_n 0, 1, 0, 0, 0, []), (1138, .iload_n 3, 1, 3, 0, 0, []), (1139, .iconst 2, 1, 2147483650, 0, 0, []), (1140, .iadd, 1, 0, 0, 0, []), (1141, .iaload, 1, 0, 0, 0, []), (1142, .invokevirtual 150, 3, 78, 3, 9, [1079, 0]), (1145, .aload_n 2, 1, 2, 0, 0, []), (1146, .aload_n 0, 1, 0, 0, 0, []), (1147, .iload_n 3, 1, 3, 0, 0, []), (1148, .iconst 1, 1, 2147483649, 0, 0, []), (1149, .iadd, 1, 0, 0, 0, []), (1150, .iaload, 1, 0, 0, 0, []), (1151, .aload_n 0, 1, 0, 0, 0, []), (1152, .iload_n 3, 1, 3, 0, 0, []), (1153, .iconst 2, 1, 2147483650, 0, 0, []), (1154, .iadd, 1, 0, 0, 0, []), (1155, .iaload, 1, 0, 0, 0, []), (1156, .invokevirtual 153, 3, 158, 3, 10, [1843, 0]), (1159, .if_icmp .eq 422, 3, 1581, 0, 0, []), (1164, .aload_n 1, 1, 1, 0, 0, []), (1165, .invokevirtual 154, 3, 75, 1, 9, [1059, 0]), (1168, .aload_n 2, 1, 2, 0, 0, []), (1169, .invokevirtual 157, 3, 155, 1, 10, [1831, 0]), (1172, .if_icmp .eq 409, 3, 1581, 0, 0, []), (1177, .aload_n 1, 1, 1, 0, 0, []), (1178, .invokevirtual 158, 3, 46, 1, 9, [903, 0]), (1181, .aload_n 2, 1, 2, 0, 0, []), (1182, .invokevirtual 161, 3, 130, 1, 10, [1695, 0]), (1185, .if_icmp .eq 396, 3, 1581, 0, 0, []), (1190, .aload_n 1, 1, 1, 0, 0, []), (1191, .invokevirtual 162, 3, 47, 1, 9, [907, 0]), (1194, .aload_n 2, 1, 2, 0, 0, []), (1195, .invokevirtual 165, 3, 131, 1, 10, [1703, 0]), (1198, .if_icmp .eq 383, 3, 1581, 0, 0, []), (1203, .aload_n 1, 1, 1, 0, 0, []), (1204, .aload_n 0, 1, 0, 0, 0, []), (1205, .iload_n 3, 1, 3, 0, 0, []), (1206, .iconst 1, 1, 2147483649, 0, 0, []), (1207, .iadd, 1, 0, 0, 0, []), (1208, .iaload, 1, 0, 0, 0, []), (1209, .invokevirtual 166, 3, 90, 2, 9, [1155, 0]), (1212, .aload_n 2, 1, 2, 0, 0, []), (1213, .aload_n 0, 1, 0, 0, 0, []), (1214, .iload_n 3, 1, 3, 0, 0, []), (1215, .iconst 1, 1, 2147483649, 0, 0, []), (1216, .iadd, 1, 0, 0, 0, []), (1217, .iaload, 1, 0, 0, 0, []), (1218, .invokevirtual 169, 3, 166, 2, 10, [1882, 0]), (1221, .if_icmp .eq 360, 3, 1581, 0, 0, []), (1226, .aload_n 1, 1, 1, 0, 0, []), (1227, .invokevirtual 170, 3, 48, 1, 9, [911, 0]), (1230, .aload_n 2, 1, 2, 0, 0, []), (1231, .invokevirtual 173, 3, 132, 1, 10, [1707, 0]), (1234, .if_icmp .eq 347, 3, 1581, 0, 0, []), (1239, .aload_n 1, 1, 1, 0, 0, []), (1240, .aload_n 0, 1, 0, 0, 0, []), (1241, .iload_n 3, 1, 3, 0, 0, []), (1242, .iconst 1, 1, 2147483649, 0, 0, []), (1243, .iadd, 1, 0, 0, 0, []), (1244, .iaload, 1, 0, 0, 0, []), (1245, .invokevirtual 174, 3, 73, 2, 9, [1051, 0]), (1248, .aload_n 2, 1, 2, 0, 0, []), (1249, .aload_n 0, 1, 0, 0, 0, []), (1250, .iload_n 3, 1, 3, 0, 0, []), (1251, .iconst 1, 1, 2147483649, 0, 0, []), (1252, .iadd, 1, 0, 0, 0, []), (1253, .iaload, 1, 0, 0, 0, []), (1254, .invokevirtual 177, 3, 149, 2, 10, [1803, 0]), (1257, .if_icmp .eq 324, 3, 1581, 0, 0, []), (1262, .aload_n 1, 1, 1, 0, 0, []), (1263, .aload_n 0, 1, 0, 0, 0, []), (1264, .iload_n 3, 1, 3, 0, 0, []), (1265, .iconst 1, 1, 2147483649, 0, 0, []), (1266, .iadd, 1, 0, 0, 0, []), (1267, .iaload, 1, 0, 0, 0, []), (1268, .aload_n 0, 1, 0, 0, 0, []), (1269, .iload_n 3, 1, 3, 0, 0, []), (1270, .iconst 2, 1, 2147483650, 0, 0, []), (1271, .iadd, 1, 0, 0, 0, []), (1272, .iaload, 1, 0, 0, 0, []), (1273, .invokevirtual 178, 3, 91, 3, 9, [1159, 0]), (1276, .aload_n 2, 1, 2, 0, 0, []), (1277, .aload_n 0, 1, 0, 0, 0, []), (1278, .iload_n 3, 1, 3, 0, 0, []), (1279, .iconst 1, 1, 2147483649, 0, 0, []), (1280, .iadd, 1, 0, 0, 0, []), (1281, .iaload, 1, 0, 0, 0, []), (1282, .aload_n 0, 1, 0, 0, 0, []), (1283, .iload_n 3, 1, 3, 0, 0, []), (1284, .iconst 2, 1, 2147483650, 0, 0, []), (1285, .iadd, 1, 0, 0, 0, []), (1286, .iaload, 1, 0, 0, 0, []), (1287, .invokevirtual 181, 3, 168, 3, 10, [1898, 0]), (1290, .if_icmp .eq 291, 3, 1581, 0, 0, []), (1295, .aload_n 1, 1, 1, 0, 0, []), (1296, .aload_n 0, 1, 0, 0, 0, []), (1297, .iload_n 3, 1, 3, 0, 0, []), (1298, .iconst 1, 1, 2147483649, 0, 0, []), (1299, .iadd, 1, 0, 0, 0, []), (1300, .iaload, 1, 0, 0, 0, []), (1301, .invokevirtual 182, 3, 50, 2, 9, [920, 0]), (1304, .aload_n 2, 1, 2, 0, 0, []), (1305, .aload_n 0, 1, 0, 0, 0, []), (1306, .iload_n 3, 1, 3, 0, 0, []), (1307, .iconst 1, 1, 2147483649, 0, 0, []), (1308, .iadd, 1, 0, 0, 0, []), (1309, .iaload, 1, 0, 0, 0, []), (1310, .invokevirtual 185, 3, 143, 2, 10, [1768, 0]), (1313, .if_icmp .eq 268, 3, 1581, 0, 0, []), (1318, .aload_n 1, 1, 1, 0, 0, []), (1319, .aload_n 0, 1, 0, 0, 0, []), (1320, .iload_n 3, 1, 3, 0, 0, []), (1321, .iconst 1, 1, 2147483649, 0, 0, []), (1322, .iadd, 1, 0, 0, 0, []), (1323, .iaload, 1, 0, 0, 0, []), (1324, .aload_n 0, 1, 0, 0, 0, []), (1325, .iload_n 3, 1, 3, 0, 0, []), (1326, .iconst 2, 1, 2147483650, 0, 0, []), (1327, .iadd, 1, 0, 0, 0, []), (1328, .iaload, 1, 0, 0, 0, []), (1329, .aload_n 0, 1, 0, 0, 0, []), (1330, .iload_n 3, 1, 3, 0, 0, []), (1331, .iconst 3, 1, 2147483651, 0, 0, []), (1332, .iadd, 1, 0, 0, 0, []), (1333, .iaload, 1, 0, 0, 0, []), (1334, .ifCond .eq 7, 3, 1341, 0, 0, []), (1337, .iconst 1, 1, 2147483649, 0, 0, []), (1338, .goto 4, 3, 1342, 0, 0, []), (1341, .iconst 0, 1, 2147483648, 0, 0, []), (1342, .invokevirtual 186, 3, 93, 4, 9, [1166, 0]), (1345, .aload_n 2, 1, 2, 0, 0, []), (1346, .aload_n 0, 1, 0, 0, 0, []), (1347, .iload_n 3, 1, 3, 0, 0, []), (1348, .iconst 1, 1, 2147483649, 0, 0, []), (1349, .iadd, 1, 0, 0, 0, []), (1350, .iaload, 1, 0, 0, 0, []), (1351, .aload_n 0, 1, 0, 0, 0, []), (1352, .iload_n 3, 1, 3, 0, 0, []), (1353, .iconst 2, 1, 2147483650, 0, 0, []), (1354, .iadd, 1, 0, 0, 0, []), (1355, .iaload, 1, 0, 0, 0, []), (1356, .aload_n 0, 1, 0, 0, 0, []), (1357, .iload_n 3, 1, 3, 0, 0, []), (1358, .iconst 3, 1, 2147483651, 0, 0, []), (1359, .iadd, 1, 0, 0, 0, []), (1360, .iaload, 1, 0, 0, 0, []), (1361, .ifCond .eq 7, 3, 1368, 0, 0, []), (1364, .iconst 1, 1, 2147483649, 0, 0, []), (1365, .goto 4, 3, 1369, 0, 0, []), (1368, .iconst 0, 1, 2147483648, 0, 0, []), (1369, .invokevirtual 190, 3, 169, 4, 10, [1905, 0]), (1372, .if_icmp .eq 209, 3, 1581, 0, 0, []), (1377, .aload_n 1, 1, 1, 0, 0, []), (1378, .aload_n 0, 1, 0, 0, 0, []), (1379, .iload_n 3, 1, 3, 0, 0, []), (1380, .iconst 1, 1, 2147483649, 0, 0, []), (1381, .iadd, 1, 0, 0, 0, []), (1382, .iaload, 1, 0, 0, 0, []), (1383, .invokevirtual 191, 3, 94, 2, 9, [1174, 0]), (1386, .aload_n 2, 1, 2, 0, 0, []), (1387, .aload_n 0, 1, 0, 0, 0, []), (1388, .iload_n 3, 1, 3, 0, 0, []), (1389, .iconst 1, 1, 2147483649, 0, 0, []), (1390, .iadd, 1, 0, 0, 0, []), (1391, .iaload, 1, 0, 0, 0, []), (1392, .invokevirtual 195, 3, 170, 2, 10, [1909, 0]), (1395, .if_icmp .eq 186, 3, 1581, 0, 0, []), (1400, .aload_n 1, 1, 1, 0, 0, []), (1401, .aload_n 0, 1, 0, 0, 0, []), (1402, .iload_n 3, 1, 3, 0, 0, []), (1403, .iconst 1, 1, 2147483649, 0, 0, []), (1404, .iadd, 1, 0, 0, 0, []), (1405, .iaload, 1, 0, 0, 0, []), (1406, .invokevirtual 196, 3, 95, 2, 9, [1182, 0]), (1409, .aload_n 2, 1, 2, 0, 0, []), (1410, .aload_n 0, 1, 0, 0, 0, []), (1411, .iload_n 3, 1, 3, 0, 0, []), (1412, .iconst 1, 1, 2147483649, 0, 0, []), (1413, .iadd, 1, 0, 0, 0, []), (1414, .iaload, 1, 0, 0, 0, []), (1415, .invokevirtual 199, 3, 171, 2, 10, [1913, 0]), (1418, .if_icmp .eq 163, 3, 1581, 0, 0, []), (1423, .aload_n 1, 1, 1, 0, 0, []), (1424, .aload_n 0, 1, 0, 0, 0, []), (1425, .iload_n 3, 1, 3, 0, 0, []), (1426, .iconst 1, 1, 2147483649, 0, 0, []), (1427, .iadd, 1, 0, 0, 0, []), (1428, .iaload, 1, 0, 0, 0, []), (1429, .invokevirtual 200, 3, 96, 2, 9, [1187, 0]), (1432, .aload_n 2, 1, 2, 0, 0, []), (1433, .aload_n 0, 1, 0, 0, 0, []), (1434, .iload_n 3, 1, 3, 0, 0, []), (1435, .iconst 1, 1, 2147483649, 0, 0, []), (1436, .iadd, 1, 0, 0, 0, []), (1437, .iaload, 1, 0, 0, 0, []), (1438, .invokevirtual 203, 3, 172, 2, 10, [1918, 0]), (1441, .if_icmp .eq 140, 3, 1581, 0, 0, []), (1446, .aload_n 1, 1, 1, 0, 0, []), (1447, .aload_n 0, 1, 0, 0, 0, []), (1448, .iload_n 3, 1, 3, 0, 0, []), (1449, .iconst 1, 1, 2147483649, 0, 0, []), (1450, .iadd, 1, 0, 0, 0, []), (1451, .iaload, 1, 0, 0, 0, []), (1452, .aload_n 0, 1, 0, 0, 0, []), (1453, .iload_n 3, 1, 3, 0, 0, []), (1454, .iconst 2, 1, 2147483650, 0, 0, []), (1455, .iadd, 1, 0, 0, 0, []), (1456, .iaload, 1, 0, 0, 0, []), (1457, .invokevirtual 204, 3, 97, 3, 9, [1206, 0]), (1460, .aload_n 2, 1, 2, 0, 0, []), (1461, .aload_n 0, 1, 0, 0, 0, []), (1462, .iload_n 3, 1, 3, 0, 0, []), (1463, .iconst 1, 1, 2147483649, 0, 0, []), (1464, .iadd, 1, 0, 0, 0, []), (1465, .iaload, 1, 0, 0, 0, []), (1466, .aload_n 0, 1, 0, 0, 0, []), (1467, .iload_n 3, 1, 3, 0, 0, []), (1468, .iconst 2, 1, 2147483650, 0, 0, []), (1469, .iadd, 1, 0, 0, 0, []), (1470, .iaload, 1, 0, 0, 0, []), (1471, .invokevirtual 207, 3, 173, 3, 10, [1930, 0]), (1474, .if_icmp .eq 107, 3, 1581, 0, 0, []), (1479, .aload_n 1, 1, 1, 0, 0, []), (1480, .aload_n 0, 1, 0, 0, 0, []), (1481, .iload_n 3, 1, 3, 0, 0, []), (1482, .iconst 1, 1, 2147483649, 0, 0, []), (1483, .iadd, 1, 0, 0, 0, []), (1484, .iaload, 1, 0, 0, 0, []), (1485, .aload_n 0, 1, 0, 0, 0, []), (1486, .iload_n 3, 1, 3, 0, 0, []), (1487, .iconst 2, 1, 2147483650, 0, 0, []), (1488, .iadd, 1, 0, 0, 0, []), (1489, .iaload, 1, 0, 0, 0, []), (1490, .invokevirtual 208, 3, 98, 3, 9, [1210, 0]), (1493, .aload_n 2, 1, 2, 0, 0, []), (1494, .aload_n 0, 1, 0, 0, 0, []), (1495, .iload_n 3, 1, 3, 0, 0, []), (1496, .iconst 1, 1, 2147483649, 0, 0, []), (1497, .iadd, 1, 0, 0, 0, []), (1498, .iaload, 1, 0, 0, 0, []), (1499, .aload_n 0, 1, 0, 0, 0, []), (1500, .iload_n 3, 1, 3, 0, 0, []), (1501, .iconst 2, 1, 2147483650, 0, 0, []), (1502, .iadd, 1, 0, 0, 0, []), (1503, .iaload, 1, 0, 0, 0, []), (1504, .invokevirtual 211, 3, 174, 3, 10, [1935, 0]), (1507, .if_icmp .eq 74, 3, 1581, 0, 0, []), (1512, .aload_n 1, 1, 1, 0, 0, []), (1513, .aload_n 0, 1, 0, 0, 0, []), (1514, .iload_n 3, 1, 3, 0, 0, []), (1515, .iconst 1, 1, 2147483649, 0, 0, []), (1516, .iadd, 1, 0, 0, 0, []), (1517, .iaload, 1, 0, 0, 0, []), (1518, .invokevirtual 212, 3, 67, 2, 9, [1016, 0]), (1521, .aload_n 2, 1, 2, 0, 0, []), (1522, .aload_n 0, 1, 0, 0, 0, []), (1523, .iload_n 3, 1, 3, 0, 0, []), (1524, .iconst 1, 1, 2147483649, 0, 0, []), (1525, .iadd, 1, 0, 0, 0, []), (1526, .iaload, 1, 0, 0, 0, []), (1527, .invokevirtual 215, 3, 175, 2, 10, [1943, 0]), (1530, .if_icmp .eq 51, 3, 1581, 0, 0, []), (1535, .aload_n 1, 1, 1, 0, 0, []), (1536, .aload_n 0, 1, 0, 0, 0, []), (1537, .iload_n 3, 1, 3, 0, 0, []), (1538, .iconst 1, 1, 2147483649, 0, 0, []), (1539, .iadd, 1, 0, 0, 0, []), (1540, .iaload, 1, 0, 0, 0, []), (1541, .invokevirtual 216, 3, 68, 2, 9, [1021, 0]), (1544, .aload_n 2, 1, 2, 0, 0, []), (1545, .aload_n 0, 1, 0, 0, 0, []), (1546, .iload_n 3, 1, 3, 0, 0, []), (1547, .iconst 1, 1, 2147483649, 0, 0, []), (1548, .iadd, 1, 0, 0, 0, []), (1549, .iaload, 1, 0, 0, 0, []), (1550, .invokevirtual 219, 3, 176, 2, 10, [1947, 0]), (1553, .if_icmp .eq 28, 3, 1581, 0, 0, []), (1558, .aload_n 1, 1, 1, 0, 0, []), (1559, .aload_n 0, 1, 0, 0, 0, []), (1560, .iload_n 3, 1, 3, 0, 0, []), (1561, .iconst 1, 1, 2147483649, 0, 0, []), (1562, .iadd, 1, 0, 0, 0, []), (1563, .iaload, 1, 0, 0, 0, []), (1564, .invokevirtual 220, 3, 51, 2, 9, [924, 0]), (1567, .aload_n 2, 1, 2, 0, 0, []), (1568, .aload_n 0, 1, 0, 0, 0, []), (1569, .iload_n 3, 1, 3, 0, 0, []), (1570, .iconst 1, 1, 2147483649, 0, 0, []), (1571, .iadd, 1, 0, 0, 0, []), (1572, .iaload, 1, 0, 0, 0, []), (1573, .invokevirtual 223, 3, 177, 2, 10, [1951, 0]), (1576, .if_icmp .eq 5, 3, 1581, 0, 0, []), (1581, .iinc 3 6, 3, 3, 6, 0, []), (1584, .goto (-1566), 3, 18, 0, 0, []), (1587, .iconst 1, 1, 2147483649, 0, 0, []), (1588, .ireturn, 1, 0, 0, 0, [])]
def ex_ml : List ex_M := [(ex_p_X0_init, 3, 0, 329, 2624), (ex_p_X0_forget, 2, 0, 0, 0), (ex_p_X0_add, 2, 0, 0, 0), (ex_p_X0_takeBack, 2, 1, 0, 0), (ex_p_X0_doAgain, 2, 1, 0, 0), (ex_p_X0_current, 1, 0, 0, 0), (ex_p_X1_init, 1, 0, 0, 0), (ex_p_X2_init, 1, 0, 3, 648), (ex_p_X2_clear, 1, 0, 0, 0), (ex_p_X2_add, 3, 0, 0, 0), (ex_p_X2_copy, 2, 0, 0, 0), (ex_p_X3_init, 1, 0, 19, 6172), (ex_p_X3_read, 3, 1, 0, 0), (ex_p_X4_init, 2, 0, 7, 50), (ex_p_X4_begin, 2, 0, 0, 0), (ex_p_X4_copy, 2, 0, 0, 0), (ex_p_X4_whoIsBy, 3, 0, 0, 0), (ex_p_X4_waiting, 1, 0, 0, 0), (ex_p_X4_drawWhim, 1, 1, 0, 0), (ex_p_X4_openTo, 5, 0, 0, 0), (ex_p_X4_firstOf, 3, 0, 0, 0), (ex_p_X5_init, 2, 0, 17, 2699), (ex_p_X5_forget, 1, 0, 0, 0), (ex_p_X5_takeBack, 3, 1, 0, 0), (ex_p_X5_findFitting, 4, 0, 0, 0), (ex_p_X6_init, 1, 0, 1, 1600), (ex_p_X6_put, 3, 0, 0, 0), (ex_p_X7_init, 1, 0, 3, 4803), (ex_p_X7_cut, 5, 0, 0, 0), (ex_p_X7_skipBlanks, 4, 0, 0, 0), (ex_p_X7_cutEnd, 1, 0, 0, 0), (ex_p_X8_init, 1, 0, 12, 1336), (ex_p_X8_clear, 1, 0, 0, 0), (ex_p_X8_copy, 2, 0, 0, 0), (ex_p_X8_allComers, 1, 0, 0, 0), (ex_p_X9_init, 2, 0, 493, 15443), (ex_p_X9_feed, 6, 0, 0, 0), (ex_p_X9_end, 2, 0, 0, 0), (ex_p_X9_crossing, 1, 0, 0, 0), (ex_p_X9_fault, 2, 0, 0, 0), (ex_p_X9_startAsTold, 2, 0, 0, 0), (ex_p_X9_word, 3, 0, 0, 0), (ex_p_X9_comer, 3, 0, 0, 0), (ex_p_X9_worth, 2, 0, 0, 0), (ex_p_X9_keeps, 2, 0, 0, 0), (ex_p_X9_row, 2, 0, 0, 0), (ex_p_X9_ready, 3, 0, 0, 0), (ex_p_X9_oldest, 3, 0, 0, 0), (ex_p_X9_fashion, 5, 0, 0, 0), (ex_p_X9_lull, 4, 0, 0, 0), (ex_p_X9_lies, 2, 0, 0, 0), (ex_p_X9_about, 2, 0, 0, 0), (ex_p_X9_isComer, 2, 1, 0, 0), (ex_p_X9_isWaiting, 2, 1, 0, 0), (ex_p_X9_isWord, 2, 1, 0, 0), (ex_p_X9_isRoad, 2, 1, 0, 0), (ex_p_X9_isAhead, 1, 1, 0, 0), (ex_p_X9_isEither, 1, 1, 0, 0), (ex_p_X9_hatch, 1, 0, 0, 0), (ex_p_X9_open, 2, 0, 0, 0), (ex_p_X9_openInEarnest, 4, 0, 0, 0), (ex_p_X9_rehearse, 3, 0, 0, 0), (ex_p_X9_turn, 3, 0, 0, 0), (ex_p_X9_revive, 2, 0, 0, 0), (ex_p_X9_humour, 3, 0, 0, 0), (ex_p_X9_undo, 1, 1, 0, 0), (ex_p_X9_redo, 1, 1, 0, 0), (ex_p_X9_image, 2, 0, 0, 0), (ex_p_X9_back, 2, 0, 0, 0), (ex_p_X9_will, 5, 0, 0, 0), (ex_p_X9_when, 2, 0, 0, 0), (ex_p_X9_lookAhead, 3, 0, 0, 0), (ex_p_X9_clock, 2, 0, 0, 0), (ex_p_X9_temper, 2, 0, 0, 0), (ex_p_X9_clears, 5, 0, 0, 0), (ex_p_X9_jam, 1, 0, 0, 0), (ex_p_X9_press, 2, 0, 0, 0), (ex_p_X9_pressOfTrial, 4, 0, 0, 0), (ex_p_X9_reorder, 9, 0, 0, 0), (ex_p_X9_spends, 5, 0, 0, 0), (ex_p_X9_echoes, 6, 0, 0, 0), (ex_p_X9_best, 7, 0, 0, 0), (ex_p_X9_soonest, 2, 0, 0, 0), (ex_p_X9_allByWithin, 8, 1, 0, 0), (ex_p_X9_rivals, 6, 0, 0, 0), (ex_p_X9_shortest, 3, 0, 0, 0), (ex_p_X9_honest, 3, 0, 0, 0), (ex_p_X9_spark, 4, 0, 0, 0), (ex_p_X9_drop, 4, 0, 0, 0), (ex_p_X9_coax, 3, 0, 0, 0), (ex_p_X9_law, 4, 0, 0, 0), (ex_p_X9_odds, 9, 0, 0, 0), (ex_p_X9_commonDivisor, 6, 0, 0, 0), (ex_p_X9_seen, 4, 0, 0, 0), (ex_p_X9_untell, 2, 1, 0, 0), (ex_p_X9_later, 2, 0, 0, 0), (ex_p_X9_fits, 2, 0, 0, 0), (ex_p_X9_sure, 4, 0, 0, 0), (ex_p_X9_ask, 8, 0, 0, 0), (ex_p_X10_init, 1, 0, 38, 10582), (ex_p_X10_sign, 2, 0, 0, 0), (ex_p_X10_isGood, 1, 1, 0, 0), (ex_p_X10_goOn, 3, 0, 0, 0), (ex_p_X10_clearBank, 1, 0, 0, 0), (ex_p_X10_crossing, 2, 0, 0, 0), (ex_p_X10_fault, 2, 0, 0, 0), (ex_p_X10_isIn, 3, 1, 0, 0), (ex_p_X10_bitsOf, 3, 0, 0, 0), (ex_p_X10_divisor, 5, 0, 0, 0), (ex_p_X10_power, 4, 0, 0, 0), (ex_p_X10_many, 1, 0, 0, 0), (ex_p_X10_kinds, 1, 0, 0, 0), (ex_p_X10_isComer, 2, 1, 0, 0), (ex_p_X10_isWordNumber, 2, 1, 0, 0), (ex_p_X10_isRoad, 2, 1, 0, 0), (ex_p_X10_isThere, 2, 1, 0, 0), (ex_p_X10_isAhead, 1, 1, 0, 0), (ex_p_X10_startAnew, 2, 0, 0, 0), (ex_p_X10_layTold, 2, 0, 0, 0), (ex_p_X10_thoseBy, 3, 0, 0, 0), (ex_p_X10_rowOf, 4, 0, 0, 0), (ex_p_X10_firstOf, 4, 0, 0, 0), (ex_p_X10_goHatch, 6, 0, 0, 0), (ex_p_X10_goOnce, 1, 0, 0, 0), (ex_p_X10_goInEarnest, 2, 0, 0, 0), (ex_p_X10_word, 3, 0, 0, 0), (ex_p_X10_comer, 3, 0, 0, 0), (ex_p_X10_worth, 2, 0, 0, 0), (ex_p_X10_keeps, 2, 0, 0, 0), (ex_p_X10_row, 2, 0, 0, 0), (ex_p_X10_ready, 3, 0, 0, 0), (ex_p_X10_oldest, 3, 0, 0, 0), (ex_p_X10_fashion, 3, 0, 0, 0), (ex_p_X10_lull, 3, 0, 0, 0), (ex_p_X10_keepAct, 2, 0, 0, 0), (ex_p_X10_open, 2, 0, 0, 0), (ex_p_X10_hatch, 1, 0, 0, 0), (ex_p_X10_rehearse, 3, 0, 0, 0), (ex_p_X10_turn, 3, 0, 0, 0), (ex_p_X10_revive, 2, 0, 0, 0), (ex_p_X10_humour, 3, 0, 0, 0), (ex_p_X10_undo, 1, 1, 0, 0), (ex_p_X10_redo, 1, 1, 0, 0), (ex_p_X10_lies, 2, 0, 0, 0), (ex_p_X10_keepNow, 2, 0, 0, 0), (ex_p_X10_bringBack, 2, 0, 0, 0), (ex_p_X10_goHatches, 7, 0, 0, 0), (ex_p_X10_will, 5, 0, 0, 0), (ex_p_X10_clock, 3, 0, 0, 0), (ex_p_X10_temper, 3, 0, 0, 0), (ex_p_X10_pressIn, 2, 0, 0, 0), (ex_p_X10_press, 2, 0, 0, 0), (ex_p_X10_echoes, 3, 0, 0, 0), (ex_p_X10_when, 3, 0, 0, 0), (ex_p_X10_spends, 3, 0, 0, 0), (ex_p_X10_jam, 2, 0, 0, 0), (ex_p_X10_clears, 4, 0, 0, 0), (ex_p_X10_best, 7, 0, 0, 0), (ex_p_X10_reorder, 9, 0, 0, 0), (ex_p_X10_areAllBy, 5, 1, 0, 0), (ex_p_X10_soonest, 4, 0, 0, 0), (ex_p_X10_shortest, 3, 0, 0, 0), (ex_p_X10_honest, 3, 0, 0, 0), (ex_p_X10_spark, 7, 0, 0, 0), (ex_p_X10_drop, 7, 0, 0, 0), (ex_p_X10_coax, 5, 0, 0, 0), (ex_p_X10_law, 5, 0, 0, 0), (ex_p_X10_rivals, 5, 0, 0, 0), (ex_p_X10_odds, 5, 0, 0, 0), (ex_p_X10_seen, 4, 0, 0, 0), (ex_p_X10_untell, 2, 1, 0, 0), (ex_p_X10_later, 2, 0, 0, 0), (ex_p_X10_fits, 4, 0, 0, 0), (ex_p_X10_sure, 4, 0, 0, 0), (ex_p_X10_ask, 5, 0, 0, 0), (ex_p_X10_image, 3, 0, 0, 0), (ex_p_X10_back, 3, 0, 0, 0), (ex_p_X10_about, 2, 0, 0, 0), (ex_p_X10_feed, 8, 0, 0, 0), (ex_p_X10_end, 2, 0, 0, 0), (ex_p_J7_fill_53178, 4, 0, 0, 0)]
noncomputable def ex_mt : Nat → Option ex_M := ex_nth ex_ml
def ex_dl : List (List ex_V) := [[ex_k 2147483648, ex_k 2147483648, ex_a none, ex_k 2147483648], [ex_k 2147483648, ex_k 2147483648, ex_k 2147483648, ex_k 2147483648, ex_k 2147483648, ex_k 2147483648], [ex_a none, ex_a none, ex_a none, ex_k 2147483648], [ex_a none, ex_k 2147483648, ex_k 2147483648, ex_a none, ex_a none, ex_a none, ex_k 2147483648, ex_k 2147483648, ex_k 2147483648, ex_k 2147483648, ex_k 2147483648, ex_a none], [ex_a none, ex_a none, ex_a none, ex_a none, ex_a none, ex_a none, ex_k 2147483648, ex_k 2147483648, ex_k 2147483648, ex_k 2147483648, ex_k 2147483648, ex_a none, ex_a none], [ex_k 2147483648, ex_a none, ex_a none, ex_a none, ex_a none, ex_a none, ex_a none, ex_a none, ex_a none, ex_a none, ex_a none, ex_k 2147483648, ex_a none], [ex_a none, ex_k 2147483648], [ex_a none, ex_a none, ex_a none, ex_k 2147483648], [ex_k 2147483648, ex_k 2147483648, ex_k 2147483648, ex_k 2147483648, ex_k 2147483648, ex_k 2147483648, ex_k 2147483648, ex_a none, ex_a none, ex_a none, ex_a none, ex_a none, ex_a none], [ex_a none, ex_a none, ex_a none, ex_a none, ex_a none, ex_a none, ex_a none, ex_a none, ex_a none, ex_a none, ex_a none, ex_a none, ex_a none, ex_k 2147483648, ex_k 2147483648], [ex_a none, ex_a none, ex_k 2147483648, ex_k 2147483648, ex_k 2147483648, ex_k 2147483648, ex_k 2147483648, ex_k 2147483648, ex_k 2147483648, ex_k 2147483648, ex_j 0, ex_a none, ex_a none, ex_a none, ex_a none, ex_a none, ex_a none, ex_a none, ex_a none, ex_a none, ex_a none, ex_a none, ex_a none, ex_a none, ex_a none, ex_a none, ex_a none, ex_a none, ex_a none, ex_a none, ex_a none, ex_a none, ex_a none, ex_k 2147483648, ex_k 2147483648, ex_k 2147483648, ex_k 2147483648, ex_k 2147483648, ex_k 2147483648, ex_k 2147483648, ex_k 2147483648, ex_k 2147483648, ex_k 2147483648, ex_a none, ex_k 2147483648, ex_k 2147483648, ex_k 2147483648, ex_a none, ex_k 2147483648, ex_k 2147483648, ex_a none, ex_a none, ex_k 2147483648, ex_k 2147483648, ex_k 2147483648, ex_k 2147483648, ex_a none, ex_a none, ex_a none, ex_a none, ex_a none, ex_a none, ex_a none, ex_a none, ex_k 2147483648, ex_k 2147483648, ex_a none, ex_a none]]
noncomputable def ex_df (c : Nat) : List ex_V := match ex_nth ex_dl c with
  | some l => l
  | none => []
def ex_law : ex_M := (ex_p_L_law, 4, 1, 600000, 7302250)
abbrev ex_il : List ex_I := [(yX0_init, cX0_init, none, 2, 1), (yX0_forget, cX0_forget, none, 0, 1), (yX0_add, cX0_add, none, 0, 1), (yX0_takeBack, cX0_takeBack, (some .boolean), 0, 1), (yX0_doAgain, cX0_doAgain, (some .boolean), 0, 1), (yX0_current, cX0_current, (some (.object "HatchLights$Scene")), 0, 0), (yX1_init, cX1_init, none, 2, 0), (yX2_init, cX2_init, none, 2, 0), (yX2_clear, cX2_clear, none, 0, 0), (yX2_add, cX2_add, none, 0, 2), (yX2_copy, cX2_copy, none, 0, 1), (yX3_init, cX3_init, none, 2, 0), (yX3_read, cX3_read, (some .boolean), 0, 1), (yX4_init, cX4_init, none, 2, 1), (yX4_begin, cX4_begin, none, 0, 0), (yX4_copy, cX4_copy, none, 0, 1), (yX4_whoIsBy, cX4_whoIsBy, (some .int), 0, 0), (yX4_waiting, cX4_waiting, (some .int), 0, 0), (yX4_drawWhim, cX4_drawWhim, (some .boolean), 0, 0), (yX4_openTo, cX4_openTo, (some .int), 0, 2), (yX4_firstOf, cX4_firstOf, (some .int), 0, 1), (yX5_init, cX5_init, none, 2, 1), (yX5_forget, cX5_forget, none, 0, 0), (yX5_takeBack, cX5_takeBack, (some .boolean), 0, 2), (yX5_findFitting, cX5_findFitting, (some .int), 0, 1), (yX6_init, cX6_init, none, 2, 0), (yX6_put, cX6_put, none, 0, 1), (yX7_init, cX7_init, none, 2, 0), (yX7_cut, cX7_cut, none, 0, 1), (yX7_skipBlanks, cX7_skipBlanks, (some .int), 0, 2), (yX7_cutEnd, cX7_cutEnd, (some .int), 0, 0), (yX8_init, cX8_init, none, 2, 0), (yX8_clear, cX8_clear, none, 0, 0), (yX8_copy, cX8_copy, none, 0, 1), (yX8_allComers, cX8_allComers, (some .int), 0, 0), (yX9_init, cX9_init, none, 2, 0), (yX9_feed, cX9_feed, (some .int), 0, 5), (yX9_end, cX9_end, (some .int), 0, 1), (yX9_crossing, cX9_crossing, (some .int), 0, 0), (yX9_fault, cX9_fault, (some .int), 0, 1), (yX9_startAsTold, cX9_startAsTold, none, 0, 0), (yX9_word, cX9_word, (some .int), 0, 2), (yX9_comer, cX9_comer, (some .int), 0, 2), (yX9_worth, cX9_worth, (some .int), 0, 1), (yX9_keeps, cX9_keeps, (some .int), 0, 1), (yX9_row, cX9_row, (some .int), 0, 1), (yX9_ready, cX9_ready, (some .int), 0, 0), (yX9_oldest, cX9_oldest, (some .int), 0, 0), (yX9_fashion, cX9_fashion, (some .int), 0, 0), (yX9_lull, cX9_lull, (some .int), 0, 1), (yX9_lies, cX9_lies, (some .int), 0, 1), (yX9_about, cX9_about, (some .int), 0, 1), (yX9_isComer, cX9_isComer, (some .boolean), 0, 1), (yX9_isWaiting, cX9_isWaiting, (some .boolean), 0, 1), (yX9_isWord, cX9_isWord, (some .boolean), 0, 1), (yX9_isRoad, cX9_isRoad, (some .boolean), 0, 1), (yX9_isAhead, cX9_isAhead, (some .boolean), 1, 1), (yX9_isEither, cX9_isEither, (some .boolean), 1, 1), (yX9_hatch, cX9_hatch, (some .int), 0, 0), (yX9_open, cX9_open, (some .int), 0, 1), (yX9_openInEarnest, cX9_openInEarnest, (some .int), 0, 1), (yX9_rehearse, cX9_rehearse, (some .int), 0, 2), (yX9_turn, cX9_turn, (some .int), 0, 2), (yX9_revive, cX9_revive, (some .int), 0, 1), (yX9_humour, cX9_humour, (some .int), 0, 1), (yX9_undo, cX9_undo, (some .boolean), 0, 0), (yX9_redo, cX9_redo, (some .boolean), 0, 0), (yX9_image, cX9_image, (some .int), 0, 1), (yX9_back, cX9_back, (some .int), 0, 1), (yX9_will, cX9_will, (some .int), 0, 2), (yX9_when, cX9_when, (some .int), 0, 1), (yX9_lookAhead, cX9_lookAhead, none, 0, 1), (yX9_clock, cX9_clock, (some .int), 0, 1), (yX9_temper, cX9_temper, (some .int), 0, 1), (yX9_clears, cX9_clears, (some .int), 0, 2), (yX9_jam, cX9_jam, (some .int), 0, 0), (yX9_press, cX9_press, (some .int), 0, 1), (yX9_pressOfTrial, cX9_pressOfTrial, (some .int), 0, 1), (yX9_reorder, cX9_reorder, (some .int), 0, 2), (yX9_spends, cX9_spends, (some .int), 0, 1), (yX9_echoes, cX9_echoes, (some .int), 0, 2), (yX9_best, cX9_best, (some .int), 0, 2), (yX9_soonest, cX9_soonest, (some .int), 0, 0), (yX9_allByWithin, cX9_allByWithin, (some .boolean), 0, 2), (yX9_rivals, cX9_rivals, (some .int), 0, 2), (yX9_shortest, cX9_shortest, (some .int), 0, 2), (yX9_honest, cX9_honest, (some .int), 0, 2), (yX9_spark, cX9_spark, (some .int), 0, 2), (yX9_drop, cX9_drop, (some .int), 0, 2), (yX9_coax, cX9_coax, (some .int), 0, 1), (yX9_law, cX9_law, (some .int), 0, 1), (yX9_odds, cX9_odds, (some .int), 0, 2), (yX9_commonDivisor, cX9_commonDivisor, (some .int), 1, 2), (yX9_seen, cX9_seen, (some .int), 0, 3), (yX9_untell, cX9_untell, (some .boolean), 0, 1), (yX9_later, cX9_later, (some .int), 0, 1), (yX9_fits, cX9_fits, (some .int), 0, 1), (yX9_sure, cX9_sure, (some .int), 0, 2), (yX9_ask, cX9_ask, (some .int), 0, 2), (yX10_init, cX10_init, none, 2, 0), (yX10_sign, cX10_sign, (some .int), 0, 1), (yX10_isGood, cX10_isGood, (some .boolean), 0, 0), (yX10_goOn, cX10_goOn, none, 0, 0), (yX10_clearBank, cX10_clearBank, none, 0, 0), (yX10_crossing, cX10_crossing, (some .int), 0, 0), (yX10_fault, cX10_fault, (some .int), 0, 1), (yX10_isIn, cX10_isIn, (some .boolean), 1, 3), (yX10_bitsOf, cX10_bitsOf, (some .int), 1, 1), (yX10_divisor, cX10_divisor, (some .int), 1, 2), (yX10_power, cX10_power, (some .int), 1, 2), (yX10_many, cX10_many, (some .int), 0, 0), (yX10_kinds, cX10_kinds, (some .int), 0, 0), (yX10_isComer, cX10_isComer, (some .boolean), 0, 1), (yX10_isWordNumber, cX10_isWordNumber, (some .boolean), 0, 1), (yX10_isRoad, cX10_isRoad, (some .boolean), 0, 1), (yX10_isThere, cX10_isThere, (some .boolean), 0, 1), (yX10_isAhead, cX10_isAhead, (some .boolean), 1, 1), (yX10_startAnew, cX10_startAnew, none, 0, 0), (yX10_layTold, cX10_layTold, none, 0, 0), (yX10_thoseBy, cX10_thoseBy, (some .int), 0, 0), (yX10_rowOf, cX10_rowOf, (some .int), 0, 1), (yX10_firstOf, cX10_firstOf, (some .int), 0, 1), (yX10_goHatch, cX10_goHatch, (some .int), 0, 2), (yX10_goOnce, cX10_goOnce, (some .int), 0, 0), (yX10_goInEarnest, cX10_goInEarnest, (some .int), 0, 1), (yX10_word, cX10_word, (some .int), 0, 2), (yX10_comer, cX10_comer, (some .int), 0, 2), (yX10_worth, cX10_worth, (some .int), 0, 1), (yX10_keeps, cX10_keeps, (some .int), 0, 1), (yX10_row, cX10_row, (some .int), 0, 1), (yX10_ready, cX10_ready, (some .int), 0, 0), (yX10_oldest, cX10_oldest, (some .int), 0, 0), (yX10_fashion, cX10_fashion, (some .int), 0, 0), (yX10_lull, cX10_lull, (some .int), 0, 1), (yX10_keepAct, cX10_keepAct, none, 0, 0), (yX10_open, cX10_open, (some .int), 0, 1), (yX10_hatch, cX10_hatch, (some .int), 0, 0), (yX10_rehearse, cX10_rehearse, (some .int), 0, 2), (yX10_turn, cX10_turn, (some .int), 0, 2), (yX10_revive, cX10_revive, (some .int), 0, 1), (yX10_humour, cX10_humour, (some .int), 0, 1), (yX10_undo, cX10_undo, (some .boolean), 0, 0), (yX10_redo, cX10_redo, (some .boolean), 0, 0), (yX10_lies, cX10_lies, (some .int), 0, 1), (yX10_keepNow, cX10_keepNow, none, 0, 0), (yX10_bringBack, cX10_bringBack, none, 0, 0), (yX10_goHatches, cX10_goHatches, none, 0, 3), (yX10_will, cX10_will, (some .int), 0, 2), (yX10_clock, cX10_clock, (some .int), 0, 1), (yX10_temper, cX10_temper, (some .int), 0, 1), (yX10_pressIn, cX10_pressIn, (some .int), 0, 1), (yX10_press, cX10_press, (some .int), 0, 1), (yX10_echoes, cX10_echoes, (some .int), 0, 2), (yX10_when, cX10_when, (some .int), 0, 1), (yX10_spends, cX10_spends, (some .int), 0, 1), (yX10_jam, cX10_jam, (some .int), 0, 0), (yX10_clears, cX10_clears, (some .int), 0, 2), (yX10_best, cX10_best, (some .int), 0, 2), (yX10_reorder, cX10_reorder, (some .int), 0, 2), (yX10_areAllBy, cX10_areAllBy, (some .boolean), 0, 2), (yX10_soonest, cX10_soonest, (some .int), 0, 0), (yX10_shortest, cX10_shortest, (some .int), 0, 2), (yX10_honest, cX10_honest, (some .int), 0, 2), (yX10_spark, cX10_spark, (some .int), 0, 2), (yX10_drop, cX10_drop, (some .int), 0, 2), (yX10_coax, cX10_coax, (some .int), 0, 1), (yX10_law, cX10_law, (some .int), 0, 1), (yX10_rivals, cX10_rivals, (some .int), 0, 2), (yX10_odds, cX10_odds, (some .int), 0, 2), (yX10_seen, cX10_seen, (some .int), 0, 3), (yX10_untell, cX10_untell, (some .boolean), 0, 1), (yX10_later, cX10_later, (some .int), 0, 1), (yX10_fits, cX10_fits, (some .int), 0, 1), (yX10_sure, cX10_sure, (some .int), 0, 2), (yX10_ask, cX10_ask, (some .int), 0, 2), (yX10_image, cX10_image, (some .int), 0, 1), (yX10_back, cX10_back, (some .int), 0, 1), (yX10_about, cX10_about, (some .int), 0, 1), (yX10_feed, cX10_feed, (some .int), 0, 5), (yX10_end, cX10_end, (some .int), 0, 1), (yJ7_fill_53178, cJ7_fill_53178, none, 1, 2)]
noncomputable def ex_mi : Nat → Option ex_I := ex_nth ex_il
end
section
noncomputable def ex_mb (mi : Nat → Option ex_I) (M : ex_M) (I : ex_I) (ws : Nat × Nat × Nat × Nat) : Bool :=
  plainName I.1.cls && ex_wd ws.1 (Cond.code I.1 I.2.1 M.2.1 I.2.2.1) && Nat.ble M.2.1 40 && ex_wd ws.2.1 (Cond.initialized I.1.cls) && decide (I.1.cls ≠ "java/lang/invoke/MethodHandle" ∧ I.1.cls ≠ "java/lang/invoke/VarHandle" ∧ (parseMethodDescriptor I.1.desc).map (fun d => d.parameters.length) = some I.2.2.2.2) && (match I.2.2.2.1 with
    | 0 => ex_wd ws.2.2.1 (Cond.instanceMethod I.1) && ex_wd ws.2.2.2 (Cond.selects I.1.cls I.1 I.1) && Nat.ble (I.2.2.2.2 + 1) M.2.1
    | 1 => ex_wd ws.2.2.1 (Cond.static I.1) && Nat.ble I.2.2.2.2 M.2.1
    | 2 => decide (I.1.name = "<init>") && ex_wd ws.2.2.1 (Cond.instanceMethod I.1) && decide (I.2.2.1 = none) && Nat.ble (I.2.2.2.2 + 1) M.2.1
    | _ => false) && (match M.1 with
    | q :: _ => Nat.beq q.1 0
    | [] => false)
noncomputable def ex_pb (mi : Nat → Option ex_I) (own nm : String) (cd : ByteArray) (z : Nat) (ret : Option FieldType) (pr : List ex_P) : Bool := ex_every (fun q => decide (decode cd q.1 = .ok (q.2.1, q.2.2.1)) && ex_qk mi own nm z ret q) pr
theorem ex_pb_ok {mi : Nat → Option ex_I} {own nm : String} {cd : ByteArray} {z : Nat} {ret : Option FieldType} {pr : List ex_P} (h : ex_pb mi own nm cd z ret pr = true) : ex_PO mi own nm cd z ret pr := fun q hq => by
  obtain ⟨h1, h2⟩ := ex_and (ex_every_ok h q hq)
  exact ⟨of_decide_eq_true h1, h2⟩
theorem ex_mb_ok {mi : Nat → Option ex_I} {M : ex_M} {I : ex_I} (ws : Nat × Nat × Nat × Nat) (h : ex_mb mi M I ws = true) (hp : ex_pb mi I.1.cls I.1.name I.2.1 M.2.2.1 I.2.2.1 M.1 = true) : ex_MO mi M I := by
  unfold ex_mb at h
  obtain ⟨h, h7⟩ := ex_and h
  obtain ⟨h, h6⟩ := ex_and h
  obtain ⟨h, h5⟩ := ex_and h
  obtain ⟨h, h4⟩ := ex_and h
  obtain ⟨h, h3⟩ := ex_and h
  obtain ⟨h1, h2⟩ := ex_and h
  have hd : ∃ q r, M.1 = q :: r ∧ q.1 = 0 := by
    split at h7
    · rename_i q r hq
      exact ⟨q, r, hq, ex_beq h7⟩
    · cases h7
  refine ⟨h1, ex_wd_ok h2, ex_ble h3, ex_wd_ok h4, of_decide_eq_true h5, ?_, ?_, hd, ex_pb_ok hp⟩
  · split at h6
    · rename_i hk
      obtain ⟨h6, h9⟩ := ex_and h6
      obtain ⟨h6, h8⟩ := ex_and h6
      exact ⟨fun _ => ⟨ex_wd_ok h6, ex_wd_ok h8⟩, (fun z => by omega), (fun z => by omega)⟩
    · rename_i hk
      obtain ⟨h6, h9⟩ := ex_and h6
      exact ⟨(fun z => by omega), fun _ => ex_wd_ok h6, (fun z => by omega)⟩
    · rename_i hk
      obtain ⟨h6, h9⟩ := ex_and h6
      obtain ⟨h6, h8⟩ := ex_and h6
      obtain ⟨h6, h0⟩ := ex_and h6
      exact ⟨(fun z => by omega), (fun z => by omega), fun _ => ⟨of_decide_eq_true h6, ex_wd_ok h0, of_decide_eq_true h8⟩⟩
    · cases h6
  · split at h6
    · obtain ⟨h6, h9⟩ := ex_and h6
      exact Or.inl (ex_ble h9)
    · rename_i hk
      obtain ⟨h6, h9⟩ := ex_and h6
      exact Or.inr ⟨hk, ex_ble h9⟩
    · obtain ⟨h6, h9⟩ := ex_and h6
      exact Or.inl (ex_ble h9)
    · cases h6

abbrev ex_wl : List (Nat × Nat × Nat × Nat) := [(435, 119, 434, 0), (526, 119, 524, 525), (963, 119, 961, 962), (1007, 119, 1005, 1006), (1015, 119, 1013, 1014), (967, 119, 966, 31), (350, 118, 349, 0), (172, 115, 171, 0), (195, 115, 193, 194), (199, 115, 197, 198), (826, 115, 824, 825), (160, 113, 159, 0), (600, 113, 598, 599), (344, 117, 343, 0), (512, 117, 510, 511), (530, 117, 528, 529), (931, 117, 929, 930), (1078, 117, 1076, 1077), (943, 117, 941, 942), (947, 117, 945, 946), (951, 117, 950, 28), (458, 120, 457, 0), (534, 120, 532, 533), (1181, 120, 1179, 1180), (1194, 120, 1192, 1193), (143, 112, 142, 0), (588, 112, 586, 587), (278, 116, 277, 0), (605, 116, 603, 604), (609, 116, 608, 2), (744, 116, 743, 7), (166, 114, 165, 0), (191, 114, 189, 190), (821, 114, 819, 820), (1066, 114, 1064, 1065), (135, 111, 134, 0), (584, 111, 582, 583), (592, 111, 590, 591), (596, 111, 594, 595), (831, 111, 829, 830), (508, 111, 507, 0), (835, 111, 833, 834), (847, 111, 845, 846), (855, 111, 853, 854), (885, 111, 883, 884), (898, 111, 896, 897), (906, 111, 904, 905), (910, 111, 908, 909), (914, 111, 912, 913), (919, 111, 917, 918), (923, 111, 921, 922), (927, 111, 925, 926), (851, 111, 850, 23), (859, 111, 858, 24), (839, 111, 838, 22), (902, 111, 901, 26), (1031, 111, 1030, 0), (1034, 111, 1033, 0), (935, 111, 933, 934), (971, 111, 969, 970), (939, 111, 938, 27), (975, 111, 973, 974), (987, 111, 985, 986), (995, 111, 993, 994), (999, 111, 997, 998), (1003, 111, 1001, 1002), (1011, 111, 1009, 1010), (1019, 111, 1017, 1018), (1024, 111, 1022, 1023), (1028, 111, 1026, 1027), (1038, 111, 1036, 1037), (1050, 111, 1049, 34), (1046, 111, 1044, 1045), (1054, 111, 1052, 1053), (1058, 111, 1056, 1057), (1062, 111, 1060, 1061), (1070, 111, 1068, 1069), (1074, 111, 1073, 35), (1082, 111, 1080, 1081), (1090, 111, 1088, 1089), (1094, 111, 1092, 1093), (1098, 111, 1096, 1097), (1102, 111, 1100, 1101), (1106, 111, 1105, 36), (1110, 111, 1108, 1109), (1122, 111, 1120, 1121), (1134, 111, 1132, 1133), (1138, 111, 1136, 1137), (1146, 111, 1144, 1145), (1150, 111, 1148, 1149), (1158, 111, 1156, 1157), (1162, 111, 1160, 1161), (1165, 111, 1164, 0), (1169, 111, 1167, 1168), (1177, 111, 1175, 1176), (1185, 111, 1183, 1184), (1190, 111, 1188, 1189), (1209, 111, 1207, 1208), (1213, 111, 1211, 1212), (1224, 123, 1223, 0), (1462, 123, 1461, 49), (1498, 123, 1497, 50), (1458, 123, 1457, 48), (1229, 123, 1228, 43), (1454, 123, 1452, 1453), (1604, 123, 1602, 1603), (1615, 123, 1614, 0), (1556, 123, 1555, 0), (1904, 123, 1903, 0), (1853, 123, 1852, 0), (1245, 123, 1244, 47), (1241, 123, 1240, 46), (1631, 123, 1630, 78), (1612, 123, 1611, 75), (1694, 123, 1693, 89), (1643, 123, 1642, 80), (1778, 123, 1777, 0), (1233, 123, 1232, 44), (1237, 123, 1236, 45), (1790, 123, 1789, 98), (1663, 123, 1662, 85), (1702, 123, 1701, 90), (1730, 123, 1729, 93), (1786, 123, 1785, 97), (1726, 123, 1725, 92), (1608, 123, 1606, 1607), (1627, 123, 1625, 1626), (1639, 123, 1637, 1638), (1679, 123, 1677, 1678), (1690, 123, 1688, 1689), (1698, 123, 1696, 1697), (1706, 123, 1704, 1705), (1710, 123, 1708, 1709), (1714, 123, 1712, 1713), (1722, 123, 1721, 91), (1718, 123, 1716, 1717), (1738, 123, 1736, 1737), (1743, 123, 1741, 1742), (1747, 123, 1745, 1746), (1751, 123, 1749, 1750), (1755, 123, 1753, 1754), (1759, 123, 1757, 1758), (1767, 123, 1765, 1766), (1771, 123, 1769, 1770), (1782, 123, 1781, 96), (1794, 123, 1793, 99), (1802, 123, 1801, 100), (1775, 123, 1773, 1774), (1798, 123, 1796, 1797), (1806, 123, 1804, 1805), (1814, 123, 1813, 101), (1810, 123, 1808, 1809), (1818, 123, 1816, 1817), (1822, 123, 1820, 1821), (1830, 123, 1828, 1829), (1834, 123, 1832, 1833), (1838, 123, 1836, 1837), (1842, 123, 1840, 1841), (1846, 123, 1844, 1845), (1857, 123, 1856, 103), (1850, 123, 1848, 1849), (1861, 123, 1859, 1860), (1869, 123, 1867, 1868), (1873, 123, 1871, 1872), (1877, 123, 1875, 1876), (1881, 123, 1879, 1880), (1885, 123, 1883, 1884), (1889, 123, 1887, 1888), (1901, 123, 1899, 1900), (1908, 123, 1906, 1907), (1912, 123, 1910, 1911), (1916, 123, 1914, 1915), (1921, 123, 1919, 1920), (1933, 123, 1931, 1932), (1938, 123, 1936, 1937), (1946, 123, 1944, 1945), (1950, 123, 1948, 1949), (1954, 123, 1952, 1953), (1958, 123, 1956, 1957), (1962, 123, 1960, 1961), (515, 121, 514, 0)]
noncomputable def ex_zb (mi : Nat → Option ex_I) (x : ex_M × ex_I × (Nat × Nat × Nat × Nat)) : Bool := ex_mb mi x.1 x.2.1 x.2.2 && ex_pb mi x.2.1.1.cls x.2.1.1.name x.2.1.2.1 x.1.2.2.1 x.2.1.2.2.1 x.1.1
noncomputable def ex_zl : List (ex_M × ex_I × (Nat × Nat × Nat × Nat)) := ex_ml.zip (ex_il.zip ex_wl)
set_option maxRecDepth 1000000 in
theorem ex_z0 : ex_every (ex_zb ex_mi) ((ex_zl.drop 0).take 8) = true := by decide +kernel
set_option maxRecDepth 1000000 in
theorem ex_z1 : ex_every (ex_zb ex_mi) ((ex_zl.drop 8).take 8) = true := by decide +kernel
set_option maxRecDepth 1000000 in
theorem ex_z2 : ex_every (ex_zb ex_mi) ((ex_zl.drop 16).take 8) = true := by decide +kernel
set_option maxRecDepth 1000000 in
theorem ex_z3 : ex_every (ex_zb ex_mi) ((ex_zl.drop 24).take 8) = true := by decide +kernel
set_option maxRecDepth 1000000 in
theorem ex_z4 : ex_every (ex_zb ex_mi) ((ex_zl.drop 32).take 8) = true := by decide +kernel
set_option maxRecDepth 1000000 in
theorem ex_z5 : ex_every (ex_zb ex_mi) ((ex_zl.drop 40).take 8) = true := by decide +kernel
set_option maxRecDepth 1000000 in
theorem ex_z6 : ex_every (ex_zb ex_mi) ((ex_zl.drop 48).take 8) = true := by decide +kernel
set_option maxRecDepth 1000000 in
theorem ex_z7 : ex_every (ex_zb ex_mi) ((ex_zl.drop 56).take 8) = true := by decide +kernel
set_option maxRecDepth 1000000 in
theorem ex_z8 : ex_every (ex_zb ex_mi) ((ex_zl.drop 64).take 8) = true := by decide +kernel
set_option maxRecDepth 1000000 in
theorem ex_z9 : ex_every (ex_zb ex_mi) ((ex_zl.drop 72).take 8) = true := by decide +kernel
set_option maxRecDepth 1000000 in
theorem ex_z10 : ex_every (ex_zb ex_mi) ((ex_zl.drop 80).take 8) = true := by decide +kernel
set_option maxRecDepth 1000000 in
theorem ex_z11 : ex_every (ex_zb ex_mi) ((ex_zl.drop 88).take 8) = true := by decide +kernel
set_option maxRecDepth 1000000 in
theorem ex_z12 : ex_every (ex_zb ex_mi) ((ex_zl.drop 96).take 8) = true := by decide +kernel
set_option maxRecDepth 1000000 in
theorem ex_z13 : ex_every (ex_zb ex_mi) ((ex_zl.drop 104).take 8) = true := by decide +kernel
set_option maxRecDepth 1000000 in
theorem ex_z14 : ex_every (ex_zb ex_mi) ((ex_zl.drop 112).take 8) = true := by decide +kernel
set_option maxRecDepth 1000000 in
theorem ex_z15 : ex_every (ex_zb ex_mi) ((ex_zl.drop 120).take 8) = true := by decide +kernel
set_option maxRecDepth 1000000 in
theorem ex_z16 : ex_every (ex_zb ex_mi) ((ex_zl.drop 128).take 8) = true := by decide +kernel
set_option maxRecDepth 1000000 in
theorem ex_z17 : ex_every (ex_zb ex_mi) ((ex_zl.drop 136).take 8) = true := by decide +kernel
set_option maxRecDepth 1000000 in
theorem ex_z18 : ex_every (ex_zb ex_mi) ((ex_zl.drop 144).take 8) = true := by decide +kernel
set_option maxRecDepth 1000000 in
theorem ex_z19 : ex_every (ex_zb ex_mi) ((ex_zl.drop 152).take 8) = true := by decide +kernel
set_option maxRecDepth 1000000 in
theorem ex_z20 : ex_every (ex_zb ex_mi) ((ex_zl.drop 160).take 8) = true := by decide +kernel
set_option maxRecDepth 1000000 in
theorem ex_z21 : ex_every (ex_zb ex_mi) ((ex_zl.drop 168).take 8) = true := by decide +kernel
set_option maxRecDepth 1000000 in
theorem ex_z22 : ex_every (ex_zb ex_mi) ((ex_zl.drop 176).take 8) = true := by decide +kernel
theorem ex_zall : ∀ (i : Nat) (x : ex_M × ex_I × (Nat × Nat × Nat × Nat)), ex_zl[i]? = some x → ex_zb ex_mi x = true := by
  intro i x hx
  have hlt : i < 181 := by
    have h1 := (List.getElem?_eq_some_iff.mp hx).1
    have h2 : ex_zl.length = 181 := by decide +kernel
    omega
  have key : ∀ a : Nat, a ≤ i → i < a + 8 → ex_every (ex_zb ex_mi) ((ex_zl.drop a).take 8) = true → ex_zb ex_mi x = true := fun a h1 h2 h3 => ex_every_ok h3 x (List.mem_of_getElem? (i := i - a) (by rw [List.getElem?_take_of_lt (by omega), List.getElem?_drop, show a + (i - a) = i by omega]; exact hx))
  rcases (show i / 8 = 0 ∨ i / 8 = 1 ∨ i / 8 = 2 ∨ i / 8 = 3 ∨ i / 8 = 4 ∨ i / 8 = 5 ∨ i / 8 = 6 ∨ i / 8 = 7 ∨ i / 8 = 8 ∨ i / 8 = 9 ∨ i / 8 = 10 ∨ i / 8 = 11 ∨ i / 8 = 12 ∨ i / 8 = 13 ∨ i / 8 = 14 ∨ i / 8 = 15 ∨ i / 8 = 16 ∨ i / 8 = 17 ∨ i / 8 = 18 ∨ i / 8 = 19 ∨ i / 8 = 20 ∨ i / 8 = 21 ∨ i / 8 = 22 by omega) with h | h | h | h | h | h | h | h | h | h | h | h | h | h | h | h | h | h | h | h | h | h | h
  · exact key 0 (by omega) (by omega) ex_z0
  · exact key 8 (by omega) (by omega) ex_z1
  · exact key 16 (by omega) (by omega) ex_z2
  · exact key 24 (by omega) (by omega) ex_z3
  · exact key 32 (by omega) (by omega) ex_z4
  · exact key 40 (by omega) (by omega) ex_z5
  · exact key 48 (by omega) (by omega) ex_z6
  · exact key 56 (by omega) (by omega) ex_z7
  · exact key 64 (by omega) (by omega) ex_z8
  · exact key 72 (by omega) (by omega) ex_z9
  · exact key 80 (by omega) (by omega) ex_z10
  · exact key 88 (by omega) (by omega) ex_z11
  · exact key 96 (by omega) (by omega) ex_z12
  · exact key 104 (by omega) (by omega) ex_z13
  · exact key 112 (by omega) (by omega) ex_z14
  · exact key 120 (by omega) (by omega) ex_z15
  · exact key 128 (by omega) (by omega) ex_z16
  · exact key 136 (by omega) (by omega) ex_z17
  · exact key 144 (by omega) (by omega) ex_z18
  · exact key 152 (by omega) (by omega) ex_z19
  · exact key 160 (by omega) (by omega) ex_z20
  · exact key 168 (by omega) (by omega) ex_z21
  · exact key 176 (by omega) (by omega) ex_z22
end
section
theorem ex_hmt : ∀ (j : Nat) (M : ex_M), ex_mt j = some M → ∃ I, ex_mi j = some I ∧ ex_MO ex_mi M I := by
  intro j M hj
  have hj : ex_nth ex_ml j = some M := hj
  rw [ex_nth_get] at hj
  have l1 : ex_ml.length = 181 := by decide +kernel
  have l2 : ex_il.length = 181 := by decide +kernel
  have l3 : ex_wl.length = 181 := by decide +kernel
  have hlt := (List.getElem?_eq_some_iff.mp hj).1
  obtain ⟨I, hI⟩ : ∃ I, ex_il[j]? = some I := ⟨_, List.getElem?_eq_getElem (by rw [l2]; rw [l1] at hlt; exact hlt)⟩
  obtain ⟨w, hw⟩ : ∃ w, ex_wl[j]? = some w := ⟨_, List.getElem?_eq_getElem (by rw [l3]; rw [l1] at hlt; exact hlt)⟩
  have hz : ex_zl[j]? = some (M, I, w) := by
    unfold ex_zl
    rw [List.getElem?_zip_eq_some]
    refine ⟨hj, ?_⟩
    rw [List.getElem?_zip_eq_some]
    exact ⟨hI, hw⟩
  obtain ⟨h1, h2⟩ := ex_and (ex_zall j _ hz)
  exact ⟨I, (ex_nth_get _ _).trans hI, ex_mb_ok w h1 h2⟩
set_option maxRecDepth 1000000 in
theorem ex_y0 : ex_pb ex_mi RL "law" code 1 (some .boolean) ((ex_p_L_law.drop 0).take 40) = true := by decide +kernel
set_option maxRecDepth 1000000 in
theorem ex_y1 : ex_pb ex_mi RL "law" code 1 (some .boolean) ((ex_p_L_law.drop 40).take 40) = true := by decide +kernel
set_option maxRecDepth 1000000 in
theorem ex_y2 : ex_pb ex_mi RL "law" code 1 (some .boolean) ((ex_p_L_law.drop 80).take 40) = true := by decide +kernel
set_option maxRecDepth 1000000 in
theorem ex_y3 : ex_pb ex_mi RL "law" code 1 (some .boolean) ((ex_p_L_law.drop 120).take 40) = true := by decide +kernel
set_option maxRecDepth 1000000 in
theorem ex_y4 : ex_pb ex_mi RL "law" code 1 (some .boolean) ((ex_p_L_law.drop 160).take 40) = true := by decide +kernel
set_option maxRecDepth 1000000 in
theorem ex_y5 : ex_pb ex_mi RL "law" code 1 (some .boolean) ((ex_p_L_law.drop 200).take 40) = true := by decide +kernel
set_option maxRecDepth 1000000 in
theorem ex_y6 : ex_pb ex_mi RL "law" code 1 (some .boolean) ((ex_p_L_law.drop 240).take 40) = true := by decide +kernel
set_option maxRecDepth 1000000 in
theorem ex_y7 : ex_pb ex_mi RL "law" code 1 (some .boolean) ((ex_p_L_law.drop 280).take 40) = true := by decide +kernel
set_option maxRecDepth 1000000 in
theorem ex_y8 : ex_pb ex_mi RL "law" code 1 (some .boolean) ((ex_p_L_law.drop 320).take 40) = true := by decide +kernel
set_option maxRecDepth 1000000 in
theorem ex_y9 : ex_pb ex_mi RL "law" code 1 (some .boolean) ((ex_p_L_law.drop 360).take 40) = true := by decide +kernel
set_option maxRecDepth 1000000 in
theorem ex_y10 : ex_pb ex_mi RL "law" code 1 (some .boolean) ((ex_p_L_law.drop 400).take 40) = true := by decide +kernel
set_option maxRecDepth 1000000 in
theorem ex_y11 : ex_pb ex_mi RL "law" code 1 (some .boolean) ((ex_p_L_law.drop 440).take 40) = true := by decide +kernel
set_option maxRecDepth 1000000 in
theorem ex_y12 : ex_pb ex_mi RL "law" code 1 (some .boolean) ((ex_p_L_law.drop 480).take 40) = true := by decide +kernel
set_option maxRecDepth 1000000 in
theorem ex_y13 : ex_pb ex_mi RL "law" code 1 (some .boolean) ((ex_p_L_law.drop 520).take 40) = true := by decide +kernel
set_option maxRecDepth 1000000 in
theorem ex_y14 : ex_pb ex_mi RL "law" code 1 (some .boolean) ((ex_p_L_law.drop 560).take 40) = true := by decide +kernel
set_option maxRecDepth 1000000 in
theorem ex_y15 : ex_pb ex_mi RL "law" code 1 (some .boolean) ((ex_p_L_law.drop 600).take 40) = true := by decide +kernel
set_option maxRecDepth 1000000 in
theorem ex_y16 : ex_pb ex_mi RL "law" code 1 (some .boolean) ((ex_p_L_law.drop 640).take 40) = true := by decide +kernel
set_option maxRecDepth 1000000 in
theorem ex_y17 : ex_pb ex_mi RL "law" code 1 (some .boolean) ((ex_p_L_law.drop 680).take 40) = true := by decide +kernel
set_option maxRecDepth 1000000 in
theorem ex_y18 : ex_pb ex_mi RL "law" code 1 (some .boolean) ((ex_p_L_law.drop 720).take 40) = true := by decide +kernel
set_option maxRecDepth 1000000 in
theorem ex_y19 : ex_pb ex_mi RL "law" code 1 (some .boolean) ((ex_p_L_law.drop 760).take 40) = true := by decide +kernel
set_option maxRecDepth 1000000 in
theorem ex_y20 : ex_pb ex_mi RL "law" code 1 (some .boolean) ((ex_p_L_law.drop 800).take 40) = true := by decide +kernel
set_option maxRecDepth 1000000 in
theorem ex_y21 : ex_pb ex_mi RL "law" code 1 (some .boolean) ((ex_p_L_law.drop 840).take 40) = true := by decide +kernel
set_option maxRecDepth 1000000 in
theorem ex_y22 : ex_pb ex_mi RL "law" code 1 (some .boolean) ((ex_p_L_law.drop 880).take 40) = true := by decide +kernel
set_option maxRecDepth 1000000 in
theorem ex_y23 : ex_pb ex_mi RL "law" code 1 (some .boolean) ((ex_p_L_law.drop 920).take 40) = true := by decide +kernel
theorem ex_lawPO : ex_PO ex_mi RL "law" code 1 (some .boolean) ex_p_L_law := by
  intro q hq
  obtain ⟨i, hi⟩ := List.getElem?_of_mem hq
  have hlt : i < 939 := by
    have h1 := (List.getElem?_eq_some_iff.mp hi).1
    have h2 : ex_p_L_law.length = 939 := by decide +kernel
    omega
  have key : ∀ a : Nat, a ≤ i → i < a + 40 → ex_pb ex_mi RL "law" code 1 (some .boolean) ((ex_p_L_law.drop a).take 40) = true → decode code q.1 = .ok (q.2.1, q.2.2.1) ∧ ex_qk ex_mi RL "law" 1 (some .boolean) q = true := fun a h1 h2 h3 => ex_pb_ok h3 q (List.mem_of_getElem? (i := i - a) (by rw [List.getElem?_take_of_lt (by omega), List.getElem?_drop, show a + (i - a) = i by omega]; exact hi))
  rcases (show i / 40 = 0 ∨ i / 40 = 1 ∨ i / 40 = 2 ∨ i / 40 = 3 ∨ i / 40 = 4 ∨ i / 40 = 5 ∨ i / 40 = 6 ∨ i / 40 = 7 ∨ i / 40 = 8 ∨ i / 40 = 9 ∨ i / 40 = 10 ∨ i / 40 = 11 ∨ i / 40 = 12 ∨ i / 40 = 13 ∨ i / 40 = 14 ∨ i / 40 = 15 ∨ i / 40 = 16 ∨ i / 40 = 17 ∨ i / 40 = 18 ∨ i / 40 = 19 ∨ i / 40 = 20 ∨ i / 40 = 21 ∨ i / 40 = 22 ∨ i / 40 = 23 by omega) with h | h | h | h | h | h | h | h | h | h | h | h | h | h | h | h | h | h | h | h | h | h | h | h
  · exact key 0 (by omega) (by omega) ex_y0
  · exact key 40 (by omega) (by omega) ex_y1
  · exact key 80 (by omega) (by omega) ex_y2
  · exact key 120 (by omega) (by omega) ex_y3
  · exact key 160 (by omega) (by omega) ex_y4
  · exact key 200 (by omega) (by omega) ex_y5
  · exact key 240 (by omega) (by omega) ex_y6
  · exact key 280 (by omega) (by omega) ex_y7
  · exact key 320 (by omega) (by omega) ex_y8
  · exact key 360 (by omega) (by omega) ex_y9
  · exact key 400 (by omega) (by omega) ex_y10
  · exact key 440 (by omega) (by omega) ex_y11
  · exact key 480 (by omega) (by omega) ex_y12
  · exact key 520 (by omega) (by omega) ex_y13
  · exact key 560 (by omega) (by omega) ex_y14
  · exact key 600 (by omega) (by omega) ex_y15
  · exact key 640 (by omega) (by omega) ex_y16
  · exact key 680 (by omega) (by omega) ex_y17
  · exact key 720 (by omega) (by omega) ex_y18
  · exact key 760 (by omega) (by omega) ex_y19
  · exact key 800 (by omega) (by omega) ex_y20
  · exact key 840 (by omega) (by omega) ex_y21
  · exact key 880 (by omega) (by omega) ex_y22
  · exact key 920 (by omega) (by omega) ex_y23
theorem ex_gwp : ex_gw := by
  refine ⟨fun t ht => ?_, ⟨ex_wd_ok (i := 522) (by decide +kernel), ex_wd_ok (i := 521) (by decide +kernel), ex_wd_ok (i := 122) (by decide +kernel)⟩, ⟨ex_wd_ok (i := 137) (by decide +kernel), ex_wd_ok (i := 138) (by decide +kernel)⟩, fun ci rc hc => ?_⟩
  · rcases (show t = 0 ∨ t = 1 ∨ t = 2 ∨ t = 3 by omega) with rfl | rfl | rfl | rfl
    · exact ex_wd_ok (i := 187) (by decide +kernel)
    · exact ex_wd_ok (i := 155) (by decide +kernel)
    · exact ex_wd_ok (i := 297) (by decide +kernel)
    · exact ex_wd_ok (i := 504) (by decide +kernel)
  · match ci, hc with
    | 0, hc => cases hc; exact ⟨ex_wd_ok (i := 432) (by decide +kernel), ex_wd_ok (i := 119) (by decide +kernel)⟩
    | 1, hc => cases hc; exact ⟨ex_wd_ok (i := 347) (by decide +kernel), ex_wd_ok (i := 118) (by decide +kernel)⟩
    | 2, hc => cases hc; exact ⟨ex_wd_ok (i := 169) (by decide +kernel), ex_wd_ok (i := 115) (by decide +kernel)⟩
    | 3, hc => cases hc; exact ⟨ex_wd_ok (i := 157) (by decide +kernel), ex_wd_ok (i := 113) (by decide +kernel)⟩
    | 4, hc => cases hc; exact ⟨ex_wd_ok (i := 341) (by decide +kernel), ex_wd_ok (i := 117) (by decide +kernel)⟩
    | 5, hc => cases hc; exact ⟨ex_wd_ok (i := 455) (by decide +kernel), ex_wd_ok (i := 120) (by decide +kernel)⟩
    | 6, hc => cases hc; exact ⟨ex_wd_ok (i := 140) (by decide +kernel), ex_wd_ok (i := 112) (by decide +kernel)⟩
    | 7, hc => cases hc; exact ⟨ex_wd_ok (i := 275) (by decide +kernel), ex_wd_ok (i := 116) (by decide +kernel)⟩
    | 8, hc => cases hc; exact ⟨ex_wd_ok (i := 163) (by decide +kernel), ex_wd_ok (i := 114) (by decide +kernel)⟩
    | 9, hc => cases hc; exact ⟨ex_wd_ok (i := 132) (by decide +kernel), ex_wd_ok (i := 111) (by decide +kernel)⟩
    | 10, hc => cases hc; exact ⟨ex_wd_ok (i := 1221) (by decide +kernel), ex_wd_ok (i := 123) (by decide +kernel)⟩
    | k + 11, hc => simp [vwCl] at hc
def ex_dv (v : ex_V) : Value := match v with
  | .inl _ => .int 0
  | .inr (.inl _) => .null
  | .inr (.inr _) => .long 0
def ex_isD (v : ex_V) : Bool := ex_veq v (ex_k 2147483648) || ex_veq v (ex_a none) || ex_veq v (ex_j 0)
theorem ex_isD_ok {v : ex_V} (h : ex_isD v = true) (ρ : Nat → Int32) (b : Nat) (ws : va_W) : ex_vr ρ b ws v (ex_dv v) := by
  rcases Bool.or_eq_true _ _ |>.mp h with h | h
  · rcases Bool.or_eq_true _ _ |>.mp h with h | h
    · cases ex_veq_ok h
      exact ⟨0, rfl, ex_u_0⟩
    · cases ex_veq_ok h
      rfl
  · cases ex_veq_ok h
    rfl
theorem ex_gd1 {ci N : Nat} {T : u_T} {tyX : Nat → FieldType} (h1 : (ex_df ci).length = N) (h2 : (ex_df ci).all ex_isD = true) (h3 : ∀ k, k < N → parseFieldDescriptor (T k).2.2.1 = some (tyX k)) (h4 : ∀ j, j < N → defaultValue (tyX j) = vp_V ((ex_df ci).map ex_dv) j) : (ex_df ci).length = N ∧ ∀ (ty0 : Nat → FieldType), (∀ k, k < N → parseFieldDescriptor (T k).2.2.1 = some (ty0 k)) → ∃ fs : List Value, fs.length = N ∧ (∀ j, j < N → defaultValue (ty0 j) = vp_V fs j) ∧ ∀ (j : Nat) (v : ex_V), ex_nth (ex_df ci) j = some v → ∀ (ρ : Nat → Int32) (b : Nat) (ws : va_W), ∃ x, fs[j]? = some x ∧ ex_vr ρ b ws v x := by
  refine ⟨h1, fun ty0 hty => ⟨(ex_df ci).map ex_dv, by rw [List.length_map]; exact h1, fun j hj => ?_, fun j v hv ρ b ws => ?_⟩⟩
  · have e := (hty j hj).symm.trans (h3 j hj)
    injection e with e
    rw [e]
    exact h4 j hj
  · rw [ex_nth_get] at hv
    exact ⟨ex_dv v, by rw [List.getElem?_map, hv]; rfl, ex_isD_ok (List.all_eq_true.mp h2 v (List.mem_of_getElem? hv)) ρ b ws⟩
theorem ex_gdp : ex_gd ex_df := by
  intro ci rc hc
  match ci, hc with
  | 0, hc => cases hc; exact ex_gd1 (tyX := tyX0) (by decide +kernel) (by decide +kernel) tyX0_ok (by decide +kernel)
  | 1, hc => cases hc; exact ex_gd1 (tyX := tyX1) (by decide +kernel) (by decide +kernel) tyX1_ok (by decide +kernel)
  | 2, hc => cases hc; exact ex_gd1 (tyX := tyX2) (by decide +kernel) (by decide +kernel) tyX2_ok (by decide +kernel)
  | 3, hc => cases hc; exact ex_gd1 (tyX := tyX3) (by decide +kernel) (by decide +kernel) tyX3_ok (by decide +kernel)
  | 4, hc => cases hc; exact ex_gd1 (tyX := tyX4) (by decide +kernel) (by decide +kernel) tyX4_ok (by decide +kernel)
  | 5, hc => cases hc; exact ex_gd1 (tyX := tyX5) (by decide +kernel) (by decide +kernel) tyX5_ok (by decide +kernel)
  | 6, hc => cases hc; exact ex_gd1 (tyX := tyX6) (by decide +kernel) (by decide +kernel) tyX6_ok (by decide +kernel)
  | 7, hc => cases hc; exact ex_gd1 (tyX := tyX7) (by decide +kernel) (by decide +kernel) tyX7_ok (by decide +kernel)
  | 8, hc => cases hc; exact ex_gd1 (tyX := tyX8) (by decide +kernel) (by decide +kernel) tyX8_ok (by decide +kernel)
  | 9, hc => cases hc; exact ex_gd1 (tyX := tyX9) (by decide +kernel) (by decide +kernel) tyX9_ok (by decide +kernel)
  | 10, hc => cases hc; exact ex_gd1 (tyX := tyX10) (by decide +kernel) (by decide +kernel) tyX10_ok (by decide +kernel)
  | k + 11, hc => simp [vwCl] at hc
end
section
def ex_h0 : List ex_C := [.inl (9, [ex_a (some 1), ex_a (some 3), ex_a (some 23), ex_a (some 36), ex_a (some 44), ex_a (some 52), ex_a (some 53), ex_a (some 383), ex_a (some 384), ex_a (some 385), ex_a (some 403), ex_a (some 404), ex_a (some 405), ex_k 2147483648, ex_k 2147483648]), .inl (6, [ex_a (some 2), ex_k 2147483648]), .inr (1, 1600, []), .inl (3, [ex_a (some 4), ex_k 2147483648, ex_k 2147483647, ex_a (some 17), ex_a (some 21), ex_a (some 22), ex_k 2147483648, ex_k 2147483681, ex_k 2147483648, ex_k 2147483648, ex_k 2147483648, ex_a (some 9)]), .inl (8, [ex_k 2147483652, ex_k 2147483648, ex_k 2147483648, ex_k 2147483698, ex_k 2147483648, ex_k 2147483648, ex_k 2147483648, ex_a (some 5), ex_a (some 6), ex_a (some 7), ex_a (some 8), ex_a (some 9), ex_a (some 13)]), .inr (0, 8, []), .inr (0, 8, []), .inr (0, 8, []), .inr (0, 8, []), .inl (2, [ex_a (some 10), ex_a (some 11), ex_a (some 12), ex_k 2147483651]), .inr (0, 300, [(0, ex_k 2147483663), (1, ex_k 2147483680), (2, ex_k 2147483675)]), .inr (0, 300, [(0, ex_k 2147483648), (1, ex_k 2147483657), (2, ex_k 2147483648)]), .inr (0, 48, []), .inl (2, [ex_a (some 14), ex_a (some 15), ex_a (some 16), ex_k 2147483651]), .inr (0, 300, [(0, ex_k 2147483680), (1, ex_k 2147483664), (2, ex_k 2147483676)]), .inr (0, 300, [(0, ex_k 2147483653), (1, ex_k 2147483648), (2, ex_k 2147483648)]), .inr (0, 48, []), .inl (7, [ex_a (some 18), ex_a (some 19), ex_a (some 20), ex_k 2147483648]), .inr (0, 1601, []), .inr (0, 1601, []), .inr (2, 1601, []), .inr (2, 8, []), .inr (2, 8, []), .inl (8, [ex_k 2147483652, ex_k 2147483648, ex_k 2147483648, ex_k 2147483698, ex_k 2147483648, ex_k 2147483648, ex_k 2147483648, ex_a (some 24), ex_a (some 25), ex_a (some 26), ex_a (some 27), ex_a (some 28), ex_a (some 32)]), .inr (0, 8, []), .inr (0, 8, []), .inr (0, 8, []), .inr (0, 8, []), .inl (2, [ex_a (some 29), ex_a (some 30), ex_a (some 31), ex_k 2147483651]), .inr (0, 300, [(0, ex_k 2147483663), (1, ex_k 2147483680), (2, ex_k 2147483675)]), .inr (0, 300, [(0, ex_k 2147483648), (1, ex_k 2147483657), (2, ex_k 2147483648)]), .inr (0, 48, [])]
def ex_h1 : List ex_C := [.inl (2, [ex_a (some 33), ex_a (some 34), ex_a (some 35), ex_k 2147483651]), .inr (0, 300, [(0, ex_k 2147483680), (1, ex_k 2147483664), (2, ex_k 2147483676)]), .inr (0, 300, [(0, ex_k 2147483653), (1, ex_k 2147483648), (2, ex_k 2147483648)]), .inr (0, 48, []), .inl (4, [ex_a (some 37), ex_a (some 38), ex_a (some 39), ex_a (some 40), ex_a (some 41), ex_a (some 42), ex_k 2147483698, ex_k 2147483648, ex_k 2147483648, ex_k 2147483648, ex_k 2147483648, ex_a (some 23), ex_a (some 43)]), .inr (0, 8, []), .inr (0, 8, []), .inr (0, 8, [(0, ex_k 2147483648), (1, ex_k 2147483648), (2, ex_k 2147483648), (3, ex_k 2147483648), (4, ex_k 2147483648), (5, ex_k 2147483648), (6, ex_k 2147483648), (7, ex_k 2147483648)]), .inr (0, 8, [(0, ex_k 2147483648), (1, ex_k 2147483648), (2, ex_k 2147483648), (3, ex_k 2147483648), (4, ex_k 2147483648), (5, ex_k 2147483648), (6, ex_k 2147483648), (7, ex_k 2147483648)]), .inr (0, 8, [(0, ex_k 2147483648), (1, ex_k 2147483648), (2, ex_k 2147483648), (3, ex_k 2147483648), (4, ex_k 2147483648), (5, ex_k 2147483648), (6, ex_k 2147483648), (7, ex_k 2147483648)]), .inr (0, 4, [(0, ex_k 2147483648), (1, ex_k 2147483648), (2, ex_k 2147483648), (3, ex_k 2147483648)]), .inl (1, [ex_k 2147483648, ex_k 2147483648, ex_k 2147483648, ex_k 2147483648, ex_k 2147483648, ex_k 2147483648]), .inl (4, [ex_a (some 45), ex_a (some 46), ex_a (some 47), ex_a (some 48), ex_a (some 49), ex_a (some 50), ex_k 2147483648, ex_k 2147483648, ex_k 2147483648, ex_k 2147483648, ex_k 2147483648, ex_a (some 23), ex_a (some 51)]), .inr (0, 8, []), .inr (0, 8, []), .inr (0, 8, []), .inr (0, 8, []), .inr (0, 8, []), .inr (0, 4, []), .inl (1, [ex_k 2147483648, ex_k 2147483648, ex_k 2147483648, ex_k 2147483648, ex_k 2147483648, ex_k 2147483648]), .inr (4, 8, [(0, ex_a (some 406)), (1, ex_a (some 414)), (2, ex_a (some 422)), (3, ex_a (some 430)), (4, ex_a (some 438)), (5, ex_a (some 446)), (6, ex_a (some 454)), (7, ex_a (some 462))]), .inl (0, [ex_k 2147483648, ex_k 2147483648, ex_a (some 54), ex_k 2147483648]), .inr (4, 41, [(0, ex_a (some 55)), (1, ex_a (some 63)), (2, ex_a (some 71)), (3, ex_a (some 79)), (4, ex_a (some 87)), (5, ex_a (some 95)), (6, ex_a (some 103)), (7, ex_a (some 111)), (8, ex_a (some 119)), (9, ex_a (some 127)), (10, ex_a (some 135)), (11, ex_a (some 143)), (12, ex_a (some 151)), (13, ex_a (some 159)), (14, ex_a (some 167)), (15, ex_a (some 175)), (16, ex_a (some 183)), (17, ex_a (some 191)), (18, ex_a (some 199)), (19, ex_a (some 207)), (20, ex_a (some 215)), (21, ex_a (some 223)), (22, ex_a (some 231)), (23, ex_a (some 239)), (24, ex_a (some 247)), (25, ex_a (some 255)), (26, ex_a (some 263)), (27, ex_a (some 271)), (28, ex_a (some 279)), (29, ex_a (some 287)), (30, ex_a (some 295)), (31, ex_a (some 303)), (32, ex_a (some 311)), (33, ex_a (some 319)), (34, ex_a (some 327)), (35, ex_a (some 335)), (36, ex_a (some 343)), (37, ex_a (some 351)), (38, ex_a (some 359)), (39, ex_a (some 367)), (40, ex_a (some 375))]), .inl (4, [ex_a (some 56), ex_a (some 57), ex_a (some 58), ex_a (some 59), ex_a (some 60), ex_a (some 61), ex_k 2147483698, ex_k 2147483648, ex_k 2147483648, ex_k 2147483648, ex_k 2147483648, ex_a (some 23), ex_a (some 62)]), .inr (0, 8, [(0, ex_k 2147483648), (1, ex_k 2147483648), (2, ex_k 2147483648), (3, ex_k 2147483648), (4, ex_k 2147483648), (5, ex_k 2147483648), (6, ex_k 2147483648), (7, ex_k 2147483648)]), .inr (0, 8, [(0, ex_k 2147483648), (1, ex_k 2147483648), (2, ex_k 2147483648), (3, ex_k 2147483648), (4, ex_k 2147483648), (5, ex_k 2147483648), (6, ex_k 2147483648), (7, ex_k 2147483648)]), .inr (0, 8, [(0, ex_k 2147483648), (1, ex_k 2147483648), (2, ex_k 2147483648), (3, ex_k 2147483648), (4, ex_k 2147483648), (5, ex_k 2147483648), (6, ex_k 2147483648), (7, ex_k 2147483648)]), .inr (0, 8, [(0, ex_k 2147483648), (1, ex_k 2147483648), (2, ex_k 2147483648), (3, ex_k 2147483648), (4, ex_k 2147483648), (5, ex_k 2147483648), (6, ex_k 2147483648), (7, ex_k 2147483648)]), .inr (0, 8, [(0, ex_k 2147483648), (1, ex_k 2147483648), (2, ex_k 2147483648), (3, ex_k 2147483648), (4, ex_k 2147483648), (5, ex_k 2147483648), (6, ex_k 2147483648), (7, ex_k 2147483648)]), .inr (0, 4, [(0, ex_k 2147483648), (1, ex_k 2147483648), (2, ex_k 2147483648), (3, ex_k 2147483648)]), .inl (1, [ex_k 2147483648, ex_k 2147483648, ex_k 2147483648, ex_k 2147483648, ex_k 2147483648, ex_k 2147483648]), .inl (4, [ex_a (some 64), ex_a (some 65), ex_a (some 66), ex_a (some 67), ex_a (some 68), ex_a (some 69), ex_k 2147483648, ex_k 2147483648, ex_k 2147483648, ex_k 2147483648, ex_k 2147483648, ex_a (some 23), ex_a (some 70)])]
def ex_h2 : List ex_C := [.inr (0, 8, []), .inr (0, 8, []), .inr (0, 8, []), .inr (0, 8, []), .inr (0, 8, []), .inr (0, 4, []), .inl (1, [ex_k 2147483648, ex_k 2147483648, ex_k 2147483648, ex_k 2147483648, ex_k 2147483648, ex_k 2147483648]), .inl (4, [ex_a (some 72), ex_a (some 73), ex_a (some 74), ex_a (some 75), ex_a (some 76), ex_a (some 77), ex_k 2147483648, ex_k 2147483648, ex_k 2147483648, ex_k 2147483648, ex_k 2147483648, ex_a (some 23), ex_a (some 78)]), .inr (0, 8, []), .inr (0, 8, []), .inr (0, 8, []), .inr (0, 8, []), .inr (0, 8, []), .inr (0, 4, []), .inl (1, [ex_k 2147483648, ex_k 2147483648, ex_k 2147483648, ex_k 2147483648, ex_k 2147483648, ex_k 2147483648]), .inl (4, [ex_a (some 80), ex_a (some 81), ex_a (some 82), ex_a (some 83), ex_a (some 84), ex_a (some 85), ex_k 2147483648, ex_k 2147483648, ex_k 2147483648, ex_k 2147483648, ex_k 2147483648, ex_a (some 23), ex_a (some 86)]), .inr (0, 8, []), .inr (0, 8, []), .inr (0, 8, []), .inr (0, 8, []), .inr (0, 8, []), .inr (0, 4, []), .inl (1, [ex_k 2147483648, ex_k 2147483648, ex_k 2147483648, ex_k 2147483648, ex_k 2147483648, ex_k 2147483648]), .inl (4, [ex_a (some 88), ex_a (some 89), ex_a (some 90), ex_a (some 91), ex_a (some 92), ex_a (some 93), ex_k 2147483648, ex_k 2147483648, ex_k 2147483648, ex_k 2147483648, ex_k 2147483648, ex_a (some 23), ex_a (some 94)]), .inr (0, 8, []), .inr (0, 8, []), .inr (0, 8, []), .inr (0, 8, []), .inr (0, 8, []), .inr (0, 4, []), .inl (1, [ex_k 2147483648, ex_k 2147483648, ex_k 2147483648, ex_k 2147483648, ex_k 2147483648, ex_k 2147483648]), .inl (4, [ex_a (some 96), ex_a (some 97), ex_a (some 98), ex_a (some 99), ex_a (some 100), ex_a (some 101), ex_k 2147483648, ex_k 2147483648, ex_k 2147483648, ex_k 2147483648, ex_k 2147483648, ex_a (some 23), ex_a (some 102)])]
def ex_h3 : List ex_C := [.inr (0, 8, []), .inr (0, 8, []), .inr (0, 8, []), .inr (0, 8, []), .inr (0, 8, []), .inr (0, 4, []), .inl (1, [ex_k 2147483648, ex_k 2147483648, ex_k 2147483648, ex_k 2147483648, ex_k 2147483648, ex_k 2147483648]), .inl (4, [ex_a (some 104), ex_a (some 105), ex_a (some 106), ex_a (some 107), ex_a (some 108), ex_a (some 109), ex_k 2147483648, ex_k 2147483648, ex_k 2147483648, ex_k 2147483648, ex_k 2147483648, ex_a (some 23), ex_a (some 110)]), .inr (0, 8, []), .inr (0, 8, []), .inr (0, 8, []), .inr (0, 8, []), .inr (0, 8, []), .inr (0, 4, []), .inl (1, [ex_k 2147483648, ex_k 2147483648, ex_k 2147483648, ex_k 2147483648, ex_k 2147483648, ex_k 2147483648]), .inl (4, [ex_a (some 112), ex_a (some 113), ex_a (some 114), ex_a (some 115), ex_a (some 116), ex_a (some 117), ex_k 2147483648, ex_k 2147483648, ex_k 2147483648, ex_k 2147483648, ex_k 2147483648, ex_a (some 23), ex_a (some 118)]), .inr (0, 8, []), .inr (0, 8, []), .inr (0, 8, []), .inr (0, 8, []), .inr (0, 8, []), .inr (0, 4, []), .inl (1, [ex_k 2147483648, ex_k 2147483648, ex_k 2147483648, ex_k 2147483648, ex_k 2147483648, ex_k 2147483648]), .inl (4, [ex_a (some 120), ex_a (some 121), ex_a (some 122), ex_a (some 123), ex_a (some 124), ex_a (some 125), ex_k 2147483648, ex_k 2147483648, ex_k 2147483648, ex_k 2147483648, ex_k 2147483648, ex_a (some 23), ex_a (some 126)]), .inr (0, 8, []), .inr (0, 8, []), .inr (0, 8, []), .inr (0, 8, []), .inr (0, 8, []), .inr (0, 4, []), .inl (1, [ex_k 2147483648, ex_k 2147483648, ex_k 2147483648, ex_k 2147483648, ex_k 2147483648, ex_k 2147483648]), .inl (4, [ex_a (some 128), ex_a (some 129), ex_a (some 130), ex_a (some 131), ex_a (some 132), ex_a (some 133), ex_k 2147483648, ex_k 2147483648, ex_k 2147483648, ex_k 2147483648, ex_k 2147483648, ex_a (some 23), ex_a (some 134)])]
def ex_h4 : List ex_C := [.inr (0, 8, []), .inr (0, 8, []), .inr (0, 8, []), .inr (0, 8, []), .inr (0, 8, []), .inr (0, 4, []), .inl (1, [ex_k 2147483648, ex_k 2147483648, ex_k 2147483648, ex_k 2147483648, ex_k 2147483648, ex_k 2147483648]), .inl (4, [ex_a (some 136), ex_a (some 137), ex_a (some 138), ex_a (some 139), ex_a (some 140), ex_a (some 141), ex_k 2147483648, ex_k 2147483648, ex_k 2147483648, ex_k 2147483648, ex_k 2147483648, ex_a (some 23), ex_a (some 142)]), .inr (0, 8, []), .inr (0, 8, []), .inr (0, 8, []), .inr (0, 8, []), .inr (0, 8, []), .inr (0, 4, []), .inl (1, [ex_k 2147483648, ex_k 2147483648, ex_k 2147483648, ex_k 2147483648, ex_k 2147483648, ex_k 2147483648]), .inl (4, [ex_a (some 144), ex_a (some 145), ex_a (some 146), ex_a (some 147), ex_a (some 148), ex_a (some 149), ex_k 2147483648, ex_k 2147483648, ex_k 2147483648, ex_k 2147483648, ex_k 2147483648, ex_a (some 23), ex_a (some 150)]), .inr (0, 8, []), .inr (0, 8, []), .inr (0, 8, []), .inr (0, 8, []), .inr (0, 8, []), .inr (0, 4, []), .inl (1, [ex_k 2147483648, ex_k 2147483648, ex_k 2147483648, ex_k 2147483648, ex_k 2147483648, ex_k 2147483648]), .inl (4, [ex_a (some 152), ex_a (some 153), ex_a (some 154), ex_a (some 155), ex_a (some 156), ex_a (some 157), ex_k 2147483648, ex_k 2147483648, ex_k 2147483648, ex_k 2147483648, ex_k 2147483648, ex_a (some 23), ex_a (some 158)]), .inr (0, 8, []), .inr (0, 8, []), .inr (0, 8, []), .inr (0, 8, []), .inr (0, 8, []), .inr (0, 4, []), .inl (1, [ex_k 2147483648, ex_k 2147483648, ex_k 2147483648, ex_k 2147483648, ex_k 2147483648, ex_k 2147483648]), .inl (4, [ex_a (some 160), ex_a (some 161), ex_a (some 162), ex_a (some 163), ex_a (some 164), ex_a (some 165), ex_k 2147483648, ex_k 2147483648, ex_k 2147483648, ex_k 2147483648, ex_k 2147483648, ex_a (some 23), ex_a (some 166)])]
def ex_h5 : List ex_C := [.inr (0, 8, []), .inr (0, 8, []), .inr (0, 8, []), .inr (0, 8, []), .inr (0, 8, []), .inr (0, 4, []), .inl (1, [ex_k 2147483648, ex_k 2147483648, ex_k 2147483648, ex_k 2147483648, ex_k 2147483648, ex_k 2147483648]), .inl (4, [ex_a (some 168), ex_a (some 169), ex_a (some 170), ex_a (some 171), ex_a (some 172), ex_a (some 173), ex_k 2147483648, ex_k 2147483648, ex_k 2147483648, ex_k 2147483648, ex_k 2147483648, ex_a (some 23), ex_a (some 174)]), .inr (0, 8, []), .inr (0, 8, []), .inr (0, 8, []), .inr (0, 8, []), .inr (0, 8, []), .inr (0, 4, []), .inl (1, [ex_k 2147483648, ex_k 2147483648, ex_k 2147483648, ex_k 2147483648, ex_k 2147483648, ex_k 2147483648]), .inl (4, [ex_a (some 176), ex_a (some 177), ex_a (some 178), ex_a (some 179), ex_a (some 180), ex_a (some 181), ex_k 2147483648, ex_k 2147483648, ex_k 2147483648, ex_k 2147483648, ex_k 2147483648, ex_a (some 23), ex_a (some 182)]), .inr (0, 8, []), .inr (0, 8, []), .inr (0, 8, []), .inr (0, 8, []), .inr (0, 8, []), .inr (0, 4, []), .inl (1, [ex_k 2147483648, ex_k 2147483648, ex_k 2147483648, ex_k 2147483648, ex_k 2147483648, ex_k 2147483648]), .inl (4, [ex_a (some 184), ex_a (some 185), ex_a (some 186), ex_a (some 187), ex_a (some 188), ex_a (some 189), ex_k 2147483648, ex_k 2147483648, ex_k 2147483648, ex_k 2147483648, ex_k 2147483648, ex_a (some 23), ex_a (some 190)]), .inr (0, 8, []), .inr (0, 8, []), .inr (0, 8, []), .inr (0, 8, []), .inr (0, 8, []), .inr (0, 4, []), .inl (1, [ex_k 2147483648, ex_k 2147483648, ex_k 2147483648, ex_k 2147483648, ex_k 2147483648, ex_k 2147483648]), .inl (4, [ex_a (some 192), ex_a (some 193), ex_a (some 194), ex_a (some 195), ex_a (some 196), ex_a (some 197), ex_k 2147483648, ex_k 2147483648, ex_k 2147483648, ex_k 2147483648, ex_k 2147483648, ex_a (some 23), ex_a (some 198)])]
def ex_h6 : List ex_C := [.inr (0, 8, []), .inr (0, 8, []), .inr (0, 8, []), .inr (0, 8, []), .inr (0, 8, []), .inr (0, 4, []), .inl (1, [ex_k 2147483648, ex_k 2147483648, ex_k 2147483648, ex_k 2147483648, ex_k 2147483648, ex_k 2147483648]), .inl (4, [ex_a (some 200), ex_a (some 201), ex_a (some 202), ex_a (some 203), ex_a (some 204), ex_a (some 205), ex_k 2147483648, ex_k 2147483648, ex_k 2147483648, ex_k 2147483648, ex_k 2147483648, ex_a (some 23), ex_a (some 206)]), .inr (0, 8, []), .inr (0, 8, []), .inr (0, 8, []), .inr (0, 8, []), .inr (0, 8, []), .inr (0, 4, []), .inl (1, [ex_k 2147483648, ex_k 2147483648, ex_k 2147483648, ex_k 2147483648, ex_k 2147483648, ex_k 2147483648]), .inl (4, [ex_a (some 208), ex_a (some 209), ex_a (some 210), ex_a (some 211), ex_a (some 212), ex_a (some 213), ex_k 2147483648, ex_k 2147483648, ex_k 2147483648, ex_k 2147483648, ex_k 2147483648, ex_a (some 23), ex_a (some 214)]), .inr (0, 8, []), .inr (0, 8, []), .inr (0, 8, []), .inr (0, 8, []), .inr (0, 8, []), .inr (0, 4, []), .inl (1, [ex_k 2147483648, ex_k 2147483648, ex_k 2147483648, ex_k 2147483648, ex_k 2147483648, ex_k 2147483648]), .inl (4, [ex_a (some 216), ex_a (some 217), ex_a (some 218), ex_a (some 219), ex_a (some 220), ex_a (some 221), ex_k 2147483648, ex_k 2147483648, ex_k 2147483648, ex_k 2147483648, ex_k 2147483648, ex_a (some 23), ex_a (some 222)]), .inr (0, 8, []), .inr (0, 8, []), .inr (0, 8, []), .inr (0, 8, []), .inr (0, 8, []), .inr (0, 4, []), .inl (1, [ex_k 2147483648, ex_k 2147483648, ex_k 2147483648, ex_k 2147483648, ex_k 2147483648, ex_k 2147483648]), .inl (4, [ex_a (some 224), ex_a (some 225), ex_a (some 226), ex_a (some 227), ex_a (some 228), ex_a (some 229), ex_k 2147483648, ex_k 2147483648, ex_k 2147483648, ex_k 2147483648, ex_k 2147483648, ex_a (some 23), ex_a (some 230)])]
def ex_h7 : List ex_C := [.inr (0, 8, []), .inr (0, 8, []), .inr (0, 8, []), .inr (0, 8, []), .inr (0, 8, []), .inr (0, 4, []), .inl (1, [ex_k 2147483648, ex_k 2147483648, ex_k 2147483648, ex_k 2147483648, ex_k 2147483648, ex_k 2147483648]), .inl (4, [ex_a (some 232), ex_a (some 233), ex_a (some 234), ex_a (some 235), ex_a (some 236), ex_a (some 237), ex_k 2147483648, ex_k 2147483648, ex_k 2147483648, ex_k 2147483648, ex_k 2147483648, ex_a (some 23), ex_a (some 238)]), .inr (0, 8, []), .inr (0, 8, []), .inr (0, 8, []), .inr (0, 8, []), .inr (0, 8, []), .inr (0, 4, []), .inl (1, [ex_k 2147483648, ex_k 2147483648, ex_k 2147483648, ex_k 2147483648, ex_k 2147483648, ex_k 2147483648]), .inl (4, [ex_a (some 240), ex_a (some 241), ex_a (some 242), ex_a (some 243), ex_a (some 244), ex_a (some 245), ex_k 2147483648, ex_k 2147483648, ex_k 2147483648, ex_k 2147483648, ex_k 2147483648, ex_a (some 23), ex_a (some 246)]), .inr (0, 8, []), .inr (0, 8, []), .inr (0, 8, []), .inr (0, 8, []), .inr (0, 8, []), .inr (0, 4, []), .inl (1, [ex_k 2147483648, ex_k 2147483648, ex_k 2147483648, ex_k 2147483648, ex_k 2147483648, ex_k 2147483648]), .inl (4, [ex_a (some 248), ex_a (some 249), ex_a (some 250), ex_a (some 251), ex_a (some 252), ex_a (some 253), ex_k 2147483648, ex_k 2147483648, ex_k 2147483648, ex_k 2147483648, ex_k 2147483648, ex_a (some 23), ex_a (some 254)]), .inr (0, 8, []), .inr (0, 8, []), .inr (0, 8, []), .inr (0, 8, []), .inr (0, 8, []), .inr (0, 4, []), .inl (1, [ex_k 2147483648, ex_k 2147483648, ex_k 2147483648, ex_k 2147483648, ex_k 2147483648, ex_k 2147483648]), .inl (4, [ex_a (some 256), ex_a (some 257), ex_a (some 258), ex_a (some 259), ex_a (some 260), ex_a (some 261), ex_k 2147483648, ex_k 2147483648, ex_k 2147483648, ex_k 2147483648, ex_k 2147483648, ex_a (some 23), ex_a (some 262)])]
def ex_h8 : List ex_C := [.inr (0, 8, []), .inr (0, 8, []), .inr (0, 8, []), .inr (0, 8, []), .inr (0, 8, []), .inr (0, 4, []), .inl (1, [ex_k 2147483648, ex_k 2147483648, ex_k 2147483648, ex_k 2147483648, ex_k 2147483648, ex_k 2147483648]), .inl (4, [ex_a (some 264), ex_a (some 265), ex_a (some 266), ex_a (some 267), ex_a (some 268), ex_a (some 269), ex_k 2147483648, ex_k 2147483648, ex_k 2147483648, ex_k 2147483648, ex_k 2147483648, ex_a (some 23), ex_a (some 270)]), .inr (0, 8, []), .inr (0, 8, []), .inr (0, 8, []), .inr (0, 8, []), .inr (0, 8, []), .inr (0, 4, []), .inl (1, [ex_k 2147483648, ex_k 2147483648, ex_k 2147483648, ex_k 2147483648, ex_k 2147483648, ex_k 2147483648]), .inl (4, [ex_a (some 272), ex_a (some 273), ex_a (some 274), ex_a (some 275), ex_a (some 276), ex_a (some 277), ex_k 2147483648, ex_k 2147483648, ex_k 2147483648, ex_k 2147483648, ex_k 2147483648, ex_a (some 23), ex_a (some 278)]), .inr (0, 8, []), .inr (0, 8, []), .inr (0, 8, []), .inr (0, 8, []), .inr (0, 8, []), .inr (0, 4, []), .inl (1, [ex_k 2147483648, ex_k 2147483648, ex_k 2147483648, ex_k 2147483648, ex_k 2147483648, ex_k 2147483648]), .inl (4, [ex_a (some 280), ex_a (some 281), ex_a (some 282), ex_a (some 283), ex_a (some 284), ex_a (some 285), ex_k 2147483648, ex_k 2147483648, ex_k 2147483648, ex_k 2147483648, ex_k 2147483648, ex_a (some 23), ex_a (some 286)]), .inr (0, 8, []), .inr (0, 8, []), .inr (0, 8, []), .inr (0, 8, []), .inr (0, 8, []), .inr (0, 4, []), .inl (1, [ex_k 2147483648, ex_k 2147483648, ex_k 2147483648, ex_k 2147483648, ex_k 2147483648, ex_k 2147483648]), .inl (4, [ex_a (some 288), ex_a (some 289), ex_a (some 290), ex_a (some 291), ex_a (some 292), ex_a (some 293), ex_k 2147483648, ex_k 2147483648, ex_k 2147483648, ex_k 2147483648, ex_k 2147483648, ex_a (some 23), ex_a (some 294)])]
def ex_h9 : List ex_C := [.inr (0, 8, []), .inr (0, 8, []), .inr (0, 8, []), .inr (0, 8, []), .inr (0, 8, []), .inr (0, 4, []), .inl (1, [ex_k 2147483648, ex_k 2147483648, ex_k 2147483648, ex_k 2147483648, ex_k 2147483648, ex_k 2147483648]), .inl (4, [ex_a (some 296), ex_a (some 297), ex_a (some 298), ex_a (some 299), ex_a (some 300), ex_a (some 301), ex_k 2147483648, ex_k 2147483648, ex_k 2147483648, ex_k 2147483648, ex_k 2147483648, ex_a (some 23), ex_a (some 302)]), .inr (0, 8, []), .inr (0, 8, []), .inr (0, 8, []), .inr (0, 8, []), .inr (0, 8, []), .inr (0, 4, []), .inl (1, [ex_k 2147483648, ex_k 2147483648, ex_k 2147483648, ex_k 2147483648, ex_k 2147483648, ex_k 2147483648]), .inl (4, [ex_a (some 304), ex_a (some 305), ex_a (some 306), ex_a (some 307), ex_a (some 308), ex_a (some 309), ex_k 2147483648, ex_k 2147483648, ex_k 2147483648, ex_k 2147483648, ex_k 2147483648, ex_a (some 23), ex_a (some 310)]), .inr (0, 8, []), .inr (0, 8, []), .inr (0, 8, []), .inr (0, 8, []), .inr (0, 8, []), .inr (0, 4, []), .inl (1, [ex_k 2147483648, ex_k 2147483648, ex_k 2147483648, ex_k 2147483648, ex_k 2147483648, ex_k 2147483648]), .inl (4, [ex_a (some 312), ex_a (some 313), ex_a (some 314), ex_a (some 315), ex_a (some 316), ex_a (some 317), ex_k 2147483648, ex_k 2147483648, ex_k 2147483648, ex_k 2147483648, ex_k 2147483648, ex_a (some 23), ex_a (some 318)]), .inr (0, 8, []), .inr (0, 8, []), .inr (0, 8, []), .inr (0, 8, []), .inr (0, 8, []), .inr (0, 4, []), .inl (1, [ex_k 2147483648, ex_k 2147483648, ex_k 2147483648, ex_k 2147483648, ex_k 2147483648, ex_k 2147483648]), .inl (4, [ex_a (some 320), ex_a (some 321), ex_a (some 322), ex_a (some 323), ex_a (some 324), ex_a (some 325), ex_k 2147483648, ex_k 2147483648, ex_k 2147483648, ex_k 2147483648, ex_k 2147483648, ex_a (some 23), ex_a (some 326)])]
def ex_h10 : List ex_C := [.inr (0, 8, []), .inr (0, 8, []), .inr (0, 8, []), .inr (0, 8, []), .inr (0, 8, []), .inr (0, 4, []), .inl (1, [ex_k 2147483648, ex_k 2147483648, ex_k 2147483648, ex_k 2147483648, ex_k 2147483648, ex_k 2147483648]), .inl (4, [ex_a (some 328), ex_a (some 329), ex_a (some 330), ex_a (some 331), ex_a (some 332), ex_a (some 333), ex_k 2147483648, ex_k 2147483648, ex_k 2147483648, ex_k 2147483648, ex_k 2147483648, ex_a (some 23), ex_a (some 334)]), .inr (0, 8, []), .inr (0, 8, []), .inr (0, 8, []), .inr (0, 8, []), .inr (0, 8, []), .inr (0, 4, []), .inl (1, [ex_k 2147483648, ex_k 2147483648, ex_k 2147483648, ex_k 2147483648, ex_k 2147483648, ex_k 2147483648]), .inl (4, [ex_a (some 336), ex_a (some 337), ex_a (some 338), ex_a (some 339), ex_a (some 340), ex_a (some 341), ex_k 2147483648, ex_k 2147483648, ex_k 2147483648, ex_k 2147483648, ex_k 2147483648, ex_a (some 23), ex_a (some 342)]), .inr (0, 8, []), .inr (0, 8, []), .inr (0, 8, []), .inr (0, 8, []), .inr (0, 8, []), .inr (0, 4, []), .inl (1, [ex_k 2147483648, ex_k 2147483648, ex_k 2147483648, ex_k 2147483648, ex_k 2147483648, ex_k 2147483648]), .inl (4, [ex_a (some 344), ex_a (some 345), ex_a (some 346), ex_a (some 347), ex_a (some 348), ex_a (some 349), ex_k 2147483648, ex_k 2147483648, ex_k 2147483648, ex_k 2147483648, ex_k 2147483648, ex_a (some 23), ex_a (some 350)]), .inr (0, 8, []), .inr (0, 8, []), .inr (0, 8, []), .inr (0, 8, []), .inr (0, 8, []), .inr (0, 4, []), .inl (1, [ex_k 2147483648, ex_k 2147483648, ex_k 2147483648, ex_k 2147483648, ex_k 2147483648, ex_k 2147483648]), .inl (4, [ex_a (some 352), ex_a (some 353), ex_a (some 354), ex_a (some 355), ex_a (some 356), ex_a (some 357), ex_k 2147483648, ex_k 2147483648, ex_k 2147483648, ex_k 2147483648, ex_k 2147483648, ex_a (some 23), ex_a (some 358)])]
def ex_h11 : List ex_C := [.inr (0, 8, []), .inr (0, 8, []), .inr (0, 8, []), .inr (0, 8, []), .inr (0, 8, []), .inr (0, 4, []), .inl (1, [ex_k 2147483648, ex_k 2147483648, ex_k 2147483648, ex_k 2147483648, ex_k 2147483648, ex_k 2147483648]), .inl (4, [ex_a (some 360), ex_a (some 361), ex_a (some 362), ex_a (some 363), ex_a (some 364), ex_a (some 365), ex_k 2147483648, ex_k 2147483648, ex_k 2147483648, ex_k 2147483648, ex_k 2147483648, ex_a (some 23), ex_a (some 366)]), .inr (0, 8, []), .inr (0, 8, []), .inr (0, 8, []), .inr (0, 8, []), .inr (0, 8, []), .inr (0, 4, []), .inl (1, [ex_k 2147483648, ex_k 2147483648, ex_k 2147483648, ex_k 2147483648, ex_k 2147483648, ex_k 2147483648]), .inl (4, [ex_a (some 368), ex_a (some 369), ex_a (some 370), ex_a (some 371), ex_a (some 372), ex_a (some 373), ex_k 2147483648, ex_k 2147483648, ex_k 2147483648, ex_k 2147483648, ex_k 2147483648, ex_a (some 23), ex_a (some 374)]), .inr (0, 8, []), .inr (0, 8, []), .inr (0, 8, []), .inr (0, 8, []), .inr (0, 8, []), .inr (0, 4, []), .inl (1, [ex_k 2147483648, ex_k 2147483648, ex_k 2147483648, ex_k 2147483648, ex_k 2147483648, ex_k 2147483648]), .inl (4, [ex_a (some 376), ex_a (some 377), ex_a (some 378), ex_a (some 379), ex_a (some 380), ex_a (some 381), ex_k 2147483648, ex_k 2147483648, ex_k 2147483648, ex_k 2147483648, ex_k 2147483648, ex_a (some 23), ex_a (some 382)]), .inr (0, 8, []), .inr (0, 8, []), .inr (0, 8, []), .inr (0, 8, []), .inr (0, 8, []), .inr (0, 4, []), .inl (1, [ex_k 2147483648, ex_k 2147483648, ex_k 2147483648, ex_k 2147483648, ex_k 2147483648, ex_k 2147483648]), .inr (4, 3, [(0, ex_a (some 470)), (1, ex_a (some 478)), (2, ex_a (some 486))])]
def ex_h12 : List ex_C := [.inr (3, 3, [(0, ex_k 2147483648), (1, ex_k 2147483648), (2, ex_k 2147483648)]), .inl (5, [ex_k 2147483648, ex_a (some 386), ex_a (some 23), ex_a (some 395), ex_a (some 387), ex_a (some 388), ex_a (some 389), ex_a (some 390), ex_a (some 391), ex_a (some 392), ex_a (some 393), ex_k 2147483648, ex_a (some 394)]), .inr (0, 100, []), .inr (0, 30, []), .inr (0, 30, []), .inr (3, 30, []), .inr (0, 30, []), .inr (0, 30, []), .inr (3, 30, []), .inr (0, 2100, []), .inr (0, 256, []), .inl (4, [ex_a (some 396), ex_a (some 397), ex_a (some 398), ex_a (some 399), ex_a (some 400), ex_a (some 401), ex_k 2147483648, ex_k 2147483648, ex_k 2147483648, ex_k 2147483648, ex_k 2147483648, ex_a (some 23), ex_a (some 402)]), .inr (0, 8, []), .inr (0, 8, []), .inr (0, 8, []), .inr (0, 8, []), .inr (0, 8, []), .inr (0, 4, []), .inl (1, [ex_k 2147483648, ex_k 2147483648, ex_k 2147483648, ex_k 2147483648, ex_k 2147483648, ex_k 2147483648]), .inr (0, 7, []), .inr (0, 64, []), .inr (0, 64, []), .inl (4, [ex_a (some 407), ex_a (some 408), ex_a (some 409), ex_a (some 410), ex_a (some 411), ex_a (some 412), ex_k 2147483648, ex_k 2147483648, ex_k 2147483648, ex_k 2147483648, ex_k 2147483648, ex_a (some 23), ex_a (some 413)]), .inr (0, 8, []), .inr (0, 8, []), .inr (0, 8, []), .inr (0, 8, []), .inr (0, 8, []), .inr (0, 4, []), .inl (1, [ex_k 2147483648, ex_k 2147483648, ex_k 2147483648, ex_k 2147483648, ex_k 2147483648, ex_k 2147483648]), .inl (4, [ex_a (some 415), ex_a (some 416), ex_a (some 417), ex_a (some 418), ex_a (some 419), ex_a (some 420), ex_k 2147483648, ex_k 2147483648, ex_k 2147483648, ex_k 2147483648, ex_k 2147483648, ex_a (some 23), ex_a (some 421)]), .inr (0, 8, [])]
def ex_h13 : List ex_C := [.inr (0, 8, []), .inr (0, 8, []), .inr (0, 8, []), .inr (0, 8, []), .inr (0, 4, []), .inl (1, [ex_k 2147483648, ex_k 2147483648, ex_k 2147483648, ex_k 2147483648, ex_k 2147483648, ex_k 2147483648]), .inl (4, [ex_a (some 423), ex_a (some 424), ex_a (some 425), ex_a (some 426), ex_a (some 427), ex_a (some 428), ex_k 2147483648, ex_k 2147483648, ex_k 2147483648, ex_k 2147483648, ex_k 2147483648, ex_a (some 23), ex_a (some 429)]), .inr (0, 8, []), .inr (0, 8, []), .inr (0, 8, []), .inr (0, 8, []), .inr (0, 8, []), .inr (0, 4, []), .inl (1, [ex_k 2147483648, ex_k 2147483648, ex_k 2147483648, ex_k 2147483648, ex_k 2147483648, ex_k 2147483648]), .inl (4, [ex_a (some 431), ex_a (some 432), ex_a (some 433), ex_a (some 434), ex_a (some 435), ex_a (some 436), ex_k 2147483648, ex_k 2147483648, ex_k 2147483648, ex_k 2147483648, ex_k 2147483648, ex_a (some 23), ex_a (some 437)]), .inr (0, 8, []), .inr (0, 8, []), .inr (0, 8, []), .inr (0, 8, []), .inr (0, 8, []), .inr (0, 4, []), .inl (1, [ex_k 2147483648, ex_k 2147483648, ex_k 2147483648, ex_k 2147483648, ex_k 2147483648, ex_k 2147483648]), .inl (4, [ex_a (some 439), ex_a (some 440), ex_a (some 441), ex_a (some 442), ex_a (some 443), ex_a (some 444), ex_k 2147483648, ex_k 2147483648, ex_k 2147483648, ex_k 2147483648, ex_k 2147483648, ex_a (some 23), ex_a (some 445)]), .inr (0, 8, []), .inr (0, 8, []), .inr (0, 8, []), .inr (0, 8, []), .inr (0, 8, []), .inr (0, 4, []), .inl (1, [ex_k 2147483648, ex_k 2147483648, ex_k 2147483648, ex_k 2147483648, ex_k 2147483648, ex_k 2147483648]), .inl (4, [ex_a (some 447), ex_a (some 448), ex_a (some 449), ex_a (some 450), ex_a (some 451), ex_a (some 452), ex_k 2147483648, ex_k 2147483648, ex_k 2147483648, ex_k 2147483648, ex_k 2147483648, ex_a (some 23), ex_a (some 453)]), .inr (0, 8, [])]
def ex_h14 : List ex_C := [.inr (0, 8, []), .inr (0, 8, []), .inr (0, 8, []), .inr (0, 8, []), .inr (0, 4, []), .inl (1, [ex_k 2147483648, ex_k 2147483648, ex_k 2147483648, ex_k 2147483648, ex_k 2147483648, ex_k 2147483648]), .inl (4, [ex_a (some 455), ex_a (some 456), ex_a (some 457), ex_a (some 458), ex_a (some 459), ex_a (some 460), ex_k 2147483648, ex_k 2147483648, ex_k 2147483648, ex_k 2147483648, ex_k 2147483648, ex_a (some 23), ex_a (some 461)]), .inr (0, 8, []), .inr (0, 8, []), .inr (0, 8, []), .inr (0, 8, []), .inr (0, 8, []), .inr (0, 4, []), .inl (1, [ex_k 2147483648, ex_k 2147483648, ex_k 2147483648, ex_k 2147483648, ex_k 2147483648, ex_k 2147483648]), .inl (4, [ex_a (some 463), ex_a (some 464), ex_a (some 465), ex_a (some 466), ex_a (some 467), ex_a (some 468), ex_k 2147483648, ex_k 2147483648, ex_k 2147483648, ex_k 2147483648, ex_k 2147483648, ex_a (some 23), ex_a (some 469)]), .inr (0, 8, []), .inr (0, 8, []), .inr (0, 8, []), .inr (0, 8, []), .inr (0, 8, []), .inr (0, 4, []), .inl (1, [ex_k 2147483648, ex_k 2147483648, ex_k 2147483648, ex_k 2147483648, ex_k 2147483648, ex_k 2147483648]), .inl (4, [ex_a (some 471), ex_a (some 472), ex_a (some 473), ex_a (some 474), ex_a (some 475), ex_a (some 476), ex_k 2147483648, ex_k 2147483648, ex_k 2147483648, ex_k 2147483648, ex_k 2147483648, ex_a (some 23), ex_a (some 477)]), .inr (0, 8, []), .inr (0, 8, []), .inr (0, 8, []), .inr (0, 8, []), .inr (0, 8, []), .inr (0, 4, []), .inl (1, [ex_k 2147483648, ex_k 2147483648, ex_k 2147483648, ex_k 2147483648, ex_k 2147483648, ex_k 2147483648]), .inl (4, [ex_a (some 479), ex_a (some 480), ex_a (some 481), ex_a (some 482), ex_a (some 483), ex_a (some 484), ex_k 2147483648, ex_k 2147483648, ex_k 2147483648, ex_k 2147483648, ex_k 2147483648, ex_a (some 23), ex_a (some 485)]), .inr (0, 8, [])]
def ex_h15 : List ex_C := [.inr (0, 8, []), .inr (0, 8, []), .inr (0, 8, []), .inr (0, 8, []), .inr (0, 4, []), .inl (1, [ex_k 2147483648, ex_k 2147483648, ex_k 2147483648, ex_k 2147483648, ex_k 2147483648, ex_k 2147483648]), .inl (4, [ex_a (some 487), ex_a (some 488), ex_a (some 489), ex_a (some 490), ex_a (some 491), ex_a (some 492), ex_k 2147483648, ex_k 2147483648, ex_k 2147483648, ex_k 2147483648, ex_k 2147483648, ex_a (some 23), ex_a (some 493)]), .inr (0, 8, []), .inr (0, 8, []), .inr (0, 8, []), .inr (0, 8, []), .inr (0, 8, []), .inr (0, 4, []), .inl (1, [ex_k 2147483648, ex_k 2147483648, ex_k 2147483648, ex_k 2147483648, ex_k 2147483648, ex_k 2147483648]), .inl (10, [ex_a (some 495), ex_a (some 496), ex_k 2147483648, ex_k 2147483648, ex_k 2147483648, ex_k 2147483647, ex_k 2147483648, ex_k 2147483648, ex_k 2147483648, ex_k 2147483648, ex_j 0, ex_a (some 497), ex_a (some 498), ex_a (some 499), ex_a (some 500), ex_a (some 501), ex_a (some 502), ex_a (some 503), ex_a (some 504), ex_a (some 505), ex_a (some 506), ex_a (some 507), ex_a (some 508), ex_a (some 509), ex_a (some 510), ex_a (some 511), ex_a (some 512), ex_a (some 513), ex_a (some 514), ex_a (some 515), ex_a (some 516), ex_a (some 517), ex_a (some 518), ex_k 2147483648, ex_k 2147483648, ex_k 2147483648, ex_k 2147483648, ex_k 2147483648, ex_k 2147483648, ex_k 2147483648, ex_k 2147483648, ex_k 2147483648, ex_k 2147483648, ex_a (some 519), ex_k 2147483647, ex_k 2147483648, ex_k 2147483648, ex_a (some 520), ex_k 2147483648, ex_k 2147483648, ex_a (some 521), ex_a (some 522), ex_k 2147483648, ex_k 2147483648, ex_k 2147483648, ex_k 2147483648, ex_a (some 523), ex_a (some 524), ex_a (some 525), ex_a (some 526), ex_a (some 527), ex_a (some 528), ex_a (some 529), ex_a (some 530), ex_k 2147483648, ex_k 2147483648, ex_a (some 531), ex_a (some 532)]), .inr (1, 1620, []), .inr (1, 1600, []), .inr (0, 2, [(0, ex_k 2147483652)]), .inr (0, 2, [(0, ex_k 2147483648)]), .inr (0, 2, [(0, ex_k 2147483648)]), .inr (0, 2, [(0, ex_k 2147483648)]), .inr (0, 2, [(0, ex_k 2147483648)]), .inr (0, 2, [(0, ex_k 2147483698)]), .inr (0, 2, [(0, ex_k 2147483648)]), .inr (0, 2, [(0, ex_k 2147483648)]), .inr (0, 2, [(0, ex_k 2147483648)]), .inr (0, 16, []), .inr (0, 16, []), .inr (0, 16, []), .inr (0, 16, []), .inr (0, 4, []), .inr (0, 4, [])]
def ex_h16 : List ex_C := [.inr (2, 16, []), .inr (2, 16, []), .inr (0, 1120, []), .inr (0, 1120, []), .inr (0, 90, []), .inr (0, 90, []), .inr (0, 60, []), .inr (0, 46, [(0, ex_k 2147483648), (1, ex_k 2147483648), (2, ex_k 2147483648), (3, ex_k 2147483648), (4, ex_k 2147483648), (5, ex_k 2147483648), (6, ex_k 2147483648), (7, ex_k 2147483648), (8, ex_k 2147483648), (9, ex_k 2147483648), (10, ex_k 2147483648), (11, ex_k 2147483648), (12, ex_k 2147483648), (13, ex_k 2147483648), (14, ex_k 2147483648), (15, ex_k 2147483648), (16, ex_k 2147483648), (17, ex_k 2147483648), (18, ex_k 2147483648), (19, ex_k 2147483648), (20, ex_k 2147483648), (21, ex_k 2147483648), (22, ex_k 2147483648), (23, ex_k 2147483648), (24, ex_k 2147483647), (25, ex_k 2147483647), (26, ex_k 2147483647), (27, ex_k 2147483647), (28, ex_k 2147483647), (29, ex_k 2147483647), (30, ex_k 2147483647), (31, ex_k 2147483647), (32, ex_k 2147483648), (33, ex_k 2147483649), (34, ex_k 2147483650), (35, ex_k 2147483651), (36, ex_k 2147483652), (37, ex_k 2147483653), (38, ex_k 2147483654), (39, ex_k 2147483655), (40, ex_k 2147483698), (41, ex_k 2147483648), (42, ex_k 2147483648), (43, ex_k 2147483648), (44, ex_k 2147483648), (45, ex_k 2147483656)]), .inr (0, 1886, []), .inr (0, 46, []), .inr (0, 7, []), .inr (0, 128, []), .inr (0, 2100, []), .inr (0, 30, []), .inr (0, 30, []), .inr (0, 30, []), .inr (0, 30, []), .inr (0, 30, []), .inr (0, 256, []), .inr (0, 138, []), .inr (3, 3, [(0, ex_k 2147483648), (1, ex_k 2147483648), (2, ex_k 2147483648)])]
def ex_h : ex_H := [ex_h0, ex_h1, ex_h2, ex_h3, ex_h4, ex_h5, ex_h6, ex_h7, ex_h8, ex_h9, ex_h10, ex_h11, ex_h12, ex_h13, ex_h14, ex_h15, ex_h16]
abbrev ex_lv0 : ex_L := [(3, ex_k 2147483648), (2, ex_a (some 494)), (1, ex_a (some 0)), (0, ex_z)]
abbrev ex_en0 : ex_E := [(0, 4294967295), (0, 4294967295), (0, 4294967295), (0, 4294967295), (0, 4294967295), (0, 4294967295)]
abbrev ex_s0 : ex_S := (ex_p_L_law, [(0, ex_z)], [], [], 0, 0, 0)
/-- the law behind its two constructors, at a place of its own -/
noncomputable def ex_at0 (t : Nat) : ex_S := (ex_jp ex_p_L_law t, ex_lv0, [], ex_h, 533, 533, 26108)
noncomputable def ex_hd (t : Nat) (l : List ex_P) : Bool := match l with
  | q :: _ => Nat.beq q.1 t
  | [] => false
def ex_vqz (a b : ex_V) : Bool := match a, b with
  | .inr (.inr (.inr _)), .inr (.inr (.inr _)) => true
  | _, _ => ex_veq a b
theorem ex_vqz_ok {a b : ex_V} (h : ex_vqz a b = true) : a = b := by
  unfold ex_vqz at h
  split at h
  · rfl
  · exact ex_veq_ok h
def ex_pqz (a b : Nat × ex_V) : Bool := Nat.beq a.1 b.1 && ex_vqz a.2 b.2
theorem ex_pqz_ok (a b : Nat × ex_V) (h : ex_pqz a b = true) : a = b := by
  obtain ⟨h1, h2⟩ := ex_and h
  obtain ⟨a1, a2⟩ := a
  obtain ⟨b1, b2⟩ := b
  have h1 : a1 = b1 := ex_beq h1
  have h2 : a2 = b2 := ex_vqz_ok h2
  rw [h1, h2]
/-- a state that says what the law's state at t says -/
noncomputable def ex_is (t : Nat) (x : ex_E × ex_S) : Bool := ex_hd t x.2.1 && ex_eq' x.1 ex_en0 && ex_lq ex_pqz x.2.2.1 ex_lv0 && ex_lq ex_veq x.2.2.2.1 [] && ex_hq x.2.2.2.2.1 ex_h && Nat.beq x.2.2.2.2.2.1 533 && Nat.beq x.2.2.2.2.2.2.1 533 && Nat.beq x.2.2.2.2.2.2.2 26108
noncomputable def ex_is1 (t : Nat) (x : Option (List (ex_E × ex_S))) : Bool := match x with
  | some o => ex_every (ex_is t) o
  | none => false
abbrev ex_tg : List Nat := [252, 315, 338, 351, 374, 407, 440, 463, 486, 509, 522, 545, 578, 611, 634, 657, 670, 683, 716, 739, 762, 795, 828, 841, 874, 897, 930, 953, 986, 1009, 1042, 1065, 1098, 1131, 1164, 1177, 1190, 1203, 1226, 1239, 1262, 1295, 1318, 1377, 1400, 1423, 1446, 1479, 1512, 1535, 1558, 1581]
noncomputable def ex_is2 (x : Option (List (ex_E × ex_S))) : Bool := match x with
  | some o => ex_every (fun y => ex_any (fun t => ex_is t y) (match y.2.1 with
    | q :: _ => [q.1]
    | [] => []) && (match y.2.1 with
    | q :: _ => ex_any (Nat.beq q.1) ex_tg
    | [] => false)) o
  | none => false
/-- an end of the law: its answer is 1 -/
noncomputable def ex_end1 (x : ex_E × ex_S) : Bool := (match x.2.1 with
  | q :: _ => (match q.2.1 with
    | .ireturn => true
    | _ => false)
  | [] => false) && ex_lq ex_veq x.2.2.2.1 [ex_k 2147483649] && Nat.ble x.2.2.2.2.2.2.1 600000 && Nat.ble x.2.2.2.2.2.2.2 7302250
noncomputable def ex_fin (x : Option (List (ex_E × ex_S))) : Bool := match x with
  | some o => ex_every ex_end1 o
  | none => false
set_option maxRecDepth 1000000 in
theorem ex_r1 : ex_is1 18 (ex_run ex_mt ex_df 6 20000 18 20 true ex_law ex_en0 ex_s0) = true := by decide +kernel
set_option maxRecDepth 1000000 in
theorem ex_r2 : ex_is2 (ex_run ex_mt ex_df 6 20000 200 20 true ex_law ex_en0 (ex_at0 18)) = true := by decide +kernel
set_option maxRecDepth 1000000 in
theorem ex_rL0 : ex_fin (ex_run ex_mt ex_df 0 20000 1000000 20 true ex_law ex_en0 ex_s0) = true := by decide +kernel
set_option maxRecDepth 1000000 in
theorem ex_rL1 : ex_fin (ex_run ex_mt ex_df 1 20000 1000000 20 true ex_law ex_en0 ex_s0) = true := by decide +kernel
set_option maxRecDepth 1000000 in
theorem ex_rL2 : ex_fin (ex_run ex_mt ex_df 2 20000 1000000 20 true ex_law ex_en0 ex_s0) = true := by decide +kernel
set_option maxRecDepth 1000000 in
theorem ex_rL3 : ex_fin (ex_run ex_mt ex_df 3 20000 1000000 20 true ex_law ex_en0 ex_s0) = true := by decide +kernel
set_option maxRecDepth 1000000 in
theorem ex_rL4 : ex_fin (ex_run ex_mt ex_df 4 20000 1000000 20 true ex_law ex_en0 ex_s0) = true := by decide +kernel
set_option maxRecDepth 1000000 in
theorem ex_rL5 : ex_fin (ex_run ex_mt ex_df 5 20000 1000000 20 true ex_law ex_en0 ex_s0) = true := by decide +kernel
end
section
set_option maxRecDepth 1000000 in
theorem ex_o0 : ex_fin (ex_run ex_mt ex_df 6 20000 1000000 20 true ex_law ex_en0 (ex_at0 252)) = true := by decide +kernel
set_option maxRecDepth 1000000 in
theorem ex_o1 : ex_fin (ex_run ex_mt ex_df 6 20000 1000000 20 true ex_law ex_en0 (ex_at0 315)) = true := by decide +kernel
set_option maxRecDepth 1000000 in
theorem ex_o2 : ex_fin (ex_run ex_mt ex_df 6 20000 1000000 20 true ex_law ex_en0 (ex_at0 338)) = true := by decide +kernel
set_option maxRecDepth 1000000 in
theorem ex_o3 : ex_fin (ex_run ex_mt ex_df 6 20000 1000000 20 true ex_law ex_en0 (ex_at0 351)) = true := by decide +kernel
set_option maxRecDepth 1000000 in
theorem ex_o4 : ex_fin (ex_run ex_mt ex_df 6 20000 1000000 20 true ex_law ex_en0 (ex_at0 374)) = true := by decide +kernel
set_option maxRecDepth 1000000 in
theorem ex_o5 : ex_fin (ex_run ex_mt ex_df 6 20000 1000000 20 true ex_law ex_en0 (ex_at0 407)) = true := by decide +kernel
set_option maxRecDepth 1000000 in
theorem ex_o6 : ex_fin (ex_run ex_mt ex_df 6 20000 1000000 20 true ex_law ex_en0 (ex_at0 440)) = true := by decide +kernel
set_option maxRecDepth 1000000 in
theorem ex_o7 : ex_fin (ex_run ex_mt ex_df 6 20000 1000000 20 true ex_law ex_en0 (ex_at0 463)) = true := by decide +kernel
set_option maxRecDepth 1000000 in
theorem ex_o8 : ex_fin (ex_run ex_mt ex_df 6 20000 1000000 20 true ex_law ex_en0 (ex_at0 486)) = true := by decide +kernel
set_option maxRecDepth 1000000 in
theorem ex_o9 : ex_fin (ex_run ex_mt ex_df 6 20000 1000000 20 true ex_law ex_en0 (ex_at0 509)) = true := by decide +kernel
set_option maxRecDepth 1000000 in
theorem ex_o10 : ex_fin (ex_run ex_mt ex_df 6 20000 1000000 20 true ex_law ex_en0 (ex_at0 522)) = true := by decide +kernel
set_option maxRecDepth 1000000 in
theorem ex_o11 : ex_fin (ex_run ex_mt ex_df 6 20000 1000000 20 true ex_law ex_en0 (ex_at0 545)) = true := by decide +kernel
set_option maxRecDepth 1000000 in
theorem ex_o12 : ex_fin (ex_run ex_mt ex_df 6 20000 1000000 20 true ex_law ex_en0 (ex_at0 578)) = true := by decide +kernel
set_option maxRecDepth 1000000 in
theorem ex_o13 : ex_fin (ex_run ex_mt ex_df 6 20000 1000000 20 true ex_law ex_en0 (ex_at0 611)) = true := by decide +kernel
set_option maxRecDepth 1000000 in
theorem ex_o14 : ex_fin (ex_run ex_mt ex_df 6 20000 1000000 20 true ex_law ex_en0 (ex_at0 634)) = true := by decide +kernel
set_option maxRecDepth 1000000 in
theorem ex_o15 : ex_fin (ex_run ex_mt ex_df 6 20000 1000000 20 true ex_law ex_en0 (ex_at0 657)) = true := by decide +kernel
set_option maxRecDepth 1000000 in
theorem ex_o16 : ex_fin (ex_run ex_mt ex_df 6 20000 1000000 20 true ex_law ex_en0 (ex_at0 670)) = true := by decide +kernel
set_option maxRecDepth 1000000 in
theorem ex_o18 : ex_fin (ex_run ex_mt ex_df 6 20000 1000000 20 true ex_law ex_en0 (ex_at0 716)) = true := by decide +kernel
set_option maxRecDepth 1000000 in
theorem ex_o20 : ex_fin (ex_run ex_mt ex_df 6 20000 1000000 20 true ex_law ex_en0 (ex_at0 762)) = true := by decide +kernel
set_option maxRecDepth 1000000 in
theorem ex_o21 : ex_fin (ex_run ex_mt ex_df 6 20000 1000000 20 true ex_law ex_en0 (ex_at0 795)) = true := by decide +kernel
set_option maxRecDepth 1000000 in
theorem ex_o22 : ex_fin (ex_run ex_mt ex_df 6 20000 1000000 20 true ex_law ex_en0 (ex_at0 828)) = true := by decide +kernel
set_option maxRecDepth 1000000 in
theorem ex_o23 : ex_fin (ex_run ex_mt ex_df 6 20000 1000000 20 true ex_law ex_en0 (ex_at0 841)) = true := by decide +kernel
set_option maxRecDepth 1000000 in
theorem ex_o24 : ex_fin (ex_run ex_mt ex_df 6 20000 1000000 20 true ex_law ex_en0 (ex_at0 874)) = true := by decide +kernel
set_option maxRecDepth 1000000 in
theorem ex_o25 : ex_fin (ex_run ex_mt ex_df 6 20000 1000000 20 true ex_law ex_en0 (ex_at0 897)) = true := by decide +kernel
set_option maxRecDepth 1000000 in
theorem ex_o27 : ex_fin (ex_run ex_mt ex_df 6 20000 1000000 20 true ex_law ex_en0 (ex_at0 953)) = true := by decide +kernel
set_option maxRecDepth 1000000 in
theorem ex_o28 : ex_fin (ex_run ex_mt ex_df 6 20000 1000000 20 true ex_law ex_en0 (ex_at0 986)) = true := by decide +kernel
set_option maxRecDepth 1000000 in
theorem ex_o29 : ex_fin (ex_run ex_mt ex_df 6 20000 1000000 20 true ex_law ex_en0 (ex_at0 1009)) = true := by decide +kernel
set_option maxRecDepth 1000000 in
theorem ex_o30 : ex_fin (ex_run ex_mt ex_df 6 20000 1000000 20 true ex_law ex_en0 (ex_at0 1042)) = true := by decide +kernel
set_option maxRecDepth 1000000 in
theorem ex_o31 : ex_fin (ex_run ex_mt ex_df 6 20000 1000000 20 true ex_law ex_en0 (ex_at0 1065)) = true := by decide +kernel
set_option maxRecDepth 1000000 in
theorem ex_o34 : ex_fin (ex_run ex_mt ex_df 6 20000 1000000 20 true ex_law ex_en0 (ex_at0 1164)) = true := by decide +kernel
set_option maxRecDepth 1000000 in
theorem ex_o35 : ex_fin (ex_run ex_mt ex_df 6 20000 1000000 20 true ex_law ex_en0 (ex_at0 1177)) = true := by decide +kernel
set_option maxRecDepth 1000000 in
theorem ex_o36 : ex_fin (ex_run ex_mt ex_df 6 20000 1000000 20 true ex_law ex_en0 (ex_at0 1190)) = true := by decide +kernel
set_option maxRecDepth 1000000 in
theorem ex_o37 : ex_fin (ex_run ex_mt ex_df 6 20000 1000000 20 true ex_law ex_en0 (ex_at0 1203)) = true := by decide +kernel
set_option maxRecDepth 1000000 in
theorem ex_o38 : ex_fin (ex_run ex_mt ex_df 6 20000 1000000 20 true ex_law ex_en0 (ex_at0 1226)) = true := by decide +kernel
set_option maxRecDepth 1000000 in
theorem ex_o40 : ex_fin (ex_run ex_mt ex_df 6 20000 1000000 20 true ex_law ex_en0 (ex_at0 1262)) = true := by decide +kernel
set_option maxRecDepth 1000000 in
theorem ex_o41 : ex_fin (ex_run ex_mt ex_df 6 20000 1000000 20 true ex_law ex_en0 (ex_at0 1295)) = true := by decide +kernel
set_option maxRecDepth 1000000 in
theorem ex_o42 : ex_fin (ex_run ex_mt ex_df 6 20000 1000000 20 true ex_law ex_en0 (ex_at0 1318)) = true := by decide +kernel
set_option maxRecDepth 1000000 in
theorem ex_o43 : ex_fin (ex_run ex_mt ex_df 6 20000 1000000 20 true ex_law ex_en0 (ex_at0 1377)) = true := by decide +kernel
set_option maxRecDepth 1000000 in
theorem ex_o44 : ex_fin (ex_run ex_mt ex_df 6 20000 1000000 20 true ex_law ex_en0 (ex_at0 1400)) = true := by decide +kernel
set_option maxRecDepth 1000000 in
theorem ex_o45 : ex_fin (ex_run ex_mt ex_df 6 20000 1000000 20 true ex_law ex_en0 (ex_at0 1423)) = true := by decide +kernel
set_option maxRecDepth 1000000 in
theorem ex_o46 : ex_fin (ex_run ex_mt ex_df 6 20000 1000000 20 true ex_law ex_en0 (ex_at0 1446)) = true := by decide +kernel
set_option maxRecDepth 1000000 in
theorem ex_o47 : ex_fin (ex_run ex_mt ex_df 6 20000 1000000 20 true ex_law ex_en0 (ex_at0 1479)) = true := by decide +kernel
set_option maxRecDepth 1000000 in
theorem ex_o48 : ex_fin (ex_run ex_mt ex_df 6 20000 1000000 20 true ex_law ex_en0 (ex_at0 1512)) = true := by decide +kernel
set_option maxRecDepth 1000000 in
theorem ex_o49 : ex_fin (ex_run ex_mt ex_df 6 20000 1000000 20 true ex_law ex_en0 (ex_at0 1535)) = true := by decide +kernel
set_option maxRecDepth 1000000 in
theorem ex_o50 : ex_fin (ex_run ex_mt ex_df 6 20000 1000000 20 true ex_law ex_en0 (ex_at0 1558)) = true := by decide +kernel
set_option maxRecDepth 1000000 in
theorem ex_o51 : ex_fin (ex_run ex_mt ex_df 6 20000 1000000 20 true ex_law ex_en0 (ex_at0 1581)) = true := by decide +kernel
end
section
set_option maxRecDepth 1000000 in
theorem ex_v17_0 : ex_fin (ex_run ex_mt ex_df 6 20000 1000000 20 true ex_law [(0, 4294967295), (0, 4294967295), (0, 2147483647), (0, 4294967295), (0, 4294967295), (0, 4294967295)] (ex_at0 683)) = true := by decide +kernel
set_option maxRecDepth 1000000 in
theorem ex_v17_1 : ex_fin (ex_run ex_mt ex_df 6 20000 1000000 20 true ex_law [(0, 4294967295), (0, 2147483647), (2147483648, 2147483648), (0, 4294967295), (0, 4294967295), (0, 4294967295)] (ex_at0 683)) = true := by decide +kernel
set_option maxRecDepth 1000000 in
theorem ex_v17_2 : ex_fin (ex_run ex_mt ex_df 6 20000 1000000 20 true ex_law [(0, 4294967295), (2147483648, 2147483676), (2147483648, 2147483648), (0, 4294967295), (0, 4294967295), (0, 4294967295)] (ex_at0 683)) = true := by decide +kernel
set_option maxRecDepth 1000000 in
theorem ex_v17_3 : ex_fin (ex_run ex_mt ex_df 6 20000 1000000 20 true ex_law [(0, 4294967295), (2147483677, 2147483700), (2147483648, 2147483648), (0, 4294967295), (0, 4294967295), (0, 4294967295)] (ex_at0 683)) = true := by decide +kernel
set_option maxRecDepth 1000000 in
theorem ex_v17_4 : ex_fin (ex_run ex_mt ex_df 6 20000 1000000 20 true ex_law [(0, 4294967295), (2147483701, 2147483708), (2147483648, 2147483648), (0, 4294967295), (0, 4294967295), (0, 4294967295)] (ex_at0 683)) = true := by decide +kernel
set_option maxRecDepth 1000000 in
theorem ex_v17_5 : ex_fin (ex_run ex_mt ex_df 6 20000 1000000 20 true ex_law [(0, 4294967295), (2147483709, 4294967295), (2147483648, 2147483648), (0, 4294967295), (0, 4294967295), (0, 4294967295)] (ex_at0 683)) = true := by decide +kernel
set_option maxRecDepth 1000000 in
theorem ex_v17_6 : ex_fin (ex_run ex_mt ex_df 6 20000 1000000 20 true ex_law [(0, 4294967295), (0, 2147483647), (2147483649, 2147483649), (0, 4294967295), (0, 4294967295), (0, 4294967295)] (ex_at0 683)) = true := by decide +kernel
set_option maxRecDepth 1000000 in
theorem ex_v17_7 : ex_fin (ex_run ex_mt ex_df 6 20000 1000000 20 true ex_law [(0, 4294967295), (2147483648, 2147483674), (2147483649, 2147483649), (0, 4294967295), (0, 4294967295), (0, 4294967295)] (ex_at0 683)) = true := by decide +kernel
set_option maxRecDepth 1000000 in
theorem ex_v17_8 : ex_fin (ex_run ex_mt ex_df 6 20000 1000000 20 true ex_law [(0, 4294967295), (2147483675, 2147483695), (2147483649, 2147483649), (0, 4294967295), (0, 4294967295), (0, 4294967295)] (ex_at0 683)) = true := by decide +kernel
set_option maxRecDepth 1000000 in
theorem ex_v17_9 : ex_fin (ex_run ex_mt ex_df 6 20000 1000000 20 true ex_law [(0, 4294967295), (2147483696, 2147483708), (2147483649, 2147483649), (0, 4294967295), (0, 4294967295), (0, 4294967295)] (ex_at0 683)) = true := by decide +kernel
set_option maxRecDepth 1000000 in
theorem ex_v17_10 : ex_fin (ex_run ex_mt ex_df 6 20000 1000000 20 true ex_law [(0, 4294967295), (2147483709, 4294967295), (2147483649, 2147483649), (0, 4294967295), (0, 4294967295), (0, 4294967295)] (ex_at0 683)) = true := by decide +kernel
set_option maxRecDepth 1000000 in
theorem ex_v17_11 : ex_fin (ex_run ex_mt ex_df 6 20000 1000000 20 true ex_law [(0, 4294967295), (0, 4294967295), (2147483650, 4294967295), (0, 4294967295), (0, 4294967295), (0, 4294967295)] (ex_at0 683)) = true := by decide +kernel
theorem ex_o17 {P : ex_E → Prop} (cut : ∀ (en : ex_E) (i c : Nat) (q : Nat × Nat), ex_nth en i = some q → P (ex_set en i (q.1, c)) → P (ex_set en i (c + 1, q.2)) → P en) (fin : ∀ e : ex_E, ex_fin (ex_run ex_mt ex_df 6 20000 1000000 20 true ex_law e (ex_at0 683)) = true → P e) : P ex_en0 := (cut [(0, 4294967295), (0, 4294967295), (0, 4294967295), (0, 4294967295), (0, 4294967295), (0, 4294967295)] 2 2147483647 (0, 4294967295) rfl (fin [(0, 4294967295), (0, 4294967295), (0, 2147483647), (0, 4294967295), (0, 4294967295), (0, 4294967295)] ex_v17_0) (cut [(0, 4294967295), (0, 4294967295), (2147483648, 4294967295), (0, 4294967295), (0, 4294967295), (0, 4294967295)] 2 2147483648 (2147483648, 4294967295) rfl (cut [(0, 4294967295), (0, 4294967295), (2147483648, 2147483648), (0, 4294967295), (0, 4294967295), (0, 4294967295)] 1 2147483647 (0, 4294967295) rfl (fin [(0, 4294967295), (0, 2147483647), (2147483648, 2147483648), (0, 4294967295), (0, 4294967295), (0, 4294967295)] ex_v17_1) (cut [(0, 4294967295), (2147483648, 4294967295), (2147483648, 2147483648), (0, 4294967295), (0, 4294967295), (0, 4294967295)] 1 2147483676 (2147483648, 4294967295) rfl (fin [(0, 4294967295), (2147483648, 2147483676), (2147483648, 2147483648), (0, 4294967295), (0, 4294967295), (0, 4294967295)] ex_v17_2) (cut [(0, 4294967295), (2147483677, 4294967295), (2147483648, 2147483648), (0, 4294967295), (0, 4294967295), (0, 4294967295)] 1 2147483700 (2147483677, 4294967295) rfl (fin [(0, 4294967295), (2147483677, 2147483700), (2147483648, 2147483648), (0, 4294967295), (0, 4294967295), (0, 4294967295)] ex_v17_3) (cut [(0, 4294967295), (2147483701, 4294967295), (2147483648, 2147483648), (0, 4294967295), (0, 4294967295), (0, 4294967295)] 1 2147483708 (2147483701, 4294967295) rfl (fin [(0, 4294967295), (2147483701, 2147483708), (2147483648, 2147483648), (0, 4294967295), (0, 4294967295), (0, 4294967295)] ex_v17_4) (fin [(0, 4294967295), (2147483709, 4294967295), (2147483648, 2147483648), (0, 4294967295), (0, 4294967295), (0, 4294967295)] ex_v17_5))))) (cut [(0, 4294967295), (0, 4294967295), (2147483649, 4294967295), (0, 4294967295), (0, 4294967295), (0, 4294967295)] 2 2147483649 (2147483649, 4294967295) rfl (cut [(0, 4294967295), (0, 4294967295), (2147483649, 2147483649), (0, 4294967295), (0, 4294967295), (0, 4294967295)] 1 2147483647 (0, 4294967295) rfl (fin [(0, 4294967295), (0, 2147483647), (2147483649, 2147483649), (0, 4294967295), (0, 4294967295), (0, 4294967295)] ex_v17_6) (cut [(0, 4294967295), (2147483648, 4294967295), (2147483649, 2147483649), (0, 4294967295), (0, 4294967295), (0, 4294967295)] 1 2147483674 (2147483648, 4294967295) rfl (fin [(0, 4294967295), (2147483648, 2147483674), (2147483649, 2147483649), (0, 4294967295), (0, 4294967295), (0, 4294967295)] ex_v17_7) (cut [(0, 4294967295), (2147483675, 4294967295), (2147483649, 2147483649), (0, 4294967295), (0, 4294967295), (0, 4294967295)] 1 2147483695 (2147483675, 4294967295) rfl (fin [(0, 4294967295), (2147483675, 2147483695), (2147483649, 2147483649), (0, 4294967295), (0, 4294967295), (0, 4294967295)] ex_v17_8) (cut [(0, 4294967295), (2147483696, 4294967295), (2147483649, 2147483649), (0, 4294967295), (0, 4294967295), (0, 4294967295)] 1 2147483708 (2147483696, 4294967295) rfl (fin [(0, 4294967295), (2147483696, 2147483708), (2147483649, 2147483649), (0, 4294967295), (0, 4294967295), (0, 4294967295)] ex_v17_9) (fin [(0, 4294967295), (2147483709, 4294967295), (2147483649, 2147483649), (0, 4294967295), (0, 4294967295), (0, 4294967295)] ex_v17_10))))) (fin [(0, 4294967295), (0, 4294967295), (2147483650, 4294967295), (0, 4294967295), (0, 4294967295), (0, 4294967295)] ex_v17_11))))
end
section
set_option maxRecDepth 1000000 in
theorem ex_v19_0 : ex_fin (ex_run ex_mt ex_df 6 20000 1000000 20 true ex_law [(0, 4294967295), (0, 2147483647), (0, 4294967295), (0, 4294967295), (0, 4294967295), (0, 4294967295)] (ex_at0 739)) = true := by decide +kernel
set_option maxRecDepth 1000000 in
theorem ex_v19_1 : ex_fin (ex_run ex_mt ex_df 6 20000 1000000 20 true ex_law [(0, 4294967295), (2147483648, 2147483676), (0, 4294967295), (0, 4294967295), (0, 4294967295), (0, 4294967295)] (ex_at0 739)) = true := by decide +kernel
set_option maxRecDepth 1000000 in
theorem ex_v19_2 : ex_fin (ex_run ex_mt ex_df 6 20000 1000000 20 true ex_law [(0, 4294967295), (2147483677, 2147483699), (0, 4294967295), (0, 4294967295), (0, 4294967295), (0, 4294967295)] (ex_at0 739)) = true := by decide +kernel
set_option maxRecDepth 1000000 in
theorem ex_v19_3 : ex_fin (ex_run ex_mt ex_df 6 20000 1000000 20 true ex_law [(0, 4294967295), (2147483700, 2147483708), (0, 4294967295), (0, 4294967295), (0, 4294967295), (0, 4294967295)] (ex_at0 739)) = true := by decide +kernel
set_option maxRecDepth 1000000 in
theorem ex_v19_4 : ex_fin (ex_run ex_mt ex_df 6 20000 1000000 20 true ex_law [(0, 4294967295), (2147483709, 4294967295), (0, 4294967295), (0, 4294967295), (0, 4294967295), (0, 4294967295)] (ex_at0 739)) = true := by decide +kernel
theorem ex_o19 {P : ex_E → Prop} (cut : ∀ (en : ex_E) (i c : Nat) (q : Nat × Nat), ex_nth en i = some q → P (ex_set en i (q.1, c)) → P (ex_set en i (c + 1, q.2)) → P en) (fin : ∀ e : ex_E, ex_fin (ex_run ex_mt ex_df 6 20000 1000000 20 true ex_law e (ex_at0 739)) = true → P e) : P ex_en0 := (cut [(0, 4294967295), (0, 4294967295), (0, 4294967295), (0, 4294967295), (0, 4294967295), (0, 4294967295)] 1 2147483647 (0, 4294967295) rfl (fin [(0, 4294967295), (0, 2147483647), (0, 4294967295), (0, 4294967295), (0, 4294967295), (0, 4294967295)] ex_v19_0) (cut [(0, 4294967295), (2147483648, 4294967295), (0, 4294967295), (0, 4294967295), (0, 4294967295), (0, 4294967295)] 1 2147483676 (2147483648, 4294967295) rfl (fin [(0, 4294967295), (2147483648, 2147483676), (0, 4294967295), (0, 4294967295), (0, 4294967295), (0, 4294967295)] ex_v19_1) (cut [(0, 4294967295), (2147483677, 4294967295), (0, 4294967295), (0, 4294967295), (0, 4294967295), (0, 4294967295)] 1 2147483699 (2147483677, 4294967295) rfl (fin [(0, 4294967295), (2147483677, 2147483699), (0, 4294967295), (0, 4294967295), (0, 4294967295), (0, 4294967295)] ex_v19_2) (cut [(0, 4294967295), (2147483700, 4294967295), (0, 4294967295), (0, 4294967295), (0, 4294967295), (0, 4294967295)] 1 2147483708 (2147483700, 4294967295) rfl (fin [(0, 4294967295), (2147483700, 2147483708), (0, 4294967295), (0, 4294967295), (0, 4294967295), (0, 4294967295)] ex_v19_3) (fin [(0, 4294967295), (2147483709, 4294967295), (0, 4294967295), (0, 4294967295), (0, 4294967295), (0, 4294967295)] ex_v19_4)))))
set_option maxRecDepth 1000000 in
theorem ex_v26_0 : ex_fin (ex_run ex_mt ex_df 6 20000 1000000 20 true ex_law [(0, 4294967295), (0, 2147483647), (0, 4294967295), (0, 4294967295), (0, 4294967295), (0, 4294967295)] (ex_at0 930)) = true := by decide +kernel
set_option maxRecDepth 1000000 in
theorem ex_v26_1 : ex_fin (ex_run ex_mt ex_df 6 20000 1000000 20 true ex_law [(0, 4294967295), (2147483648, 2147483679), (0, 4294967295), (0, 4294967295), (0, 4294967295), (0, 4294967295)] (ex_at0 930)) = true := by decide +kernel
set_option maxRecDepth 1000000 in
theorem ex_v26_2 : ex_fin (ex_run ex_mt ex_df 6 20000 1000000 20 true ex_law [(0, 4294967295), (2147483680, 2147483706), (0, 4294967295), (0, 4294967295), (0, 4294967295), (0, 4294967295)] (ex_at0 930)) = true := by decide +kernel
set_option maxRecDepth 1000000 in
theorem ex_v26_3 : ex_fin (ex_run ex_mt ex_df 6 20000 1000000 20 true ex_law [(0, 4294967295), (2147483707, 2147483708), (0, 4294967295), (0, 4294967295), (0, 4294967295), (0, 4294967295)] (ex_at0 930)) = true := by decide +kernel
set_option maxRecDepth 1000000 in
theorem ex_v26_4 : ex_fin (ex_run ex_mt ex_df 6 20000 1000000 20 true ex_law [(0, 4294967295), (2147483709, 4294967295), (0, 4294967295), (0, 4294967295), (0, 4294967295), (0, 4294967295)] (ex_at0 930)) = true := by decide +kernel
theorem ex_o26 {P : ex_E → Prop} (cut : ∀ (en : ex_E) (i c : Nat) (q : Nat × Nat), ex_nth en i = some q → P (ex_set en i (q.1, c)) → P (ex_set en i (c + 1, q.2)) → P en) (fin : ∀ e : ex_E, ex_fin (ex_run ex_mt ex_df 6 20000 1000000 20 true ex_law e (ex_at0 930)) = true → P e) : P ex_en0 := (cut [(0, 4294967295), (0, 4294967295), (0, 4294967295), (0, 4294967295), (0, 4294967295), (0, 4294967295)] 1 2147483647 (0, 4294967295) rfl (fin [(0, 4294967295), (0, 2147483647), (0, 4294967295), (0, 4294967295), (0, 4294967295), (0, 4294967295)] ex_v26_0) (cut [(0, 4294967295), (2147483648, 4294967295), (0, 4294967295), (0, 4294967295), (0, 4294967295), (0, 4294967295)] 1 2147483679 (2147483648, 4294967295) rfl (fin [(0, 4294967295), (2147483648, 2147483679), (0, 4294967295), (0, 4294967295), (0, 4294967295), (0, 4294967295)] ex_v26_1) (cut [(0, 4294967295), (2147483680, 4294967295), (0, 4294967295), (0, 4294967295), (0, 4294967295), (0, 4294967295)] 1 2147483706 (2147483680, 4294967295) rfl (fin [(0, 4294967295), (2147483680, 2147483706), (0, 4294967295), (0, 4294967295), (0, 4294967295), (0, 4294967295)] ex_v26_2) (cut [(0, 4294967295), (2147483707, 4294967295), (0, 4294967295), (0, 4294967295), (0, 4294967295), (0, 4294967295)] 1 2147483708 (2147483707, 4294967295) rfl (fin [(0, 4294967295), (2147483707, 2147483708), (0, 4294967295), (0, 4294967295), (0, 4294967295), (0, 4294967295)] ex_v26_3) (fin [(0, 4294967295), (2147483709, 4294967295), (0, 4294967295), (0, 4294967295), (0, 4294967295), (0, 4294967295)] ex_v26_4)))))
set_option maxRecDepth 1000000 in
theorem ex_v39_0 : ex_fin (ex_run ex_mt ex_df 6 20000 1000000 20 true ex_law [(0, 4294967295), (0, 2147483647), (0, 4294967295), (0, 4294967295), (0, 4294967295), (0, 4294967295)] (ex_at0 1239)) = true := by decide +kernel
set_option maxRecDepth 1000000 in
theorem ex_v39_1 : ex_fin (ex_run ex_mt ex_df 6 20000 1000000 20 true ex_law [(0, 4294967295), (2147483648, 2147483676), (0, 4294967295), (0, 4294967295), (0, 4294967295), (0, 4294967295)] (ex_at0 1239)) = true := by decide +kernel
set_option maxRecDepth 1000000 in
theorem ex_v39_2 : ex_fin (ex_run ex_mt ex_df 6 20000 1000000 20 true ex_law [(0, 4294967295), (2147483677, 2147483699), (0, 4294967295), (0, 4294967295), (0, 4294967295), (0, 4294967295)] (ex_at0 1239)) = true := by decide +kernel
set_option maxRecDepth 1000000 in
theorem ex_v39_3 : ex_fin (ex_run ex_mt ex_df 6 20000 1000000 20 true ex_law [(0, 4294967295), (2147483700, 2147483708), (0, 4294967295), (0, 4294967295), (0, 4294967295), (0, 4294967295)] (ex_at0 1239)) = true := by decide +kernel
set_option maxRecDepth 1000000 in
theorem ex_v39_4 : ex_fin (ex_run ex_mt ex_df 6 20000 1000000 20 true ex_law [(0, 4294967295), (2147483709, 4294967295), (0, 4294967295), (0, 4294967295), (0, 4294967295), (0, 4294967295)] (ex_at0 1239)) = true := by decide +kernel
theorem ex_o39 {P : ex_E → Prop} (cut : ∀ (en : ex_E) (i c : Nat) (q : Nat × Nat), ex_nth en i = some q → P (ex_set en i (q.1, c)) → P (ex_set en i (c + 1, q.2)) → P en) (fin : ∀ e : ex_E, ex_fin (ex_run ex_mt ex_df 6 20000 1000000 20 true ex_law e (ex_at0 1239)) = true → P e) : P ex_en0 := (cut [(0, 4294967295), (0, 4294967295), (0, 4294967295), (0, 4294967295), (0, 4294967295), (0, 4294967295)] 1 2147483647 (0, 4294967295) rfl (fin [(0, 4294967295), (0, 2147483647), (0, 4294967295), (0, 4294967295), (0, 4294967295), (0, 4294967295)] ex_v39_0) (cut [(0, 4294967295), (2147483648, 4294967295), (0, 4294967295), (0, 4294967295), (0, 4294967295), (0, 4294967295)] 1 2147483676 (2147483648, 4294967295) rfl (fin [(0, 4294967295), (2147483648, 2147483676), (0, 4294967295), (0, 4294967295), (0, 4294967295), (0, 4294967295)] ex_v39_1) (cut [(0, 4294967295), (2147483677, 4294967295), (0, 4294967295), (0, 4294967295), (0, 4294967295), (0, 4294967295)] 1 2147483699 (2147483677, 4294967295) rfl (fin [(0, 4294967295), (2147483677, 2147483699), (0, 4294967295), (0, 4294967295), (0, 4294967295), (0, 4294967295)] ex_v39_2) (cut [(0, 4294967295), (2147483700, 4294967295), (0, 4294967295), (0, 4294967295), (0, 4294967295), (0, 4294967295)] 1 2147483708 (2147483700, 4294967295) rfl (fin [(0, 4294967295), (2147483700, 2147483708), (0, 4294967295), (0, 4294967295), (0, 4294967295), (0, 4294967295)] ex_v39_3) (fin [(0, 4294967295), (2147483709, 4294967295), (0, 4294967295), (0, 4294967295), (0, 4294967295), (0, 4294967295)] ex_v39_4)))))
end
section
set_option maxRecDepth 1000000 in
theorem ex_v32_0 : ex_fin (ex_run ex_mt ex_df 6 20000 1000000 20 true ex_law [(0, 4294967295), (0, 2147483647), (0, 4294967295), (0, 4294967295), (0, 4294967295), (0, 4294967295)] (ex_at0 1098)) = true := by decide +kernel
set_option maxRecDepth 1000000 in
theorem ex_v32_1 : ex_fin (ex_run ex_mt ex_df 6 20000 1000000 20 true ex_law [(0, 4294967295), (2147483648, 2147483648), (0, 2147483647), (0, 4294967295), (0, 4294967295), (0, 4294967295)] (ex_at0 1098)) = true := by decide +kernel
set_option maxRecDepth 1000000 in
theorem ex_v32_2 : ex_fin (ex_run ex_mt ex_df 6 20000 1000000 20 true ex_law [(0, 4294967295), (2147483648, 2147483648), (2147483648, 2147483675), (0, 4294967295), (0, 4294967295), (0, 4294967295)] (ex_at0 1098)) = true := by decide +kernel
set_option maxRecDepth 1000000 in
theorem ex_v32_3 : ex_fin (ex_run ex_mt ex_df 6 20000 1000000 20 true ex_law [(0, 4294967295), (2147483648, 2147483648), (2147483676, 2147483698), (0, 4294967295), (0, 4294967295), (0, 4294967295)] (ex_at0 1098)) = true := by decide +kernel
set_option maxRecDepth 1000000 in
theorem ex_v32_4 : ex_fin (ex_run ex_mt ex_df 6 20000 1000000 20 true ex_law [(0, 4294967295), (2147483648, 2147483648), (2147483699, 2147483708), (0, 4294967295), (0, 4294967295), (0, 4294967295)] (ex_at0 1098)) = true := by decide +kernel
set_option maxRecDepth 1000000 in
theorem ex_v32_5 : ex_fin (ex_run ex_mt ex_df 6 20000 1000000 20 true ex_law [(0, 4294967295), (2147483648, 2147483648), (2147483709, 4294967295), (0, 4294967295), (0, 4294967295), (0, 4294967295)] (ex_at0 1098)) = true := by decide +kernel
set_option maxRecDepth 1000000 in
theorem ex_v32_6 : ex_fin (ex_run ex_mt ex_df 6 20000 1000000 20 true ex_law [(0, 4294967295), (2147483649, 2147483649), (0, 2147483647), (0, 4294967295), (0, 4294967295), (0, 4294967295)] (ex_at0 1098)) = true := by decide +kernel
set_option maxRecDepth 1000000 in
theorem ex_v32_7 : ex_fin (ex_run ex_mt ex_df 6 20000 1000000 20 true ex_law [(0, 4294967295), (2147483649, 2147483649), (2147483648, 2147483675), (0, 4294967295), (0, 4294967295), (0, 4294967295)] (ex_at0 1098)) = true := by decide +kernel
set_option maxRecDepth 1000000 in
theorem ex_v32_8 : ex_fin (ex_run ex_mt ex_df 6 20000 1000000 20 true ex_law [(0, 4294967295), (2147483649, 2147483649), (2147483676, 2147483698), (0, 4294967295), (0, 4294967295), (0, 4294967295)] (ex_at0 1098)) = true := by decide +kernel
set_option maxRecDepth 1000000 in
theorem ex_v32_9 : ex_fin (ex_run ex_mt ex_df 6 20000 1000000 20 true ex_law [(0, 4294967295), (2147483649, 2147483649), (2147483699, 2147483708), (0, 4294967295), (0, 4294967295), (0, 4294967295)] (ex_at0 1098)) = true := by decide +kernel
set_option maxRecDepth 1000000 in
theorem ex_v32_10 : ex_fin (ex_run ex_mt ex_df 6 20000 1000000 20 true ex_law [(0, 4294967295), (2147483649, 2147483649), (2147483709, 4294967295), (0, 4294967295), (0, 4294967295), (0, 4294967295)] (ex_at0 1098)) = true := by decide +kernel
set_option maxRecDepth 1000000 in
theorem ex_v32_11 : ex_fin (ex_run ex_mt ex_df 6 20000 1000000 20 true ex_law [(0, 4294967295), (2147483650, 2147483650), (0, 2147483647), (0, 4294967295), (0, 4294967295), (0, 4294967295)] (ex_at0 1098)) = true := by decide +kernel
set_option maxRecDepth 1000000 in
theorem ex_v32_12 : ex_fin (ex_run ex_mt ex_df 6 20000 1000000 20 true ex_law [(0, 4294967295), (2147483650, 2147483650), (2147483648, 2147483675), (0, 4294967295), (0, 4294967295), (0, 4294967295)] (ex_at0 1098)) = true := by decide +kernel
set_option maxRecDepth 1000000 in
theorem ex_v32_13 : ex_fin (ex_run ex_mt ex_df 6 20000 1000000 20 true ex_law [(0, 4294967295), (2147483650, 2147483650), (2147483676, 2147483698), (0, 4294967295), (0, 4294967295), (0, 4294967295)] (ex_at0 1098)) = true := by decide +kernel
set_option maxRecDepth 1000000 in
theorem ex_v32_14 : ex_fin (ex_run ex_mt ex_df 6 20000 1000000 20 true ex_law [(0, 4294967295), (2147483650, 2147483650), (2147483699, 2147483708), (0, 4294967295), (0, 4294967295), (0, 4294967295)] (ex_at0 1098)) = true := by decide +kernel
set_option maxRecDepth 1000000 in
theorem ex_v32_15 : ex_fin (ex_run ex_mt ex_df 6 20000 1000000 20 true ex_law [(0, 4294967295), (2147483650, 2147483650), (2147483709, 4294967295), (0, 4294967295), (0, 4294967295), (0, 4294967295)] (ex_at0 1098)) = true := by decide +kernel
set_option maxRecDepth 1000000 in
theorem ex_v32_16 : ex_fin (ex_run ex_mt ex_df 6 20000 1000000 20 true ex_law [(0, 4294967295), (2147483651, 2147483651), (0, 2147483647), (0, 4294967295), (0, 4294967295), (0, 4294967295)] (ex_at0 1098)) = true := by decide +kernel
set_option maxRecDepth 1000000 in
theorem ex_v32_17 : ex_fin (ex_run ex_mt ex_df 6 20000 1000000 20 true ex_law [(0, 4294967295), (2147483651, 2147483651), (2147483648, 2147483675), (0, 4294967295), (0, 4294967295), (0, 4294967295)] (ex_at0 1098)) = true := by decide +kernel
set_option maxRecDepth 1000000 in
theorem ex_v32_18 : ex_fin (ex_run ex_mt ex_df 6 20000 1000000 20 true ex_law [(0, 4294967295), (2147483651, 2147483651), (2147483676, 2147483698), (0, 4294967295), (0, 4294967295), (0, 4294967295)] (ex_at0 1098)) = true := by decide +kernel
set_option maxRecDepth 1000000 in
theorem ex_v32_19 : ex_fin (ex_run ex_mt ex_df 6 20000 1000000 20 true ex_law [(0, 4294967295), (2147483651, 2147483651), (2147483699, 2147483708), (0, 4294967295), (0, 4294967295), (0, 4294967295)] (ex_at0 1098)) = true := by decide +kernel
set_option maxRecDepth 1000000 in
theorem ex_v32_20 : ex_fin (ex_run ex_mt ex_df 6 20000 1000000 20 true ex_law [(0, 4294967295), (2147483651, 2147483651), (2147483709, 4294967295), (0, 4294967295), (0, 4294967295), (0, 4294967295)] (ex_at0 1098)) = true := by decide +kernel
set_option maxRecDepth 1000000 in
theorem ex_v32_21 : ex_fin (ex_run ex_mt ex_df 6 20000 1000000 20 true ex_law [(0, 4294967295), (2147483652, 4294967295), (0, 4294967295), (0, 4294967295), (0, 4294967295), (0, 4294967295)] (ex_at0 1098)) = true := by decide +kernel
theorem ex_o32 {P : ex_E → Prop} (cut : ∀ (en : ex_E) (i c : Nat) (q : Nat × Nat), ex_nth en i = some q → P (ex_set en i (q.1, c)) → P (ex_set en i (c + 1, q.2)) → P en) (fin : ∀ e : ex_E, ex_fin (ex_run ex_mt ex_df 6 20000 1000000 20 true ex_law e (ex_at0 1098)) = true → P e) : P ex_en0 := (cut [(0, 4294967295), (0, 4294967295), (0, 4294967295), (0, 4294967295), (0, 4294967295), (0, 4294967295)] 1 2147483647 (0, 4294967295) rfl (fin [(0, 4294967295), (0, 2147483647), (0, 4294967295), (0, 4294967295), (0, 4294967295), (0, 4294967295)] ex_v32_0) (cut [(0, 4294967295), (2147483648, 4294967295), (0, 4294967295), (0, 4294967295), (0, 4294967295), (0, 4294967295)] 1 2147483648 (2147483648, 4294967295) rfl (cut [(0, 4294967295), (2147483648, 2147483648), (0, 4294967295), (0, 4294967295), (0, 4294967295), (0, 4294967295)] 2 2147483647 (0, 4294967295) rfl (fin [(0, 4294967295), (2147483648, 2147483648), (0, 2147483647), (0, 4294967295), (0, 4294967295), (0, 4294967295)] ex_v32_1) (cut [(0, 4294967295), (2147483648, 2147483648), (2147483648, 4294967295), (0, 4294967295), (0, 4294967295), (0, 4294967295)] 2 2147483675 (2147483648, 4294967295) rfl (fin [(0, 4294967295), (2147483648, 2147483648), (2147483648, 2147483675), (0, 4294967295), (0, 4294967295), (0, 4294967295)] ex_v32_2) (cut [(0, 4294967295), (2147483648, 2147483648), (2147483676, 4294967295), (0, 4294967295), (0, 4294967295), (0, 4294967295)] 2 2147483698 (2147483676, 4294967295) rfl (fin [(0, 4294967295), (2147483648, 2147483648), (2147483676, 2147483698), (0, 4294967295), (0, 4294967295), (0, 4294967295)] ex_v32_3) (cut [(0, 4294967295), (2147483648, 2147483648), (2147483699, 4294967295), (0, 4294967295), (0, 4294967295), (0, 4294967295)] 2 2147483708 (2147483699, 4294967295) rfl (fin [(0, 4294967295), (2147483648, 2147483648), (2147483699, 2147483708), (0, 4294967295), (0, 4294967295), (0, 4294967295)] ex_v32_4) (fin [(0, 4294967295), (2147483648, 2147483648), (2147483709, 4294967295), (0, 4294967295), (0, 4294967295), (0, 4294967295)] ex_v32_5))))) (cut [(0, 4294967295), (2147483649, 4294967295), (0, 4294967295), (0, 4294967295), (0, 4294967295), (0, 4294967295)] 1 2147483649 (2147483649, 4294967295) rfl (cut [(0, 4294967295), (2147483649, 2147483649), (0, 4294967295), (0, 4294967295), (0, 4294967295), (0, 4294967295)] 2 2147483647 (0, 4294967295) rfl (fin [(0, 4294967295), (2147483649, 2147483649), (0, 2147483647), (0, 4294967295), (0, 4294967295), (0, 4294967295)] ex_v32_6) (cut [(0, 4294967295), (2147483649, 2147483649), (2147483648, 4294967295), (0, 4294967295), (0, 4294967295), (0, 4294967295)] 2 2147483675 (2147483648, 4294967295) rfl (fin [(0, 4294967295), (2147483649, 2147483649), (2147483648, 2147483675), (0, 4294967295), (0, 4294967295), (0, 4294967295)] ex_v32_7) (cut [(0, 4294967295), (2147483649, 2147483649), (2147483676, 4294967295), (0, 4294967295), (0, 4294967295), (0, 4294967295)] 2 2147483698 (2147483676, 4294967295) rfl (fin [(0, 4294967295), (2147483649, 2147483649), (2147483676, 2147483698), (0, 4294967295), (0, 4294967295), (0, 4294967295)] ex_v32_8) (cut [(0, 4294967295), (2147483649, 2147483649), (2147483699, 4294967295), (0, 4294967295), (0, 4294967295), (0, 4294967295)] 2 2147483708 (2147483699, 4294967295) rfl (fin [(0, 4294967295), (2147483649, 2147483649), (2147483699, 2147483708), (0, 4294967295), (0, 4294967295), (0, 4294967295)] ex_v32_9) (fin [(0, 4294967295), (2147483649, 2147483649), (2147483709, 4294967295), (0, 4294967295), (0, 4294967295), (0, 4294967295)] ex_v32_10))))) (cut [(0, 4294967295), (2147483650, 4294967295), (0, 4294967295), (0, 4294967295), (0, 4294967295), (0, 4294967295)] 1 2147483650 (2147483650, 4294967295) rfl (cut [(0, 4294967295), (2147483650, 2147483650), (0, 4294967295), (0, 4294967295), (0, 4294967295), (0, 4294967295)] 2 2147483647 (0, 4294967295) rfl (fin [(0, 4294967295), (2147483650, 2147483650), (0, 2147483647), (0, 4294967295), (0, 4294967295), (0, 4294967295)] ex_v32_11) (cut [(0, 4294967295), (2147483650, 2147483650), (2147483648, 4294967295), (0, 4294967295), (0, 4294967295), (0, 4294967295)] 2 2147483675 (2147483648, 4294967295) rfl (fin [(0, 4294967295), (2147483650, 2147483650), (2147483648, 2147483675), (0, 4294967295), (0, 4294967295), (0, 4294967295)] ex_v32_12) (cut [(0, 4294967295), (2147483650, 2147483650), (2147483676, 4294967295), (0, 4294967295), (0, 4294967295), (0, 4294967295)] 2 2147483698 (2147483676, 4294967295) rfl (fin [(0, 4294967295), (2147483650, 2147483650), (2147483676, 2147483698), (0, 4294967295), (0, 4294967295), (0, 4294967295)] ex_v32_13) (cut [(0, 4294967295), (2147483650, 2147483650), (2147483699, 4294967295), (0, 4294967295), (0, 4294967295), (0, 4294967295)] 2 2147483708 (2147483699, 4294967295) rfl (fin [(0, 4294967295), (2147483650, 2147483650), (2147483699, 2147483708), (0, 4294967295), (0, 4294967295), (0, 4294967295)] ex_v32_14) (fin [(0, 4294967295), (2147483650, 2147483650), (2147483709, 4294967295), (0, 4294967295), (0, 4294967295), (0, 4294967295)] ex_v32_15))))) (cut [(0, 4294967295), (2147483651, 4294967295), (0, 4294967295), (0, 4294967295), (0, 4294967295), (0, 4294967295)] 1 2147483651 (2147483651, 4294967295) rfl (cut [(0, 4294967295), (2147483651, 2147483651), (0, 4294967295), (0, 4294967295), (0, 4294967295), (0, 4294967295)] 2 2147483647 (0, 4294967295) rfl (fin [(0, 4294967295), (2147483651, 2147483651), (0, 2147483647), (0, 4294967295), (0, 4294967295), (0, 4294967295)] ex_v32_16) (cut [(0, 4294967295), (2147483651, 2147483651), (2147483648, 4294967295), (0, 4294967295), (0, 4294967295), (0, 4294967295)] 2 2147483675 (2147483648, 4294967295) rfl (fin [(0, 4294967295), (2147483651, 2147483651), (2147483648, 2147483675), (0, 4294967295), (0, 4294967295), (0, 4294967295)] ex_v32_17) (cut [(0, 4294967295), (2147483651, 2147483651), (2147483676, 4294967295), (0, 4294967295), (0, 4294967295), (0, 4294967295)] 2 2147483698 (2147483676, 4294967295) rfl (fin [(0, 4294967295), (2147483651, 2147483651), (2147483676, 2147483698), (0, 4294967295), (0, 4294967295), (0, 4294967295)] ex_v32_18) (cut [(0, 4294967295), (2147483651, 2147483651), (2147483699, 4294967295), (0, 4294967295), (0, 4294967295), (0, 4294967295)] 2 2147483708 (2147483699, 4294967295) rfl (fin [(0, 4294967295), (2147483651, 2147483651), (2147483699, 2147483708), (0, 4294967295), (0, 4294967295), (0, 4294967295)] ex_v32_19) (fin [(0, 4294967295), (2147483651, 2147483651), (2147483709, 4294967295), (0, 4294967295), (0, 4294967295), (0, 4294967295)] ex_v32_20))))) (fin [(0, 4294967295), (2147483652, 4294967295), (0, 4294967295), (0, 4294967295), (0, 4294967295), (0, 4294967295)] ex_v32_21))))))
end
section
set_option maxRecDepth 1000000 in
theorem ex_v33_0 : ex_fin (ex_run ex_mt ex_df 6 20000 1000000 20 true ex_law [(0, 4294967295), (0, 4294967295), (0, 2147483647), (0, 4294967295), (0, 4294967295), (0, 4294967295)] (ex_at0 1131)) = true := by decide +kernel
set_option maxRecDepth 1000000 in
theorem ex_v33_1 : ex_fin (ex_run ex_mt ex_df 6 20000 1000000 20 true ex_law [(0, 4294967295), (0, 2147483647), (2147483648, 2147483650), (0, 4294967295), (0, 4294967295), (0, 4294967295)] (ex_at0 1131)) = true := by decide +kernel
set_option maxRecDepth 1000000 in
theorem ex_v33_2 : ex_fin (ex_run ex_mt ex_df 6 20000 1000000 20 true ex_law [(0, 4294967295), (2147483648, 2147483655), (2147483648, 2147483650), (0, 4294967295), (0, 4294967295), (0, 4294967295)] (ex_at0 1131)) = true := by decide +kernel
set_option maxRecDepth 1000000 in
theorem ex_v33_3 : ex_fin (ex_run ex_mt ex_df 6 20000 1000000 20 true ex_law [(0, 4294967295), (2147483656, 2147483663), (2147483648, 2147483650), (0, 4294967295), (0, 4294967295), (0, 4294967295)] (ex_at0 1131)) = true := by decide +kernel
set_option maxRecDepth 1000000 in
theorem ex_v33_4 : ex_fin (ex_run ex_mt ex_df 6 20000 1000000 20 true ex_law [(0, 4294967295), (2147483664, 2147483671), (2147483648, 2147483650), (0, 4294967295), (0, 4294967295), (0, 4294967295)] (ex_at0 1131)) = true := by decide +kernel
set_option maxRecDepth 1000000 in
theorem ex_v33_5 : ex_fin (ex_run ex_mt ex_df 6 20000 1000000 20 true ex_law [(0, 4294967295), (2147483672, 2147483678), (2147483648, 2147483650), (0, 4294967295), (0, 4294967295), (0, 4294967295)] (ex_at0 1131)) = true := by decide +kernel
set_option maxRecDepth 1000000 in
theorem ex_v33_6 : ex_fin (ex_run ex_mt ex_df 6 20000 1000000 20 true ex_law [(0, 4294967295), (2147483679, 2147483685), (2147483648, 2147483650), (0, 4294967295), (0, 4294967295), (0, 4294967295)] (ex_at0 1131)) = true := by decide +kernel
set_option maxRecDepth 1000000 in
theorem ex_v33_7 : ex_fin (ex_run ex_mt ex_df 6 20000 1000000 20 true ex_law [(0, 4294967295), (2147483686, 2147483692), (2147483648, 2147483650), (0, 4294967295), (0, 4294967295), (0, 4294967295)] (ex_at0 1131)) = true := by decide +kernel
set_option maxRecDepth 1000000 in
theorem ex_v33_8 : ex_fin (ex_run ex_mt ex_df 6 20000 1000000 20 true ex_law [(0, 4294967295), (2147483693, 2147483698), (2147483648, 2147483650), (0, 4294967295), (0, 4294967295), (0, 4294967295)] (ex_at0 1131)) = true := by decide +kernel
set_option maxRecDepth 1000000 in
theorem ex_v33_9 : ex_fin (ex_run ex_mt ex_df 6 20000 1000000 20 true ex_law [(0, 4294967295), (2147483699, 2147483704), (2147483648, 2147483650), (0, 4294967295), (0, 4294967295), (0, 4294967295)] (ex_at0 1131)) = true := by decide +kernel
set_option maxRecDepth 1000000 in
theorem ex_v33_10 : ex_fin (ex_run ex_mt ex_df 6 20000 1000000 20 true ex_law [(0, 4294967295), (2147483705, 2147483708), (2147483648, 2147483650), (0, 4294967295), (0, 4294967295), (0, 4294967295)] (ex_at0 1131)) = true := by decide +kernel
set_option maxRecDepth 1000000 in
theorem ex_v33_11 : ex_fin (ex_run ex_mt ex_df 6 20000 1000000 20 true ex_law [(0, 4294967295), (2147483709, 4294967295), (2147483648, 2147483650), (0, 4294967295), (0, 4294967295), (0, 4294967295)] (ex_at0 1131)) = true := by decide +kernel
set_option maxRecDepth 1000000 in
theorem ex_v33_12 : ex_fin (ex_run ex_mt ex_df 6 20000 1000000 20 true ex_law [(0, 4294967295), (0, 4294967295), (2147483651, 4294967295), (0, 4294967295), (0, 4294967295), (0, 4294967295)] (ex_at0 1131)) = true := by decide +kernel
theorem ex_o33 {P : ex_E → Prop} (cut : ∀ (en : ex_E) (i c : Nat) (q : Nat × Nat), ex_nth en i = some q → P (ex_set en i (q.1, c)) → P (ex_set en i (c + 1, q.2)) → P en) (fin : ∀ e : ex_E, ex_fin (ex_run ex_mt ex_df 6 20000 1000000 20 true ex_law e (ex_at0 1131)) = true → P e) : P ex_en0 := (cut [(0, 4294967295), (0, 4294967295), (0, 4294967295), (0, 4294967295), (0, 4294967295), (0, 4294967295)] 2 2147483647 (0, 4294967295) rfl (fin [(0, 4294967295), (0, 4294967295), (0, 2147483647), (0, 4294967295), (0, 4294967295), (0, 4294967295)] ex_v33_0) (cut [(0, 4294967295), (0, 4294967295), (2147483648, 4294967295), (0, 4294967295), (0, 4294967295), (0, 4294967295)] 2 2147483650 (2147483648, 4294967295) rfl (cut [(0, 4294967295), (0, 4294967295), (2147483648, 2147483650), (0, 4294967295), (0, 4294967295), (0, 4294967295)] 1 2147483647 (0, 4294967295) rfl (fin [(0, 4294967295), (0, 2147483647), (2147483648, 2147483650), (0, 4294967295), (0, 4294967295), (0, 4294967295)] ex_v33_1) (cut [(0, 4294967295), (2147483648, 4294967295), (2147483648, 2147483650), (0, 4294967295), (0, 4294967295), (0, 4294967295)] 1 2147483655 (2147483648, 4294967295) rfl (fin [(0, 4294967295), (2147483648, 2147483655), (2147483648, 2147483650), (0, 4294967295), (0, 4294967295), (0, 4294967295)] ex_v33_2) (cut [(0, 4294967295), (2147483656, 4294967295), (2147483648, 2147483650), (0, 4294967295), (0, 4294967295), (0, 4294967295)] 1 2147483663 (2147483656, 4294967295) rfl (fin [(0, 4294967295), (2147483656, 2147483663), (2147483648, 2147483650), (0, 4294967295), (0, 4294967295), (0, 4294967295)] ex_v33_3) (cut [(0, 4294967295), (2147483664, 4294967295), (2147483648, 2147483650), (0, 4294967295), (0, 4294967295), (0, 4294967295)] 1 2147483671 (2147483664, 4294967295) rfl (fin [(0, 4294967295), (2147483664, 2147483671), (2147483648, 2147483650), (0, 4294967295), (0, 4294967295), (0, 4294967295)] ex_v33_4) (cut [(0, 4294967295), (2147483672, 4294967295), (2147483648, 2147483650), (0, 4294967295), (0, 4294967295), (0, 4294967295)] 1 2147483678 (2147483672, 4294967295) rfl (fin [(0, 4294967295), (2147483672, 2147483678), (2147483648, 2147483650), (0, 4294967295), (0, 4294967295), (0, 4294967295)] ex_v33_5) (cut [(0, 4294967295), (2147483679, 4294967295), (2147483648, 2147483650), (0, 4294967295), (0, 4294967295), (0, 4294967295)] 1 2147483685 (2147483679, 4294967295) rfl (fin [(0, 4294967295), (2147483679, 2147483685), (2147483648, 2147483650), (0, 4294967295), (0, 4294967295), (0, 4294967295)] ex_v33_6) (cut [(0, 4294967295), (2147483686, 4294967295), (2147483648, 2147483650), (0, 4294967295), (0, 4294967295), (0, 4294967295)] 1 2147483692 (2147483686, 4294967295) rfl (fin [(0, 4294967295), (2147483686, 2147483692), (2147483648, 2147483650), (0, 4294967295), (0, 4294967295), (0, 4294967295)] ex_v33_7) (cut [(0, 4294967295), (2147483693, 4294967295), (2147483648, 2147483650), (0, 4294967295), (0, 4294967295), (0, 4294967295)] 1 2147483698 (2147483693, 4294967295) rfl (fin [(0, 4294967295), (2147483693, 2147483698), (2147483648, 2147483650), (0, 4294967295), (0, 4294967295), (0, 4294967295)] ex_v33_8) (cut [(0, 4294967295), (2147483699, 4294967295), (2147483648, 2147483650), (0, 4294967295), (0, 4294967295), (0, 4294967295)] 1 2147483704 (2147483699, 4294967295) rfl (fin [(0, 4294967295), (2147483699, 2147483704), (2147483648, 2147483650), (0, 4294967295), (0, 4294967295), (0, 4294967295)] ex_v33_9) (cut [(0, 4294967295), (2147483705, 4294967295), (2147483648, 2147483650), (0, 4294967295), (0, 4294967295), (0, 4294967295)] 1 2147483708 (2147483705, 4294967295) rfl (fin [(0, 4294967295), (2147483705, 2147483708), (2147483648, 2147483650), (0, 4294967295), (0, 4294967295), (0, 4294967295)] ex_v33_10) (fin [(0, 4294967295), (2147483709, 4294967295), (2147483648, 2147483650), (0, 4294967295), (0, 4294967295), (0, 4294967295)] ex_v33_11))))))))))) (fin [(0, 4294967295), (0, 4294967295), (2147483651, 4294967295), (0, 4294967295), (0, 4294967295), (0, 4294967295)] ex_v33_12)))
end
section
/-- all ops, light and heavy -/
theorem ex_oall {P : Nat → ex_E → Prop} (cut : ∀ (t : Nat) (en : ex_E) (i c : Nat) (q : Nat × Nat), ex_nth en i = some q → P t (ex_set en i (q.1, c)) → P t (ex_set en i (c + 1, q.2)) → P t en) (fin : ∀ (t : Nat) (e : ex_E), ex_fin (ex_run ex_mt ex_df 6 20000 1000000 20 true ex_law e (ex_at0 t)) = true → P t e) : ∀ t ∈ ex_tg, P t ex_en0 := by
  intro t ht
  simp only [ex_tg, List.mem_cons, List.not_mem_nil, or_false] at ht
  rcases ht with rfl | rfl | rfl | rfl | rfl | rfl | rfl | rfl | rfl | rfl | rfl | rfl | rfl | rfl | rfl | rfl | rfl | rfl | rfl | rfl | rfl | rfl | rfl | rfl | rfl | rfl | rfl | rfl | rfl | rfl | rfl | rfl | rfl | rfl | rfl | rfl | rfl | rfl | rfl | rfl | rfl | rfl | rfl | rfl | rfl | rfl | rfl | rfl | rfl | rfl | rfl | rfl
  · exact fin 252 _ ex_o0
  · exact fin 315 _ ex_o1
  · exact fin 338 _ ex_o2
  · exact fin 351 _ ex_o3
  · exact fin 374 _ ex_o4
  · exact fin 407 _ ex_o5
  · exact fin 440 _ ex_o6
  · exact fin 463 _ ex_o7
  · exact fin 486 _ ex_o8
  · exact fin 509 _ ex_o9
  · exact fin 522 _ ex_o10
  · exact fin 545 _ ex_o11
  · exact fin 578 _ ex_o12
  · exact fin 611 _ ex_o13
  · exact fin 634 _ ex_o14
  · exact fin 657 _ ex_o15
  · exact fin 670 _ ex_o16
  · exact ex_o17 (cut 683) (fin 683)
  · exact fin 716 _ ex_o18
  · exact ex_o19 (cut 739) (fin 739)
  · exact fin 762 _ ex_o20
  · exact fin 795 _ ex_o21
  · exact fin 828 _ ex_o22
  · exact fin 841 _ ex_o23
  · exact fin 874 _ ex_o24
  · exact fin 897 _ ex_o25
  · exact ex_o26 (cut 930) (fin 930)
  · exact fin 953 _ ex_o27
  · exact fin 986 _ ex_o28
  · exact fin 1009 _ ex_o29
  · exact fin 1042 _ ex_o30
  · exact fin 1065 _ ex_o31
  · exact ex_o32 (cut 1098) (fin 1098)
  · exact ex_o33 (cut 1131) (fin 1131)
  · exact fin 1164 _ ex_o34
  · exact fin 1177 _ ex_o35
  · exact fin 1190 _ ex_o36
  · exact fin 1203 _ ex_o37
  · exact fin 1226 _ ex_o38
  · exact ex_o39 (cut 1239) (fin 1239)
  · exact fin 1262 _ ex_o40
  · exact fin 1295 _ ex_o41
  · exact fin 1318 _ ex_o42
  · exact fin 1377 _ ex_o43
  · exact fin 1400 _ ex_o44
  · exact fin 1423 _ ex_o45
  · exact fin 1446 _ ex_o46
  · exact fin 1479 _ ex_o47
  · exact fin 1512 _ ex_o48
  · exact fin 1535 _ ex_o49
  · exact fin 1558 _ ex_o50
  · exact fin 1581 _ ex_o51
end
section
/-! THE CLAIM OUT OF ONE WALK OF THE LAW'S BODY. Your part is whole_start (and what it stands on); all else here is the same for every law, but numbers. -/
def R_law : String := "HatchLightsLaw"
def lw_P (b : Addr) (xs : List Int32) (args : Array Value) (s : State) : Prop := args = #[.ref b] ∧ s.IntsAt b xs ∧ xs.length ≤ 6 ∧ (Jvm.Cond.and given_1 narrow_1).before args s = true
def lw_Q (_ : Array Value) (s : State) (o : Outcome) (t : State) : Prop := o = .returned (some (.int 1)) ∧ Framed s o t [] 600000 7302250
def lw_Z (below : List Frame) (a : Array Value) (s : State) : State → Prop := fun t => ∃ o, t.status = .running ∧ Ended t below o ∧ lw_Q a s o t
/-- the law's own end, with 1 on the stack, nothing written that was there before, its room as the claim has it -/
theorem lw_ret {p : Program} {l : Launch} {e : Env} {s : State} {m : MethodId} {below : List Frame} {meth : Method} {c : Code} {b : Nat} (hx : p.tables.exec = Jvm.exec) (hb : c.code = code) (hr : meth.sig.returnType = ret) (hlocks : meth.locks = false) {pc : Nat} {H : Heap} {ls : Array Slot} (hdg : decode code pc = .ok (.ireturn, 1)) : W p l e room_1 s m #[Value.ref b] below meth c H [] 600000 7302250 (lw_Z below #[Value.ref b] s) (F0 m pc ls [.int 1]) := by
  intro T hT X
  obtain ⟨fs, hret, hrun, hended, hW, hframe⟩ := X.leave (v := some (.int 1)) (hlocks := hlocks) (fun h => by rw [hr] at h; cases h)
  have hmeth' : T.vm.method? m = some meth := X.method'
  refine ⟨T.setFrames fs, ?_, .returned (some (.int 1)), hrun, hended, rfl, ⟨_, rfl⟩, hW, hframe⟩
  jvm_step X.here [X.here.top, hx, hb, hdg, hmeth', hr, ret, narrow_b1]
  (try refine ⟨rfl, ?_⟩); (try refine ⟨rfl, ?_⟩)
  first | (intro acts; rw [hret _ acts rfl rfl rfl]) | rw [hret _ _ rfl rfl rfl]
  exact Steps.refl _
/-- what holds at the law's entry: the machine, the code, the tables' words (any of lw_tbl by 'hts w (by decide +kernel)'), the script of L ints xs at the cell b, what the Statement gives of the start (any of its parts by flat_of_before) -/
def lw_At (p : Program) (s : State) (m : MethodId) (meth : Method) (c : Code) (b L : Nat) (xs : Nat → Int32) : Prop :=
  p.tables.exec = Jvm.exec ∧ c.code = code ∧ meth.sig.returnType = ret ∧ c.maxLocals = 4 ∧ s.vm.findClass R_law = some m.cls ∧ (∀ w ∈ lw_tbl, w.before #[Value.ref b] s = true) ∧ va_X b L xs s s.heap ∧ b < s.heap.size ∧ meth.locks = false ∧ (Jvm.Cond.and given_1 narrow_1).before #[Value.ref b] s = true
noncomputable def ex_npf (q : ex_P) : Bool := match q.2.1 with
  | .putfield _ => false
  | _ => true
theorem ex_qk_nm {mi : Nat → Option ex_I} {own nm nm' : String} {z : Nat} {ret : Option FieldType} {q : ex_P} (h : ex_npf q = true) : ex_qk mi own nm z ret q = ex_qk mi own nm' z ret q := by
  obtain ⟨pc, ins, len, a1, a2, a3, ts⟩ := q
  cases ins <;> first | rfl | (cases (show false = true from h))
set_option maxRecDepth 1000000 in
theorem ex_lawn : ex_every ex_npf ex_p_L_law = true := by decide +kernel
theorem ex_lawPO2 (nm : String) : ex_PO ex_mi RL nm code 1 (some .boolean) ex_p_L_law := fun q hq => by
  obtain ⟨h1, h2⟩ := ex_lawPO q hq
  exact ⟨h1, by rw [ex_qk_nm (nm' := "law") (ex_every_ok ex_lawn q hq)]; exact h2⟩
theorem ex_G_le {p : Program} {l : Launch} {e : Env} {R : Room} {s : State} {m : MethodId} {args : Array Value} {below : List Frame} {meth : Method} {c : Code} {Q : State → Prop} {D : va_G} {ρ : Nat → Int32} {b : Nat} {A : Nat → Prop} {mL : Nat} {w0 : va_W} {t0 : List (ClassId × FieldType)} {t : Nat} {x : ex_E × ex_S} (hx : ex_is t x = true) (hne : ex_jp ex_p_L_law t ≠ []) (hG : ex_G p l e R s m args below meth c Q D ρ b A mL w0 t0 ex_p_L_law ex_en0 (ex_at0 t)) : ex_G p l e R s m args below meth c Q D ρ b A mL w0 t0 ex_p_L_law x.1 x.2 := by
  obtain ⟨en, sx, lv, st, h, n, k1, k2⟩ := x
  unfold ex_is at hx
  dsimp only at hx
  obtain ⟨hx, c8⟩ := ex_and hx
  obtain ⟨hx, c7⟩ := ex_and hx
  obtain ⟨hx, c6⟩ := ex_and hx
  obtain ⟨hx, c5⟩ := ex_and hx
  obtain ⟨hx, c4⟩ := ex_and hx
  obtain ⟨hx, c3⟩ := ex_and hx
  obtain ⟨c1, c2⟩ := ex_and hx
  have c3 : lv = ex_lv0 := ex_lq_ok ex_pqz_ok c3
  have c4 : st = [] := ex_lq_ok (fun _ _ => ex_veq_ok) c4
  have c6 := ex_beq c6
  have c7 := ex_beq c7
  have c8 := ex_beq c8
  subst c3
  subst c4
  subst c6
  subst c7
  subst c8
  intro pc ls xs ws tys H locs hh hsub hR
  obtain ⟨q, r, e0, e1⟩ := hh
  have e0 : sx = q :: r := e0
  subst e0
  have c1 : q.1 = t := ex_beq c1
  have e1 : q.1 = pc := e1
  have hpc : pc = t := e1.symm.trans c1
  subst hpc
  refine hG pc ls xs ws tys H locs (show ∃ q r, ex_jp ex_p_L_law pc = q :: r ∧ q.1 = pc from ex_jp_sub.2.resolve_left hne) (show ∀ q ∈ ex_jp ex_p_L_law pc, q ∈ ex_p_L_law from ex_jp_sub.1) ⟨hR.1, ?_, hR.2.2.1, ?_, hR.2.2.2.2⟩
  · intro i z hz
    obtain ⟨z', z1, z2, z3⟩ := ex_eq'_ok c2 i z hz
    have := hR.er i z' z1
    omega
  · exact ⟨hR.hr.1, fun k cc hk => hR.hr.2 k cc (ex_hq_ok c5 hk)⟩
theorem ex_en0_ok (ρ : Nat → Int32) : ex_er ρ ex_en0 := by
  intro i q hq
  rw [ex_nth_get] at hq
  have hm := List.mem_of_getElem? hq
  simp only [ex_en0, List.mem_cons, List.not_mem_nil, or_false, or_self] at hm
  subst hm
  have := ex_u_lt (ρ i)
  exact ⟨Nat.zero_le _, by show ex_u (ρ i) ≤ 4294967295; omega⟩
theorem ex_er_set {ρ : Nat → Int32} {en : ex_E} {i : Nat} {q : Nat × Nat} (he : ex_er ρ en) (h1 : q.1 ≤ ex_u (ρ i)) (h2 : ex_u (ρ i) ≤ q.2) : ex_er ρ (ex_set en i q) := by
  intro j y hj
  rw [ex_nth_get, ex_set_eq, List.getElem?_set] at hj
  split at hj
  · rename_i hij
    subst hij
    split at hj
    · injection hj with hj
      subst hj
      exact ⟨h1, h2⟩
    · cases hj
  · exact he j y (by rw [ex_nth_get]; exact hj)
theorem ex_G_cut {p : Program} {l : Launch} {e : Env} {R : Room} {s : State} {m : MethodId} {args : Array Value} {below : List Frame} {meth : Method} {c : Code} {Q : State → Prop} {D : va_G} {ρ : Nat → Int32} {b : Nat} {A : Nat → Prop} {mL : Nat} {w0 : va_W} {t0 : List (ClassId × FieldType)} {pr : List ex_P} {en : ex_E} {S : ex_S} {i : Nat} {q : Nat × Nat} (hi : ex_nth en i = some q) (k : Nat) (h1 : ex_G p l e R s m args below meth c Q D ρ b A mL w0 t0 pr (ex_set en i (q.1, k)) S) (h2 : ex_G p l e R s m args below meth c Q D ρ b A mL w0 t0 pr (ex_set en i (k + 1, q.2)) S) : ex_G p l e R s m args below meth c Q D ρ b A mL w0 t0 pr en S := by
  intro pc ls xs ws tys H locs hh hsub hR
  have hb := hR.er i q hi
  rcases Nat.lt_or_ge k (ex_u (ρ i)) with z | z
  · exact h2 pc ls xs ws tys H locs hh hsub (hR.env (ex_er_set hR.er z hb.2))
  · exact h1 pc ls xs ws tys H locs hh hsub (hR.env (ex_er_set hR.er hb.1 z))
/-- the law's ends -/
theorem ex_end_ok {p : Program} {l : Launch} {e : Env} {s : State} {m : MethodId} {below : List Frame} {meth : Method} {c : Code} {D : va_G} {ρ : Nat → Int32} {b : Nat} {w0 : va_W} {t0 : List (ClassId × FieldType)} (hx : p.tables.exec = Jvm.exec) (hb : c.code = code) (hr : meth.sig.returnType = ret) (hlocks : meth.locks = false) {x : ex_E × ex_S} (h : ex_end1 x = true) : ex_G p l e room_1 s m #[Value.ref b] below meth c (lw_Z below #[Value.ref b] s) D ρ b (fun q : Nat => s.heap.size ≤ q) 4 w0 t0 ex_p_L_law x.1 x.2 := by
  obtain ⟨en, sx, lv, st, hp, n, k1, k2⟩ := x
  unfold ex_end1 at h
  dsimp only at h
  obtain ⟨h, c4⟩ := ex_and h
  obtain ⟨h, c3⟩ := ex_and h
  obtain ⟨c1, c2⟩ := ex_and h
  have c2 : st = [ex_k 2147483649] := ex_lq_ok (fun _ _ => ex_veq_ok) c2
  subst c2
  intro pc ls xs ws tys H locs hh hsub hR
  obtain ⟨q, r, e0, e1⟩ := hh
  have e0 : sx = q :: r := e0
  subst e0
  subst e1
  obtain ⟨y, ys, rfl, hv, hr'⟩ := ex_sr_cons hR.sr
  have hys := ex_sr_nil hr'
  subst hys
  obtain ⟨z, rfl, hz⟩ := hv
  have hz1 : z = 1 := ex_u_inj (by rw [hz]; decide)
  subst hz1
  obtain ⟨hdq, hqk⟩ := ex_lawPO q (hsub q List.mem_cons_self)
  obtain ⟨pc, ins, len, a1, a2, a3, ts⟩ := q
  dsimp only at c1
  split at c1
  · obtain ⟨z1, -⟩ := ex_and (show (Nat.beq len 1 && Nat.beq 1 1) = true from hqk)
    have hl : len = 1 := ex_beq z1
    subst hl
    refine va_forget (fun z hz => hR.hS.2.2 z hz) ?_
    refine W.widen (k := 600000) (n := 7302250) (ex_ble c3) (ex_ble c4) ?_
    exact lw_ret hx hb hr hlocks hdq
  · cases c1
theorem ex_fin_ok {x : Option (List (ex_E × ex_S))} (h : ex_fin x = true) : ∃ o, x = some o ∧ ∀ y ∈ o, ex_end1 y = true := by
  unfold ex_fin at h
  split at h
  · rename_i o
    exact ⟨o, rfl, ex_every_ok h⟩
  · cases h
set_option maxRecDepth 100000 in
theorem ex_jpne : ∀ t ∈ (18 :: ex_tg), ex_jp ex_p_L_law t ≠ [] := by
  have h : ex_every (fun t => ex_hd t (ex_jp ex_p_L_law t)) (18 :: ex_tg) = true := by decide +kernel
  intro t ht he
  have h1 := ex_every_ok h t ht
  rw [he] at h1
  cases h1
end
section
set_option maxHeartbeats 4000000 in
theorem whole_start {p : Program} {e : Env} {s : State} {m : MethodId} {below : List Frame} {meth : Method} {c : Code} (l : Launch) {b L : Nat} {xs : Nat → Int32} (hL : L ≤ 6) (C0 : lw_At p s m meth c b L xs) : W p l e room_1 s m #[Value.ref b] below meth c s.heap [] 0 0 (lw_Z below #[Value.ref b] s) (entryFrame m ([Value.ref b] : List Value).toArray 4) := by
  obtain ⟨hx, hb, hr, hml, hown, hts, hX, hbl, hlocks, hgv⟩ := id C0
  have hts' : ∀ w ∈ ex_tb, w.before #[Value.ref b] s = true := fun w hw => hts w (List.mem_filter.mp hw).1
  obtain ⟨c0, j0, hK0⟩ := u_known (C := RX0) (T := TX0) (N := 4) (n := 4) hts' (ex_cli (ci := 0) rfl).1 (hts' _ (ex_gwp.2.2.2 0 _ rfl).1)
  obtain ⟨c1, j1, hK1⟩ := u_known (C := RX1) (T := TX1) (N := 6) (n := 6) hts' (ex_cli (ci := 1) rfl).1 (hts' _ (ex_gwp.2.2.2 1 _ rfl).1)
  obtain ⟨c2, j2, hK2⟩ := u_known (C := RX2) (T := TX2) (N := 4) (n := 4) hts' (ex_cli (ci := 2) rfl).1 (hts' _ (ex_gwp.2.2.2 2 _ rfl).1)
  obtain ⟨c3, j3, hK3⟩ := u_known (C := RX3) (T := TX3) (N := 12) (n := 12) hts' (ex_cli (ci := 3) rfl).1 (hts' _ (ex_gwp.2.2.2 3 _ rfl).1)
  obtain ⟨c4, j4, hK4⟩ := u_known (C := RX4) (T := TX4) (N := 13) (n := 13) hts' (ex_cli (ci := 4) rfl).1 (hts' _ (ex_gwp.2.2.2 4 _ rfl).1)
  obtain ⟨c5, j5, hK5⟩ := u_known (C := RX5) (T := TX5) (N := 13) (n := 13) hts' (ex_cli (ci := 5) rfl).1 (hts' _ (ex_gwp.2.2.2 5 _ rfl).1)
  obtain ⟨c6, j6, hK6⟩ := u_known (C := RX6) (T := TX6) (N := 2) (n := 2) hts' (ex_cli (ci := 6) rfl).1 (hts' _ (ex_gwp.2.2.2 6 _ rfl).1)
  obtain ⟨c7, j7, hK7⟩ := u_known (C := RX7) (T := TX7) (N := 4) (n := 4) hts' (ex_cli (ci := 7) rfl).1 (hts' _ (ex_gwp.2.2.2 7 _ rfl).1)
  obtain ⟨c8, j8, hK8⟩ := u_known (C := RX8) (T := TX8) (N := 13) (n := 13) hts' (ex_cli (ci := 8) rfl).1 (hts' _ (ex_gwp.2.2.2 8 _ rfl).1)
  obtain ⟨c9, j9, hK9⟩ := u_known (C := RX9) (T := TX9) (N := 15) (n := 15) hts' (ex_cli (ci := 9) rfl).1 (hts' _ (ex_gwp.2.2.2 9 _ rfl).1)
  obtain ⟨c10, j10, hK10⟩ := u_known (C := RX10) (T := TX10) (N := 68) (n := 68) hts' (ex_cli (ci := 10) rfl).1 (hts' _ (ex_gwp.2.2.2 10 _ rfl).1)
  obtain ⟨dC, dI, hKc⟩ : ∃ (dC : Nat → ClassId) (dI : Nat → Nat → Nat), ∀ (k : Nat) (q : vw_C), vwCl[k]? = some q → u_Kn s q.1 q.2.1 q.2.2 (dC k) (dI k) := by
    refine ⟨fun k => [c0, c1, c2, c3, c4, c5, c6, c7, c8, c9, c10].getD k c0, fun k => [j0, j1, j2, j3, j4, j5, j6, j7, j8, j9, j10].getD k j0, ?_⟩
    intro k q hq
    match k, hq with
    | 0, hq => cases hq; exact hK0
    | 1, hq => cases hq; exact hK1
    | 2, hq => cases hq; exact hK2
    | 3, hq => cases hq; exact hK3
    | 4, hq => cases hq; exact hK4
    | 5, hq => cases hq; exact hK5
    | 6, hq => cases hq; exact hK6
    | 7, hq => cases hq; exact hK7
    | 8, hq => cases hq; exact hK8
    | 9, hq => cases hq; exact hK9
    | 10, hq => cases hq; exact hK10
    | k + 11, hq => simp [vwCl] at hq
  have hK : va_K (dC, dI) vwCl [] s := ⟨hKc, fun k q h => by simp at h⟩
  have hP : va_P (dC, dI) vwCl [] s.heap := fun k q h => by simp at h
  have hD : va_D (fun q : Nat => s.heap.size ≤ q) [] := ⟨fun i j p q h => by simp at h, fun k q h => by simp at h⟩
  have hnest : ∀ w ∈ ex_nest, va_Nw w s := by
    intro w hw
    simp only [ex_nest, List.mem_cons, List.not_mem_nil, or_false] at hw
    rcases hw with rfl | rfl | rfl | rfl | rfl
    · exact va_Nw.of rfl (hts _ (List.mem_of_getElem? (i := 141) (by decide +kernel)))
    · exact va_Nw.of rfl (hts _ (List.mem_of_getElem? (i := 158) (by decide +kernel)))
    · exact va_Nw.of rfl (hts _ (List.mem_of_getElem? (i := 170) (by decide +kernel)))
    · exact va_Nw.of rfl (hts _ (List.mem_of_getElem? (i := 276) (by decide +kernel)))
    · exact va_Nw.of rfl (hts _ (List.mem_of_getElem? (i := 348) (by decide +kernel)))
  have hAO : va_AO "HatchLights$Scene" s := va_AO.of (hts _ (List.mem_of_getElem? (i := 430) (by decide +kernel)))
  have X : ex_X p room_1 s m #[Value.ref b] meth c xs b L (fun q : Nat => s.heap.size ≤ q) RL meth.name code 4 20 (600000, 7302250) true := ⟨hx, hb, hml, hown, hts', fun _ h => h, hnest, hAO, fun _ => ⟨hX, hbl, Nat.not_le.mpr hbl⟩, rfl, ⟨Nat.le_refl _, Nat.le_refl _⟩, by decide, by decide⟩
  have run : ∀ (stop : Nat) (en : ex_E) (S : ex_S) (o : List (ex_E × ex_S)), ex_run ex_mt ex_df L 20000 stop 20 true ex_law en S = some o → (∀ y ∈ o, ex_G p l e room_1 s m #[Value.ref b] below meth c (lw_Z below #[Value.ref b] s) (dC, dI) xs b (fun q : Nat => s.heap.size ≤ q) 4 [] [] ex_p_L_law y.1 y.2) → ex_G p l e room_1 s m #[Value.ref b] below meth c (lw_Z below #[Value.ref b] s) (dC, dI) xs b (fun q : Nat => s.heap.size ≤ q) 4 [] [] ex_p_L_law en S := fun stop en S o h1 h2 => (ex_run_ok (mt := ex_mt) (mi := ex_mi) (df := ex_df) (L := L) (l := l) ex_gwp ex_gdp ex_hmt 20000 stop 20 true ex_law en S o h1 RL meth.name code (some .boolean) (ex_lawPO2 meth.name) p e room_1 s m #[Value.ref b] below meth c (lw_Z below #[Value.ref b] s) (dC, dI) xs b (fun q : Nat => s.heap.size ≤ q) [] [] X h2).2
  have fin : ∀ (en : ex_E) (S : ex_S), ex_fin (ex_run ex_mt ex_df L 20000 1000000 20 true ex_law en S) = true → ex_G p l e room_1 s m #[Value.ref b] below meth c (lw_Z below #[Value.ref b] s) (dC, dI) xs b (fun q : Nat => s.heap.size ≤ q) 4 [] [] ex_p_L_law en S := fun en S h => by
    obtain ⟨o, h1, h2⟩ := ex_fin_ok h
    exact run _ en S o h1 (fun y hy => ex_end_ok hx hb hr hlocks (h2 y hy))
  have G0 : ex_G p l e room_1 s m #[Value.ref b] below meth c (lw_Z below #[Value.ref b] s) (dC, dI) xs b (fun q : Nat => s.heap.size ≤ q) 4 [] [] ex_p_L_law ex_en0 ex_s0 := by
    rcases (show L = 0 ∨ L = 1 ∨ L = 2 ∨ L = 3 ∨ L = 4 ∨ L = 5 ∨ L = 6 by omega) with z | z | z | z | z | z | z
    · exact fin _ _ (by rw [z]; exact ex_rL0)
    · exact fin _ _ (by rw [z]; exact ex_rL1)
    · exact fin _ _ (by rw [z]; exact ex_rL2)
    · exact fin _ _ (by rw [z]; exact ex_rL3)
    · exact fin _ _ (by rw [z]; exact ex_rL4)
    · exact fin _ _ (by rw [z]; exact ex_rL5)
    · have h1 := ex_r1
      unfold ex_is1 at h1
      split at h1
      · rename_i o ho
        refine run 18 _ _ o (by rw [z]; exact ho) (fun y hy => ex_G_le (ex_every_ok h1 y hy) (ex_jpne 18 List.mem_cons_self) ?_)
        have h2 := ex_r2
        unfold ex_is2 at h2
        split at h2
        · rename_i o2 ho2
          refine run 200 _ _ o2 (by rw [z]; exact ho2) (fun y2 hy2 => ?_)
          obtain ⟨g1, g2⟩ := ex_and (ex_every_ok h2 y2 hy2)
          obtain ⟨t, ht, hit⟩ := ex_any_ok g1
          have htg : t ∈ ex_tg := by
            split at g2
            · rename_i q r hq
              rw [hq] at ht
              have ht : t ∈ [q.1] := ht
              cases List.mem_singleton.mp ht
              obtain ⟨t', h3, h4⟩ := ex_any_ok g2
              rw [ex_beq h4]
              exact h3
            · cases g2
          exact ex_G_le hit (ex_jpne t (List.mem_cons_of_mem _ htg)) (ex_oall (P := fun t e' => ex_G p l e room_1 s m #[Value.ref b] below meth c (lw_Z below #[Value.ref b] s) (dC, dI) xs b (fun q : Nat => s.heap.size ≤ q) 4 [] [] ex_p_L_law e' (ex_at0 t)) (fun t en i c q hi h1 h2 => ex_G_cut hi c h1 h2) (fun t e' h => fin e' _ (by rw [z]; exact h)) t htg)
        · cases h2
      · cases h1
  have hl := lv_entry ([.ref b]) (n := 4) (Nat.le_of_ble_eq_true rfl)
  rw [lg_entry_eq]
  obtain ⟨q, r, hq, hq0⟩ : ∃ q r, ex_p_L_law = q :: r ∧ q.1 = 0 := ⟨_, _, rfl, rfl⟩
  exact G0 0 _ [] [] [] s.heap [] ⟨q, r, hq, hq0⟩ (fun q h => h) ⟨⟨_, hl, (show ex_lr xs b [] [(0, ex_z)] [(0, .ref b)] from ⟨⟨rfl, rfl⟩, trivial⟩)⟩, ex_en0_ok xs, trivial, ⟨rfl, fun k c hk => by cases (show none = some c from hk)⟩, hK, hP, hD, va_S.rf, ex_xt.rf, fun _ h => h⟩
set_option maxHeartbeats 4000000 in
theorem lw_walk (l : Launch) (b : Addr) (xs : List Int32) : MetFree l x (headSpec (Jvm.Cond.code x code maxLocals ret :: tables_1) room_1) (lw_P b xs) (fun _ _ _ _ _ => True) lw_Q := by
  refine MetFree.of_bodyS (code := code) (maxLocals := maxLocals) (ret := ret) (by decide) ?_ ?_
  · intro args s m h hn
    obtain ⟨meth, c, h1, h2, h3, h4, h5, h6, -, -⟩ := Cond.code_spec hn (atoms_spec (ws := Jvm.Cond.code x code maxLocals ret :: tables_1) h _ List.mem_cons_self)
    exact ⟨meth, c, h1, h2, h3, h4, h5, h6⟩
  · intro p e s m args below meth c s₁ B hml0 hP _
    obtain ⟨rfl, hx, hbd, hgv⟩ := hP
    obtain ⟨scr, harrAt, hlist, hof, hsmall⟩ := hx
    obtain ⟨hcb, hkn, -, -⟩ := State.arrayAt?_spec harrAt
    have hown : s.vm.findClass R_law = some m.cls := findClass_of_methodNamed B.named
    have hts0 : ∀ c ∈ (Jvm.Cond.code x code maxLocals ret :: tables_1), c.before #[Value.ref b] s = true := atoms_spec (ws := Jvm.Cond.code x code maxLocals ret :: tables_1) B.pre
    have hts : ∀ w ∈ lw_tbl, w.before #[Value.ref b] s = true := k2_hts_sels lw_privs (fun w hw => hts0 w (List.mem_cons_of_mem _ hw)) lw_privs_ok
    have hml : c.maxLocals = 4 := B.maxLocals_eq (hts0 _ List.mem_cons_self)
    have X₀ : Stand p l e room_1 s m #[Value.ref b] below meth c s₁ [] 0 0 := Stand.of_body B
    have hh0 : s₁.heap = s.heap := by rw [B.state]; rfl
    have hsz : scr.slots.size = xs.length := by rw [← Array.length_toList, hlist, List.length_map]
    have hval : ∀ j : Nat, j < xs.length → scr.slots[j]? = some (.int (xs.getD j 0)) := fun j hj => by
      rw [← Array.getElem?_toList, hlist]
      simp [hj]
    have hbl : b < s.heap.size := (Array.getElem?_eq_some_iff.mp hcb).1
    have hX : va_X b xs.length (fun j => xs.getD j 0) s s.heap := ⟨scr, hcb, hof, hkn, hsz, hval⟩
    have K : W p l e room_1 s m #[Value.ref b] below meth c s₁.heap [] 0 0 (lw_Z below #[Value.ref b] s) (entryFrame m ([Value.ref b] : List Value).toArray 4) := by
      rw [hh0]
      exact whole_start l hbd ⟨B.exec, B.bytes, B.returns, hml, hown, hts, hX, hbl, B.notSynchronized, hgv⟩
    obtain ⟨t, a1, o, b1, b2, b3⟩ := K s₁ rfl X₀
    exact ⟨t, o, a1, b1, b2, b3⟩
theorem lw_pre_spec {args : Array Value} {s : State} (h : (Jvm.Cond.and given_1 narrow_1).before args s = true) (hr : rest_1_c.before args s = true) : ∃ (b : Addr) (xs : List Int32), lw_P b xs args s := by
  have hs := flat_of_before _ h
  have hq := flat_of_before _ hr
  have hc : (Cond.count 1).before args s = true := hs _ (by decide +kernel)
  have harr : (Cond.arrayOf (.arg 0) .int).before args s = true := hs _ (by decide +kernel)
  have hle : (Cond.le (.length (.arg 0)) (.int 6)).before args s = true := hs _ (by decide +kernel)
  have hlen : (Cond.isInt (.length (.arg 0))).before args s = true := hq _ (by decide +kernel)
  have hall : (Cond.all (.arg 0) (.isInt (.elem (.arg 0) (.index 0)))).before args s = true := hq _ (by decide +kernel)
  obtain ⟨b, xs, hb, hx⟩ := State.ints_of_pre rfl harr hlen hall
  have hsm : xs.length < 2 ^ 31 := hx.choose_spec.2.2.2
  have hev : (Term.length (.arg 0)).eval args s none [] s = some (.int xs.length.toInt32) := hx.length_eval hb
  have hv := Cond.le_ints hev (show (Term.int 6).eval args s none [] s = some (.int 6) from rfl)
  have hd : xs.length.toInt32 ≤ 6 := by
    simpa [Cond.before, Cond.holds, hv] using hle
  have hN : xs.length ≤ 6 := (Int32.ofNat_le_ofNat hsm (by decide)).mp (show Int32.ofNat xs.length ≤ Int32.ofNat 6 from hd)
  exact ⟨b, xs, Cond.one_arg hc (show args[0]? = some (.ref b) from hb), hx, hN, h⟩
theorem lw_comes (l : Launch) : Comes l x (Jvm.Cond.code x code maxLocals ret :: tables_1) room_1 (fun tb e args s => Calls_1 tb e args s ∧ rest_1 tb e args s ∧ Pre_1 tb e args s)
    (fun _ _ args s o t => lw_Q args s o t) := by
  intro p e ha hc hk s m args below hf hfit hheap happ hpre
  obtain ⟨b, xs, hP⟩ := lw_pre_spec hpre.2.2 hpre.2.1
  obtain ⟨k, o, h1, h2, h3, hQ⟩ := lw_walk l b xs p e ha hc hk s m args below hf ((Spec.applies_iff_loose hf).mp happ).1 hP trivial
  exact ⟨k, o, h1, h2, h3, hQ⟩
theorem lw_frame {s t : State} {o : Outcome} {args : Array Value} (h : Framed s o t [] 600000 7302250) :
    Framed s o t (fieldLocs frame_1_writes args s ++ arrayLocs frame_1_arrays args s ++ staticLocs frame_1_statics s) 600000 7302250 := h
theorem lw_limb (L : Cond) (hL : ∀ (args : Array Value) (s t : State), L.after args s (.returned (some (.int 1))) t = true) :
    ArmFor flags0 classFile x code maxLocals ret World_1 tables_1 room_1 Calls_1 rest_1 Pre_1
      (fun tb e a s o t => postC L tb e a s o t ∧ Framed s o t (fieldLocs frame_1_writes a s ++ arrayLocs frame_1_arrays a s ++ staticLocs frame_1_statics s) 600000 7302250) := by
  intro l _ _ _ p e ha hc hk s m args below hf hfit hheap happ hpre
  obtain ⟨k, o, h1, h2, h3, rfl, hF⟩ := lw_comes l p e ha hc hk s m args below hf hfit hheap happ hpre
  exact ⟨k, _, h1, h2, h3, hL args s _, lw_frame hF⟩
theorem i_vc : Claimed_1_1 ∧ Claimed_1_2 := ⟨lw_limb limb_1_1 (fun args s t => by simp [limb_1_1, Cond.after, Cond.holds, Cond.value]), lw_limb limb_1_2 (fun args s t => Cond.after_iff.mpr (by
  first | (rw [show limb_1_2 = Cond.eq .result (.int 1) from rfl, Cond.eq_ints (x := 1) (y := 1) rfl rfl]; simp; done) | (simp [limb_1_2, Cond.value, Term.eval]; done)))⟩
end
