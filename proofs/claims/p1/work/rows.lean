section
-- ===== PART A: goes FIRST, ahead of the names: the tables' words, and 'selects' of the private methods out of them =====
/-- a private method of a class that the tables say can be made, by its rows of tables_1 -/
def lw_okq (q : MethodName × Nat) : Prop := (q.1.cls ≠ "java/lang/invoke/MethodHandle" ∧ q.1.cls ≠ "java/lang/invoke/VarHandle") ∧ Cond.instantiable q.1.cls q.2 ∈ tables_1 ∧ Cond.privateMethod q.1 ∈ tables_1 ∧ Cond.instanceMethod q.1 ∈ tables_1
theorem lw_p0 : lw_okq (⟨"HatchLights", "startAsTold", "()V"⟩, 15) := ⟨⟨by decide +kernel, by decide +kernel⟩, List.mem_of_getElem? (i := 22) (by decide +kernel), List.mem_of_getElem? (i := 396) (by decide +kernel), List.mem_of_getElem? (i := 397) (by decide +kernel)⟩
theorem lw_p1 : lw_okq (⟨"HatchLights$Scene", "join", "(II)V"⟩, 13) := ⟨⟨by decide +kernel, by decide +kernel⟩, List.mem_of_getElem? (i := 231) (by decide +kernel), List.mem_of_getElem? (i := 407) (by decide +kernel), List.mem_of_getElem? (i := 408) (by decide +kernel)⟩
theorem lw_p2 : lw_okq (⟨"HatchLights$Tokens", "skipBlanks", "(LHatchLights$Tape;I)I"⟩, 4) := ⟨⟨by decide +kernel, by decide +kernel⟩, List.mem_of_getElem? (i := 165) (by decide +kernel), List.mem_of_getElem? (i := 497) (by decide +kernel), List.mem_of_getElem? (i := 498) (by decide +kernel)⟩
theorem lw_p3 : lw_okq (⟨"HatchLights$Tokens", "cutOne", "(LHatchLights$Tape;I)I"⟩, 4) := ⟨⟨by decide +kernel, by decide +kernel⟩, List.mem_of_getElem? (i := 165) (by decide +kernel), List.mem_of_getElem? (i := 501) (by decide +kernel), List.mem_of_getElem? (i := 502) (by decide +kernel)⟩
theorem lw_p4 : lw_okq (⟨"HatchLights$Tokens", "cutWord", "(LHatchLights$Tape;I)I"⟩, 4) := ⟨⟨by decide +kernel, by decide +kernel⟩, List.mem_of_getElem? (i := 165) (by decide +kernel), List.mem_of_getElem? (i := 508) (by decide +kernel), List.mem_of_getElem? (i := 509) (by decide +kernel)⟩
theorem lw_p5 : lw_okq (⟨"HatchLights$Tokens", "kindOfWord", "(LHatchLights$Tape;II)I"⟩, 4) := ⟨⟨by decide +kernel, by decide +kernel⟩, List.mem_of_getElem? (i := 165) (by decide +kernel), List.mem_of_getElem? (i := 513) (by decide +kernel), List.mem_of_getElem? (i := 514) (by decide +kernel)⟩
theorem lw_p6 : lw_okq (⟨"HatchLights$Tokens", "cutNumber", "(LHatchLights$Tape;I)I"⟩, 4) := ⟨⟨by decide +kernel, by decide +kernel⟩, List.mem_of_getElem? (i := 165) (by decide +kernel), List.mem_of_getElem? (i := 561) (by decide +kernel), List.mem_of_getElem? (i := 562) (by decide +kernel)⟩
theorem lw_p7 : lw_okq (⟨"HatchLights$Tokens", "cutEnd", "()I"⟩, 4) := ⟨⟨by decide +kernel, by decide +kernel⟩, List.mem_of_getElem? (i := 165) (by decide +kernel), List.mem_of_getElem? (i := 632) (by decide +kernel), List.mem_of_getElem? (i := 633) (by decide +kernel)⟩
theorem lw_p8 : lw_okq (⟨"HatchLights$Reader", "readLine", "()Z"⟩, 12) := ⟨⟨by decide +kernel, by decide +kernel⟩, List.mem_of_getElem? (i := 47) (by decide +kernel), List.mem_of_getElem? (i := 636) (by decide +kernel), List.mem_of_getElem? (i := 637) (by decide +kernel)⟩
theorem lw_p9 : lw_okq (⟨"HatchLights$Reader", "mayTell", "(I)Z"⟩, 12) := ⟨⟨by decide +kernel, by decide +kernel⟩, List.mem_of_getElem? (i := 47) (by decide +kernel), List.mem_of_getElem? (i := 640) (by decide +kernel), List.mem_of_getElem? (i := 641) (by decide +kernel)⟩
theorem lw_p10 : lw_okq (⟨"HatchLights$Reader", "refuse", "(I)Z"⟩, 12) := ⟨⟨by decide +kernel, by decide +kernel⟩, List.mem_of_getElem? (i := 47) (by decide +kernel), List.mem_of_getElem? (i := 644) (by decide +kernel), List.mem_of_getElem? (i := 645) (by decide +kernel)⟩
theorem lw_p11 : lw_okq (⟨"HatchLights$Reader", "goOn", "()V"⟩, 12) := ⟨⟨by decide +kernel, by decide +kernel⟩, List.mem_of_getElem? (i := 47) (by decide +kernel), List.mem_of_getElem? (i := 648) (by decide +kernel), List.mem_of_getElem? (i := 649) (by decide +kernel)⟩
theorem lw_p12 : lw_okq (⟨"HatchLights$Reader", "readNumber", "(II)Z"⟩, 12) := ⟨⟨by decide +kernel, by decide +kernel⟩, List.mem_of_getElem? (i := 47) (by decide +kernel), List.mem_of_getElem? (i := 652) (by decide +kernel), List.mem_of_getElem? (i := 653) (by decide +kernel)⟩
theorem lw_p13 : lw_okq (⟨"HatchLights$Reader", "readWord", "()Z"⟩, 12) := ⟨⟨by decide +kernel, by decide +kernel⟩, List.mem_of_getElem? (i := 47) (by decide +kernel), List.mem_of_getElem? (i := 656) (by decide +kernel), List.mem_of_getElem? (i := 657) (by decide +kernel)⟩
theorem lw_p14 : lw_okq (⟨"HatchLights$Reader", "readNewName", "([JI)Z"⟩, 12) := ⟨⟨by decide +kernel, by decide +kernel⟩, List.mem_of_getElem? (i := 47) (by decide +kernel), List.mem_of_getElem? (i := 660) (by decide +kernel), List.mem_of_getElem? (i := 661) (by decide +kernel)⟩
theorem lw_p15 : lw_okq (⟨"HatchLights$Reader", "readKind", "(I)Z"⟩, 12) := ⟨⟨by decide +kernel, by decide +kernel⟩, List.mem_of_getElem? (i := 47) (by decide +kernel), List.mem_of_getElem? (i := 667) (by decide +kernel), List.mem_of_getElem? (i := 668) (by decide +kernel)⟩
def lw_privs_1 : List (MethodName × Nat) := [(⟨"HatchLights", "startAsTold", "()V"⟩, 15), (⟨"HatchLights$Scene", "join", "(II)V"⟩, 13), (⟨"HatchLights$Tokens", "skipBlanks", "(LHatchLights$Tape;I)I"⟩, 4), (⟨"HatchLights$Tokens", "cutOne", "(LHatchLights$Tape;I)I"⟩, 4), (⟨"HatchLights$Tokens", "cutWord", "(LHatchLights$Tape;I)I"⟩, 4), (⟨"HatchLights$Tokens", "kindOfWord", "(LHatchLights$Tape;II)I"⟩, 4), (⟨"HatchLights$Tokens", "cutNumber", "(LHatchLights$Tape;I)I"⟩, 4), (⟨"HatchLights$Tokens", "cutEnd", "()I"⟩, 4), (⟨"HatchLights$Reader", "readLine", "()Z"⟩, 12), (⟨"HatchLights$Reader", "mayTell", "(I)Z"⟩, 12), (⟨"HatchLights$Reader", "refuse", "(I)Z"⟩, 12), (⟨"HatchLights$Reader", "goOn", "()V"⟩, 12), (⟨"HatchLights$Reader", "readNumber", "(II)Z"⟩, 12), (⟨"HatchLights$Reader", "readWord", "()Z"⟩, 12), (⟨"HatchLights$Reader", "readNewName", "([JI)Z"⟩, 12), (⟨"HatchLights$Reader", "readKind", "(I)Z"⟩, 12)]
theorem lw_r1 : ∀ q ∈ lw_privs_1, lw_okq q := List.forall_mem_cons.mpr ⟨lw_p0, List.forall_mem_cons.mpr ⟨lw_p1, List.forall_mem_cons.mpr ⟨lw_p2, List.forall_mem_cons.mpr ⟨lw_p3, List.forall_mem_cons.mpr ⟨lw_p4, List.forall_mem_cons.mpr ⟨lw_p5, List.forall_mem_cons.mpr ⟨lw_p6, List.forall_mem_cons.mpr ⟨lw_p7, List.forall_mem_cons.mpr ⟨lw_p8, List.forall_mem_cons.mpr ⟨lw_p9, List.forall_mem_cons.mpr ⟨lw_p10, List.forall_mem_cons.mpr ⟨lw_p11, List.forall_mem_cons.mpr ⟨lw_p12, List.forall_mem_cons.mpr ⟨lw_p13, List.forall_mem_cons.mpr ⟨lw_p14, List.forall_mem_cons.mpr ⟨lw_p15, fun _ h => absurd h List.not_mem_nil⟩⟩⟩⟩⟩⟩⟩⟩⟩⟩⟩⟩⟩⟩⟩⟩
theorem lw_p16 : lw_okq (⟨"HatchLights$Reader", "readComer", "()Z"⟩, 12) := ⟨⟨by decide +kernel, by decide +kernel⟩, List.mem_of_getElem? (i := 47) (by decide +kernel), List.mem_of_getElem? (i := 671) (by decide +kernel), List.mem_of_getElem? (i := 672) (by decide +kernel)⟩
theorem lw_p17 : lw_okq (⟨"HatchLights$Reader", "readSaid", "(I)Z"⟩, 12) := ⟨⟨by decide +kernel, by decide +kernel⟩, List.mem_of_getElem? (i := 47) (by decide +kernel), List.mem_of_getElem? (i := 675) (by decide +kernel), List.mem_of_getElem? (i := 676) (by decide +kernel)⟩
theorem lw_p18 : lw_okq (⟨"HatchLights$Reader", "readFormula", "(LHatchLights$Formula;)Z"⟩, 12) := ⟨⟨by decide +kernel, by decide +kernel⟩, List.mem_of_getElem? (i := 47) (by decide +kernel), List.mem_of_getElem? (i := 685) (by decide +kernel), List.mem_of_getElem? (i := 686) (by decide +kernel)⟩
theorem lw_p19 : lw_okq (⟨"HatchLights$Reader", "readLevel", "(II)Z"⟩, 12) := ⟨⟨by decide +kernel, by decide +kernel⟩, List.mem_of_getElem? (i := 47) (by decide +kernel), List.mem_of_getElem? (i := 690) (by decide +kernel), List.mem_of_getElem? (i := 691) (by decide +kernel)⟩
theorem lw_p20 : lw_okq (⟨"HatchLights$Reader", "readUnit", "(I)Z"⟩, 12) := ⟨⟨by decide +kernel, by decide +kernel⟩, List.mem_of_getElem? (i := 47) (by decide +kernel), List.mem_of_getElem? (i := 694) (by decide +kernel), List.mem_of_getElem? (i := 695) (by decide +kernel)⟩
theorem lw_p21 : lw_okq (⟨"HatchLights$Reader", "readNot", "(I)Z"⟩, 12) := ⟨⟨by decide +kernel, by decide +kernel⟩, List.mem_of_getElem? (i := 47) (by decide +kernel), List.mem_of_getElem? (i := 702) (by decide +kernel), List.mem_of_getElem? (i := 703) (by decide +kernel)⟩
theorem lw_p22 : lw_okq (⟨"HatchLights", "isWord", "(I)Z"⟩, 15) := ⟨⟨by decide +kernel, by decide +kernel⟩, List.mem_of_getElem? (i := 22) (by decide +kernel), List.mem_of_getElem? (i := 727) (by decide +kernel), List.mem_of_getElem? (i := 728) (by decide +kernel)⟩
theorem lw_p23 : lw_okq (⟨"HatchLights", "isComer", "(I)Z"⟩, 15) := ⟨⟨by decide +kernel, by decide +kernel⟩, List.mem_of_getElem? (i := 22) (by decide +kernel), List.mem_of_getElem? (i := 739) (by decide +kernel), List.mem_of_getElem? (i := 740) (by decide +kernel)⟩
theorem lw_p24 : lw_okq (⟨"HatchLights", "isWaiting", "(I)Z"⟩, 15) := ⟨⟨by decide +kernel, by decide +kernel⟩, List.mem_of_getElem? (i := 22) (by decide +kernel), List.mem_of_getElem? (i := 747) (by decide +kernel), List.mem_of_getElem? (i := 748) (by decide +kernel)⟩
theorem lw_p25 : lw_okq (⟨"HatchLights$Scene", "factsOf", "(II)LHatchLights$Facts;"⟩, 13) := ⟨⟨by decide +kernel, by decide +kernel⟩, List.mem_of_getElem? (i := 231) (by decide +kernel), List.mem_of_getElem? (i := 755) (by decide +kernel), List.mem_of_getElem? (i := 756) (by decide +kernel)⟩
theorem lw_p26 : lw_okq (⟨"HatchLights", "isRoad", "(I)Z"⟩, 15) := ⟨⟨by decide +kernel, by decide +kernel⟩, List.mem_of_getElem? (i := 22) (by decide +kernel), List.mem_of_getElem? (i := 790) (by decide +kernel), List.mem_of_getElem? (i := 791) (by decide +kernel)⟩
theorem lw_p27 : lw_okq (⟨"HatchLights", "openInEarnest", "(I)I"⟩, 15) := ⟨⟨by decide +kernel, by decide +kernel⟩, List.mem_of_getElem? (i := 22) (by decide +kernel), List.mem_of_getElem? (i := 827) (by decide +kernel), List.mem_of_getElem? (i := 828) (by decide +kernel)⟩
theorem lw_p28 : lw_okq (⟨"HatchLights$Scene", "firstOf", "(I)I"⟩, 13) := ⟨⟨by decide +kernel, by decide +kernel⟩, List.mem_of_getElem? (i := 231) (by decide +kernel), List.mem_of_getElem? (i := 839) (by decide +kernel), List.mem_of_getElem? (i := 840) (by decide +kernel)⟩
theorem lw_p29 : lw_okq (⟨"HatchLights$Scene", "listen", "(IZ)V"⟩, 13) := ⟨⟨by decide +kernel, by decide +kernel⟩, List.mem_of_getElem? (i := 231) (by decide +kernel), List.mem_of_getElem? (i := 843) (by decide +kernel), List.mem_of_getElem? (i := 844) (by decide +kernel)⟩
theorem lw_p30 : lw_okq (⟨"HatchLights$Scene", "leave", "(I)V"⟩, 13) := ⟨⟨by decide +kernel, by decide +kernel⟩, List.mem_of_getElem? (i := 231) (by decide +kernel), List.mem_of_getElem? (i := 847) (by decide +kernel), List.mem_of_getElem? (i := 848) (by decide +kernel)⟩
theorem lw_p31 : lw_okq (⟨"HatchLights$Acts", "current", "()LHatchLights$Scene;"⟩, 4) := ⟨⟨by decide +kernel, by decide +kernel⟩, List.mem_of_getElem? (i := 322) (by decide +kernel), List.mem_of_getElem? (i := 855) (by decide +kernel), List.mem_of_getElem? (i := 856) (by decide +kernel)⟩
def lw_privs_2 : List (MethodName × Nat) := [(⟨"HatchLights$Reader", "readComer", "()Z"⟩, 12), (⟨"HatchLights$Reader", "readSaid", "(I)Z"⟩, 12), (⟨"HatchLights$Reader", "readFormula", "(LHatchLights$Formula;)Z"⟩, 12), (⟨"HatchLights$Reader", "readLevel", "(II)Z"⟩, 12), (⟨"HatchLights$Reader", "readUnit", "(I)Z"⟩, 12), (⟨"HatchLights$Reader", "readNot", "(I)Z"⟩, 12), (⟨"HatchLights", "isWord", "(I)Z"⟩, 15), (⟨"HatchLights", "isComer", "(I)Z"⟩, 15), (⟨"HatchLights", "isWaiting", "(I)Z"⟩, 15), (⟨"HatchLights$Scene", "factsOf", "(II)LHatchLights$Facts;"⟩, 13), (⟨"HatchLights", "isRoad", "(I)Z"⟩, 15), (⟨"HatchLights", "openInEarnest", "(I)I"⟩, 15), (⟨"HatchLights$Scene", "firstOf", "(I)I"⟩, 13), (⟨"HatchLights$Scene", "listen", "(IZ)V"⟩, 13), (⟨"HatchLights$Scene", "leave", "(I)V"⟩, 13), (⟨"HatchLights$Acts", "current", "()LHatchLights$Scene;"⟩, 4)]
theorem lw_r2 : ∀ q ∈ lw_privs_2, lw_okq q := List.forall_mem_cons.mpr ⟨lw_p16, List.forall_mem_cons.mpr ⟨lw_p17, List.forall_mem_cons.mpr ⟨lw_p18, List.forall_mem_cons.mpr ⟨lw_p19, List.forall_mem_cons.mpr ⟨lw_p20, List.forall_mem_cons.mpr ⟨lw_p21, List.forall_mem_cons.mpr ⟨lw_p22, List.forall_mem_cons.mpr ⟨lw_p23, List.forall_mem_cons.mpr ⟨lw_p24, List.forall_mem_cons.mpr ⟨lw_p25, List.forall_mem_cons.mpr ⟨lw_p26, List.forall_mem_cons.mpr ⟨lw_p27, List.forall_mem_cons.mpr ⟨lw_p28, List.forall_mem_cons.mpr ⟨lw_p29, List.forall_mem_cons.mpr ⟨lw_p30, List.forall_mem_cons.mpr ⟨lw_p31, fun _ h => absurd h List.not_mem_nil⟩⟩⟩⟩⟩⟩⟩⟩⟩⟩⟩⟩⟩⟩⟩⟩
theorem lw_p32 : lw_okq (⟨"HatchLights", "isReason", "(I)Z"⟩, 15) := ⟨⟨by decide +kernel, by decide +kernel⟩, List.mem_of_getElem? (i := 22) (by decide +kernel), List.mem_of_getElem? (i := 867) (by decide +kernel), List.mem_of_getElem? (i := 868) (by decide +kernel)⟩
theorem lw_p33 : lw_okq (⟨"HatchLights", "hatchesTill", "(I)I"⟩, 15) := ⟨⟨by decide +kernel, by decide +kernel⟩, List.mem_of_getElem? (i := 22) (by decide +kernel), List.mem_of_getElem? (i := 930) (by decide +kernel), List.mem_of_getElem? (i := 931) (by decide +kernel)⟩
theorem lw_p34 : lw_okq (⟨"HatchLights", "lookAhead", "(I)V"⟩, 15) := ⟨⟨by decide +kernel, by decide +kernel⟩, List.mem_of_getElem? (i := 22) (by decide +kernel), List.mem_of_getElem? (i := 938) (by decide +kernel), List.mem_of_getElem? (i := 939) (by decide +kernel)⟩
theorem lw_p35 : lw_okq (⟨"HatchLights", "pressOfTrial", "(I)I"⟩, 15) := ⟨⟨by decide +kernel, by decide +kernel⟩, List.mem_of_getElem? (i := 22) (by decide +kernel), List.mem_of_getElem? (i := 962) (by decide +kernel), List.mem_of_getElem? (i := 963) (by decide +kernel)⟩
theorem lw_p36 : lw_okq (⟨"HatchLights", "allByWithin", "(II)Z"⟩, 15) := ⟨⟨by decide +kernel, by decide +kernel⟩, List.mem_of_getElem? (i := 22) (by decide +kernel), List.mem_of_getElem? (i := 994) (by decide +kernel), List.mem_of_getElem? (i := 995) (by decide +kernel)⟩
theorem lw_p37 : lw_okq (⟨"HatchLights", "tryRivals", "(IIII)V"⟩, 15) := ⟨⟨by decide +kernel, by decide +kernel⟩, List.mem_of_getElem? (i := 22) (by decide +kernel), List.mem_of_getElem? (i := 1002) (by decide +kernel), List.mem_of_getElem? (i := 1003) (by decide +kernel)⟩
theorem lw_p38 : lw_okq (⟨"HatchLights", "isRest", "(II)Z"⟩, 15) := ⟨⟨by decide +kernel, by decide +kernel⟩, List.mem_of_getElem? (i := 22) (by decide +kernel), List.mem_of_getElem? (i := 1006) (by decide +kernel), List.mem_of_getElem? (i := 1007) (by decide +kernel)⟩
theorem lw_p39 : lw_okq (⟨"HatchLights", "fewestWords", "(III)I"⟩, 15) := ⟨⟨by decide +kernel, by decide +kernel⟩, List.mem_of_getElem? (i := 22) (by decide +kernel), List.mem_of_getElem? (i := 1014) (by decide +kernel), List.mem_of_getElem? (i := 1015) (by decide +kernel)⟩
theorem lw_p40 : lw_okq (⟨"HatchLights", "mostWorth", "(III)I"⟩, 15) := ⟨⟨by decide +kernel, by decide +kernel⟩, List.mem_of_getElem? (i := 22) (by decide +kernel), List.mem_of_getElem? (i := 1030) (by decide +kernel), List.mem_of_getElem? (i := 1031) (by decide +kernel)⟩
theorem lw_p41 : lw_okq (⟨"HatchLights$Sightings", "makeBy", "()V"⟩, 13) := ⟨⟨by decide +kernel, by decide +kernel⟩, List.mem_of_getElem? (i := 345) (by decide +kernel), List.mem_of_getElem? (i := 1086) (by decide +kernel), List.mem_of_getElem? (i := 1087) (by decide +kernel)⟩
theorem lw_p42 : lw_okq (⟨"HatchLights$Sightings", "isFitting", "(II)Z"⟩, 13) := ⟨⟨by decide +kernel, by decide +kernel⟩, List.mem_of_getElem? (i := 345) (by decide +kernel), List.mem_of_getElem? (i := 1093) (by decide +kernel), List.mem_of_getElem? (i := 1094) (by decide +kernel)⟩
theorem lw_p43 : lw_okq (⟨"HatchLightsModel", "clearBank", "()V"⟩, 68) := ⟨⟨by decide +kernel, by decide +kernel⟩, List.mem_of_getElem? (i := 1111) (by decide +kernel), List.mem_of_getElem? (i := 1117) (by decide +kernel), List.mem_of_getElem? (i := 1118) (by decide +kernel)⟩
theorem lw_p44 : lw_okq (⟨"HatchLightsModel", "startAnew", "()V"⟩, 68) := ⟨⟨by decide +kernel, by decide +kernel⟩, List.mem_of_getElem? (i := 1111) (by decide +kernel), List.mem_of_getElem? (i := 1121) (by decide +kernel), List.mem_of_getElem? (i := 1122) (by decide +kernel)⟩
theorem lw_p45 : lw_okq (⟨"HatchLightsModel", "layTold", "()V"⟩, 68) := ⟨⟨by decide +kernel, by decide +kernel⟩, List.mem_of_getElem? (i := 1111) (by decide +kernel), List.mem_of_getElem? (i := 1125) (by decide +kernel), List.mem_of_getElem? (i := 1126) (by decide +kernel)⟩
theorem lw_p46 : lw_okq (⟨"HatchLightsModel", "kinds", "()I"⟩, 68) := ⟨⟨by decide +kernel, by decide +kernel⟩, List.mem_of_getElem? (i := 1111) (by decide +kernel), List.mem_of_getElem? (i := 1129) (by decide +kernel), List.mem_of_getElem? (i := 1130) (by decide +kernel)⟩
theorem lw_p47 : lw_okq (⟨"HatchLightsModel", "many", "()I"⟩, 68) := ⟨⟨by decide +kernel, by decide +kernel⟩, List.mem_of_getElem? (i := 1111) (by decide +kernel), List.mem_of_getElem? (i := 1133) (by decide +kernel), List.mem_of_getElem? (i := 1134) (by decide +kernel)⟩
def lw_privs_3 : List (MethodName × Nat) := [(⟨"HatchLights", "isReason", "(I)Z"⟩, 15), (⟨"HatchLights", "hatchesTill", "(I)I"⟩, 15), (⟨"HatchLights", "lookAhead", "(I)V"⟩, 15), (⟨"HatchLights", "pressOfTrial", "(I)I"⟩, 15), (⟨"HatchLights", "allByWithin", "(II)Z"⟩, 15), (⟨"HatchLights", "tryRivals", "(IIII)V"⟩, 15), (⟨"HatchLights", "isRest", "(II)Z"⟩, 15), (⟨"HatchLights", "fewestWords", "(III)I"⟩, 15), (⟨"HatchLights", "mostWorth", "(III)I"⟩, 15), (⟨"HatchLights$Sightings", "makeBy", "()V"⟩, 13), (⟨"HatchLights$Sightings", "isFitting", "(II)Z"⟩, 13), (⟨"HatchLightsModel", "clearBank", "()V"⟩, 68), (⟨"HatchLightsModel", "startAnew", "()V"⟩, 68), (⟨"HatchLightsModel", "layTold", "()V"⟩, 68), (⟨"HatchLightsModel", "kinds", "()I"⟩, 68), (⟨"HatchLightsModel", "many", "()I"⟩, 68)]
theorem lw_r3 : ∀ q ∈ lw_privs_3, lw_okq q := List.forall_mem_cons.mpr ⟨lw_p32, List.forall_mem_cons.mpr ⟨lw_p33, List.forall_mem_cons.mpr ⟨lw_p34, List.forall_mem_cons.mpr ⟨lw_p35, List.forall_mem_cons.mpr ⟨lw_p36, List.forall_mem_cons.mpr ⟨lw_p37, List.forall_mem_cons.mpr ⟨lw_p38, List.forall_mem_cons.mpr ⟨lw_p39, List.forall_mem_cons.mpr ⟨lw_p40, List.forall_mem_cons.mpr ⟨lw_p41, List.forall_mem_cons.mpr ⟨lw_p42, List.forall_mem_cons.mpr ⟨lw_p43, List.forall_mem_cons.mpr ⟨lw_p44, List.forall_mem_cons.mpr ⟨lw_p45, List.forall_mem_cons.mpr ⟨lw_p46, List.forall_mem_cons.mpr ⟨lw_p47, fun _ h => absurd h List.not_mem_nil⟩⟩⟩⟩⟩⟩⟩⟩⟩⟩⟩⟩⟩⟩⟩⟩
theorem lw_p48 : lw_okq (⟨"HatchLightsModel", "goOn", "()V"⟩, 68) := ⟨⟨by decide +kernel, by decide +kernel⟩, List.mem_of_getElem? (i := 1111) (by decide +kernel), List.mem_of_getElem? (i := 1346) (by decide +kernel), List.mem_of_getElem? (i := 1347) (by decide +kernel)⟩
theorem lw_p49 : lw_okq (⟨"HatchLightsModel", "sign", "(I)I"⟩, 68) := ⟨⟨by decide +kernel, by decide +kernel⟩, List.mem_of_getElem? (i := 1111) (by decide +kernel), List.mem_of_getElem? (i := 1350) (by decide +kernel), List.mem_of_getElem? (i := 1351) (by decide +kernel)⟩
theorem lw_p50 : lw_okq (⟨"HatchLightsModel", "isGood", "()Z"⟩, 68) := ⟨⟨by decide +kernel, by decide +kernel⟩, List.mem_of_getElem? (i := 1111) (by decide +kernel), List.mem_of_getElem? (i := 1386) (by decide +kernel), List.mem_of_getElem? (i := 1387) (by decide +kernel)⟩
theorem lw_p51 : lw_okq (⟨"HatchLightsModel", "readLine", "()V"⟩, 68) := ⟨⟨by decide +kernel, by decide +kernel⟩, List.mem_of_getElem? (i := 1111) (by decide +kernel), List.mem_of_getElem? (i := 1390) (by decide +kernel), List.mem_of_getElem? (i := 1391) (by decide +kernel)⟩
theorem lw_p52 : lw_okq (⟨"HatchLightsModel", "isFull", "()Z"⟩, 68) := ⟨⟨by decide +kernel, by decide +kernel⟩, List.mem_of_getElem? (i := 1111) (by decide +kernel), List.mem_of_getElem? (i := 1394) (by decide +kernel), List.mem_of_getElem? (i := 1395) (by decide +kernel)⟩
theorem lw_p53 : lw_okq (⟨"HatchLightsModel", "isWord", "(J)Z"⟩, 68) := ⟨⟨by decide +kernel, by decide +kernel⟩, List.mem_of_getElem? (i := 1111) (by decide +kernel), List.mem_of_getElem? (i := 1398) (by decide +kernel), List.mem_of_getElem? (i := 1399) (by decide +kernel)⟩
theorem lw_p54 : lw_okq (⟨"HatchLightsModel", "misplaced", "()V"⟩, 68) := ⟨⟨by decide +kernel, by decide +kernel⟩, List.mem_of_getElem? (i := 1111) (by decide +kernel), List.mem_of_getElem? (i := 1405) (by decide +kernel), List.mem_of_getElem? (i := 1406) (by decide +kernel)⟩
theorem lw_p55 : lw_okq (⟨"HatchLightsModel", "fails", "(II)V"⟩, 68) := ⟨⟨by decide +kernel, by decide +kernel⟩, List.mem_of_getElem? (i := 1111) (by decide +kernel), List.mem_of_getElem? (i := 1409) (by decide +kernel), List.mem_of_getElem? (i := 1410) (by decide +kernel)⟩
theorem lw_p56 : lw_okq (⟨"HatchLightsModel", "numeral", "(II)I"⟩, 68) := ⟨⟨by decide +kernel, by decide +kernel⟩, List.mem_of_getElem? (i := 1111) (by decide +kernel), List.mem_of_getElem? (i := 1413) (by decide +kernel), List.mem_of_getElem? (i := 1414) (by decide +kernel)⟩
theorem lw_p57 : lw_okq (⟨"HatchLightsModel", "readWord", "()V"⟩, 68) := ⟨⟨by decide +kernel, by decide +kernel⟩, List.mem_of_getElem? (i := 1111) (by decide +kernel), List.mem_of_getElem? (i := 1417) (by decide +kernel), List.mem_of_getElem? (i := 1418) (by decide +kernel)⟩
theorem lw_p58 : lw_okq (⟨"HatchLightsModel", "wordNamed", "()I"⟩, 68) := ⟨⟨by decide +kernel, by decide +kernel⟩, List.mem_of_getElem? (i := 1111) (by decide +kernel), List.mem_of_getElem? (i := 1421) (by decide +kernel), List.mem_of_getElem? (i := 1422) (by decide +kernel)⟩
theorem lw_p59 : lw_okq (⟨"HatchLightsModel", "here", "([JII)I"⟩, 68) := ⟨⟨by decide +kernel, by decide +kernel⟩, List.mem_of_getElem? (i := 1111) (by decide +kernel), List.mem_of_getElem? (i := 1425) (by decide +kernel), List.mem_of_getElem? (i := 1426) (by decide +kernel)⟩
theorem lw_p60 : lw_okq (⟨"HatchLightsModel", "fresh", "(I)J"⟩, 68) := ⟨⟨by decide +kernel, by decide +kernel⟩, List.mem_of_getElem? (i := 1111) (by decide +kernel), List.mem_of_getElem? (i := 1429) (by decide +kernel), List.mem_of_getElem? (i := 1430) (by decide +kernel)⟩
theorem lw_p61 : lw_okq (⟨"HatchLightsModel", "after", "(JII)I"⟩, 68) := ⟨⟨by decide +kernel, by decide +kernel⟩, List.mem_of_getElem? (i := 1111) (by decide +kernel), List.mem_of_getElem? (i := 1433) (by decide +kernel), List.mem_of_getElem? (i := 1434) (by decide +kernel)⟩
theorem lw_p62 : lw_okq (⟨"HatchLightsModel", "must", "(Z)V"⟩, 68) := ⟨⟨by decide +kernel, by decide +kernel⟩, List.mem_of_getElem? (i := 1111) (by decide +kernel), List.mem_of_getElem? (i := 1437) (by decide +kernel), List.mem_of_getElem? (i := 1438) (by decide +kernel)⟩
theorem lw_p63 : lw_okq (⟨"HatchLightsModel", "readComer", "()V"⟩, 68) := ⟨⟨by decide +kernel, by decide +kernel⟩, List.mem_of_getElem? (i := 1111) (by decide +kernel), List.mem_of_getElem? (i := 1441) (by decide +kernel), List.mem_of_getElem? (i := 1442) (by decide +kernel)⟩
def lw_privs_4 : List (MethodName × Nat) := [(⟨"HatchLightsModel", "goOn", "()V"⟩, 68), (⟨"HatchLightsModel", "sign", "(I)I"⟩, 68), (⟨"HatchLightsModel", "isGood", "()Z"⟩, 68), (⟨"HatchLightsModel", "readLine", "()V"⟩, 68), (⟨"HatchLightsModel", "isFull", "()Z"⟩, 68), (⟨"HatchLightsModel", "isWord", "(J)Z"⟩, 68), (⟨"HatchLightsModel", "misplaced", "()V"⟩, 68), (⟨"HatchLightsModel", "fails", "(II)V"⟩, 68), (⟨"HatchLightsModel", "numeral", "(II)I"⟩, 68), (⟨"HatchLightsModel", "readWord", "()V"⟩, 68), (⟨"HatchLightsModel", "wordNamed", "()I"⟩, 68), (⟨"HatchLightsModel", "here", "([JII)I"⟩, 68), (⟨"HatchLightsModel", "fresh", "(I)J"⟩, 68), (⟨"HatchLightsModel", "after", "(JII)I"⟩, 68), (⟨"HatchLightsModel", "must", "(Z)V"⟩, 68), (⟨"HatchLightsModel", "readComer", "()V"⟩, 68)]
theorem lw_r4 : ∀ q ∈ lw_privs_4, lw_okq q := List.forall_mem_cons.mpr ⟨lw_p48, List.forall_mem_cons.mpr ⟨lw_p49, List.forall_mem_cons.mpr ⟨lw_p50, List.forall_mem_cons.mpr ⟨lw_p51, List.forall_mem_cons.mpr ⟨lw_p52, List.forall_mem_cons.mpr ⟨lw_p53, List.forall_mem_cons.mpr ⟨lw_p54, List.forall_mem_cons.mpr ⟨lw_p55, List.forall_mem_cons.mpr ⟨lw_p56, List.forall_mem_cons.mpr ⟨lw_p57, List.forall_mem_cons.mpr ⟨lw_p58, List.forall_mem_cons.mpr ⟨lw_p59, List.forall_mem_cons.mpr ⟨lw_p60, List.forall_mem_cons.mpr ⟨lw_p61, List.forall_mem_cons.mpr ⟨lw_p62, List.forall_mem_cons.mpr ⟨lw_p63, fun _ h => absurd h List.not_mem_nil⟩⟩⟩⟩⟩⟩⟩⟩⟩⟩⟩⟩⟩⟩⟩⟩
theorem lw_p64 : lw_okq (⟨"HatchLightsModel", "once", "(II)I"⟩, 68) := ⟨⟨by decide +kernel, by decide +kernel⟩, List.mem_of_getElem? (i := 1111) (by decide +kernel), List.mem_of_getElem? (i := 1448) (by decide +kernel), List.mem_of_getElem? (i := 1449) (by decide +kernel)⟩
theorem lw_p65 : lw_okq (⟨"HatchLightsModel", "readRule", "(I)V"⟩, 68) := ⟨⟨by decide +kernel, by decide +kernel⟩, List.mem_of_getElem? (i := 1111) (by decide +kernel), List.mem_of_getElem? (i := 1452) (by decide +kernel), List.mem_of_getElem? (i := 1453) (by decide +kernel)⟩
theorem lw_p66 : lw_okq (⟨"HatchLightsModel", "e", "()V"⟩, 68) := ⟨⟨by decide +kernel, by decide +kernel⟩, List.mem_of_getElem? (i := 1111) (by decide +kernel), List.mem_of_getElem? (i := 1456) (by decide +kernel), List.mem_of_getElem? (i := 1457) (by decide +kernel)⟩
theorem lw_p67 : lw_okq (⟨"HatchLightsModel", "pushE", "(II)V"⟩, 68) := ⟨⟨by decide +kernel, by decide +kernel⟩, List.mem_of_getElem? (i := 1111) (by decide +kernel), List.mem_of_getElem? (i := 1460) (by decide +kernel), List.mem_of_getElem? (i := 1461) (by decide +kernel)⟩
theorem lw_p68 : lw_okq (⟨"HatchLightsModel", "unit", "()Z"⟩, 68) := ⟨⟨by decide +kernel, by decide +kernel⟩, List.mem_of_getElem? (i := 1111) (by decide +kernel), List.mem_of_getElem? (i := 1464) (by decide +kernel), List.mem_of_getElem? (i := 1465) (by decide +kernel)⟩
theorem lw_p69 : lw_okq (⟨"HatchLightsModel", "isSignHere", "(I)Z"⟩, 68) := ⟨⟨by decide +kernel, by decide +kernel⟩, List.mem_of_getElem? (i := 1111) (by decide +kernel), List.mem_of_getElem? (i := 1468) (by decide +kernel), List.mem_of_getElem? (i := 1469) (by decide +kernel)⟩
theorem lw_p70 : lw_okq (⟨"HatchLightsModel", "wordHere", "()I"⟩, 68) := ⟨⟨by decide +kernel, by decide +kernel⟩, List.mem_of_getElem? (i := 1111) (by decide +kernel), List.mem_of_getElem? (i := 1472) (by decide +kernel), List.mem_of_getElem? (i := 1473) (by decide +kernel)⟩
theorem lw_p71 : lw_okq (⟨"HatchLightsModel", "emit", "(II)V"⟩, 68) := ⟨⟨by decide +kernel, by decide +kernel⟩, List.mem_of_getElem? (i := 1111) (by decide +kernel), List.mem_of_getElem? (i := 1476) (by decide +kernel), List.mem_of_getElem? (i := 1477) (by decide +kernel)⟩
theorem lw_p72 : lw_okq (⟨"HatchLightsModel", "behindUnit", "()Z"⟩, 68) := ⟨⟨by decide +kernel, by decide +kernel⟩, List.mem_of_getElem? (i := 1111) (by decide +kernel), List.mem_of_getElem? (i := 1480) (by decide +kernel), List.mem_of_getElem? (i := 1481) (by decide +kernel)⟩
theorem lw_p73 : lw_okq (⟨"HatchLightsModel", "rankHere", "()I"⟩, 68) := ⟨⟨by decide +kernel, by decide +kernel⟩, List.mem_of_getElem? (i := 1111) (by decide +kernel), List.mem_of_getElem? (i := 1484) (by decide +kernel), List.mem_of_getElem? (i := 1485) (by decide +kernel)⟩
theorem lw_p74 : lw_okq (⟨"HatchLightsModel", "isCompared", "()Z"⟩, 68) := ⟨⟨by decide +kernel, by decide +kernel⟩, List.mem_of_getElem? (i := 1111) (by decide +kernel), List.mem_of_getElem? (i := 1488) (by decide +kernel), List.mem_of_getElem? (i := 1489) (by decide +kernel)⟩
theorem lw_p75 : lw_okq (⟨"HatchLightsModel", "isWordNumber", "(I)Z"⟩, 68) := ⟨⟨by decide +kernel, by decide +kernel⟩, List.mem_of_getElem? (i := 1111) (by decide +kernel), List.mem_of_getElem? (i := 1500) (by decide +kernel), List.mem_of_getElem? (i := 1501) (by decide +kernel)⟩
theorem lw_p76 : lw_okq (⟨"HatchLightsModel", "sayers", "(I)I"⟩, 68) := ⟨⟨by decide +kernel, by decide +kernel⟩, List.mem_of_getElem? (i := 1111) (by decide +kernel), List.mem_of_getElem? (i := 1507) (by decide +kernel), List.mem_of_getElem? (i := 1508) (by decide +kernel)⟩
theorem lw_p77 : lw_okq (⟨"HatchLightsModel", "isBy", "(I)Z"⟩, 68) := ⟨⟨by decide +kernel, by decide +kernel⟩, List.mem_of_getElem? (i := 1111) (by decide +kernel), List.mem_of_getElem? (i := 1511) (by decide +kernel), List.mem_of_getElem? (i := 1512) (by decide +kernel)⟩
theorem lw_p78 : lw_okq (⟨"HatchLightsModel", "isComer", "(I)Z"⟩, 68) := ⟨⟨by decide +kernel, by decide +kernel⟩, List.mem_of_getElem? (i := 1111) (by decide +kernel), List.mem_of_getElem? (i := 1519) (by decide +kernel), List.mem_of_getElem? (i := 1520) (by decide +kernel)⟩
theorem lw_p79 : lw_okq (⟨"HatchLightsModel", "placeOf", "(I)I"⟩, 68) := ⟨⟨by decide +kernel, by decide +kernel⟩, List.mem_of_getElem? (i := 1111) (by decide +kernel), List.mem_of_getElem? (i := 1523) (by decide +kernel), List.mem_of_getElem? (i := 1524) (by decide +kernel)⟩
def lw_privs_5 : List (MethodName × Nat) := [(⟨"HatchLightsModel", "once", "(II)I"⟩, 68), (⟨"HatchLightsModel", "readRule", "(I)V"⟩, 68), (⟨"HatchLightsModel", "e", "()V"⟩, 68), (⟨"HatchLightsModel", "pushE", "(II)V"⟩, 68), (⟨"HatchLightsModel", "unit", "()Z"⟩, 68), (⟨"HatchLightsModel", "isSignHere", "(I)Z"⟩, 68), (⟨"HatchLightsModel", "wordHere", "()I"⟩, 68), (⟨"HatchLightsModel", "emit", "(II)V"⟩, 68), (⟨"HatchLightsModel", "behindUnit", "()Z"⟩, 68), (⟨"HatchLightsModel", "rankHere", "()I"⟩, 68), (⟨"HatchLightsModel", "isCompared", "()Z"⟩, 68), (⟨"HatchLightsModel", "isWordNumber", "(I)Z"⟩, 68), (⟨"HatchLightsModel", "sayers", "(I)I"⟩, 68), (⟨"HatchLightsModel", "isBy", "(I)Z"⟩, 68), (⟨"HatchLightsModel", "isComer", "(I)Z"⟩, 68), (⟨"HatchLightsModel", "placeOf", "(I)I"⟩, 68)]
theorem lw_r5 : ∀ q ∈ lw_privs_5, lw_okq q := List.forall_mem_cons.mpr ⟨lw_p64, List.forall_mem_cons.mpr ⟨lw_p65, List.forall_mem_cons.mpr ⟨lw_p66, List.forall_mem_cons.mpr ⟨lw_p67, List.forall_mem_cons.mpr ⟨lw_p68, List.forall_mem_cons.mpr ⟨lw_p69, List.forall_mem_cons.mpr ⟨lw_p70, List.forall_mem_cons.mpr ⟨lw_p71, List.forall_mem_cons.mpr ⟨lw_p72, List.forall_mem_cons.mpr ⟨lw_p73, List.forall_mem_cons.mpr ⟨lw_p74, List.forall_mem_cons.mpr ⟨lw_p75, List.forall_mem_cons.mpr ⟨lw_p76, List.forall_mem_cons.mpr ⟨lw_p77, List.forall_mem_cons.mpr ⟨lw_p78, List.forall_mem_cons.mpr ⟨lw_p79, fun _ h => absurd h List.not_mem_nil⟩⟩⟩⟩⟩⟩⟩⟩⟩⟩⟩⟩⟩⟩⟩⟩
theorem lw_p80 : lw_okq (⟨"HatchLightsModel", "isThere", "(I)Z"⟩, 68) := ⟨⟨by decide +kernel, by decide +kernel⟩, List.mem_of_getElem? (i := 1111) (by decide +kernel), List.mem_of_getElem? (i := 1531) (by decide +kernel), List.mem_of_getElem? (i := 1532) (by decide +kernel)⟩
theorem lw_p81 : lw_okq (⟨"HatchLightsModel", "worthOf", "(I)I"⟩, 68) := ⟨⟨by decide +kernel, by decide +kernel⟩, List.mem_of_getElem? (i := 1111) (by decide +kernel), List.mem_of_getElem? (i := 1535) (by decide +kernel), List.mem_of_getElem? (i := 1536) (by decide +kernel)⟩
theorem lw_p82 : lw_okq (⟨"HatchLightsModel", "worthBy", "(II)I"⟩, 68) := ⟨⟨by decide +kernel, by decide +kernel⟩, List.mem_of_getElem? (i := 1111) (by decide +kernel), List.mem_of_getElem? (i := 1539) (by decide +kernel), List.mem_of_getElem? (i := 1540) (by decide +kernel)⟩
theorem lw_p83 : lw_okq (⟨"HatchLightsModel", "layAsked", "(II)V"⟩, 68) := ⟨⟨by decide +kernel, by decide +kernel⟩, List.mem_of_getElem? (i := 1111) (by decide +kernel), List.mem_of_getElem? (i := 1543) (by decide +kernel), List.mem_of_getElem? (i := 1544) (by decide +kernel)⟩
theorem lw_p84 : lw_okq (⟨"HatchLightsModel", "movedBy", "(I)I"⟩, 68) := ⟨⟨by decide +kernel, by decide +kernel⟩, List.mem_of_getElem? (i := 1111) (by decide +kernel), List.mem_of_getElem? (i := 1547) (by decide +kernel), List.mem_of_getElem? (i := 1548) (by decide +kernel)⟩
theorem lw_p85 : lw_okq (⟨"HatchLightsModel", "rowOf", "(I)I"⟩, 68) := ⟨⟨by decide +kernel, by decide +kernel⟩, List.mem_of_getElem? (i := 1111) (by decide +kernel), List.mem_of_getElem? (i := 1551) (by decide +kernel), List.mem_of_getElem? (i := 1552) (by decide +kernel)⟩
theorem lw_p86 : lw_okq (⟨"HatchLightsModel", "comes", "(I)I"⟩, 68) := ⟨⟨by decide +kernel, by decide +kernel⟩, List.mem_of_getElem? (i := 1111) (by decide +kernel), List.mem_of_getElem? (i := 1555) (by decide +kernel), List.mem_of_getElem? (i := 1556) (by decide +kernel)⟩
theorem lw_p87 : lw_okq (⟨"HatchLightsModel", "asked", "(II)I"⟩, 68) := ⟨⟨by decide +kernel, by decide +kernel⟩, List.mem_of_getElem? (i := 1111) (by decide +kernel), List.mem_of_getElem? (i := 1559) (by decide +kernel), List.mem_of_getElem? (i := 1560) (by decide +kernel)⟩
theorem lw_p88 : lw_okq (⟨"HatchLightsModel", "keptBy", "(I)I"⟩, 68) := ⟨⟨by decide +kernel, by decide +kernel⟩, List.mem_of_getElem? (i := 1111) (by decide +kernel), List.mem_of_getElem? (i := 1571) (by decide +kernel), List.mem_of_getElem? (i := 1572) (by decide +kernel)⟩
theorem lw_p89 : lw_okq (⟨"HatchLightsModel", "isRoad", "(I)Z"⟩, 68) := ⟨⟨by decide +kernel, by decide +kernel⟩, List.mem_of_getElem? (i := 1111) (by decide +kernel), List.mem_of_getElem? (i := 1582) (by decide +kernel), List.mem_of_getElem? (i := 1583) (by decide +kernel)⟩
theorem lw_p90 : lw_okq (⟨"HatchLightsModel", "firstOf", "(I)I"⟩, 68) := ⟨⟨by decide +kernel, by decide +kernel⟩, List.mem_of_getElem? (i := 1111) (by decide +kernel), List.mem_of_getElem? (i := 1590) (by decide +kernel), List.mem_of_getElem? (i := 1591) (by decide +kernel)⟩
theorem lw_p91 : lw_okq (⟨"HatchLightsModel", "keepAct", "()V"⟩, 68) := ⟨⟨by decide +kernel, by decide +kernel⟩, List.mem_of_getElem? (i := 1111) (by decide +kernel), List.mem_of_getElem? (i := 1610) (by decide +kernel), List.mem_of_getElem? (i := 1611) (by decide +kernel)⟩
theorem lw_p92 : lw_okq (⟨"HatchLightsModel", "goInEarnest", "(I)I"⟩, 68) := ⟨⟨by decide +kernel, by decide +kernel⟩, List.mem_of_getElem? (i := 1111) (by decide +kernel), List.mem_of_getElem? (i := 1614) (by decide +kernel), List.mem_of_getElem? (i := 1615) (by decide +kernel)⟩
theorem lw_p93 : lw_okq (⟨"HatchLightsModel", "goHatch", "(IZ)I"⟩, 68) := ⟨⟨by decide +kernel, by decide +kernel⟩, List.mem_of_getElem? (i := 1111) (by decide +kernel), List.mem_of_getElem? (i := 1618) (by decide +kernel), List.mem_of_getElem? (i := 1619) (by decide +kernel)⟩
theorem lw_p94 : lw_okq (⟨"HatchLightsModel", "goBehind", "(I)V"⟩, 68) := ⟨⟨by decide +kernel, by decide +kernel⟩, List.mem_of_getElem? (i := 1111) (by decide +kernel), List.mem_of_getElem? (i := 1622) (by decide +kernel), List.mem_of_getElem? (i := 1623) (by decide +kernel)⟩
theorem lw_p95 : lw_okq (⟨"HatchLightsModel", "swapAll", "()V"⟩, 68) := ⟨⟨by decide +kernel, by decide +kernel⟩, List.mem_of_getElem? (i := 1111) (by decide +kernel), List.mem_of_getElem? (i := 1651) (by decide +kernel), List.mem_of_getElem? (i := 1652) (by decide +kernel)⟩
def lw_privs_6 : List (MethodName × Nat) := [(⟨"HatchLightsModel", "isThere", "(I)Z"⟩, 68), (⟨"HatchLightsModel", "worthOf", "(I)I"⟩, 68), (⟨"HatchLightsModel", "worthBy", "(II)I"⟩, 68), (⟨"HatchLightsModel", "layAsked", "(II)V"⟩, 68), (⟨"HatchLightsModel", "movedBy", "(I)I"⟩, 68), (⟨"HatchLightsModel", "rowOf", "(I)I"⟩, 68), (⟨"HatchLightsModel", "comes", "(I)I"⟩, 68), (⟨"HatchLightsModel", "asked", "(II)I"⟩, 68), (⟨"HatchLightsModel", "keptBy", "(I)I"⟩, 68), (⟨"HatchLightsModel", "isRoad", "(I)Z"⟩, 68), (⟨"HatchLightsModel", "firstOf", "(I)I"⟩, 68), (⟨"HatchLightsModel", "keepAct", "()V"⟩, 68), (⟨"HatchLightsModel", "goInEarnest", "(I)I"⟩, 68), (⟨"HatchLightsModel", "goHatch", "(IZ)I"⟩, 68), (⟨"HatchLightsModel", "goBehind", "(I)V"⟩, 68), (⟨"HatchLightsModel", "swapAll", "()V"⟩, 68)]
theorem lw_r6 : ∀ q ∈ lw_privs_6, lw_okq q := List.forall_mem_cons.mpr ⟨lw_p80, List.forall_mem_cons.mpr ⟨lw_p81, List.forall_mem_cons.mpr ⟨lw_p82, List.forall_mem_cons.mpr ⟨lw_p83, List.forall_mem_cons.mpr ⟨lw_p84, List.forall_mem_cons.mpr ⟨lw_p85, List.forall_mem_cons.mpr ⟨lw_p86, List.forall_mem_cons.mpr ⟨lw_p87, List.forall_mem_cons.mpr ⟨lw_p88, List.forall_mem_cons.mpr ⟨lw_p89, List.forall_mem_cons.mpr ⟨lw_p90, List.forall_mem_cons.mpr ⟨lw_p91, List.forall_mem_cons.mpr ⟨lw_p92, List.forall_mem_cons.mpr ⟨lw_p93, List.forall_mem_cons.mpr ⟨lw_p94, List.forall_mem_cons.mpr ⟨lw_p95, fun _ h => absurd h List.not_mem_nil⟩⟩⟩⟩⟩⟩⟩⟩⟩⟩⟩⟩⟩⟩⟩⟩
theorem lw_p96 : lw_okq (⟨"HatchLightsModel", "keepNow", "()V"⟩, 68) := ⟨⟨by decide +kernel, by decide +kernel⟩, List.mem_of_getElem? (i := 1111) (by decide +kernel), List.mem_of_getElem? (i := 1670) (by decide +kernel), List.mem_of_getElem? (i := 1671) (by decide +kernel)⟩
theorem lw_p97 : lw_okq (⟨"HatchLightsModel", "goOnce", "()I"⟩, 68) := ⟨⟨by decide +kernel, by decide +kernel⟩, List.mem_of_getElem? (i := 1111) (by decide +kernel), List.mem_of_getElem? (i := 1674) (by decide +kernel), List.mem_of_getElem? (i := 1675) (by decide +kernel)⟩
theorem lw_p98 : lw_okq (⟨"HatchLightsModel", "thoseBy", "()I"⟩, 68) := ⟨⟨by decide +kernel, by decide +kernel⟩, List.mem_of_getElem? (i := 1111) (by decide +kernel), List.mem_of_getElem? (i := 1678) (by decide +kernel), List.mem_of_getElem? (i := 1679) (by decide +kernel)⟩
theorem lw_p99 : lw_okq (⟨"HatchLightsModel", "bringBack", "()V"⟩, 68) := ⟨⟨by decide +kernel, by decide +kernel⟩, List.mem_of_getElem? (i := 1111) (by decide +kernel), List.mem_of_getElem? (i := 1682) (by decide +kernel), List.mem_of_getElem? (i := 1683) (by decide +kernel)⟩
theorem lw_p100 : lw_okq (⟨"HatchLightsModel", "goHatches", "(III)V"⟩, 68) := ⟨⟨by decide +kernel, by decide +kernel⟩, List.mem_of_getElem? (i := 1111) (by decide +kernel), List.mem_of_getElem? (i := 1690) (by decide +kernel), List.mem_of_getElem? (i := 1691) (by decide +kernel)⟩
theorem lw_p101 : lw_okq (⟨"HatchLightsModel", "pressIn", "(I)I"⟩, 68) := ⟨⟨by decide +kernel, by decide +kernel⟩, List.mem_of_getElem? (i := 1111) (by decide +kernel), List.mem_of_getElem? (i := 1702) (by decide +kernel), List.mem_of_getElem? (i := 1703) (by decide +kernel)⟩
theorem lw_p102 : lw_okq (⟨"HatchLightsModel", "byBehind", "(II)I"⟩, 68) := ⟨⟨by decide +kernel, by decide +kernel⟩, List.mem_of_getElem? (i := 1111) (by decide +kernel), List.mem_of_getElem? (i := 1714) (by decide +kernel), List.mem_of_getElem? (i := 1715) (by decide +kernel)⟩
theorem lw_p103 : lw_okq (⟨"HatchLightsModel", "areAllBy", "(II)Z"⟩, 68) := ⟨⟨by decide +kernel, by decide +kernel⟩, List.mem_of_getElem? (i := 1111) (by decide +kernel), List.mem_of_getElem? (i := 1745) (by decide +kernel), List.mem_of_getElem? (i := 1746) (by decide +kernel)⟩
theorem lw_p104 : lw_okq (⟨"HatchLightsModel", "fewestOf", "(III)I"⟩, 68) := ⟨⟨by decide +kernel, by decide +kernel⟩, List.mem_of_getElem? (i := 1111) (by decide +kernel), List.mem_of_getElem? (i := 1753) (by decide +kernel), List.mem_of_getElem? (i := 1754) (by decide +kernel)⟩
theorem lw_p105 : lw_okq (⟨"HatchLightsModel", "laySooner", "(II)V"⟩, 68) := ⟨⟨by decide +kernel, by decide +kernel⟩, List.mem_of_getElem? (i := 1111) (by decide +kernel), List.mem_of_getElem? (i := 1781) (by decide +kernel), List.mem_of_getElem? (i := 1782) (by decide +kernel)⟩
theorem lw_p106 : lw_okq (⟨"HatchLightsModel", "isRest", "(I)Z"⟩, 68) := ⟨⟨by decide +kernel, by decide +kernel⟩, List.mem_of_getElem? (i := 1111) (by decide +kernel), List.mem_of_getElem? (i := 1785) (by decide +kernel), List.mem_of_getElem? (i := 1786) (by decide +kernel)⟩
theorem lw_p107 : lw_okq (⟨"HatchLightsModel", "layBy", "()V"⟩, 68) := ⟨⟨by decide +kernel, by decide +kernel⟩, List.mem_of_getElem? (i := 1111) (by decide +kernel), List.mem_of_getElem? (i := 1813) (by decide +kernel), List.mem_of_getElem? (i := 1814) (by decide +kernel)⟩
theorem lw_p108 : lw_okq (⟨"HatchLightsModel", "doesFit", "(II)Z"⟩, 68) := ⟨⟨by decide +kernel, by decide +kernel⟩, List.mem_of_getElem? (i := 1111) (by decide +kernel), List.mem_of_getElem? (i := 1817) (by decide +kernel), List.mem_of_getElem? (i := 1818) (by decide +kernel)⟩
theorem lw_p109 : lw_okq (⟨"HatchLightsModel", "mostBehind", "(II)I"⟩, 68) := ⟨⟨by decide +kernel, by decide +kernel⟩, List.mem_of_getElem? (i := 1111) (by decide +kernel), List.mem_of_getElem? (i := 1830) (by decide +kernel), List.mem_of_getElem? (i := 1831) (by decide +kernel)⟩
def lw_privs_7 : List (MethodName × Nat) := [(⟨"HatchLightsModel", "keepNow", "()V"⟩, 68), (⟨"HatchLightsModel", "goOnce", "()I"⟩, 68), (⟨"HatchLightsModel", "thoseBy", "()I"⟩, 68), (⟨"HatchLightsModel", "bringBack", "()V"⟩, 68), (⟨"HatchLightsModel", "goHatches", "(III)V"⟩, 68), (⟨"HatchLightsModel", "pressIn", "(I)I"⟩, 68), (⟨"HatchLightsModel", "byBehind", "(II)I"⟩, 68), (⟨"HatchLightsModel", "areAllBy", "(II)Z"⟩, 68), (⟨"HatchLightsModel", "fewestOf", "(III)I"⟩, 68), (⟨"HatchLightsModel", "laySooner", "(II)V"⟩, 68), (⟨"HatchLightsModel", "isRest", "(I)Z"⟩, 68), (⟨"HatchLightsModel", "layBy", "()V"⟩, 68), (⟨"HatchLightsModel", "doesFit", "(II)Z"⟩, 68), (⟨"HatchLightsModel", "mostBehind", "(II)I"⟩, 68)]
theorem lw_r7 : ∀ q ∈ lw_privs_7, lw_okq q := List.forall_mem_cons.mpr ⟨lw_p96, List.forall_mem_cons.mpr ⟨lw_p97, List.forall_mem_cons.mpr ⟨lw_p98, List.forall_mem_cons.mpr ⟨lw_p99, List.forall_mem_cons.mpr ⟨lw_p100, List.forall_mem_cons.mpr ⟨lw_p101, List.forall_mem_cons.mpr ⟨lw_p102, List.forall_mem_cons.mpr ⟨lw_p103, List.forall_mem_cons.mpr ⟨lw_p104, List.forall_mem_cons.mpr ⟨lw_p105, List.forall_mem_cons.mpr ⟨lw_p106, List.forall_mem_cons.mpr ⟨lw_p107, List.forall_mem_cons.mpr ⟨lw_p108, List.forall_mem_cons.mpr ⟨lw_p109, fun _ h => absurd h List.not_mem_nil⟩⟩⟩⟩⟩⟩⟩⟩⟩⟩⟩⟩⟩⟩
def lw_privs : List (MethodName × Nat) := lw_privs_1 ++ (lw_privs_2 ++ (lw_privs_3 ++ (lw_privs_4 ++ (lw_privs_5 ++ (lw_privs_6 ++ (lw_privs_7))))))
def lw_tbl : List Cond := k2_sels lw_privs ++ tables_1
theorem lw_privs_ok : ∀ q ∈ lw_privs, lw_okq q := by
  show ∀ q ∈ lw_privs_1 ++ (lw_privs_2 ++ (lw_privs_3 ++ (lw_privs_4 ++ (lw_privs_5 ++ (lw_privs_6 ++ (lw_privs_7)))))), lw_okq q
  exact List.forall_mem_append.mpr ⟨lw_r1, List.forall_mem_append.mpr ⟨lw_r2, List.forall_mem_append.mpr ⟨lw_r3, List.forall_mem_append.mpr ⟨lw_r4, List.forall_mem_append.mpr ⟨lw_r5, List.forall_mem_append.mpr ⟨lw_r6, lw_r7⟩⟩⟩⟩⟩⟩
end
section
/-! A checked executor: states with ints known, named or held in a range; cells by number; every step is shown to keep what it says of the machine. An int x is written as ex_u x, its number above the least int. -/
abbrev ex_V : Type := (Nat ⊕ (Nat ⊕ (Nat × Nat))) ⊕ (Option Nat ⊕ (Int64 ⊕ Unit))
abbrev ex_C : Type := (Nat × List ex_V) ⊕ (Nat × Nat × List (Nat × ex_V))
abbrev ex_E : Type := List (Nat × Nat)
abbrev ex_P : Type := Nat × Instr × Nat × Nat × Nat × Nat × List Nat
abbrev ex_L : Type := List (Nat × ex_V)
abbrev ex_H : Type := List (List ex_C)
abbrev ex_S : Type := List ex_P × ex_L × List ex_V × ex_H × Nat × Nat × Nat
abbrev ex_M : Type := List ex_P × Nat × Nat × Nat × Nat
abbrev ex_k (n : Nat) : ex_V := .inl (.inl n)
abbrev ex_v (i : Nat) : ex_V := .inl (.inr (.inl i))
abbrev ex_r (a b : Nat) : ex_V := .inl (.inr (.inr (a, b)))
abbrev ex_a (r : Option Nat) : ex_V := .inr (.inl r)
abbrev ex_j (x : Int64) : ex_V := .inr (.inr (.inl x))
abbrev ex_z : ex_V := .inr (.inr (.inr ()))
abbrev ex_full : ex_V := ex_r 0 4294967295
noncomputable def ex_nth {α : Type} (l : List α) : Nat → Option α := List.rec (motive := fun _ => Nat → Option α) (fun _ => none) (fun a _ ih k => Nat.rec (motive := fun _ => Option α) (some a) (fun k' _ => ih k') k) l
noncomputable def ex_set {α : Type} (l : List α) : Nat → α → List α := List.rec (motive := fun _ => Nat → α → List α) (fun _ _ => []) (fun a t ih k v => Nat.rec (motive := fun _ => List α) (v :: t) (fun k' _ => a :: ih k' v) k) l
noncomputable def ex_lk {α : Type} (l : List (Nat × α)) (i : Nat) : Option α := List.rec (motive := fun _ => Option α) none (fun q _ ih => bif Nat.beq q.1 i then some q.2 else ih) l
noncomputable def ex_ovset (l : List (Nat × ex_V)) (i : Nat) (v : ex_V) : List (Nat × ex_V) := List.rec (motive := fun _ => List (Nat × ex_V)) [(i, v)] (fun q t ih => bif Nat.beq q.1 i then (i, v) :: t else q :: ih) l
noncomputable def ex_get (h : ex_H) (k : Nat) : Option ex_C := match ex_nth h (k / 32) with
  | some ch => ex_nth ch (k % 32)
  | none => none
noncomputable def ex_put (h : ex_H) (k : Nat) (c : ex_C) : ex_H := match ex_nth h (k / 32) with
  | some ch => ex_set h (k / 32) (ex_set ch (k % 32) c)
  | none => h
noncomputable def ex_len {α : Type} (l : List α) : Nat := List.rec (motive := fun _ => Nat) 0 (fun _ _ ih => ih + 1) l
noncomputable def ex_app {α : Type} (l r : List α) : List α := List.rec (motive := fun _ => List α) r (fun a _ ih => a :: ih) l
noncomputable def ex_push (h : ex_H) (n : Nat) (c : ex_C) : Option ex_H := bif Nat.beq (n % 32) 0 then (bif Nat.beq (ex_len h) (n / 32) then some (ex_app h [[c]]) else none) else (match ex_nth h (n / 32) with
  | some ch => bif Nat.beq (ex_len ch) (n % 32) then some (ex_set h (n / 32) (ex_app ch [c])) else none
  | none => none)
noncomputable def ex_b (en : ex_E) (v : ex_V) : Option (Nat × Nat) := match v with
  | .inl (.inl n) => some (n, n)
  | .inl (.inr (.inl i)) => ex_nth en i
  | .inl (.inr (.inr q)) => some q
  | .inr _ => none
noncomputable def ex_cst (en : ex_E) (v : ex_V) : Option Nat := match ex_b en v with
  | some q => bif Nat.beq q.1 q.2 then some q.1 else none
  | none => none
def ex_mx (a b : Nat) : Nat := bif Nat.ble a b then b else a
def ex_mn (a b : Nat) : Nat := bif Nat.ble a b then a else b
noncomputable def ex_rf (en : ex_E) (v : ex_V) (lo hi : Nat) : Option ex_E := match v with
  | .inl (.inl n) => bif Nat.ble lo n && Nat.ble n hi then some en else none
  | .inl (.inr (.inl i)) => (match ex_nth en i with
    | some q => bif Nat.ble (ex_mx q.1 lo) (ex_mn q.2 hi) then some (ex_set en i (ex_mx q.1 lo, ex_mn q.2 hi)) else none
    | none => some en)
  | .inl (.inr (.inr q)) => bif Nat.ble (ex_mx q.1 lo) (ex_mn q.2 hi) then some en else none
  | .inr _ => some en
noncomputable def ex_2 (en : ex_E) (a : ex_V) (la ha : Nat) (b : ex_V) (lb hb : Nat) : List ex_E := match ex_rf en a la ha with
  | none => []
  | some e => (match ex_rf e b lb hb with
    | none => []
    | some e' => [e'])
noncomputable def ex_1 (en : ex_E) (a : ex_V) (la ha : Nat) : List ex_E := match ex_rf en a la ha with
  | none => []
  | some e => [e]
def ex_same (a b : ex_V) : Bool := match a, b with
  | .inl (.inr (.inl i)), .inl (.inr (.inl j)) => Nat.beq i j
  | _, _ => false
noncomputable def ex_lt (en : ex_E) (a b : ex_V) (qa qb : Nat × Nat) : List ex_E := bif ex_same a b then [] else ex_2 en a 0 (qb.2 - 1) b (qa.1 + 1) 4294967295
noncomputable def ex_ge (en : ex_E) (a b : ex_V) (qa qb : Nat × Nat) : List ex_E := ex_2 en a qb.1 4294967295 b 0 qa.2
noncomputable def ex_eq (en : ex_E) (a b : ex_V) (qa qb : Nat × Nat) : List ex_E := ex_2 en a qb.1 qb.2 b qa.1 qa.2
noncomputable def ex_ne (en : ex_E) (a b : ex_V) (qa qb : Nat × Nat) : List ex_E := bif ex_same a b then [] else
  bif Nat.beq qb.1 qb.2 then ex_app (ex_1 en a 0 (qb.1 - 1)) (ex_1 en a (qb.1 + 1) 4294967295) else
  bif Nat.beq qa.1 qa.2 then ex_app (ex_1 en b 0 (qa.1 - 1)) (ex_1 en b (qa.1 + 1) 4294967295) else [en]
noncomputable def ex_br (c : ClassFile.Cond) (en : ex_E) (a b : ex_V) : Option (List ex_E × List ex_E) := match ex_b en a with
  | none => none
  | some qa => (match ex_b en b with
    | none => none
    | some qb => (match c with
      | .eq => some (ex_eq en a b qa qb, ex_ne en a b qa qb)
      | .ne => some (ex_ne en a b qa qb, ex_eq en a b qa qb)
      | .lt => some (ex_lt en a b qa qb, ex_ge en a b qa qb)
      | .ge => some (ex_ge en a b qa qb, ex_lt en a b qa qb)
      | .gt => some (ex_lt en b a qb qa, ex_ge en b a qb qa)
      | .le => some (ex_ge en b a qb qa, ex_lt en b a qb qa)))
noncomputable def ex_ft (q : ex_P) (r : List ex_P) (en : ex_E) (lv : ex_L) (st : List ex_V) (h : ex_H) (n cc ss : Nat) : Option (List (ex_E × ex_S)) := match r with
  | [] => none
  | q' :: r' => bif Nat.beq q'.1 (q.1 + q.2.2.1) then some [(en, (q' :: r', lv, st, h, n, cc, ss))] else none
noncomputable def ex_jp (pr : List ex_P) (t : Nat) : List ex_P := List.rec (motive := fun _ => List ex_P) [] (fun q r ih => bif Nat.beq q.1 t then q :: r else ih) pr
noncomputable def ex_map {α β : Type} (f : α → β) (l : List α) : List β := List.rec (motive := fun _ => List β) [] (fun a _ ih => f a :: ih) l
def ex_isI (v : ex_V) : Bool := match v with
  | .inl _ => true
  | .inr _ => false
def ex_isR (v : ex_V) : Bool := match v with
  | .inr (.inl _) => true
  | .inr (.inr (.inr _)) => true
  | _ => false
def ex_cat (v : ex_V) : Nat := match v with
  | .inr (.inr (.inl _)) => 2
  | _ => 1
noncomputable def ex_del (lv : ex_L) (i : Nat) : ex_L := List.rec (motive := fun _ => ex_L) [] (fun q _ ih => bif (!(Nat.beq q.1 i) && !(Nat.beq (q.1 + 1) i && Nat.beq (ex_cat q.2) 2)) then q :: ih else ih) lv
/-- an int that may take at most 65 values, by name -/
noncomputable def ex_need (en : ex_E) (v : ex_V) : Option Nat := match v with
  | .inl (.inr (.inl i)) => (match ex_nth en i with
    | some q => bif Nat.ble (q.1 + 1) q.2 && Nat.ble q.2 (q.1 + 64) then some i else none
    | none => none)
  | _ => none
noncomputable def ex_range (n lo : Nat) : List Nat := Nat.rec (motive := fun _ => Nat → List Nat) (fun _ => []) (fun _ ih lo => lo :: ih (lo + 1)) n lo
noncomputable def ex_spl (en : ex_E) (i : Nat) (s : ex_S) : Option (List (ex_E × ex_S)) := match ex_nth en i with
  | some q => some (ex_map (fun x => (ex_set en i (x, x), s)) (ex_range (q.2 - q.1 + 1) q.1))
  | none => none
def ex_t (u : Nat) : Nat := (u + 2147483648) % 4294967296
noncomputable def ex_op (o : Instr) (en : ex_E) (a b : ex_V) : Option ex_V := match ex_cst en a, ex_cst en b with
  | some x, some y => (match o with
    | .iadd => some (ex_k ((x + y + 2147483648) % 4294967296))
    | .isub => some (ex_k ((x + 6442450944 - y) % 4294967296))
    | .imul => some (ex_k (ex_t (ex_t x * ex_t y % 4294967296)))
    | .iand => some (ex_k (ex_t (Nat.land (ex_t x) (ex_t y))))
    | .ior => some (ex_k (ex_t (Nat.lor (ex_t x) (ex_t y))))
    | .ixor => some (ex_k (ex_t (Nat.xor (ex_t x) (ex_t y))))
    | .ishl => bif Nat.beq y 2147483648 then some (ex_k x) else some ex_full
    | .idiv => bif Nat.ble 2147483648 x && Nat.ble 2147483649 y then some (ex_k ((x - 2147483648) / (y - 2147483648) + 2147483648)) else none
    | .irem => bif Nat.ble 2147483648 x && Nat.ble 2147483649 y then some (ex_k ((x - 2147483648) % (y - 2147483648) + 2147483648)) else none
    | .ishr => some ex_full
    | _ => none)
  | none, some y => (match o with
    | .iadd => bif Nat.beq y 2147483648 && ex_isI a then some a else some ex_full
    | .iand => bif Nat.ble 2147483648 y then some (ex_r 2147483648 y) else some ex_full
    | .idiv => none
    | .irem => none
    | _ => some ex_full)
  | some x, none => (match o with
    | .iadd => bif Nat.beq x 2147483648 && ex_isI b then some b else some ex_full
    | .idiv => none
    | .irem => none
    | _ => some ex_full)
  | none, none => (match o with
    | .idiv => none
    | .irem => none
    | _ => some ex_full)
noncomputable def ex_bin (q : ex_P) (r : List ex_P) (en : ex_E) (lv : ex_L) (st : List ex_V) (h : ex_H) (n cc ss : Nat) : Option (List (ex_E × ex_S)) := match st with
  | b :: a :: rest => bif ex_isI a && ex_isI b then (match ex_need en a with
    | some i => ex_spl en i (q :: r, lv, st, h, n, cc, ss)
    | none => (match ex_need en b with
      | some i => ex_spl en i (q :: r, lv, st, h, n, cc, ss)
      | none => (match ex_op q.2.1 en a b with
        | some v => ex_ft q r en lv (v :: rest) h n cc ss
        | none => none))) else none
  | _ => none
noncomputable def ex_ifs (pr : List ex_P) (q : ex_P) (r : List ex_P) (c : ClassFile.Cond) (en : ex_E) (lv : ex_L) (a b : ex_V) (rest : List ex_V) (h : ex_H) (n cc ss : Nat) : Option (List (ex_E × ex_S)) := match ex_br c en a b with
  | none => none
  | some tf => (match tf.2 with
    | [] => some (ex_map (fun e => (e, (ex_jp pr q.2.2.2.1, lv, rest, h, n, cc, ss))) tf.1)
    | f0 :: fs => (match r with
      | [] => none
      | q' :: r' => bif Nat.beq q'.1 (q.1 + q.2.2.1) then some (ex_app (ex_map (fun e => (e, (ex_jp pr q.2.2.2.1, lv, rest, h, n, cc, ss))) tf.1) (ex_map (fun e => (e, (q' :: r', lv, rest, h, n, cc, ss))) (f0 :: fs))) else none))
noncomputable def ex_ld (q : ex_P) (r : List ex_P) (en : ex_E) (lv : ex_L) (st : List ex_V) (h : ex_H) (n cc ss : Nat) (ok : ex_V → Bool) : Option (List (ex_E × ex_S)) := match ex_lk lv q.2.2.2.1 with
  | some v => bif ok v then ex_ft q r en lv (v :: st) h n cc ss else none
  | none => none
noncomputable def ex_st (mL : Nat) (q : ex_P) (r : List ex_P) (en : ex_E) (lv : ex_L) (st : List ex_V) (h : ex_H) (n cc ss : Nat) (ok : ex_V → Bool) : Option (List (ex_E × ex_S)) := match st with
  | v :: rest => bif ok v && Nat.blt q.2.2.2.1 mL then ex_ft q r en ((q.2.2.2.1, v) :: ex_del lv q.2.2.2.1) rest h n cc ss else none
  | [] => none
noncomputable def ex_ov (t : Nat) (ov : List (Nat × ex_V)) (j : Nat) : ex_V := match ex_lk ov j with
  | some v => v
  | none => bif Nat.beq t 2 then ex_j 0 else bif Nat.beq t 4 then ex_a none else ex_k 2147483648
/-- a row's place: what it is split by, or its number -/
noncomputable def ex_ix (en : ex_E) (i : ex_V) (n : Nat) : Option Nat := match ex_cst en i with
  | some u => bif Nat.ble 2147483648 u && Nat.blt (u - 2147483648) n then some (u - 2147483648) else none
  | none => none
noncomputable def ex_ald (isl : Bool) (L : Nat) (ok : Nat → Bool) (q : ex_P) (r : List ex_P) (en : ex_E) (lv : ex_L) (st : List ex_V) (h : ex_H) (n cc ss : Nat) : Option (List (ex_E × ex_S)) := match st with
  | i :: .inr (.inl (some o)) :: rest => (match ex_need en i with
    | some x => ex_spl en x (q :: r, lv, st, h, n, cc, ss)
    | none => (match ex_get h o with
      | some (.inr (t, N, ov)) => (match ex_ix en i N with
        | some j => bif ok t && ex_isI i then ex_ft q r en lv (ex_ov t ov j :: rest) h n cc ss else none
        | none => none)
      | _ => none))
  | i :: .inr (.inr (.inr ())) :: rest => (match ex_ix en i L with
    | some j => bif isl && ok 0 && ex_isI i then ex_ft q r en lv (ex_v j :: rest) h n cc ss else none
    | none => none)
  | _ => none
noncomputable def ex_ast (q : ex_P) (r : List ex_P) (en : ex_E) (lv : ex_L) (st : List ex_V) (h : ex_H) (n cc ss : Nat) (ok : Nat → ex_V → Option ex_V) : Option (List (ex_E × ex_S)) := match st with
  | v :: i :: .inr (.inl (some o)) :: rest => (match ex_need en i with
    | some x => ex_spl en x (q :: r, lv, st, h, n, cc, ss)
    | none => (match ex_get h o with
      | some (.inr (t, N, ov)) => (match ex_ix en i N with
        | some j => (match ok t v with
          | some v' => bif ex_isI i then ex_ft q r en lv rest (ex_put h o (.inr (t, N, ex_ovset ov j v'))) n cc ss else none
          | none => none)
        | none => none)
      | _ => none))
  | _ => none
def ex_oki (t : Nat) (v : ex_V) : Option ex_V := bif Nat.beq t 0 && ex_isI v then some v else none
def ex_okj (t : Nat) (v : ex_V) : Option ex_V := match v with
  | .inr (.inr (.inl x)) => bif Nat.beq t 2 then some v else none
  | _ => none
noncomputable def ex_okb (en : ex_E) (t : Nat) (v : ex_V) : Option ex_V := bif Nat.beq t 1 && ex_isI v then some ex_full else bif Nat.beq t 3 then (match ex_cst en v with
  | some u => bif Nat.beq u 2147483648 || Nat.beq u 2147483649 then some (ex_k u) else none
  | none => none) else none
/-- only objects of class 4 go into rows of references -/
noncomputable def ex_okq (h : ex_H) (t : Nat) (v : ex_V) : Option ex_V := match v with
  | .inr (.inl (some o)) => (match ex_get h o with
    | some (.inl (ci, _)) => bif Nat.beq t 4 && Nat.beq ci 4 then some v else none
    | _ => none)
  | _ => none
noncomputable def ex_gf (q : ex_P) (r : List ex_P) (en : ex_E) (lv : ex_L) (st : List ex_V) (h : ex_H) (n cc ss : Nat) : Option (List (ex_E × ex_S)) := match st with
  | .inr (.inl (some o)) :: rest => (match ex_get h o with
    | some (.inl (ci, fs)) => (match ex_nth fs q.2.2.2.2.1 with
      | some v => bif Nat.beq ci q.2.2.2.1 then ex_ft q r en lv (v :: rest) h n cc ss else none
      | none => none)
    | _ => none)
  | _ => none
noncomputable def ex_okf (en : ex_E) (ty : Nat) (v : ex_V) : Bool := bif Nat.beq ty 0 then ex_isI v else bif Nat.beq ty 1 then (match v with
  | .inr (.inl _) => true
  | _ => false) else bif Nat.beq ty 2 then (match ex_cst en v with
  | some u => Nat.beq u 2147483648 || Nat.beq u 2147483649
  | none => false) else false
noncomputable def ex_pf (q : ex_P) (r : List ex_P) (en : ex_E) (lv : ex_L) (st : List ex_V) (h : ex_H) (n cc ss : Nat) : Option (List (ex_E × ex_S)) := match st with
  | v :: .inr (.inl (some o)) :: rest => (match ex_get h o with
    | some (.inl (ci, fs)) => (match ex_nth fs q.2.2.2.2.1 with
      | some _ => bif Nat.beq ci q.2.2.2.1 && ex_okf en q.2.2.2.2.2.1 v then ex_ft q r en lv rest (ex_put h o (.inl (ci, ex_set fs q.2.2.2.2.1 v))) n cc ss else none
      | none => none)
    | _ => none)
  | _ => none
noncomputable def ex_nw (cap : Nat × Nat) (df : Nat → List ex_V) (q : ex_P) (r : List ex_P) (en : ex_E) (lv : ex_L) (st : List ex_V) (h : ex_H) (n cc ss : Nat) : Option (List (ex_E × ex_S)) := match ex_push h n (.inl (q.2.2.2.1, df q.2.2.2.1)) with
  | some h' => bif Nat.ble (cc + 1) cap.1 && Nat.ble (ss + q.2.2.2.2.1) cap.2 then ex_ft q r en lv (ex_a (some n) :: st) h' (n + 1) (cc + 1) (ss + q.2.2.2.2.1) else none
  | none => none
noncomputable def ex_na (cap : Nat × Nat) (q : ex_P) (r : List ex_P) (en : ex_E) (lv : ex_L) (st : List ex_V) (h : ex_H) (n cc ss : Nat) : Option (List (ex_E × ex_S)) := match st with
  | i :: rest => (match ex_ix en i 100000 with
    | some N => (match ex_push h n (.inr (q.2.2.2.1, N, [])) with
      | some h' => bif ex_isI i && Nat.ble (cc + 1) cap.1 && Nat.ble (ss + N) cap.2 then ex_ft q r en lv (ex_a (some n) :: rest) h' (n + 1) (cc + 1) (ss + N) else none
      | none => none)
    | none => none)
  | _ => none
noncomputable def ex_al (isl : Bool) (L : Nat) (q : ex_P) (r : List ex_P) (en : ex_E) (lv : ex_L) (st : List ex_V) (h : ex_H) (n cc ss : Nat) : Option (List (ex_E × ex_S)) := match st with
  | .inr (.inl (some o)) :: rest => (match ex_get h o with
    | some (.inr (_, N, _)) => bif Nat.ble N 100000 then ex_ft q r en lv (ex_k (N + 2147483648) :: rest) h n cc ss else none
    | _ => none)
  | .inr (.inr (.inr ())) :: rest => bif isl && Nat.ble L 100000 then ex_ft q r en lv (ex_k (L + 2147483648) :: rest) h n cc ss else none
  | _ => none
noncomputable def ex_cp (a b : List (Nat × ex_V)) (t sp dp m : Nat) : List (Nat × ex_V) := Nat.rec (motive := fun _ => List (Nat × ex_V)) b (fun k ih => ex_ovset ih (dp + k) (ex_ov t a (sp + k))) m
noncomputable def ex_acp (q : ex_P) (r : List ex_P) (en : ex_E) (lv : ex_L) (st : List ex_V) (h : ex_H) (n cc ss : Nat) : Option (List (ex_E × ex_S)) := match st with
  | m :: dp :: .inr (.inl (some d)) :: sp :: .inr (.inl (some o)) :: rest => (match ex_get h o, ex_get h d with
    | some (.inr (t, N, ov)), some (.inr (t', N', ov')) => (match ex_ix en m 100000, ex_ix en sp 100000, ex_ix en dp 100000 with
      | some m', some s', some d' => bif Nat.beq t 0 && Nat.beq t' 0 && Nat.ble (s' + m') N && Nat.ble (d' + m') N' && ex_isI m && ex_isI sp && ex_isI dp && Nat.ble (ex_len rest) 4 then ex_ft q r en lv rest (ex_put h d (.inr (t', N', ex_cp ov ov' 0 s' d' m'))) n cc ss else none
      | _, _, _ => none)
    | _, _ => none)
  | _ => none
noncomputable def ex_sw (pr : List ex_P) (q : ex_P) (en : ex_E) (lv : ex_L) (v : ex_V) (rest : List ex_V) (h : ex_H) (n cc ss : Nat) (ts : List Nat) (lo : Nat) : List (ex_E × ex_S) := List.rec (motive := fun _ => Nat → List (ex_E × ex_S)) (fun lo => ex_map (fun e => (e, (ex_jp pr q.2.2.2.1, lv, rest, h, n, cc, ss))) (ex_1 en v lo 4294967295)) (fun t _ ih lo => ex_app (ex_map (fun e => (e, (ex_jp pr t, lv, rest, h, n, cc, ss))) (ex_1 en v lo lo)) (ih (lo + 1))) ts lo
noncomputable def ex_lu (pr : List ex_P) (q : ex_P) (lv : ex_L) (v : ex_V) (rest : List ex_V) (h : ex_H) (n cc ss : Nat) (ts : List Nat) : ex_E → Option (List (ex_E × ex_S)) := fun en => match ts with
  | [k0, t0, k1, t1] => (match ex_b en v with
    | some qa => some (ex_app (ex_map (fun e => (e, (ex_jp pr t0, lv, rest, h, n, cc, ss))) (ex_1 en v k0 k0)) (ex_app (ex_map (fun e => (e, (ex_jp pr t1, lv, rest, h, n, cc, ss))) (ex_1 en v k1 k1)) (bif Nat.beq (k0 + 1) k1 then ex_app (ex_map (fun e => (e, (ex_jp pr q.2.2.2.1, lv, rest, h, n, cc, ss))) (ex_1 en v 0 (k0 - 1))) (ex_map (fun e => (e, (ex_jp pr q.2.2.2.1, lv, rest, h, n, cc, ss))) (ex_1 en v (k1 + 1) 4294967295)) else ex_map (fun e => (e, (ex_jp pr q.2.2.2.1, lv, rest, h, n, cc, ss))) [en])))
    | none => none)
  | _ => none
def ex_bz (t : Nat) : Bool := Nat.beq t 1 || Nat.beq t 3
noncomputable def ex_step (pr : List ex_P) (isl : Bool) (L mL : Nat) (cap : Nat × Nat) (df : Nat → List ex_V) (en : ex_E) (q : ex_P) (r : List ex_P) (lv : ex_L) (st : List ex_V) (h : ex_H) (n cc ss : Nat) : Option (List (ex_E × ex_S)) := match q.2.1 with
  | .iconst _ => ex_ft q r en lv (ex_k q.2.2.2.1 :: st) h n cc ss
  | .bipush _ => ex_ft q r en lv (ex_k q.2.2.2.1 :: st) h n cc ss
  | .sipush _ => ex_ft q r en lv (ex_k q.2.2.2.1 :: st) h n cc ss
  | .ldc _ => ex_ft q r en lv (ex_k q.2.2.2.1 :: st) h n cc ss
  | .ldc_w _ => ex_ft q r en lv (ex_k q.2.2.2.1 :: st) h n cc ss
  | .lconst _ => ex_ft q r en lv (ex_j (Int64.ofNat q.2.2.2.1) :: st) h n cc ss
  | .iload_n _ => ex_ld q r en lv st h n cc ss ex_isI
  | .iload _ => ex_ld q r en lv st h n cc ss ex_isI
  | .aload_n _ => ex_ld q r en lv st h n cc ss ex_isR
  | .aload _ => ex_ld q r en lv st h n cc ss ex_isR
  | .istore_n _ => ex_st mL q r en lv st h n cc ss ex_isI
  | .istore _ => ex_st mL q r en lv st h n cc ss ex_isI
  | .astore_n _ => ex_st mL q r en lv st h n cc ss ex_isR
  | .astore _ => ex_st mL q r en lv st h n cc ss ex_isR
  | .iinc _ _ => (match ex_lk lv q.2.2.2.1 with
    | some v => (match ex_cst en v with
      | some u => bif ex_isI v && Nat.blt q.2.2.2.1 mL then ex_ft q r en ((q.2.2.2.1, ex_k ((u + q.2.2.2.2.1) % 4294967296)) :: ex_del lv q.2.2.2.1) st h n cc ss else none
      | none => none)
    | none => none)
  | .iadd => ex_bin q r en lv st h n cc ss
  | .isub => ex_bin q r en lv st h n cc ss
  | .imul => ex_bin q r en lv st h n cc ss
  | .iand => ex_bin q r en lv st h n cc ss
  | .ior => ex_bin q r en lv st h n cc ss
  | .ixor => ex_bin q r en lv st h n cc ss
  | .ishl => ex_bin q r en lv st h n cc ss
  | .ishr => ex_bin q r en lv st h n cc ss
  | .idiv => ex_bin q r en lv st h n cc ss
  | .irem => ex_bin q r en lv st h n cc ss
  | .i2b => (match st with
    | v :: rest => bif ex_isI v then ex_ft q r en lv (ex_full :: rest) h n cc ss else none
    | [] => none)
  | .dup => (match st with
    | v :: rest => bif Nat.beq (ex_cat v) 1 then ex_ft q r en lv (v :: v :: rest) h n cc ss else none
    | [] => none)
  | .dup2 => (match st with
    | v :: w :: rest => bif Nat.beq (ex_cat v) 1 && Nat.beq (ex_cat w) 1 then ex_ft q r en lv (v :: w :: v :: w :: rest) h n cc ss else none
    | _ => none)
  | .pop => (match st with
    | v :: rest => bif Nat.beq (ex_cat v) 1 then ex_ft q r en lv rest h n cc ss else none
    | [] => none)
  | .goto _ => some [(en, (ex_jp pr q.2.2.2.1, lv, st, h, n, cc, ss))]
  | .ifCond c _ => (match st with
    | a :: rest => ex_ifs pr q r c en lv a (ex_k 2147483648) rest h n cc ss
    | [] => none)
  | .if_icmp c _ => (match st with
    | b :: a :: rest => ex_ifs pr q r c en lv a b rest h n cc ss
    | _ => none)
  | .tableswitch _ _ _ _ => (match st with
    | v :: rest => bif ex_isI v then some (ex_app (ex_map (fun e => (e, (ex_jp pr q.2.2.2.1, lv, rest, h, n, cc, ss))) (ex_1 en v 0 (q.2.2.2.2.1 - 1))) (ex_sw pr q en lv v rest h n cc ss q.2.2.2.2.2.2 q.2.2.2.2.1)) else none
    | [] => none)
  | .lookupswitch _ _ => (match st with
    | v :: rest => bif ex_isI v then ex_lu pr q lv v rest h n cc ss q.2.2.2.2.2.2 en else none
    | [] => none)
  | .getfield _ => ex_gf q r en lv st h n cc ss
  | .putfield _ => ex_pf q r en lv st h n cc ss
  | .new _ => ex_nw cap df q r en lv st h n cc ss
  | .newarray _ => ex_na cap q r en lv st h n cc ss
  | .anewarray _ => ex_na cap q r en lv st h n cc ss
  | .arraylength => ex_al isl L q r en lv st h n cc ss
  | .iaload => ex_ald isl L (fun t => Nat.beq t 0) q r en lv st h n cc ss
  | .baload => ex_ald false L ex_bz q r en lv st h n cc ss
  | .aaload => ex_ald false L (fun t => Nat.beq t 4) q r en lv st h n cc ss
  | .iastore => ex_ast q r en lv st h n cc ss ex_oki
  | .bastore => ex_ast q r en lv st h n cc ss (ex_okb en)
  | .lastore => ex_ast q r en lv st h n cc ss ex_okj
  | .aastore => ex_ast q r en lv st h n cc ss (ex_okq h)
  | .invokestatic _ => ex_acp q r en lv st h n cc ss
  | .invokespecial _ => (match st with
    | .inr (.inl (some _)) :: rest => bif Nat.ble (ex_len rest) 4 then ex_ft q r en lv rest h n cc ss else none
    | _ => none)
  | _ => none
/-- a call's first number: the method, its second: how many values it takes, its third: 0 for a call, 1 for a copy of rows or Object's constructor -/
def ex_call (q : ex_P) : Bool := match q.2.1 with
  | .invokestatic _ => Nat.beq q.2.2.2.2.2.1 0
  | .invokespecial _ => Nat.beq q.2.2.2.2.2.1 0
  | .invokevirtual _ => true
  | _ => false
def ex_end (q : ex_P) : Bool := match q.2.1 with
  | .ireturn => true
  | .areturn => true
  | .return_ => true
  | _ => false
noncomputable def ex_take (n : Nat) : List ex_V → List ex_V → Option (List ex_V × List ex_V) := Nat.rec (motive := fun _ => List ex_V → List ex_V → Option (List ex_V × List ex_V)) (fun acc st => some (acc, st)) (fun _ ih acc st => match st with
  | v :: rest => bif Nat.beq (ex_cat v) 1 then ih (v :: acc) rest else none
  | [] => none) n
noncomputable def ex_args (l : List ex_V) (i : Nat) : ex_L := List.rec (motive := fun _ => Nat → ex_L) (fun _ => []) (fun v _ ih i => (i, v) :: ih (i + 1)) l i
/-- an answer that is a boolean is 0 or 1 -/
noncomputable def ex_zok (en : ex_E) (z : Nat) (v : ex_V) : Bool := bif Nat.beq z 1 then (match ex_cst en v with
  | some u => Nat.beq u 2147483648 || Nat.beq u 2147483649
  | none => false) else true
/-- what a method leaves: its answer on the caller's row -/
noncomputable def ex_ret (z : Nat) (r : List ex_P) (lv : ex_L) (rest : List ex_V) (cc ss : Nat) (o : ex_E × ex_S) : Option (ex_E × ex_S) := match o with
  | (e, (q :: _, _, st, h, n, _, _)) => (match q.2.1, st with
    | .ireturn, [v] => bif ex_isI v && ex_zok e z v then some (e, (r, lv, v :: rest, h, n, cc, ss)) else none
    | .areturn, [v] => bif ex_isR v then some (e, (r, lv, v :: rest, h, n, cc, ss)) else none
    | .return_, [] => some (e, (r, lv, rest, h, n, cc, ss))
    | _, _ => none)
  | _ => none
noncomputable def ex_all (f : ex_E × ex_S → Option (List (ex_E × ex_S))) (l : List (ex_E × ex_S)) : Option (List (ex_E × ex_S)) := List.rec (motive := fun _ => Option (List (ex_E × ex_S))) (some []) (fun a _ ih => match f a with
  | none => none
  | some x => (match ih with
    | none => none
    | some y => some (ex_app x y))) l
noncomputable def ex_rets (z : Nat) (r : List ex_P) (lv : ex_L) (rest : List ex_V) (cc ss : Nat) (l : List (ex_E × ex_S)) : Option (List (ex_E × ex_S)) := List.rec (motive := fun _ => Option (List (ex_E × ex_S))) (some []) (fun a _ ih => match ex_ret z r lv rest cc ss a with
  | none => none
  | some x => (match ih with
    | none => none
    | some y => some (x :: y))) l
/-- the run: up to returns, or (in the law's own frame) up to the place 'stop' -/
noncomputable def ex_run (mt : Nat → Option ex_M) (df : Nat → List ex_V) (L : Nat) (f : Nat) : Nat → Nat → Bool → ex_M → ex_E → ex_S → Option (List (ex_E × ex_S)) := Nat.rec (motive := fun _ => Nat → Nat → Bool → ex_M → ex_E → ex_S → Option (List (ex_E × ex_S))) (fun _ _ _ _ _ _ => none) (fun _ ih stop d isl M en s => match s with
  | ([], _) => none
  | (q :: r, lv, st, h, n, cc, ss) =>
    bif ex_end q || Nat.beq q.1 stop then some [(en, s)] else
    bif ex_call q then (match d with
      | 0 => none
      | d' + 1 => (match mt q.2.2.2.1 with
        | none => none
        | some M' => (match ex_take q.2.2.2.2.1 [] st with
          | none => none
          | some ar => bif Nat.ble (ex_len ar.2) 4 && Nat.ble (cc + M'.2.2.2.1) M.2.2.2.1 && Nat.ble (ss + M'.2.2.2.2) M.2.2.2.2 && (match r with
              | [] => false
              | q' :: _ => Nat.beq q'.1 (q.1 + 3)) then (match ih 1000000 d' false M' en (M'.1, ex_args ar.1 0, [], h, n, 0, 0) with
            | none => none
            | some outs => (match ex_rets M'.2.2.1 r lv ar.2 (cc + M'.2.2.2.1) (ss + M'.2.2.2.2) outs with
              | none => none
              | some l => ex_all (fun o => ih stop d isl M o.1 o.2) l)) else none)))
    else (match ex_step M.1 isl L M.2.1 (M.2.2.2.1, M.2.2.2.2) df en q r lv st h n cc ss with
      | none => none
      | some l => ex_all (fun o => ih stop d isl M o.1 o.2) l)) f
end
section
def ex_u (x : Int32) : Nat := (x.toBitVec.toNat + 2147483648) % 4294967296
theorem ex_u_lt (x : Int32) : ex_u x < 4294967296 := Nat.mod_lt _ (by decide)
theorem ex_u_int (x : Int32) : (ex_u x : Int) = x.toInt + 2147483648 := by
  have h := x.toBitVec.isLt
  have e : x.toInt = x.toBitVec.toInt := rfl
  rw [e, BitVec.toInt_eq_toNat_cond]
  unfold ex_u
  split <;> omega
theorem ex_u_inj {x y : Int32} (h : ex_u x = ex_u y) : x = y := by
  have h1 := ex_u_int x
  have h2 := ex_u_int y
  exact Int32.toInt_inj.mp (by omega)
theorem ex_u_lti {x y : Int32} : x < y ↔ ex_u x < ex_u y := by
  have h1 := ex_u_int x
  have h2 := ex_u_int y
  rw [Int32.lt_iff_toInt_lt]
  omega
theorem ex_u_lei {x y : Int32} : x ≤ y ↔ ex_u x ≤ ex_u y := by
  have h1 := ex_u_int x
  have h2 := ex_u_int y
  rw [Int32.le_iff_toInt_le]
  omega
theorem ex_u_0 : ex_u 0 = 2147483648 := by decide
theorem ex_u_nneg {x : Int32} (h : 2147483648 ≤ ex_u x) : ¬ x < 0 := by
  rw [ex_u_lti, ex_u_0]; omega
theorem ex_u_cl {x : Int32} (h : 2147483648 ≤ ex_u x) : x.toNatClampNeg = ex_u x - 2147483648 := by
  have h1 := ex_u_int x
  have e : x.toNatClampNeg = x.toInt.toNat := rfl
  rw [e]; omega
theorem ex_u_tn (x : Int32) : x.toBitVec.toNat = ex_t (ex_u x) := by
  have h := x.toBitVec.isLt
  unfold ex_t ex_u
  omega
theorem ex_u_of (x : Int32) : ex_u x = ex_t x.toBitVec.toNat := rfl
theorem ex_u_add (x y : Int32) : ex_u (x + y) = (ex_u x + ex_u y + 2147483648) % 4294967296 := by
  have h1 := x.toBitVec.isLt
  have h2 := y.toBitVec.isLt
  have e : (x + y).toBitVec.toNat = (x.toBitVec.toNat + y.toBitVec.toNat) % 4294967296 := by rw [Int32.toBitVec_add, BitVec.toNat_add]
  unfold ex_u
  rw [e]; omega
theorem ex_u_sub (x y : Int32) : ex_u (x - y) = (ex_u x + 6442450944 - ex_u y) % 4294967296 := by
  have h1 := x.toBitVec.isLt
  have h2 := y.toBitVec.isLt
  have e : (x - y).toBitVec.toNat = (4294967296 - y.toBitVec.toNat + x.toBitVec.toNat) % 4294967296 := by rw [Int32.toBitVec_sub, BitVec.toNat_sub]
  unfold ex_u
  rw [e]; omega
theorem ex_u_mul (x y : Int32) : ex_u (x * y) = ex_t (ex_t (ex_u x) * ex_t (ex_u y) % 4294967296) := by
  rw [ex_u_of, ← ex_u_tn x, ← ex_u_tn y, Int32.toBitVec_mul, BitVec.toNat_mul]
theorem ex_u_and (x y : Int32) : ex_u (x &&& y) = ex_t (Nat.land (ex_t (ex_u x)) (ex_t (ex_u y))) := by
  rw [ex_u_of, ← ex_u_tn x, ← ex_u_tn y, Int32.toBitVec_and, BitVec.toNat_and]; rfl
theorem ex_u_or (x y : Int32) : ex_u (x ||| y) = ex_t (Nat.lor (ex_t (ex_u x)) (ex_t (ex_u y))) := by
  rw [ex_u_of, ← ex_u_tn x, ← ex_u_tn y, Int32.toBitVec_or, BitVec.toNat_or]; rfl
theorem ex_u_xor (x y : Int32) : ex_u (x ^^^ y) = ex_t (Nat.xor (ex_t (ex_u x)) (ex_t (ex_u y))) := by
  rw [ex_u_of, ← ex_u_tn x, ← ex_u_tn y, Int32.toBitVec_xor, BitVec.toNat_xor]; rfl
theorem ex_u_div {x y : Int32} (hx : 2147483648 ≤ ex_u x) (hy : 2147483649 ≤ ex_u y) : ex_u (x / y) = (ex_u x - 2147483648) / (ex_u y - 2147483648) + 2147483648 := by
  have l1 := ex_u_lt x
  have l2 := ex_u_lt y
  have e1 : x = nI (ex_u x - 2147483648) := ex_u_inj (by have := ex_u_int x; have h := ex_u_int (nI (ex_u x - 2147483648)); rw [nI_toInt (by omega)] at h; omega)
  have e2 : y = nI (ex_u y - 2147483648) := ex_u_inj (by have := ex_u_int y; have h := ex_u_int (nI (ex_u y - 2147483648)); rw [nI_toInt (by omega)] at h; omega)
  have d := pk_div (a := ex_u x - 2147483648) (d := ex_u y - 2147483648) (by omega) (by omega) (by omega)
  rw [← e1, ← e2] at d
  have hq : (ex_u x - 2147483648) / (ex_u y - 2147483648) ≤ ex_u x - 2147483648 := Nat.div_le_self _ _
  have h := ex_u_int (x / y)
  have d2 : (x / y).toInt = (((ex_u x - 2147483648) / (ex_u y - 2147483648) : Nat) : Int) := by rw [d, nI_toInt (by omega)]
  omega
theorem ex_u_rem {x y : Int32} (hx : 2147483648 ≤ ex_u x) (hy : 2147483649 ≤ ex_u y) : ex_u (x - x / y * y) = (ex_u x - 2147483648) % (ex_u y - 2147483648) + 2147483648 := by
  have l1 := ex_u_lt x
  have l2 := ex_u_lt y
  have e1 : x = nI (ex_u x - 2147483648) := ex_u_inj (by have := ex_u_int x; have h := ex_u_int (nI (ex_u x - 2147483648)); rw [nI_toInt (by omega)] at h; omega)
  have e2 : y = nI (ex_u y - 2147483648) := ex_u_inj (by have := ex_u_int y; have h := ex_u_int (nI (ex_u y - 2147483648)); rw [nI_toInt (by omega)] at h; omega)
  have d := pk_rem (a := ex_u x - 2147483648) (d := ex_u y - 2147483648) (by omega) (by omega) (by omega)
  rw [← e1, ← e2] at d
  have hq : (ex_u x - 2147483648) % (ex_u y - 2147483648) < ex_u y - 2147483648 := Nat.mod_lt _ (by omega)
  have h := ex_u_int (x - x / y * y)
  have d2 : (x - x / y * y).toInt = (((ex_u x - 2147483648) % (ex_u y - 2147483648) : Nat) : Int) := by rw [d, nI_toInt (by omega)]
  omega
theorem ex_bif {c : Bool} {α : Type} {a b : α} {P : α → Prop} (h : P (bif c then a else b)) : (c = true ∧ P a) ∨ (c = false ∧ P b) := by
  cases c
  · exact Or.inr ⟨rfl, h⟩
  · exact Or.inl ⟨rfl, h⟩
theorem ex_bifs {c : Bool} {α : Type} {a : Option α} {v : α} (h : (bif c then a else none) = some v) : c = true ∧ a = some v := by
  cases c
  · cases h
  · exact ⟨rfl, h⟩
theorem ex_beq {a b : Nat} (h : Nat.beq a b = true) : a = b := Nat.eq_of_beq_eq_true h
theorem ex_bne {a b : Nat} (h : Nat.beq a b = false) : a ≠ b := Nat.ne_of_beq_eq_false h
theorem ex_ble {a b : Nat} (h : Nat.ble a b = true) : a ≤ b := Nat.le_of_ble_eq_true h
theorem ex_blt {a b : Nat} (h : Nat.blt a b = true) : a < b := Nat.le_of_ble_eq_true h
theorem ex_and {a b : Bool} (h : (a && b) = true) : a = true ∧ b = true := by cases a <;> cases b <;> first | exact ⟨rfl, rfl⟩ | cases h
-- lists
theorem ex_nth_get {α : Type} (l : List α) (k : Nat) : ex_nth l k = l[k]? := by
  induction l generalizing k with
  | nil => rfl
  | cons a t ih => cases k with
    | zero => rfl
    | succ k => exact (ih k).trans (List.getElem?_cons_succ).symm
theorem ex_set_eq {α : Type} (l : List α) (k : Nat) (v : α) : ex_set l k v = l.set k v := by
  induction l generalizing k with
  | nil => rfl
  | cons a t ih => cases k with
    | zero => rfl
    | succ k => exact congrArg (a :: ·) (ih k)
theorem ex_app_eq {α : Type} (l r : List α) : ex_app l r = l ++ r := by
  induction l with
  | nil => rfl
  | cons a t ih => exact congrArg (a :: ·) ih
theorem ex_len_eq {α : Type} (l : List α) : ex_len l = l.length := by
  induction l with
  | nil => rfl
  | cons a t ih => exact congrArg (· + 1) ih
theorem ex_map_eq {α β : Type} (f : α → β) (l : List α) : ex_map f l = l.map f := by
  induction l with
  | nil => rfl
  | cons a t ih => exact congrArg (f a :: ·) ih
theorem ex_range_mem (n lo x : Nat) : x ∈ ex_range n lo ↔ lo ≤ x ∧ x < lo + n := by
  induction n generalizing lo with
  | zero => exact ⟨fun h => absurd h List.not_mem_nil, fun h => by omega⟩
  | succ n ih =>
    show x ∈ lo :: ex_range n (lo + 1) ↔ _
    rw [List.mem_cons, ih]
    omega
theorem ex_get_at {h : ex_H} {k : Nat} {c : ex_C} (e : ex_get h k = some c) : ∃ ch, h[k / 32]? = some ch ∧ ch[k % 32]? = some c := by
  unfold ex_get at e
  split at e
  · rename_i ch hc
    rw [ex_nth_get] at hc e
    exact ⟨ch, hc, e⟩
  · cases e
theorem ex_get_of {h : ex_H} {k : Nat} {c : ex_C} {ch : List ex_C} (e1 : h[k / 32]? = some ch) (e2 : ch[k % 32]? = some c) : ex_get h k = some c := by
  unfold ex_get
  rw [ex_nth_get, e1]
  exact (ex_nth_get _ _).trans e2
theorem ex_put_get {h : ex_H} {k : Nat} {c : ex_C} {j : Nat} {c' : ex_C} (e : ex_get (ex_put h k c) j = some c') : (j = k ∧ c' = c) ∨ (j ≠ k ∧ ex_get h j = some c') := by
  obtain ⟨ch, h1, h2⟩ := ex_get_at e
  unfold ex_put at h1
  split at h1
  · rename_i ck hk
    rw [ex_nth_get] at hk
    rw [ex_set_eq, List.getElem?_set] at h1
    by_cases hd : k / 32 = j / 32
    · rw [if_pos hd] at h1
      split at h1
      · cases h1
        rw [ex_set_eq, List.getElem?_set] at h2
        by_cases hm : k % 32 = j % 32
        · rw [if_pos hm] at h2
          split at h2
          · cases h2
            exact Or.inl ⟨by omega, rfl⟩
          · cases h2
        · rw [if_neg hm] at h2
          exact Or.inr ⟨fun q => hm (by rw [q]), ex_get_of (by rw [← hd]; exact hk) h2⟩
      · cases h1
    · rw [if_neg hd] at h1
      exact Or.inr ⟨fun q => hd (by rw [q]), ex_get_of h1 h2⟩
  · rename_i hn
    refine Or.inr ⟨fun q => ?_, ex_get_of h1 h2⟩
    subst q
    rw [ex_nth_get] at hn
    rw [h1] at hn
    cases hn
theorem ex_push_get {h h' : ex_H} {n : Nat} {c : ex_C} (e : ex_push h n c = some h') {j : Nat} {c' : ex_C} (g : ex_get h' j = some c') : (j = n ∧ c' = c) ∨ ex_get h j = some c' := by
  obtain ⟨ch, h1, h2⟩ := ex_get_at g
  unfold ex_push at e
  rcases ex_bif (P := fun z => z = some h') e with ⟨e0, e1⟩ | ⟨e0, e1⟩
  · obtain ⟨e2, e3⟩ := ex_bifs e1
    cases e3
    have e0 := ex_beq e0
    have e2 := ex_beq e2
    rw [ex_len_eq] at e2
    rw [ex_app_eq] at h1
    by_cases hl : j / 32 < h.length
    · rw [List.getElem?_append_left hl] at h1
      exact Or.inr (ex_get_of h1 h2)
    · rw [List.getElem?_append_right (by omega)] at h1
      have hz : j / 32 - h.length < 1 := (List.getElem?_eq_some_iff.mp h1).1
      rw [show j / 32 - h.length = 0 by omega] at h1
      cases h1
      have hz2 : j % 32 < 1 := (List.getElem?_eq_some_iff.mp h2).1
      rw [show j % 32 = 0 by omega] at h2
      cases h2
      exact Or.inl ⟨by omega, rfl⟩
  · have e0 := ex_bne e0
    split at e1
    · rename_i ck hk
      obtain ⟨e2, e3⟩ := ex_bifs e1
      cases e3
      have e2 := ex_beq e2
      rw [ex_len_eq] at e2
      rw [ex_nth_get] at hk
      rw [ex_set_eq, List.getElem?_set] at h1
      by_cases hd : n / 32 = j / 32
      · rw [if_pos hd] at h1
        split at h1
        · cases h1
          rw [ex_app_eq] at h2
          by_cases hl : j % 32 < ck.length
          · rw [List.getElem?_append_left hl] at h2
            exact Or.inr (ex_get_of (by rw [← hd]; exact hk) h2)
          · rw [List.getElem?_append_right (by omega)] at h2
            have hz : j % 32 - ck.length < 1 := (List.getElem?_eq_some_iff.mp h2).1
            rw [show j % 32 - ck.length = 0 by omega] at h2
            cases h2
            exact Or.inl ⟨by omega, rfl⟩
        · cases h1
      · rw [if_neg hd] at h1
        exact Or.inr (ex_get_of h1 h2)
    · cases e1
theorem ex_lk_mem {α : Type} {l : List (Nat × α)} {i : Nat} {v : α} (h : ex_lk l i = some v) : (i, v) ∈ l := by
  induction l with
  | nil => cases h
  | cons q t ih =>
    rcases ex_bif (P := fun z => z = some v) (show (bif Nat.beq q.1 i then some q.2 else ex_lk t i) = some v from h) with ⟨h1, h2⟩ | ⟨h1, h2⟩
    · cases h2
      have := ex_beq h1
      subst this
      exact List.mem_cons_self
    · exact List.mem_cons_of_mem _ (ih h2)
theorem ex_ovset_lk (l : List (Nat × ex_V)) (i : Nat) (v : ex_V) (j : Nat) : ex_lk (ex_ovset l i v) j = if j = i then some v else ex_lk l j := by
  induction l with
  | nil =>
    show (bif Nat.beq i j then some v else none) = _
    by_cases h : j = i
    · subst h
      rw [if_pos rfl, show Nat.beq j j = true from Nat.beq_refl j]; rfl
    · rw [if_neg h]
      cases hb : Nat.beq i j
      · rfl
      · exact absurd (ex_beq hb).symm h
  | cons q t ih =>
    show ex_lk (bif Nat.beq q.1 i then (i, v) :: t else q :: ex_ovset t i v) j = _
    cases hq : Nat.beq q.1 i
    · show (bif Nat.beq q.1 j then some q.2 else ex_lk (ex_ovset t i v) j) = if j = i then some v else (bif Nat.beq q.1 j then some q.2 else ex_lk t j)
      cases hj : Nat.beq q.1 j
      · exact ih
      · rw [if_neg (fun e => ex_bne hq (by rw [ex_beq hj, e]))]; rfl
    · show (bif Nat.beq i j then some v else ex_lk t j) = if j = i then some v else (bif Nat.beq q.1 j then some q.2 else ex_lk t j)
      rw [ex_beq hq]
      cases hj : Nat.beq i j
      · rw [if_neg (fun e => ex_bne hj e.symm)]; rfl
      · rw [if_pos (ex_beq hj).symm]; rfl
end
section
/-! what an executor's state says of the machine's -/
def ex_vr (ρ : Nat → Int32) (b : Nat) (ws : va_W) (v : ex_V) (x : Value) : Prop := match v with
  | .inl (.inl n) => ∃ y : Int32, x = .int y ∧ ex_u y = n
  | .inl (.inr (.inl i)) => x = .int (ρ i)
  | .inl (.inr (.inr q)) => ∃ y : Int32, x = .int y ∧ q.1 ≤ ex_u y ∧ ex_u y ≤ q.2
  | .inr (.inl none) => x = .null
  | .inr (.inl (some k)) => ∃ (a : Nat) (e : va_E), ws[k]? = some (a, e) ∧ x = .ref a
  | .inr (.inr (.inl z)) => x = .long z
  | .inr (.inr (.inr ())) => x = .ref b
def ex_er (ρ : Nat → Int32) (en : ex_E) : Prop := ∀ (i : Nat) (q : Nat × Nat), ex_nth en i = some q → q.1 ≤ ex_u (ρ i) ∧ ex_u (ρ i) ≤ q.2
def ex_ty (t : Nat) : FieldType := if t = 0 then .int else if t = 1 then .byte else if t = 2 then .long else if t = 3 then .boolean else .object "HatchLights$Scene"
def ex_ag (a : vp_A) (j : Nat) : Value := match a.2 with
  | .inl f => .int (f j)
  | .inr (.inl f) => .long (f j)
  | .inr (.inr (.inl f)) => .float (f j)
  | .inr (.inr (.inr (.inl f))) => .double (f j)
  | .inr (.inr (.inr (.inr f))) => va_rf (f j)
def ex_ak (t : Nat) (a : vp_A) : Prop := if t = 2 then ∃ f, a.2 = .inr (.inl f) else if t = 4 then ∃ f, a.2 = .inr (.inr (.inr (.inr f))) else ∃ f, a.2 = .inl f
def ex_cr (ρ : Nat → Int32) (b : Nat) (tys : List (ClassId × FieldType)) (ws : va_W) (c : ex_C) (e : va_E) : Prop := match c, e with
  | .inl o, .inr w => o.1 = w.1 ∧ o.2.length = w.2.length ∧ ∀ (k : Nat) (v : ex_V), ex_nth o.2 k = some v → ∃ x, w.2[k]? = some x ∧ ex_vr ρ b ws v x
  | .inr o, .inl w => (w.1, ex_ty o.1) ∈ tys ∧ o.1 ≤ 4 ∧ w.2.1 = o.2.1 ∧ ex_ak o.1 w.2 ∧ ∀ j, j < o.2.1 → ex_vr ρ b ws (ex_ov o.1 o.2.2 j) (ex_ag w.2 j)
  | _, _ => False
def ex_hr (ρ : Nat → Int32) (b : Nat) (tys : List (ClassId × FieldType)) (ws : va_W) (h : ex_H) (n : Nat) : Prop := ws.length = n ∧ ∀ (k : Nat) (c : ex_C), ex_get h k = some c → ∃ (a : Nat) (e : va_E), ws[k]? = some (a, e) ∧ ex_cr ρ b tys ws c e
def ex_sr (ρ : Nat → Int32) (b : Nat) (ws : va_W) : List ex_V → List Value → Prop
  | [], [] => True
  | v :: s, x :: xs => ex_vr ρ b ws v x ∧ ex_sr ρ b ws s xs
  | _, _ => False
def ex_lr (ρ : Nat → Int32) (b : Nat) (ws : va_W) : ex_L → List (Nat × Value) → Prop
  | [], [] => True
  | q :: s, x :: xs => (q.1 = x.1 ∧ ex_vr ρ b ws q.2 x.2) ∧ ex_lr ρ b ws s xs
  | _, _ => False
/-- the cells stay where they are -/
def ex_xt (ws ws' : va_W) : Prop := ∀ (k : Nat) (a : Nat) (e : va_E), ws[k]? = some (a, e) → ∃ e', ws'[k]? = some (a, e')
theorem ex_xt.rf {ws : va_W} : ex_xt ws ws := fun _ _ e h => ⟨e, h⟩
theorem ex_xt.tr {w1 w2 w3 : va_W} (h1 : ex_xt w1 w2) (h2 : ex_xt w2 w3) : ex_xt w1 w3 := fun k a e h => by
  obtain ⟨e', h'⟩ := h1 k a e h
  exact h2 k a e' h'
theorem ex_xt.set {ws : va_W} {k : Nat} {a : Nat} {e e' : va_E} (h : ws[k]? = some (a, e)) : ex_xt ws (ws.set k (a, e')) := fun j x y hj => by
  by_cases q : k = j
  · subst q
    rw [h] at hj
    cases hj
    exact ⟨e', by rw [List.getElem?_set_self (List.getElem?_eq_some_iff.mp h).1]⟩
  · exact ⟨y, by rw [List.getElem?_set_ne q]; exact hj⟩
theorem ex_xt.app {ws w : va_W} : ex_xt ws (ws ++ w) := fun k a e h => ⟨e, by rw [List.getElem?_append_left (List.getElem?_eq_some_iff.mp h).1]; exact h⟩
section EXM
variable {ρ : Nat → Int32} {b : Nat} {tys tys' : List (ClassId × FieldType)} {ws ws' : va_W}
theorem ex_vr.mono (hx : ex_xt ws ws') {v : ex_V} {x : Value} (h : ex_vr ρ b ws v x) : ex_vr ρ b ws' v x := by
  rcases v with (n | i | q) | (_ | k) | z | _
  · exact h
  · exact h
  · exact h
  · exact h
  · obtain ⟨a, e, h1, h2⟩ := h
    obtain ⟨e', h3⟩ := hx k a e h1
    exact ⟨a, e', h3, h2⟩
  · exact h
  · exact h
theorem ex_sr.mono (hx : ex_xt ws ws') : ∀ {st : List ex_V} {xs : List Value}, ex_sr ρ b ws st xs → ex_sr ρ b ws' st xs
  | [], [], _ => trivial
  | _ :: _, _ :: _, h => ⟨h.1.mono hx, ex_sr.mono hx h.2⟩
  | [], _ :: _, h => h.elim
  | _ :: _, [], h => h.elim
theorem ex_lr.mono (hx : ex_xt ws ws') : ∀ {lv : ex_L} {lw : List (Nat × Value)}, ex_lr ρ b ws lv lw → ex_lr ρ b ws' lv lw
  | [], [], _ => trivial
  | _ :: _, _ :: _, h => ⟨⟨h.1.1, h.1.2.mono hx⟩, ex_lr.mono hx h.2⟩
  | [], _ :: _, h => h.elim
  | _ :: _, [], h => h.elim
theorem ex_cr.mono (hx : ex_xt ws ws') (ht : ∀ t ∈ tys, t ∈ tys') {c : ex_C} {e : va_E} (h : ex_cr ρ b tys ws c e) : ex_cr ρ b tys' ws' c e := by
  rcases c with o | o <;> rcases e with w | w
  · exact h
  · exact ⟨h.1, h.2.1, fun k v hk => by obtain ⟨x, h1, h2⟩ := h.2.2 k v hk; exact ⟨x, h1, h2.mono hx⟩⟩
  · exact ⟨ht _ h.1, h.2.1, h.2.2.1, h.2.2.2.1, fun j hj => (h.2.2.2.2 j hj).mono hx⟩
  · exact h
theorem ex_sr_cons {v : ex_V} {st : List ex_V} {xs : List Value} (h : ex_sr ρ b ws (v :: st) xs) : ∃ x xr, xs = x :: xr ∧ ex_vr ρ b ws v x ∧ ex_sr ρ b ws st xr := by
  cases xs with
  | nil => exact h.elim
  | cons x xr => exact ⟨x, xr, rfl, h.1, h.2⟩
theorem ex_sr_nil {xs : List Value} (h : ex_sr ρ b ws [] xs) : xs = [] := by
  cases xs with
  | nil => rfl
  | cons x xr => exact h.elim
/-- an int's bounds -/
theorem ex_vr_int {v : ex_V} {x : Value} (h : ex_vr ρ b ws v x) (hi : ex_isI v = true) : ∃ y : Int32, x = .int y := by
  rcases v with (n | i | q) | v
  · exact ⟨h.choose, h.choose_spec.1⟩
  · exact ⟨_, h⟩
  · exact ⟨h.choose, h.choose_spec.1⟩
  · cases hi
theorem ex_b_ok {en : ex_E} (he : ex_er ρ en) {v : ex_V} {q : Nat × Nat} (hb : ex_b en v = some q) {y : Int32} (h : ex_vr ρ b ws v (.int y)) : q.1 ≤ ex_u y ∧ ex_u y ≤ q.2 := by
  rcases v with (n | i | r) | v
  · obtain ⟨z, h1, h2⟩ := h
    cases h1
    cases hb
    exact ⟨Nat.le_of_eq h2.symm, Nat.le_of_eq h2⟩
  · cases h
    exact he i q hb
  · obtain ⟨z, h1, h2⟩ := h
    cases h1
    cases hb
    exact h2
  · cases hb
theorem ex_b_isI {en : ex_E} {v : ex_V} {q : Nat × Nat} (hb : ex_b en v = some q) : ex_isI v = true := by
  rcases v with (n | i | r) | v <;> first | rfl | cases hb
theorem ex_cst_b {en : ex_E} {v : ex_V} {u : Nat} (hc : ex_cst en v = some u) : ex_b en v = some (u, u) := by
  unfold ex_cst at hc
  split at hc
  · rename_i q hq
    obtain ⟨h1, h2⟩ := ex_bifs hc
    cases h2
    have := ex_beq h1
    rw [hq, show q = (q.1, q.2) from rfl, ← this]
  · cases hc
theorem ex_cst_ok {en : ex_E} (he : ex_er ρ en) {v : ex_V} {u : Nat} (hc : ex_cst en v = some u) {y : Int32} (h : ex_vr ρ b ws v (.int y)) : ex_u y = u := by
  have := ex_b_ok he (ex_cst_b hc) h
  exact Nat.le_antisymm this.2 this.1
theorem ex_cst_isI {en : ex_E} {v : ex_V} {u : Nat} (hc : ex_cst en v = some u) : ex_isI v = true := ex_b_isI (ex_cst_b hc)
theorem ex_mx_ok (a c : Nat) : ex_mx a c = max a c := by
  unfold ex_mx
  cases h : Nat.ble a c
  · have : ¬ a ≤ c := fun q => by rw [Nat.ble_eq_true_of_le q] at h; cases h
    show a = _; omega
  · have := ex_ble h
    show c = _; omega
theorem ex_mn_ok (a c : Nat) : ex_mn a c = min a c := by
  unfold ex_mn
  cases h : Nat.ble a c
  · have : ¬ a ≤ c := fun q => by rw [Nat.ble_eq_true_of_le q] at h; cases h
    show c = _; omega
  · have := ex_ble h
    show a = _; omega
theorem ex_nble {a c : Nat} (h : Nat.ble a c = false) : c < a := by
  rcases Nat.lt_or_ge c a with q | q
  · exact q
  · rw [Nat.ble_eq_true_of_le q] at h; cases h
theorem ex_rf_ok {en : ex_E} (he : ex_er ρ en) {v : ex_V} {y : Int32} (h : ex_vr ρ b ws v (.int y)) {lo hi : Nat} (h1 : lo ≤ ex_u y) (h2 : ex_u y ≤ hi) : ∃ e', ex_rf en v lo hi = some e' ∧ ex_er ρ e' := by
  rcases v with (n | i | r) | v
  · obtain ⟨z, e1, e2⟩ := h
    cases e1
    refine ⟨en, ?_, he⟩
    show (bif Nat.ble lo n && Nat.ble n hi then some en else none) = _
    rw [Nat.ble_eq_true_of_le (show lo ≤ n by omega), Nat.ble_eq_true_of_le (show n ≤ hi by omega)]; rfl
  · cases h
    unfold ex_rf
    cases hn : ex_nth en i with
    | none => exact ⟨en, by simp only [hn], he⟩
    | some q =>
      have hb := he i q hn
      refine ⟨ex_set en i (ex_mx q.1 lo, ex_mn q.2 hi), ?_, fun j r hj => ?_⟩
      · simp only [hn]
        rw [Nat.ble_eq_true_of_le (show ex_mx q.1 lo ≤ ex_mn q.2 hi by rw [ex_mx_ok, ex_mn_ok]; omega)]; rfl
      · rw [ex_nth_get, ex_set_eq, List.getElem?_set] at hj
        split at hj
        · rename_i hij
          subst hij
          split at hj
          · cases hj
            show ex_mx q.1 lo ≤ _ ∧ _ ≤ ex_mn q.2 hi
            rw [ex_mx_ok, ex_mn_ok]; omega
          · cases hj
        · exact he j r (by rw [ex_nth_get]; exact hj)
  · obtain ⟨z, e1, e2⟩ := h
    cases e1
    refine ⟨en, ?_, he⟩
    show (bif Nat.ble (ex_mx r.1 lo) (ex_mn r.2 hi) then some en else none) = _
    rw [Nat.ble_eq_true_of_le (show ex_mx r.1 lo ≤ ex_mn r.2 hi by rw [ex_mx_ok, ex_mn_ok]; omega)]; rfl
  · exact ⟨en, rfl, he⟩
theorem ex_1_ok {en : ex_E} (he : ex_er ρ en) {v : ex_V} {y : Int32} (h : ex_vr ρ b ws v (.int y)) {lo hi : Nat} (h1 : lo ≤ ex_u y) (h2 : ex_u y ≤ hi) : ∃ e' ∈ ex_1 en v lo hi, ex_er ρ e' := by
  obtain ⟨e', e1, e2⟩ := ex_rf_ok he h h1 h2
  exact ⟨e', by unfold ex_1; rw [e1]; exact List.mem_singleton.mpr rfl, e2⟩
theorem ex_2_ok {en : ex_E} (he : ex_er ρ en) {v w : ex_V} {y z : Int32} (h : ex_vr ρ b ws v (.int y)) (k : ex_vr ρ b ws w (.int z)) {la ha lb hb : Nat} (h1 : la ≤ ex_u y) (h2 : ex_u y ≤ ha) (k1 : lb ≤ ex_u z) (k2 : ex_u z ≤ hb) : ∃ e' ∈ ex_2 en v la ha w lb hb, ex_er ρ e' := by
  obtain ⟨e', e1, e2⟩ := ex_rf_ok he h h1 h2
  obtain ⟨e'', f1, f2⟩ := ex_rf_ok e2 k k1 k2
  exact ⟨e'', by unfold ex_2; rw [e1]; simp only [f1]; exact List.mem_singleton.mpr rfl, f2⟩
theorem ex_same_ok {v w : ex_V} {y z : Int32} (h : ex_vr ρ b ws v (.int y)) (k : ex_vr ρ b ws w (.int z)) (hs : ex_same v w = true) : y = z := by
  rcases v with (n | i | r) | v <;> rcases w with (n' | i' | r') | w <;> first | (cases hs; done) | skip
  have := ex_beq hs
  subst this
  have h1 : Value.int y = .int (ρ i) := h
  have h2 : Value.int z = .int (ρ i) := k
  rw [← h2] at h1
  cases h1
  rfl
theorem ex_lt_ok {en : ex_E} (he : ex_er ρ en) {v w : ex_V} {y z : Int32} (h : ex_vr ρ b ws v (.int y)) (k : ex_vr ρ b ws w (.int z)) {qa qb : Nat × Nat} (ha : ex_b en v = some qa) (hb : ex_b en w = some qb) (hlt : y < z) : ∃ e' ∈ ex_lt en v w qa qb, ex_er ρ e' := by
  have a1 := ex_b_ok he ha h
  have b1 := ex_b_ok he hb k
  have l1 := ex_u_lti.mp hlt
  have l2 := ex_u_lt z
  unfold ex_lt
  cases hs : ex_same v w
  · exact ex_2_ok he h k (Nat.zero_le _) (by omega) (by omega) (by omega)
  · have := ex_same_ok h k hs
    subst this
    omega
theorem ex_ge_ok {en : ex_E} (he : ex_er ρ en) {v w : ex_V} {y z : Int32} (h : ex_vr ρ b ws v (.int y)) (k : ex_vr ρ b ws w (.int z)) {qa qb : Nat × Nat} (ha : ex_b en v = some qa) (hb : ex_b en w = some qb) (hlt : ¬ y < z) : ∃ e' ∈ ex_ge en v w qa qb, ex_er ρ e' := by
  have a1 := ex_b_ok he ha h
  have b1 := ex_b_ok he hb k
  have l1 : ¬ ex_u y < ex_u z := fun q => hlt (ex_u_lti.mpr q)
  have l2 := ex_u_lt y
  exact ex_2_ok he h k (by omega) (by omega) (Nat.zero_le _) (by omega)
theorem ex_eq_ok {en : ex_E} (he : ex_er ρ en) {v w : ex_V} {y z : Int32} (h : ex_vr ρ b ws v (.int y)) (k : ex_vr ρ b ws w (.int z)) {qa qb : Nat × Nat} (ha : ex_b en v = some qa) (hb : ex_b en w = some qb) (heq : y = z) : ∃ e' ∈ ex_eq en v w qa qb, ex_er ρ e' := by
  have a1 := ex_b_ok he ha h
  have b1 := ex_b_ok he hb k
  subst heq
  exact ex_2_ok he h k (by omega) (by omega) (by omega) (by omega)
theorem ex_ne_ok {en : ex_E} (he : ex_er ρ en) {v w : ex_V} {y z : Int32} (h : ex_vr ρ b ws v (.int y)) (k : ex_vr ρ b ws w (.int z)) {qa qb : Nat × Nat} (ha : ex_b en v = some qa) (hb : ex_b en w = some qb) (hne : ¬ y = z) : ∃ e' ∈ ex_ne en v w qa qb, ex_er ρ e' := by
  have a1 := ex_b_ok he ha h
  have b1 := ex_b_ok he hb k
  have l1 : ex_u y ≠ ex_u z := fun q => hne (ex_u_inj q)
  have ly := ex_u_lt y
  have lz := ex_u_lt z
  unfold ex_ne
  cases hs : ex_same v w
  · cases h2 : Nat.beq qb.1 qb.2
    · cases h3 : Nat.beq qa.1 qa.2
      · exact ⟨en, List.mem_singleton.mpr rfl, he⟩
      · have := ex_beq h3
        show ∃ e' ∈ ex_app (ex_1 en w 0 (qa.1 - 1)) (ex_1 en w (qa.1 + 1) 4294967295), _
        rw [ex_app_eq]
        rcases Nat.lt_or_gt_of_ne l1 with q | q
        · obtain ⟨e', i1, i2⟩ := ex_1_ok he k (show qa.1 + 1 ≤ ex_u z by omega) (show ex_u z ≤ 4294967295 by omega)
          exact ⟨e', List.mem_append_right _ i1, i2⟩
        · obtain ⟨e', i1, i2⟩ := ex_1_ok he k (Nat.zero_le _) (show ex_u z ≤ qa.1 - 1 by omega)
          exact ⟨e', List.mem_append_left _ i1, i2⟩
    · have := ex_beq h2
      show ∃ e' ∈ ex_app (ex_1 en v 0 (qb.1 - 1)) (ex_1 en v (qb.1 + 1) 4294967295), _
      rw [ex_app_eq]
      rcases Nat.lt_or_gt_of_ne l1 with q | q
      · obtain ⟨e', i1, i2⟩ := ex_1_ok he h (Nat.zero_le _) (show ex_u y ≤ qb.1 - 1 by omega)
        exact ⟨e', List.mem_append_left _ i1, i2⟩
      · obtain ⟨e', i1, i2⟩ := ex_1_ok he h (show qb.1 + 1 ≤ ex_u y by omega) (show ex_u y ≤ 4294967295 by omega)
        exact ⟨e', List.mem_append_right _ i1, i2⟩
  · exact absurd (ex_same_ok h k hs) hne
/-- what a compare says -/
def ex_cm (c : ClassFile.Cond) (y z : Int32) : Prop := match c with
  | .eq => y = z
  | .ne => ¬ y = z
  | .lt => y < z
  | .ge => ¬ y < z
  | .gt => z < y
  | .le => ¬ z < y
theorem ex_br_ok {cd : ClassFile.Cond} {en : ex_E} (he : ex_er ρ en) {v w : ex_V} {y z : Int32} (h : ex_vr ρ b ws v (.int y)) (k : ex_vr ρ b ws w (.int z)) {tf : List ex_E × List ex_E} (hb : ex_br cd en v w = some tf) : (ex_cm cd y z → ∃ e' ∈ tf.1, ex_er ρ e') ∧ (¬ ex_cm cd y z → ∃ e' ∈ tf.2, ex_er ρ e') := by
  unfold ex_br at hb
  split at hb
  · cases hb
  · rename_i qa ha
    split at hb
    · cases hb
    · rename_i qb hc
      cases cd <;> cases hb
      · exact ⟨ex_eq_ok he h k ha hc, ex_ne_ok he h k ha hc⟩
      · exact ⟨ex_ne_ok he h k ha hc, fun q => ex_eq_ok he h k ha hc (Classical.not_not.mp q)⟩
      · exact ⟨ex_lt_ok he h k ha hc, ex_ge_ok he h k ha hc⟩
      · exact ⟨ex_ge_ok he h k ha hc, fun q => ex_lt_ok he h k ha hc (Classical.not_not.mp q)⟩
      · exact ⟨ex_lt_ok he k h hc ha, ex_ge_ok he k h hc ha⟩
      · exact ⟨ex_ge_ok he k h hc ha, fun q => ex_lt_ok he k h hc ha (Classical.not_not.mp q)⟩
theorem ex_full_ok (y : Int32) : ex_vr ρ b ws ex_full (.int y) := ⟨y, rfl, Nat.zero_le _, by have := ex_u_lt y; show ex_u y ≤ 4294967295; omega⟩
theorem ex_k_ok (y : Int32) {n : Nat} (h : ex_u y = n) : ex_vr ρ b ws (ex_k n) (.int y) := ⟨y, rfl, h⟩
end EXM
end
