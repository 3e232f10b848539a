section
-- ===== PART A: goes FIRST, ahead of the names: the tables' words, and 'selects' of the private methods out of them =====
/-- a private method of a class that the tables say can be made, by its rows of tables_1 -/
def lw_okq (q : MethodName × Nat) : Prop := (q.1.cls ≠ "java/lang/invoke/MethodHandle" ∧ q.1.cls ≠ "java/lang/invoke/VarHandle") ∧ Cond.instantiable q.1.cls q.2 ∈ tables_1 ∧ Cond.privateMethod q.1 ∈ tables_1 ∧ Cond.instanceMethod q.1 ∈ tables_1
theorem lw_p0 : lw_okq (⟨"HatchLights", "startAsTold", "()V"⟩, 15) := ⟨⟨by decide +kernel, by decide +kernel⟩, List.mem_of_getElem? (i := 22) (by decide +kernel), List.mem_of_getElem? (i := 396) (by decide +kernel), List.mem_of_getElem? (i := 397) (by decide +kernel)⟩
theorem lw_p1 : lw_okq (⟨"HatchLights$Scene", "join", "(II)V"⟩, 13) := ⟨⟨by decide +kernel, by decide +kernel⟩, List.mem_of_getElem? (i := 231) (by decide +kernel), List.mem_of_getElem? (i := 407) (by decide +kernel), List.mem_of_getElem? (i := 408) (by decide +kernel)⟩
theorem lw_p2 : lw_okq (⟨"HatchLights$Tokens", "skipBlanks", "(LHatchLights$Tape;I)I"⟩, 4) := ⟨⟨by decide +kernel, by decide +kernel⟩, List.mem_of_getElem? (i := 165) (by decide +kernel), List.mem_of_getElem? (i := 497) (by decide +kernel), List.mem_of_getElem? (i := 498) (by decide +kernel)⟩
theorem lw_p3 : lw_okq (⟨"HatchLights$Tokens", "cutOne", "(LHatchLights$Tape;I)I"⟩, 4) := ⟨⟨by decide +kernel, by decide +kernel⟩, List.mem_of_getElem? (i := 165) (by decide +kernel), List.mem_of_getElem? (i := 501) (by decide +kernel), List.mem_of_getElem? (i := 502) (by decide +kernel)⟩
theorem lw_p4 : lw_okq (⟨"HatchLights$Tokens", "cutWord", "(LHatchLights$Tape;I)I"⟩, 4) := ⟨⟨by decide +kernel, by decide +kernel⟩, List.mem_of_getElem? (i := 165) (by decide +kernel), List.mem_of_getElem? (i := 508) (by decide +kernel), List.mem_of_getElem? (i := 509) (by decide +kernel)⟩
theorem lw_p5 : lw_okq (⟨"HatchLights$Tokens", "kindOfWord", "(LHatchLights$Tape;II)I"⟩, 4) := ⟨⟨by decide +kernel, by decide +kernel⟩, List.mem_of_getElem? (i := 165) (by decide +kernel), List.mem_of_getElem? (i := 513) (by decide +kernel), List.mem_of_getElem? (i := 514) (by decide +kernel)⟩
theorem lw_p6 : lw_okq (⟨"HatchLights$Tokens", "cutNumber", "(LHatchLights$Tape;I)I"⟩, 4) := ⟨⟨by decide +kernel, by decide +kernel⟩, List.mem_of_getElem? (i := 165) (by decide +kernel), List.mem_of_getElem? (i := 561) (by decide +kernel), List.mem_of_getElem? (i := 562) (by decide +kernel)⟩
theorem lw_p7 : lw_okq (⟨"HatchLights$Tokens", "cutEnd", "()I"⟩, 4) := ⟨⟨by decide +kernel, by decide +kernel⟩, List.mem_of_getElem? (i := 165) (by decide +kernel), List.mem_of_getElem? (i := 632) (by decide +kernel), List.mem_of_getElem? (i := 633) (by decide +kernel)⟩
theorem lw_p8 : lw_okq (⟨"HatchLights$Reader", "readLine", "()Z"⟩, 12) := ⟨⟨by decide +kernel, by decide +kernel⟩, List.mem_of_getElem? (i := 47) (by decide +kernel), List.mem_of_getElem? (i := 636) (by decide +kernel), List.mem_of_getElem? (i := 637) (by decide +kernel)⟩
theorem lw_p9 : lw_okq (⟨"HatchLights$Reader", "mayTell", "(I)Z"⟩, 12) := ⟨⟨by decide +kernel, by decide +kernel⟩, List.mem_of_getElem? (i := 47) (by decide +kernel), List.mem_of_getElem? (i := 640) (by decide +kernel), List.mem_of_getElem? (i := 641) (by decide +kernel)⟩
theorem lw_p10 : lw_okq (⟨"HatchLights$Reader", "refuse", "(I)Z"⟩, 12) := ⟨⟨by decide +kernel, by decide +kernel⟩, List.mem_of_getElem? (i := 47) (by decide +kernel), List.mem_of_getElem? (i := 644) (by decide +kernel), List.mem_of_getElem? (i := 645) (by decide +kernel)⟩
theorem lw_p11 : lw_okq (⟨"HatchLights$Reader", "goOn", "()V"⟩, 12) := ⟨⟨by decide +kernel, by decide +kernel⟩, List.mem_of_getElem? (i := 47) (by decide +kernel), List.mem_of_getElem? (i := 648) (by decide +kernel), List.mem_of_getElem? (i := 649) (by decide +kernel)⟩
theorem lw_p12 : lw_okq (⟨"HatchLights$Reader", "readNumber", "(II)Z"⟩, 12) := ⟨⟨by decide +kernel, by decide +kernel⟩, List.mem_of_getElem? (i := 47) (by decide +kernel), List.mem_of_getElem? (i := 652) (by decide +kernel), List.mem_of_getElem? (i := 653) (by decide +kernel)⟩
theorem lw_p13 : lw_okq (⟨"HatchLights$Reader", "readWord", "()Z"⟩, 12) := ⟨⟨by decide +kernel, by decide +kernel⟩, List.mem_of_getElem? (i := 47) (by decide +kernel), List.mem_of_getElem? (i := 656) (by decide +kernel), List.mem_of_getElem? (i := 657) (by decide +kernel)⟩
theorem lw_p14 : lw_okq (⟨"HatchLights$Reader", "readNewName", "([JI)Z"⟩, 12) := ⟨⟨by decide +kernel, by decide +kernel⟩, List.mem_of_getElem? (i := 47) (by decide +kernel), List.mem_of_getElem? (i := 660) (by decide +kernel), List.mem_of_getElem? (i := 661) (by decide +kernel)⟩
theorem lw_p15 : lw_okq (⟨"HatchLights$Reader", "readKind", "(I)Z"⟩, 12) := ⟨⟨by decide +kernel, by decide +kernel⟩, List.mem_of_getElem? (i := 47) (by decide +kernel), List.mem_of_getElem? (i := 667) (by decide +kernel), List.mem_of_getElem? (i := 668) (by decide +kernel)⟩
def lw_privs_1 : List (MethodName × Nat) := [(⟨"HatchLights", "startAsTold", "()V"⟩, 15), (⟨"HatchLights$Scene", "join", "(II)V"⟩, 13), (⟨"HatchLights$Tokens", "skipBlanks", "(LHatchLights$Tape;I)I"⟩, 4), (⟨"HatchLights$Tokens", "cutOne", "(LHatchLights$Tape;I)I"⟩, 4), (⟨"HatchLights$Tokens", "cutWord", "(LHatchLights$Tape;I)I"⟩, 4), (⟨"HatchLights$Tokens", "kindOfWord", "(LHatchLights$Tape;II)I"⟩, 4), (⟨"HatchLights$Tokens", "cutNumber", "(LHatchLights$Tape;I)I"⟩, 4), (⟨"HatchLights$Tokens", "cutEnd", "()I"⟩, 4), (⟨"HatchLights$Reader", "readLine", "()Z"⟩, 12), (⟨"HatchLights$Reader", "mayTell", "(I)Z"⟩, 12), (⟨"HatchLights$Reader", "refuse", "(I)Z"⟩, 12), (⟨"HatchLights$Reader", "goOn", "()V"⟩, 12), (⟨"HatchLights$Reader", "readNumber", "(II)Z"⟩, 12), (⟨"HatchLights$Reader", "readWord", "()Z"⟩, 12), (⟨"HatchLights$Reader", "readNewName", "([JI)Z"⟩, 12), (⟨"HatchLights$Reader", "readKind", "(I)Z"⟩, 12)]
theorem lw_r1 : ∀ q ∈ lw_privs_1, lw_okq q := List.forall_mem_cons.mpr ⟨lw_p0, List.forall_mem_cons.mpr ⟨lw_p1, List.forall_mem_cons.mpr ⟨lw_p2, List.forall_mem_cons.mpr ⟨lw_p3, List.forall_mem_cons.mpr ⟨lw_p4, List.forall_mem_cons.mpr ⟨lw_p5, List.forall_mem_cons.mpr ⟨lw_p6, List.forall_mem_cons.mpr ⟨lw_p7, List.forall_mem_cons.mpr ⟨lw_p8, List.forall_mem_cons.mpr ⟨lw_p9, List.forall_mem_cons.mpr ⟨lw_p10, List.forall_mem_cons.mpr ⟨lw_p11, List.forall_mem_cons.mpr ⟨lw_p12, List.forall_mem_cons.mpr ⟨lw_p13, List.forall_mem_cons.mpr ⟨lw_p14, List.forall_mem_cons.mpr ⟨lw_p15, fun _ h => absurd h List.not_mem_nil⟩⟩⟩⟩⟩⟩⟩⟩⟩⟩⟩⟩⟩⟩⟩⟩
theorem lw_p16 : lw_okq (⟨"HatchLights$Reader", "readComer", "()Z"⟩, 12) := ⟨⟨by decide +kernel, by decide +kernel⟩, List.mem_of_getElem? (i := 47) (by decide +kernel), List.mem_of_getElem? (i := 671) (by decide +kernel), List.mem_of_getElem? (i := 672) (by decide +kernel)⟩
theorem lw_p17 : lw_okq (⟨"HatchLights$Reader", "readSaid", "(I)Z"⟩, 12) := ⟨⟨by decide +kernel, by decide +kernel⟩, List.mem_of_getElem? (i := 47) (by decide +kernel), List.mem_of_getElem? (i := 675) (by decide +kernel), List.mem_of_getElem? (i := 676) (by decide +kernel)⟩
theorem lw_p18 : lw_okq (⟨"HatchLights$Reader", "readFormula", "(LHatchLights$Formula;)Z"⟩, 12) := ⟨⟨by decide +kernel, by decide +kernel⟩, List.mem_of_getElem? (i := 47) (by decide +kernel), List.mem_of_getElem? (i := 685) (by decide +kernel), List.mem_of_getElem? (i := 686) (by decide +kernel)⟩
theorem lw_p19 : lw_okq (⟨"HatchLights$Reader", "readLevel", "(II)Z"⟩, 12) := ⟨⟨by decide +kernel, by decide +kernel⟩, List.mem_of_getElem? (i := 47) (by decide +kernel), List.mem_of_getElem? (i := 690) (by decide +kernel), List.mem_of_getElem? (i := 691) (by decide +kernel)⟩
theorem lw_p20 : lw_okq (⟨"HatchLights$Reader", "readUnit", "(I)Z"⟩, 12) := ⟨⟨by decide +kernel, by decide +kernel⟩, List.mem_of_getElem? (i := 47) (by decide +kernel), List.mem_of_getElem? (i := 694) (by decide +kernel), List.mem_of_getElem? (i := 695) (by decide +kernel)⟩
theorem lw_p21 : lw_okq (⟨"HatchLights$Reader", "readNot", "(I)Z"⟩, 12) := ⟨⟨by decide +kernel, by decide +kernel⟩, List.mem_of_getElem? (i := 47) (by decide +kernel), List.mem_of_getElem? (i := 702) (by decide +kernel), List.mem_of_getElem? (i := 703) (by decide +kernel)⟩
theorem lw_p22 : lw_okq (⟨"HatchLights", "isWord", "(I)Z"⟩, 15) := ⟨⟨by decide +kernel, by decide +kernel⟩, List.mem_of_getElem? (i := 22) (by decide +kernel), List.mem_of_getElem? (i := 727) (by decide +kernel), List.mem_of_getElem? (i := 728) (by decide +kernel)⟩
theorem lw_p23 : lw_okq (⟨"HatchLights", "isComer", "(I)Z"⟩, 15) := ⟨⟨by decide +kernel, by decide +kernel⟩, List.mem_of_getElem? (i := 22) (by decide +kernel), List.mem_of_getElem? (i := 739) (by decide +kernel), List.mem_of_getElem? (i := 740) (by decide +kernel)⟩
theorem lw_p24 : lw_okq (⟨"HatchLights", "isWaiting", "(I)Z"⟩, 15) := ⟨⟨by decide +kernel, by decide +kernel⟩, List.mem_of_getElem? (i := 22) (by decide +kernel), List.mem_of_getElem? (i := 747) (by decide +kernel), List.mem_of_getElem? (i := 748) (by decide +kernel)⟩
theorem lw_p25 : lw_okq (⟨"HatchLights$Scene", "factsOf", "(II)LHatchLights$Facts;"⟩, 13) := ⟨⟨by decide +kernel, by decide +kernel⟩, List.mem_of_getElem? (i := 231) (by decide +kernel), List.mem_of_getElem? (i := 755) (by decide +kernel), List.mem_of_getElem? (i := 756) (by decide +kernel)⟩
theorem lw_p26 : lw_okq (⟨"HatchLights", "isRoad", "(I)Z"⟩, 15) := ⟨⟨by decide +kernel, by decide +kernel⟩, List.mem_of_getElem? (i := 22) (by decide +kernel), List.mem_of_getElem? (i := 790) (by decide +kernel), List.mem_of_getElem? (i := 791) (by decide +kernel)⟩
theorem lw_p27 : lw_okq (⟨"HatchLights", "openInEarnest", "(I)I"⟩, 15) := ⟨⟨by decide +kernel, by decide +kernel⟩, List.mem_of_getElem? (i := 22) (by decide +kernel), List.mem_of_getElem? (i := 827) (by decide +kernel), List.mem_of_getElem? (i := 828) (by decide +kernel)⟩
theorem lw_p28 : lw_okq (⟨"HatchLights$Scene", "firstOf", "(I)I"⟩, 13) := ⟨⟨by decide +kernel, by decide +kernel⟩, List.mem_of_getElem? (i := 231) (by decide +kernel), List.mem_of_getElem? (i := 839) (by decide +kernel), List.mem_of_getElem? (i := 840) (by decide +kernel)⟩
theorem lw_p29 : lw_okq (⟨"HatchLights$Scene", "listen", "(IZ)V"⟩, 13) := ⟨⟨by decide +kernel, by decide +kernel⟩, List.mem_of_getElem? (i := 231) (by decide +kernel), List.mem_of_getElem? (i := 843) (by decide +kernel), List.mem_of_getElem? (i := 844) (by decide +kernel)⟩
theorem lw_p30 : lw_okq (⟨"HatchLights$Scene", "leave", "(I)V"⟩, 13) := ⟨⟨by decide +kernel, by decide +kernel⟩, List.mem_of_getElem? (i := 231) (by decide +kernel), List.mem_of_getElem? (i := 847) (by decide +kernel), List.mem_of_getElem? (i := 848) (by decide +kernel)⟩
theorem lw_p31 : lw_okq (⟨"HatchLights$Acts", "current", "()LHatchLights$Scene;"⟩, 4) := ⟨⟨by decide +kernel, by decide +kernel⟩, List.mem_of_getElem? (i := 322) (by decide +kernel), List.mem_of_getElem? (i := 855) (by decide +kernel), List.mem_of_getElem? (i := 856) (by decide +kernel)⟩
def lw_privs_2 : List (MethodName × Nat) := [(⟨"HatchLights$Reader", "readComer", "()Z"⟩, 12), (⟨"HatchLights$Reader", "readSaid", "(I)Z"⟩, 12), (⟨"HatchLights$Reader", "readFormula", "(LHatchLights$Formula;)Z"⟩, 12), (⟨"HatchLights$Reader", "readLevel", "(II)Z"⟩, 12), (⟨"HatchLights$Reader", "readUnit", "(I)Z"⟩, 12), (⟨"HatchLights$Reader", "readNot", "(I)Z"⟩, 12), (⟨"HatchLights", "isWord", "(I)Z"⟩, 15), (⟨"HatchLights", "isComer", "(I)Z"⟩, 15), (⟨"HatchLights", "isWaiting", "(I)Z"⟩, 15), (⟨"HatchLights$Scene", "factsOf", "(II)LHatchLights$Facts;"⟩, 13), (⟨"HatchLights", "isRoad", "(I)Z"⟩, 15), (⟨"HatchLights", "openInEarnest", "(I)I"⟩, 15), (⟨"HatchLights$Scene", "firstOf", "(I)I"⟩, 13), (⟨"HatchLights$Scene", "listen", "(IZ)V"⟩, 13), (⟨"HatchLights$Scene", "leave", "(I)V"⟩, 13), (⟨"HatchLights$Acts", "current", "()LHatchLights$Scene;"⟩, 4)]
theorem lw_r2 : ∀ q ∈ lw_privs_2, lw_okq q := List.forall_mem_cons.mpr ⟨lw_p16, List.forall_mem_cons.mpr ⟨lw_p17, List.forall_mem_cons.mpr ⟨lw_p18, List.forall_mem_cons.mpr ⟨lw_p19, List.forall_mem_cons.mpr ⟨lw_p20, List.forall_mem_cons.mpr ⟨lw_p21, List.forall_mem_cons.mpr ⟨lw_p22, List.forall_mem_cons.mpr ⟨lw_p23, List.forall_mem_cons.mpr ⟨lw_p24, List.forall_mem_cons.mpr ⟨lw_p25, List.forall_mem_cons.mpr ⟨lw_p26, List.forall_mem_cons.mpr ⟨lw_p27, List.forall_mem_cons.mpr ⟨lw_p28, List.forall_mem_cons.mpr ⟨lw_p29, List.forall_mem_cons.mpr ⟨lw_p30, List.forall_mem_cons.mpr ⟨lw_p31, fun _ h => absurd h List.not_mem_nil⟩⟩⟩⟩⟩⟩⟩⟩⟩⟩⟩⟩⟩⟩⟩⟩
theorem lw_p32 : lw_okq (⟨"HatchLights", "isReason", "(I)Z"⟩, 15) := ⟨⟨by decide +kernel, by decide +kernel⟩, List.mem_of_getElem? (i := 22) (by decide +kernel), List.mem_of_getElem? (i := 867) (by decide +kernel), List.mem_of_getElem? (i := 868) (by decide +kernel)⟩
theorem lw_p33 : lw_okq (⟨"HatchLights", "hatchesTill", "(I)I"⟩, 15) := ⟨⟨by decide +kernel, by decide +kernel⟩, List.mem_of_getElem? (i := 22) (by decide +kernel), List.mem_of_getElem? (i := 930) (by decide +kernel), List.mem_of_getElem? (i := 931) (by decide +kernel)⟩
theorem lw_p34 : lw_okq (⟨"HatchLights", "lookAhead", "(I)V"⟩, 15) := ⟨⟨by decide +kernel, by decide +kernel⟩, List.mem_of_getElem? (i := 22) (by decide +kernel), List.mem_of_getElem? (i := 938) (by decide +kernel), List.mem_of_getElem? (i := 939) (by decide +kernel)⟩
theorem lw_p35 : lw_okq (⟨"HatchLights", "pressOfTrial", "(I)I"⟩, 15) := ⟨⟨by decide +kernel, by decide +kernel⟩, List.mem_of_getElem? (i := 22) (by decide +kernel), List.mem_of_getElem? (i := 962) (by decide +kernel), List.mem_of_getElem? (i := 963) (by decide +kernel)⟩
theorem lw_p36 : lw_okq (⟨"HatchLights", "allByWithin", "(II)Z"⟩, 15) := ⟨⟨by decide +kernel, by decide +kernel⟩, List.mem_of_getElem? (i := 22) (by decide +kernel), List.mem_of_getElem? (i := 994) (by decide +kernel), List.mem_of_getElem? (i := 995) (by decide +kernel)⟩
theorem lw_p37 : lw_okq (⟨"HatchLights", "tryRivals", "(IIII)V"⟩, 15) := ⟨⟨by decide +kernel, by decide +kernel⟩, List.mem_of_getElem? (i := 22) (by decide +kernel), List.mem_of_getElem? (i := 1002) (by decide +kernel), List.mem_of_getElem? (i := 1003) (by decide +kernel)⟩
theorem lw_p38 : lw_okq (⟨"HatchLights", "isRest", "(II)Z"⟩, 15) := ⟨⟨by decide +kernel, by decide +kernel⟩, List.mem_of_getElem? (i := 22) (by decide +kernel), List.mem_of_getElem? (i := 1006) (by decide +kernel), List.mem_of_getElem? (i := 1007) (by decide +kernel)⟩
theorem lw_p39 : lw_okq (⟨"HatchLights", "fewestWords", "(III)I"⟩, 15) := ⟨⟨by decide +kernel, by decide +kernel⟩, List.mem_of_getElem? (i := 22) (by decide +kernel), List.mem_of_getElem? (i := 1014) (by decide +kernel), List.mem_of_getElem? (i := 1015) (by decide +kernel)⟩
theorem lw_p40 : lw_okq (⟨"HatchLights", "mostWorth", "(III)I"⟩, 15) := ⟨⟨by decide +kernel, by decide +kernel⟩, List.mem_of_getElem? (i := 22) (by decide +kernel), List.mem_of_getElem? (i := 1030) (by decide +kernel), List.mem_of_getElem? (i := 1031) (by decide +kernel)⟩
theorem lw_p41 : lw_okq (⟨"HatchLights$Sightings", "makeBy", "()V"⟩, 13) := ⟨⟨by decide +kernel, by decide +kernel⟩, List.mem_of_getElem? (i := 345) (by decide +kernel), List.mem_of_getElem? (i := 1086) (by decide +kernel), List.mem_of_getElem? (i := 1087) (by decide +kernel)⟩
theorem lw_p42 : lw_okq (⟨"HatchLights$Sightings", "isFitting", "(II)Z"⟩, 13) := ⟨⟨by decide +kernel, by decide +kernel⟩, List.mem_of_getElem? (i := 345) (by decide +kernel), List.mem_of_getElem? (i := 1093) (by decide +kernel), List.mem_of_getElem? (i := 1094) (by decide +kernel)⟩
theorem lw_p43 : lw_okq (⟨"HatchLightsModel", "clearBank", "()V"⟩, 68) := ⟨⟨by decide +kernel, by decide +kernel⟩, List.mem_of_getElem? (i := 1111) (by decide +kernel), List.mem_of_getElem? (i := 1117) (by decide +kernel), List.mem_of_getElem? (i := 1118) (by decide +kernel)⟩
theorem lw_p44 : lw_okq (⟨"HatchLightsModel", "startAnew", "()V"⟩, 68) := ⟨⟨by decide +kernel, by decide +kernel⟩, List.mem_of_getElem? (i := 1111) (by decide +kernel), List.mem_of_getElem? (i := 1121) (by decide +kernel), List.mem_of_getElem? (i := 1122) (by decide +kernel)⟩
theorem lw_p45 : lw_okq (⟨"HatchLightsModel", "layTold", "()V"⟩, 68) := ⟨⟨by decide +kernel, by decide +kernel⟩, List.mem_of_getElem? (i := 1111) (by decide +kernel), List.mem_of_getElem? (i := 1125) (by decide +kernel), List.mem_of_getElem? (i := 1126) (by decide +kernel)⟩
theorem lw_p46 : lw_okq (⟨"HatchLightsModel", "kinds", "()I"⟩, 68) := ⟨⟨by decide +kernel, by decide +kernel⟩, List.mem_of_getElem? (i := 1111) (by decide +kernel), List.mem_of_getElem? (i := 1129) (by decide +kernel), List.mem_of_getElem? (i := 1130) (by decide +kernel)⟩
theorem lw_p47 : lw_okq (⟨"HatchLightsModel", "many", "()I"⟩, 68) := ⟨⟨by decide +kernel, by decide +kernel⟩, List.mem_of_getElem? (i := 1111) (by decide +kernel), List.mem_of_getElem? (i := 1133) (by decide +kernel), List.mem_of_getElem? (i := 1134) (by decide +kernel)⟩
def lw_privs_3 : List (MethodName × Nat) := [(⟨"HatchLights", "isReason", "(I)Z"⟩, 15), (⟨"HatchLights", "hatchesTill", "(I)I"⟩, 15), (⟨"HatchLights", "lookAhead", "(I)V"⟩, 15), (⟨"HatchLights", "pressOfTrial", "(I)I"⟩, 15), (⟨"HatchLights", "allByWithin", "(II)Z"⟩, 15), (⟨"HatchLights", "tryRivals", "(IIII)V"⟩, 15), (⟨"HatchLights", "isRest", "(II)Z"⟩, 15), (⟨"HatchLights", "fewestWords", "(III)I"⟩, 15), (⟨"HatchLights", "mostWorth", "(III)I"⟩, 15), (⟨"HatchLights$Sightings", "makeBy", "()V"⟩, 13), (⟨"HatchLights$Sightings", "isFitting", "(II)Z"⟩, 13), (⟨"HatchLightsModel", "clearBank", "()V"⟩, 68), (⟨"HatchLightsModel", "startAnew", "()V"⟩, 68), (⟨"HatchLightsModel", "layTold", "()V"⟩, 68), (⟨"HatchLightsModel", "kinds", "()I"⟩, 68), (⟨"HatchLightsModel", "many", "()I"⟩, 68)]
theorem lw_r3 : ∀ q ∈ lw_privs_3, lw_okq q := List.forall_mem_cons.mpr ⟨lw_p32, List.forall_mem_cons.mpr ⟨lw_p33, List.forall_mem_cons.mpr ⟨lw_p34, List.forall_mem_cons.mpr ⟨lw_p35, List.forall_mem_cons.mpr ⟨lw_p36, List.forall_mem_cons.mpr ⟨lw_p37, List.forall_mem_cons.mpr ⟨lw_p38, List.forall_mem_cons.mpr ⟨lw_p39, List.forall_mem_cons.mpr ⟨lw_p40, List.forall_mem_cons.mpr ⟨lw_p41, List.forall_mem_cons.mpr ⟨lw_p42, List.forall_mem_cons.mpr ⟨lw_p43, List.forall_mem_cons.mpr ⟨lw_p44, List.forall_mem_cons.mpr ⟨lw_p45, List.forall_mem_cons.mpr ⟨lw_p46, List.forall_mem_cons.mpr ⟨lw_p47, fun _ h => absurd h List.not_mem_nil⟩⟩⟩⟩⟩⟩⟩⟩⟩⟩⟩⟩⟩⟩⟩⟩
theorem lw_p48 : lw_okq (⟨"HatchLightsModel", "goOn", "()V"⟩, 68) := ⟨⟨by decide +kernel, by decide +kernel⟩, List.mem_of_getElem? (i := 1111) (by decide +kernel), List.mem_of_getElem? (i := 1346) (by decide +kernel), List.mem_of_getElem? (i := 1347) (by decide +kernel)⟩
theorem lw_p49 : lw_okq (⟨"HatchLightsModel", "sign", "(I)I"⟩, 68) := ⟨⟨by decide +kernel, by decide +kernel⟩, List.mem_of_getElem? (i := 1111) (by decide +kernel), List.mem_of_getElem? (i := 1350) (by decide +kernel), List.mem_of_getElem? (i := 1351) (by decide +kernel)⟩
theorem lw_p50 : lw_okq (⟨"HatchLightsModel", "isGood", "()Z"⟩, 68) := ⟨⟨by decide +kernel, by decide +kernel⟩, List.mem_of_getElem? (i := 1111) (by decide +kernel), List.mem_of_getElem? (i := 1386) (by decide +kernel), List.mem_of_getElem? (i := 1387) (by decide +kernel)⟩
theorem lw_p51 : lw_okq (⟨"HatchLightsModel", "readLine", "()V"⟩, 68) := ⟨⟨by decide +kernel, by decide +kernel⟩, List.mem_of_getElem? (i := 1111) (by decide +kernel), List.mem_of_getElem? (i := 1390) (by decide +kernel), List.mem_of_getElem? (i := 1391) (by decide +kernel)⟩
theorem lw_p52 : lw_okq (⟨"HatchLightsModel", "isFull", "()Z"⟩, 68) := ⟨⟨by decide +kernel, by decide +kernel⟩, List.mem_of_getElem? (i := 1111) (by decide +kernel), List.mem_of_getElem? (i := 1394) (by decide +kernel), List.mem_of_getElem? (i := 1395) (by decide +kernel)⟩
theorem lw_p53 : lw_okq (⟨"HatchLightsModel", "isWord", "(J)Z"⟩, 68) := ⟨⟨by decide +kernel, by decide +kernel⟩, List.mem_of_getElem? (i := 1111) (by decide +kernel), List.mem_of_getElem? (i := 1398) (by decide +kernel), List.mem_of_getElem? (i := 1399) (by decide +kernel)⟩
theorem lw_p54 : lw_okq (⟨"HatchLightsModel", "misplaced", "()V"⟩, 68) := ⟨⟨by decide +kernel, by decide +kernel⟩, List.mem_of_getElem? (i := 1111) (by decide +kernel), List.mem_of_getElem? (i := 1405) (by decide +kernel), List.mem_of_getElem? (i := 1406) (by decide +kernel)⟩
theorem lw_p55 : lw_okq (⟨"HatchLightsModel", "fails", "(II)V"⟩, 68) := ⟨⟨by decide +kernel, by decide +kernel⟩, List.mem_of_getElem? (i := 1111) (by decide +kernel), List.mem_of_getElem? (i := 1409) (by decide +kernel), List.mem_of_getElem? (i := 1410) (by decide +kernel)⟩
theorem lw_p56 : lw_okq (⟨"HatchLightsModel", "numeral", "(II)I"⟩, 68) := ⟨⟨by decide +kernel, by decide +kernel⟩, List.mem_of_getElem? (i := 1111) (by decide +kernel), List.mem_of_getElem? (i := 1413) (by decide +kernel), List.mem_of_getElem? (i := 1414) (by decide +kernel)⟩
theorem lw_p57 : lw_okq (⟨"HatchLightsModel", "readWord", "()V"⟩, 68) := ⟨⟨by decide +kernel, by decide +kernel⟩, List.mem_of_getElem? (i := 1111) (by decide +kernel), List.mem_of_getElem? (i := 1417) (by decide +kernel), List.mem_of_getElem? (i := 1418) (by decide +kernel)⟩
theorem lw_p58 : lw_okq (⟨"HatchLightsModel", "wordNamed", "()I"⟩, 68) := ⟨⟨by decide +kernel, by decide +kernel⟩, List.mem_of_getElem? (i := 1111) (by decide +kernel), List.mem_of_getElem? (i := 1421) (by decide +kernel), List.mem_of_getElem? (i := 1422) (by decide +kernel)⟩
theorem lw_p59 : lw_okq (⟨"HatchLightsModel", "here", "([JII)I"⟩, 68) := ⟨⟨by decide +kernel, by decide +kernel⟩, List.mem_of_getElem? (i := 1111) (by decide +kernel), List.mem_of_getElem? (i := 1425) (by decide +kernel), List.mem_of_getElem? (i := 1426) (by decide +kernel)⟩
theorem lw_p60 : lw_okq (⟨"HatchLightsModel", "fresh", "(I)J"⟩, 68) := ⟨⟨by decide +kernel, by decide +kernel⟩, List.mem_of_getElem? (i := 1111) (by decide +kernel), List.mem_of_getElem? (i := 1429) (by decide +kernel), List.mem_of_getElem? (i := 1430) (by decide +kernel)⟩
theorem lw_p61 : lw_okq (⟨"HatchLightsModel", "after", "(JII)I"⟩, 68) := ⟨⟨by decide +kernel, by decide +kernel⟩, List.mem_of_getElem? (i := 1111) (by decide +kernel), List.mem_of_getElem? (i := 1433) (by decide +kernel), List.mem_of_getElem? (i := 1434) (by decide +kernel)⟩
theorem lw_p62 : lw_okq (⟨"HatchLightsModel", "must", "(Z)V"⟩, 68) := ⟨⟨by decide +kernel, by decide +kernel⟩, List.mem_of_getElem? (i := 1111) (by decide +kernel), List.mem_of_getElem? (i := 1437) (by decide +kernel), List.mem_of_getElem? (i := 1438) (by decide +kernel)⟩
theorem lw_p63 : lw_okq (⟨"HatchLightsModel", "readComer", "()V"⟩, 68) := ⟨⟨by decide +kernel, by decide +kernel⟩, List.mem_of_getElem? (i := 1111) (by decide +kernel), List.mem_of_getElem? (i := 1441) (by decide +kernel), List.mem_of_getElem? (i := 1442) (by decide +kernel)⟩
def lw_privs_4 : List (MethodName × Nat) := [(⟨"HatchLightsModel", "goOn", "()V"⟩, 68), (⟨"HatchLightsModel", "sign", "(I)I"⟩, 68), (⟨"HatchLightsModel", "isGood", "()Z"⟩, 68), (⟨"HatchLightsModel", "readLine", "()V"⟩, 68), (⟨"HatchLightsModel", "isFull", "()Z"⟩, 68), (⟨"HatchLightsModel", "isWord", "(J)Z"⟩, 68), (⟨"HatchLightsModel", "misplaced", "()V"⟩, 68), (⟨"HatchLightsModel", "fails", "(II)V"⟩, 68), (⟨"HatchLightsModel", "numeral", "(II)I"⟩, 68), (⟨"HatchLightsModel", "readWord", "()V"⟩, 68), (⟨"HatchLightsModel", "wordNamed", "()I"⟩, 68), (⟨"HatchLightsModel", "here", "([JII)I"⟩, 68), (⟨"HatchLightsModel", "fresh", "(I)J"⟩, 68), (⟨"HatchLightsModel", "after", "(JII)I"⟩, 68), (⟨"HatchLightsModel", "must", "(Z)V"⟩, 68), (⟨"HatchLightsModel", "readComer", "()V"⟩, 68)]
theorem lw_r4 : ∀ q ∈ lw_privs_4, lw_okq q := List.forall_mem_cons.mpr ⟨lw_p48, List.forall_mem_cons.mpr ⟨lw_p49, List.forall_mem_cons.mpr ⟨lw_p50, List.forall_mem_cons.mpr ⟨lw_p51, List.forall_mem_cons.mpr ⟨lw_p52, List.forall_mem_cons.mpr ⟨lw_p53, List.forall_mem_cons.mpr ⟨lw_p54, List.forall_mem_cons.mpr ⟨lw_p55, List.forall_mem_cons.mpr ⟨lw_p56, List.forall_mem_cons.mpr ⟨lw_p57, List.forall_mem_cons.mpr ⟨lw_p58, List.forall_mem_cons.mpr ⟨lw_p59, List.forall_mem_cons.mpr ⟨lw_p60, List.forall_mem_cons.mpr ⟨lw_p61, List.forall_mem_cons.mpr ⟨lw_p62, List.forall_mem_cons.mpr ⟨lw_p63, fun _ h => absurd h List.not_mem_nil⟩⟩⟩⟩⟩⟩⟩⟩⟩⟩⟩⟩⟩⟩⟩⟩
theorem lw_p64 : lw_okq (⟨"HatchLightsModel", "once", "(II)I"⟩, 68) := ⟨⟨by decide +kernel, by decide +kernel⟩, List.mem_of_getElem? (i := 1111) (by decide +kernel), List.mem_of_getElem? (i := 1448) (by decide +kernel), List.mem_of_getElem? (i := 1449) (by decide +kernel)⟩
theorem lw_p65 : lw_okq (⟨"HatchLightsModel", "readRule", "(I)V"⟩, 68) := ⟨⟨by decide +kernel, by decide +kernel⟩, List.mem_of_getElem? (i := 1111) (by decide +kernel), List.mem_of_getElem? (i := 1452) (by decide +kernel), List.mem_of_getElem? (i := 1453) (by decide +kernel)⟩
theorem lw_p66 : lw_okq (⟨"HatchLightsModel", "e", "()V"⟩, 68) := ⟨⟨by decide +kernel, by decide +kernel⟩, List.mem_of_getElem? (i := 1111) (by decide +kernel), List.mem_of_getElem? (i := 1456) (by decide +kernel), List.mem_of_getElem? (i := 1457) (by decide +kernel)⟩
theorem lw_p67 : lw_okq (⟨"HatchLightsModel", "pushE", "(II)V"⟩, 68) := ⟨⟨by decide +kernel, by decide +kernel⟩, List.mem_of_getElem? (i := 1111) (by decide +kernel), List.mem_of_getElem? (i := 1460) (by decide +kernel), List.mem_of_getElem? (i := 1461) (by decide +kernel)⟩
theorem lw_p68 : lw_okq (⟨"HatchLightsModel", "unit", "()Z"⟩, 68) := ⟨⟨by decide +kernel, by decide +kernel⟩, List.mem_of_getElem? (i := 1111) (by decide +kernel), List.mem_of_getElem? (i := 1464) (by decide +kernel), List.mem_of_getElem? (i := 1465) (by decide +kernel)⟩
theorem lw_p69 : lw_okq (⟨"HatchLightsModel", "isSignHere", "(I)Z"⟩, 68) := ⟨⟨by decide +kernel, by decide +kernel⟩, List.mem_of_getElem? (i := 1111) (by decide +kernel), List.mem_of_getElem? (i := 1468) (by decide +kernel), List.mem_of_getElem? (i := 1469) (by decide +kernel)⟩
theorem lw_p70 : lw_okq (⟨"HatchLightsModel", "wordHere", "()I"⟩, 68) := ⟨⟨by decide +kernel, by decide +kernel⟩, List.mem_of_getElem? (i := 1111) (by decide +kernel), List.mem_of_getElem? (i := 1472) (by decide +kernel), List.mem_of_getElem? (i := 1473) (by decide +kernel)⟩
theorem lw_p71 : lw_okq (⟨"HatchLightsModel", "emit", "(II)V"⟩, 68) := ⟨⟨by decide +kernel, by decide +kernel⟩, List.mem_of_getElem? (i := 1111) (by decide +kernel), List.mem_of_getElem? (i := 1476) (by decide +kernel), List.mem_of_getElem? (i := 1477) (by decide +kernel)⟩
theorem lw_p72 : lw_okq (⟨"HatchLightsModel", "behindUnit", "()Z"⟩, 68) := ⟨⟨by decide +kernel, by decide +kernel⟩, List.mem_of_getElem? (i := 1111) (by decide +kernel), List.mem_of_getElem? (i := 1480) (by decide +kernel), List.mem_of_getElem? (i := 1481) (by decide +kernel)⟩
theorem lw_p73 : lw_okq (⟨"HatchLightsModel", "rankHere", "()I"⟩, 68) := ⟨⟨by decide +kernel, by decide +kernel⟩, List.mem_of_getElem? (i := 1111) (by decide +kernel), List.mem_of_getElem? (i := 1484) (by decide +kernel), List.mem_of_getElem? (i := 1485) (by decide +kernel)⟩
theorem lw_p74 : lw_okq (⟨"HatchLightsModel", "isCompared", "()Z"⟩, 68) := ⟨⟨by decide +kernel, by decide +kernel⟩, List.mem_of_getElem? (i := 1111) (by decide +kernel), List.mem_of_getElem? (i := 1488) (by decide +kernel), List.mem_of_getElem? (i := 1489) (by decide +kernel)⟩
theorem lw_p75 : lw_okq (⟨"HatchLightsModel", "isWordNumber", "(I)Z"⟩, 68) := ⟨⟨by decide +kernel, by decide +kernel⟩, List.mem_of_getElem? (i := 1111) (by decide +kernel), List.mem_of_getElem? (i := 1500) (by decide +kernel), List.mem_of_getElem? (i := 1501) (by decide +kernel)⟩
theorem lw_p76 : lw_okq (⟨"HatchLightsModel", "sayers", "(I)I"⟩, 68) := ⟨⟨by decide +kernel, by decide +kernel⟩, List.mem_of_getElem? (i := 1111) (by decide +kernel), List.mem_of_getElem? (i := 1507) (by decide +kernel), List.mem_of_getElem? (i := 1508) (by decide +kernel)⟩
theorem lw_p77 : lw_okq (⟨"HatchLightsModel", "isBy", "(I)Z"⟩, 68) := ⟨⟨by decide +kernel, by decide +kernel⟩, List.mem_of_getElem? (i := 1111) (by decide +kernel), List.mem_of_getElem? (i := 1511) (by decide +kernel), List.mem_of_getElem? (i := 1512) (by decide +kernel)⟩
theorem lw_p78 : lw_okq (⟨"HatchLightsModel", "isComer", "(I)Z"⟩, 68) := ⟨⟨by decide +kernel, by decide +kernel⟩, List.mem_of_getElem? (i := 1111) (by decide +kernel), List.mem_of_getElem? (i := 1519) (by decide +kernel), List.mem_of_getElem? (i := 1520) (by decide +kernel)⟩
theorem lw_p79 : lw_okq (⟨"HatchLightsModel", "placeOf", "(I)I"⟩, 68) := ⟨⟨by decide +kernel, by decide +kernel⟩, List.mem_of_getElem? (i := 1111) (by decide +kernel), List.mem_of_getElem? (i := 1523) (by decide +kernel), List.mem_of_getElem? (i := 1524) (by decide +kernel)⟩
def lw_privs_5 : List (MethodName × Nat) := [(⟨"HatchLightsModel", "once", "(II)I"⟩, 68), (⟨"HatchLightsModel", "readRule", "(I)V"⟩, 68), (⟨"HatchLightsModel", "e", "()V"⟩, 68), (⟨"HatchLightsModel", "pushE", "(II)V"⟩, 68), (⟨"HatchLightsModel", "unit", "()Z"⟩, 68), (⟨"HatchLightsModel", "isSignHere", "(I)Z"⟩, 68), (⟨"HatchLightsModel", "wordHere", "()I"⟩, 68), (⟨"HatchLightsModel", "emit", "(II)V"⟩, 68), (⟨"HatchLightsModel", "behindUnit", "()Z"⟩, 68), (⟨"HatchLightsModel", "rankHere", "()I"⟩, 68), (⟨"HatchLightsModel", "isCompared", "()Z"⟩, 68), (⟨"HatchLightsModel", "isWordNumber", "(I)Z"⟩, 68), (⟨"HatchLightsModel", "sayers", "(I)I"⟩, 68), (⟨"HatchLightsModel", "isBy", "(I)Z"⟩, 68), (⟨"HatchLightsModel", "isComer", "(I)Z"⟩, 68), (⟨"HatchLightsModel", "placeOf", "(I)I"⟩, 68)]
theorem lw_r5 : ∀ q ∈ lw_privs_5, lw_okq q := List.forall_mem_cons.mpr ⟨lw_p64, List.forall_mem_cons.mpr ⟨lw_p65, List.forall_mem_cons.mpr ⟨lw_p66, List.forall_mem_cons.mpr ⟨lw_p67, List.forall_mem_cons.mpr ⟨lw_p68, List.forall_mem_cons.mpr ⟨lw_p69, List.forall_mem_cons.mpr ⟨lw_p70, List.forall_mem_cons.mpr ⟨lw_p71, List.forall_mem_cons.mpr ⟨lw_p72, List.forall_mem_cons.mpr ⟨lw_p73, List.forall_mem_cons.mpr ⟨lw_p74, List.forall_mem_cons.mpr ⟨lw_p75, List.forall_mem_cons.mpr ⟨lw_p76, List.forall_mem_cons.mpr ⟨lw_p77, List.forall_mem_cons.mpr ⟨lw_p78, List.forall_mem_cons.mpr ⟨lw_p79, fun _ h => absurd h List.not_mem_nil⟩⟩⟩⟩⟩⟩⟩⟩⟩⟩⟩⟩⟩⟩⟩⟩
theorem lw_p80 : lw_okq (⟨"HatchLightsModel", "isThere", "(I)Z"⟩, 68) := ⟨⟨by decide +kernel, by decide +kernel⟩, List.mem_of_getElem? (i := 1111) (by decide +kernel), List.mem_of_getElem? (i := 1531) (by decide +kernel), List.mem_of_getElem? (i := 1532) (by decide +kernel)⟩
theorem lw_p81 : lw_okq (⟨"HatchLightsModel", "worthOf", "(I)I"⟩, 68) := ⟨⟨by decide +kernel, by decide +kernel⟩, List.mem_of_getElem? (i := 1111) (by decide +kernel), List.mem_of_getElem? (i := 1535) (by decide +kernel), List.mem_of_getElem? (i := 1536) (by decide +kernel)⟩
theorem lw_p82 : lw_okq (⟨"HatchLightsModel", "worthBy", "(II)I"⟩, 68) := ⟨⟨by decide +kernel, by decide +kernel⟩, List.mem_of_getElem? (i := 1111) (by decide +kernel), List.mem_of_getElem? (i := 1539) (by decide +kernel), List.mem_of_getElem? (i := 1540) (by decide +kernel)⟩
theorem lw_p83 : lw_okq (⟨"HatchLightsModel", "layAsked", "(II)V"⟩, 68) := ⟨⟨by decide +kernel, by decide +kernel⟩, List.mem_of_getElem? (i := 1111) (by decide +kernel), List.mem_of_getElem? (i := 1543) (by decide +kernel), List.mem_of_getElem? (i := 1544) (by decide +kernel)⟩
theorem lw_p84 : lw_okq (⟨"HatchLightsModel", "movedBy", "(I)I"⟩, 68) := ⟨⟨by decide +kernel, by decide +kernel⟩, List.mem_of_getElem? (i := 1111) (by decide +kernel), List.mem_of_getElem? (i := 1547) (by decide +kernel), List.mem_of_getElem? (i := 1548) (by decide +kernel)⟩
theorem lw_p85 : lw_okq (⟨"HatchLightsModel", "rowOf", "(I)I"⟩, 68) := ⟨⟨by decide +kernel, by decide +kernel⟩, List.mem_of_getElem? (i := 1111) (by decide +kernel), List.mem_of_getElem? (i := 1551) (by decide +kernel), List.mem_of_getElem? (i := 1552) (by decide +kernel)⟩
theorem lw_p86 : lw_okq (⟨"HatchLightsModel", "comes", "(I)I"⟩, 68) := ⟨⟨by decide +kernel, by decide +kernel⟩, List.mem_of_getElem? (i := 1111) (by decide +kernel), List.mem_of_getElem? (i := 1555) (by decide +kernel), List.mem_of_getElem? (i := 1556) (by decide +kernel)⟩
theorem lw_p87 : lw_okq (⟨"HatchLightsModel", "asked", "(II)I"⟩, 68) := ⟨⟨by decide +kernel, by decide +kernel⟩, List.mem_of_getElem? (i := 1111) (by decide +kernel), List.mem_of_getElem? (i := 1559) (by decide +kernel), List.mem_of_getElem? (i := 1560) (by decide +kernel)⟩
theorem lw_p88 : lw_okq (⟨"HatchLightsModel", "keptBy", "(I)I"⟩, 68) := ⟨⟨by decide +kernel, by decide +kernel⟩, List.mem_of_getElem? (i := 1111) (by decide +kernel), List.mem_of_getElem? (i := 1571) (by decide +kernel), List.mem_of_getElem? (i := 1572) (by decide +kernel)⟩
theorem lw_p89 : lw_okq (⟨"HatchLightsModel", "isRoad", "(I)Z"⟩, 68) := ⟨⟨by decide +kernel, by decide +kernel⟩, List.mem_of_getElem? (i := 1111) (by decide +kernel), List.mem_of_getElem? (i := 1582) (by decide +kernel), List.mem_of_getElem? (i := 1583) (by decide +kernel)⟩
theorem lw_p90 : lw_okq (⟨"HatchLightsModel", "firstOf", "(I)I"⟩, 68) := ⟨⟨by decide +kernel, by decide +kernel⟩, List.mem_of_getElem? (i := 1111) (by decide +kernel), List.mem_of_getElem? (i := 1590) (by decide +kernel), List.mem_of_getElem? (i := 1591) (by decide +kernel)⟩
theorem lw_p91 : lw_okq (⟨"HatchLightsModel", "keepAct", "()V"⟩, 68) := ⟨⟨by decide +kernel, by decide +kernel⟩, List.mem_of_getElem? (i := 1111) (by decide +kernel), List.mem_of_getElem? (i := 1610) (by decide +kernel), List.mem_of_getElem? (i := 1611) (by decide +kernel)⟩
theorem lw_p92 : lw_okq (⟨"HatchLightsModel", "goInEarnest", "(I)I"⟩, 68) := ⟨⟨by decide +kernel, by decide +kernel⟩, List.mem_of_getElem? (i := 1111) (by decide +kernel), List.mem_of_getElem? (i := 1614) (by decide +kernel), List.mem_of_getElem? (i := 1615) (by decide +kernel)⟩
theorem lw_p93 : lw_okq (⟨"HatchLightsModel", "goHatch", "(IZ)I"⟩, 68) := ⟨⟨by decide +kernel, by decide +kernel⟩, List.mem_of_getElem? (i := 1111) (by decide +kernel), List.mem_of_getElem? (i := 1618) (by decide +kernel), List.mem_of_getElem? (i := 1619) (by decide +kernel)⟩
theorem lw_p94 : lw_okq (⟨"HatchLightsModel", "goBehind", "(I)V"⟩, 68) := ⟨⟨by decide +kernel, by decide +kernel⟩, List.mem_of_getElem? (i := 1111) (by decide +kernel), List.mem_of_getElem? (i := 1622) (by decide +kernel), List.mem_of_getElem? (i := 1623) (by decide +kernel)⟩
theorem lw_p95 : lw_okq (⟨"HatchLightsModel", "swapAll", "()V"⟩, 68) := ⟨⟨by decide +kernel, by decide +kernel⟩, List.mem_of_getElem? (i := 1111) (by decide +kernel), List.mem_of_getElem? (i := 1651) (by decide +kernel), List.mem_of_getElem? (i := 1652) (by decide +kernel)⟩
def lw_privs_6 : List (MethodName × Nat) := [(⟨"HatchLightsModel", "isThere", "(I)Z"⟩, 68), (⟨"HatchLightsModel", "worthOf", "(I)I"⟩, 68), (⟨"HatchLightsModel", "worthBy", "(II)I"⟩, 68), (⟨"HatchLightsModel", "layAsked", "(II)V"⟩, 68), (⟨"HatchLightsModel", "movedBy", "(I)I"⟩, 68), (⟨"HatchLightsModel", "rowOf", "(I)I"⟩, 68), (⟨"HatchLightsModel", "comes", "(I)I"⟩, 68), (⟨"HatchLightsModel", "asked", "(II)I"⟩, 68), (⟨"HatchLightsModel", "keptBy", "(I)I"⟩, 68), (⟨"HatchLightsModel", "isRoad", "(I)Z"⟩, 68), (⟨"HatchLightsModel", "firstOf", "(I)I"⟩, 68), (⟨"HatchLightsModel", "keepAct", "()V"⟩, 68), (⟨"HatchLightsModel", "goInEarnest", "(I)I"⟩, 68), (⟨"HatchLightsModel", "goHatch", "(IZ)I"⟩, 68), (⟨"HatchLightsModel", "goBehind", "(I)V"⟩, 68), (⟨"HatchLightsModel", "swapAll", "()V"⟩, 68)]
theorem lw_r6 : ∀ q ∈ lw_privs_6, lw_okq q := List.forall_mem_cons.mpr ⟨lw_p80, List.forall_mem_cons.mpr ⟨lw_p81, List.forall_mem_cons.mpr ⟨lw_p82, List.forall_mem_cons.mpr ⟨lw_p83, List.forall_mem_cons.mpr ⟨lw_p84, List.forall_mem_cons.mpr ⟨lw_p85, List.forall_mem_cons.mpr ⟨lw_p86, List.forall_mem_cons.mpr ⟨lw_p87, List.forall_mem_cons.mpr ⟨lw_p88, List.forall_mem_cons.mpr ⟨lw_p89, List.forall_mem_cons.mpr ⟨lw_p90, List.forall_mem_cons.mpr ⟨lw_p91, List.forall_mem_cons.mpr ⟨lw_p92, List.forall_mem_cons.mpr ⟨lw_p93, List.forall_mem_cons.mpr ⟨lw_p94, List.forall_mem_cons.mpr ⟨lw_p95, fun _ h => absurd h List.not_mem_nil⟩⟩⟩⟩⟩⟩⟩⟩⟩⟩⟩⟩⟩⟩⟩⟩
theorem lw_p96 : lw_okq (⟨"HatchLightsModel", "keepNow", "()V"⟩, 68) := ⟨⟨by decide +kernel, by decide +kernel⟩, List.mem_of_getElem? (i := 1111) (by decide +kernel), List.mem_of_getElem? (i := 1670) (by decide +kernel), List.mem_of_getElem? (i := 1671) (by decide +kernel)⟩
theorem lw_p97 : lw_okq (⟨"HatchLightsModel", "goOnce", "()I"⟩, 68) := ⟨⟨by decide +kernel, by decide +kernel⟩, List.mem_of_getElem? (i := 1111) (by decide +kernel), List.mem_of_getElem? (i := 1674) (by decide +kernel), List.mem_of_getElem? (i := 1675) (by decide +kernel)⟩
theorem lw_p98 : lw_okq (⟨"HatchLightsModel", "thoseBy", "()I"⟩, 68) := ⟨⟨by decide +kernel, by decide +kernel⟩, List.mem_of_getElem? (i := 1111) (by decide +kernel), List.mem_of_getElem? (i := 1678) (by decide +kernel), List.mem_of_getElem? (i := 1679) (by decide +kernel)⟩
theorem lw_p99 : lw_okq (⟨"HatchLightsModel", "bringBack", "()V"⟩, 68) := ⟨⟨by decide +kernel, by decide +kernel⟩, List.mem_of_getElem? (i := 1111) (by decide +kernel), List.mem_of_getElem? (i := 1682) (by decide +kernel), List.mem_of_getElem? (i := 1683) (by decide +kernel)⟩
theorem lw_p100 : lw_okq (⟨"HatchLightsModel", "goHatches", "(III)V"⟩, 68) := ⟨⟨by decide +kernel, by decide +kernel⟩, List.mem_of_getElem? (i := 1111) (by decide +kernel), List.mem_of_getElem? (i := 1690) (by decide +kernel), List.mem_of_getElem? (i := 1691) (by decide +kernel)⟩
theorem lw_p101 : lw_okq (⟨"HatchLightsModel", "pressIn", "(I)I"⟩, 68) := ⟨⟨by decide +kernel, by decide +kernel⟩, List.mem_of_getElem? (i := 1111) (by decide +kernel), List.mem_of_getElem? (i := 1702) (by decide +kernel), List.mem_of_getElem? (i := 1703) (by decide +kernel)⟩
theorem lw_p102 : lw_okq (⟨"HatchLightsModel", "byBehind", "(II)I"⟩, 68) := ⟨⟨by decide +kernel, by decide +kernel⟩, List.mem_of_getElem? (i := 1111) (by decide +kernel), List.mem_of_getElem? (i := 1714) (by decide +kernel), List.mem_of_getElem? (i := 1715) (by decide +kernel)⟩
theorem lw_p103 : lw_okq (⟨"HatchLightsModel", "areAllBy", "(II)Z"⟩, 68) := ⟨⟨by decide +kernel, by decide +kernel⟩, List.mem_of_getElem? (i := 1111) (by decide +kernel), List.mem_of_getElem? (i := 1745) (by decide +kernel), List.mem_of_getElem? (i := 1746) (by decide +kernel)⟩
theorem lw_p104 : lw_okq (⟨"HatchLightsModel", "fewestOf", "(III)I"⟩, 68) := ⟨⟨by decide +kernel, by decide +kernel⟩, List.mem_of_getElem? (i := 1111) (by decide +kernel), List.mem_of_getElem? (i := 1753) (by decide +kernel), List.mem_of_getElem? (i := 1754) (by decide +kernel)⟩
theorem lw_p105 : lw_okq (⟨"HatchLightsModel", "laySooner", "(II)V"⟩, 68) := ⟨⟨by decide +kernel, by decide +kernel⟩, List.mem_of_getElem? (i := 1111) (by decide +kernel), List.mem_of_getElem? (i := 1781) (by decide +kernel), List.mem_of_getElem? (i := 1782) (by decide +kernel)⟩
theorem lw_p106 : lw_okq (⟨"HatchLightsModel", "isRest", "(I)Z"⟩, 68) := ⟨⟨by decide +kernel, by decide +kernel⟩, List.mem_of_getElem? (i := 1111) (by decide +kernel), List.mem_of_getElem? (i := 1785) (by decide +kernel), List.mem_of_getElem? (i := 1786) (by decide +kernel)⟩
theorem lw_p107 : lw_okq (⟨"HatchLightsModel", "layBy", "()V"⟩, 68) := ⟨⟨by decide +kernel, by decide +kernel⟩, List.mem_of_getElem? (i := 1111) (by decide +kernel), List.mem_of_getElem? (i := 1813) (by decide +kernel), List.mem_of_getElem? (i := 1814) (by decide +kernel)⟩
theorem lw_p108 : lw_okq (⟨"HatchLightsModel", "doesFit", "(II)Z"⟩, 68) := ⟨⟨by decide +kernel, by decide +kernel⟩, List.mem_of_getElem? (i := 1111) (by decide +kernel), List.mem_of_getElem? (i := 1817) (by decide +kernel), List.mem_of_getElem? (i := 1818) (by decide +kernel)⟩
theorem lw_p109 : lw_okq (⟨"HatchLightsModel", "mostBehind", "(II)I"⟩, 68) := ⟨⟨by decide +kernel, by decide +kernel⟩, List.mem_of_getElem? (i := 1111) (by decide +kernel), List.mem_of_getElem? (i := 1830) (by decide +kernel), List.mem_of_getElem? (i := 1831) (by decide +kernel)⟩
def lw_privs_7 : List (MethodName × Nat) := [(⟨"HatchLightsModel", "keepNow", "()V"⟩, 68), (⟨"HatchLightsModel", "goOnce", "()I"⟩, 68), (⟨"HatchLightsModel", "thoseBy", "()I"⟩, 68), (⟨"HatchLightsModel", "bringBack", "()V"⟩, 68), (⟨"HatchLightsModel", "goHatches", "(III)V"⟩, 68), (⟨"HatchLightsModel", "pressIn", "(I)I"⟩, 68), (⟨"HatchLightsModel", "byBehind", "(II)I"⟩, 68), (⟨"HatchLightsModel", "areAllBy", "(II)Z"⟩, 68), (⟨"HatchLightsModel", "fewestOf", "(III)I"⟩, 68), (⟨"HatchLightsModel", "laySooner", "(II)V"⟩, 68), (⟨"HatchLightsModel", "isRest", "(I)Z"⟩, 68), (⟨"HatchLightsModel", "layBy", "()V"⟩, 68), (⟨"HatchLightsModel", "doesFit", "(II)Z"⟩, 68), (⟨"HatchLightsModel", "mostBehind", "(II)I"⟩, 68)]
theorem lw_r7 : ∀ q ∈ lw_privs_7, lw_okq q := List.forall_mem_cons.mpr ⟨lw_p96, List.forall_mem_cons.mpr ⟨lw_p97, List.forall_mem_cons.mpr ⟨lw_p98, List.forall_mem_cons.mpr ⟨lw_p99, List.forall_mem_cons.mpr ⟨lw_p100, List.forall_mem_cons.mpr ⟨lw_p101, List.forall_mem_cons.mpr ⟨lw_p102, List.forall_mem_cons.mpr ⟨lw_p103, List.forall_mem_cons.mpr ⟨lw_p104, List.forall_mem_cons.mpr ⟨lw_p105, List.forall_mem_cons.mpr ⟨lw_p106, List.forall_mem_cons.mpr ⟨lw_p107, List.forall_mem_cons.mpr ⟨lw_p108, List.forall_mem_cons.mpr ⟨lw_p109, fun _ h => absurd h List.not_mem_nil⟩⟩⟩⟩⟩⟩⟩⟩⟩⟩⟩⟩⟩⟩
def lw_privs : List (MethodName × Nat) := lw_privs_1 ++ (lw_privs_2 ++ (lw_privs_3 ++ (lw_privs_4 ++ (lw_privs_5 ++ (lw_privs_6 ++ (lw_privs_7))))))
def lw_tbl : List Cond := k2_sels lw_privs ++ tables_1
theorem lw_privs_ok : ∀ q ∈ lw_privs, lw_okq q := by
  show ∀ q ∈ lw_privs_1 ++ (lw_privs_2 ++ (lw_privs_3 ++ (lw_privs_4 ++ (lw_privs_5 ++ (lw_privs_6 ++ (lw_privs_7)))))), lw_okq q
  exact List.forall_mem_append.mpr ⟨lw_r1, List.forall_mem_append.mpr ⟨lw_r2, List.forall_mem_append.mpr ⟨lw_r3, List.forall_mem_append.mpr ⟨lw_r4, List.forall_mem_append.mpr ⟨lw_r5, List.forall_mem_append.mpr ⟨lw_r6, lw_r7⟩⟩⟩⟩⟩⟩
theorem goodIn_r {big : List Cond} (ws : List Cond) (ps : List Nat) (hp : ws = ps.filterMap (fun i => big[i]?)) (h : ws.all goodWord = true) : GoodIn big ws := by
  intro w hw
  have h1 := List.all_eq_true.mp h w hw
  rw [hp] at hw
  obtain ⟨i, -, hi⟩ := List.mem_filterMap.mp hw
  have hm : w ∈ big := by first | exact List.mem_of_getElem? hi | exact List.getElem?_mem hi
  exact ⟨hm, good_of_word h1⟩
def RX0 : String := "HatchLights$Acts"
def TX0 : u_T := fun k => match k with
  | 0 => ("HatchLights$Acts", "done", "I", false)
  | 1 => ("HatchLights$Acts", "kept", "I", false)
  | 2 => ("HatchLights$Acts", "scenes", "[LHatchLights$Scene;", true)
  | _ => ("HatchLights$Acts", "oldest", "I", false)
def tyX0 : Nat → FieldType := fun k => match k with
  | 0 => .int
  | 1 => .int
  | 2 => .array (.object "HatchLights$Scene")
  | _ => .int
abbrev wsX00 : List Cond := u_ws RX0 TX0 4
theorem nmX0 : ∀ a, a < 4 → ∀ b, b < 4 → a ≠ b → (TX0 a).2.1 ≠ (TX0 b).2.1 := by decide +kernel
theorem tyX0_ok : ∀ k, k < 4 → parseFieldDescriptor (TX0 k).2.2.1 = some (tyX0 k) := by decide +kernel
def RX1 : String := "HatchLights$Facts"
def TX1 : u_T := fun k => match k with
  | 0 => ("HatchLights$Facts", "moved", "I", false)
  | 1 => ("HatchLights$Facts", "many", "I", false)
  | 2 => ("HatchLights$Facts", "waited", "I", false)
  | 3 => ("HatchLights$Facts", "behind", "I", false)
  | 4 => ("HatchLights$Facts", "mood", "I", false)
  | _ => ("HatchLights$Facts", "hatch", "I", false)
def tyX1 : Nat → FieldType := fun k => match k with
  | 0 => .int
  | 1 => .int
  | 2 => .int
  | 3 => .int
  | 4 => .int
  | _ => .int
abbrev wsX10 : List Cond := u_ws RX1 TX1 6
theorem nmX1 : ∀ a, a < 6 → ∀ b, b < 6 → a ≠ b → (TX1 a).2.1 ≠ (TX1 b).2.1 := by decide +kernel
theorem tyX1_ok : ∀ k, k < 6 → parseFieldDescriptor (TX1 k).2.2.1 = some (tyX1 k) := by decide +kernel
def RX2 : String := "HatchLights$Formula"
def TX2 : u_T := fun k => match k with
  | 0 => ("HatchLights$Formula", "kinds", "[I", true)
  | 1 => ("HatchLights$Formula", "numbers", "[I", true)
  | 2 => ("HatchLights$Formula", "stack", "[I", true)
  | _ => ("HatchLights$Formula", "size", "I", false)
def tyX2 : Nat → FieldType := fun k => match k with
  | 0 => .array .int
  | 1 => .array .int
  | 2 => .array .int
  | _ => .int
abbrev wsX20 : List Cond := u_ws RX2 TX2 4
theorem nmX2 : ∀ a, a < 4 → ∀ b, b < 4 → a ≠ b → (TX2 a).2.1 ≠ (TX2 b).2.1 := by decide +kernel
theorem tyX2_ok : ∀ k, k < 4 → parseFieldDescriptor (TX2 k).2.2.1 = some (tyX2 k) := by decide +kernel
def RX3 : String := "HatchLights$Reader"
def TX3 : u_T := fun k => match k with
  | 0 => ("HatchLights$Reader", "draft", "LHatchLights$Told;", true)
  | 1 => ("HatchLights$Reader", "fault", "I", false)
  | 2 => ("HatchLights$Reader", "place", "I", false)
  | 3 => ("HatchLights$Reader", "tokens", "LHatchLights$Tokens;", true)
  | 4 => ("HatchLights$Reader", "wordNames", "[J", true)
  | 5 => ("HatchLights$Reader", "comerNames", "[J", true)
  | 6 => ("HatchLights$Reader", "at", "I", false)
  | 7 => ("HatchLights$Reader", "kind", "I", false)
  | 8 => ("HatchLights$Reader", "number", "I", false)
  | 9 => ("HatchLights$Reader", "linesTold", "I", false)
  | 10 => ("HatchLights$Reader", "unitsHere", "I", false)
  | _ => ("HatchLights$Reader", "formula", "LHatchLights$Formula;", false)
def tyX3 : Nat → FieldType := fun k => match k with
  | 0 => .object "HatchLights$Told"
  | 1 => .int
  | 2 => .int
  | 3 => .object "HatchLights$Tokens"
  | 4 => .array .long
  | 5 => .array .long
  | 6 => .int
  | 7 => .int
  | 8 => .int
  | 9 => .int
  | 10 => .int
  | _ => .object "HatchLights$Formula"
abbrev wsX30 : List Cond := u_ws RX3 TX3 12
theorem nmX3 : ∀ a, a < 12 → ∀ b, b < 12 → a ≠ b → (TX3 a).2.1 ≠ (TX3 b).2.1 := by decide +kernel
theorem tyX3_ok : ∀ k, k < 12 → parseFieldDescriptor (TX3 k).2.2.1 = some (tyX3 k) := by decide +kernel
def RX4 : String := "HatchLights$Scene"
def TX4 : u_T := fun k => match k with
  | 0 => ("HatchLights$Scene", "road", "[I", true)
  | 1 => ("HatchLights$Scene", "place", "[I", true)
  | 2 => ("HatchLights$Scene", "reason", "[I", true)
  | 3 => ("HatchLights$Scene", "waited", "[I", true)
  | 4 => ("HatchLights$Scene", "moves", "[I", true)
  | 5 => ("HatchLights$Scene", "size", "[I", true)
  | 6 => ("HatchLights$Scene", "mood", "I", false)
  | 7 => ("HatchLights$Scene", "minutes", "I", false)
  | 8 => ("HatchLights$Scene", "hatches", "I", false)
  | 9 => ("HatchLights$Scene", "hand", "I", false)
  | 10 => ("HatchLights$Scene", "seed", "I", false)
  | 11 => ("HatchLights$Scene", "told", "LHatchLights$Told;", true)
  | _ => ("HatchLights$Scene", "facts", "LHatchLights$Facts;", true)
def tyX4 : Nat → FieldType := fun k => match k with
  | 0 => .array .int
  | 1 => .array .int
  | 2 => .array .int
  | 3 => .array .int
  | 4 => .array .int
  | 5 => .array .int
  | 6 => .int
  | 7 => .int
  | 8 => .int
  | 9 => .int
  | 10 => .int
  | 11 => .object "HatchLights$Told"
  | _ => .object "HatchLights$Facts"
abbrev wsX40 : List Cond := u_ws RX4 TX4 13
theorem nmX4 : ∀ a, a < 13 → ∀ b, b < 13 → a ≠ b → (TX4 a).2.1 ≠ (TX4 b).2.1 := by decide +kernel
theorem tyX4_ok : ∀ k, k < 13 → parseFieldDescriptor (TX4 k).2.2.1 = some (tyX4 k) := by decide +kernel
def RX5 : String := "HatchLights$Sightings"
def TX5 : u_T := fun k => match k with
  | 0 => ("HatchLights$Sightings", "count", "I", false)
  | 1 => ("HatchLights$Sightings", "fitting", "[I", true)
  | 2 => ("HatchLights$Sightings", "told", "LHatchLights$Told;", true)
  | 3 => ("HatchLights$Sightings", "scene", "LHatchLights$Scene;", true)
  | 4 => ("HatchLights$Sightings", "hatches", "[I", true)
  | 5 => ("HatchLights$Sightings", "comers", "[I", true)
  | 6 => ("HatchLights$Sightings", "was", "[Z", true)
  | 7 => ("HatchLights$Sightings", "toldAt", "[I", true)
  | 8 => ("HatchLights$Sightings", "untoldAt", "[I", true)
  | 9 => ("HatchLights$Sightings", "untold", "[Z", true)
  | 10 => ("HatchLights$Sightings", "by", "[I", true)
  | 11 => ("HatchLights$Sightings", "made", "Z", false)
  | _ => ("HatchLights$Sightings", "alike", "[I", true)
def tyX5 : Nat → FieldType := fun k => match k with
  | 0 => .int
  | 1 => .array .int
  | 2 => .object "HatchLights$Told"
  | 3 => .object "HatchLights$Scene"
  | 4 => .array .int
  | 5 => .array .int
  | 6 => .array .boolean
  | 7 => .array .int
  | 8 => .array .int
  | 9 => .array .boolean
  | 10 => .array .int
  | 11 => .boolean
  | _ => .array .int
abbrev wsX50 : List Cond := u_ws RX5 TX5 13
theorem nmX5 : ∀ a, a < 13 → ∀ b, b < 13 → a ≠ b → (TX5 a).2.1 ≠ (TX5 b).2.1 := by decide +kernel
theorem tyX5_ok : ∀ k, k < 13 → parseFieldDescriptor (TX5 k).2.2.1 = some (tyX5 k) := by decide +kernel
def RX6 : String := "HatchLights$Tape"
def TX6 : u_T := fun k => match k with
  | 0 => ("HatchLights$Tape", "bytes", "[B", true)
  | _ => ("HatchLights$Tape", "length", "I", false)
def tyX6 : Nat → FieldType := fun k => match k with
  | 0 => .array .byte
  | _ => .int
abbrev wsX60 : List Cond := u_ws RX6 TX6 2
theorem nmX6 : ∀ a, a < 2 → ∀ b, b < 2 → a ≠ b → (TX6 a).2.1 ≠ (TX6 b).2.1 := by decide +kernel
theorem tyX6_ok : ∀ k, k < 2 → parseFieldDescriptor (TX6 k).2.2.1 = some (tyX6 k) := by decide +kernel
def RX7 : String := "HatchLights$Tokens"
def TX7 : u_T := fun k => match k with
  | 0 => ("HatchLights$Tokens", "kinds", "[I", true)
  | 1 => ("HatchLights$Tokens", "places", "[I", true)
  | 2 => ("HatchLights$Tokens", "values", "[J", true)
  | _ => ("HatchLights$Tokens", "count", "I", false)
def tyX7 : Nat → FieldType := fun k => match k with
  | 0 => .array .int
  | 1 => .array .int
  | 2 => .array .long
  | _ => .int
abbrev wsX70 : List Cond := u_ws RX7 TX7 4
theorem nmX7 : ∀ a, a < 4 → ∀ b, b < 4 → a ≠ b → (TX7 a).2.1 ≠ (TX7 b).2.1 := by decide +kernel
theorem tyX7_ok : ∀ k, k < 4 → parseFieldDescriptor (TX7 k).2.2.1 = some (tyX7 k) := by decide +kernel
def RX8 : String := "HatchLights$Told"
def TX8 : u_T := fun k => match k with
  | 0 => ("HatchLights$Told", "roads", "I", false)
  | 1 => ("HatchLights$Told", "words", "I", false)
  | 2 => ("HatchLights$Told", "comers", "I", false)
  | 3 => ("HatchLights$Told", "mood", "I", false)
  | 4 => ("HatchLights$Told", "whim", "I", false)
  | 5 => ("HatchLights$Told", "draw", "I", false)
  | 6 => ("HatchLights$Told", "units", "I", false)
  | 7 => ("HatchLights$Told", "moves", "[I", true)
  | 8 => ("HatchLights$Told", "tires", "[I", true)
  | 9 => ("HatchLights$Told", "road", "[I", true)
  | 10 => ("HatchLights$Told", "reason", "[I", true)
  | 11 => ("HatchLights$Told", "worth", "LHatchLights$Formula;", true)
  | _ => ("HatchLights$Told", "keeps", "LHatchLights$Formula;", true)
def tyX8 : Nat → FieldType := fun k => match k with
  | 0 => .int
  | 1 => .int
  | 2 => .int
  | 3 => .int
  | 4 => .int
  | 5 => .int
  | 6 => .int
  | 7 => .array .int
  | 8 => .array .int
  | 9 => .array .int
  | 10 => .array .int
  | 11 => .object "HatchLights$Formula"
  | _ => .object "HatchLights$Formula"
abbrev wsX80 : List Cond := u_ws RX8 TX8 13
theorem nmX8 : ∀ a, a < 13 → ∀ b, b < 13 → a ≠ b → (TX8 a).2.1 ≠ (TX8 b).2.1 := by decide +kernel
theorem tyX8_ok : ∀ k, k < 13 → parseFieldDescriptor (TX8 k).2.2.1 = some (tyX8 k) := by decide +kernel
def RX9 : String := "HatchLights"
def TX9 : u_T := fun k => match k with
  | 0 => ("HatchLights", "tape", "LHatchLights$Tape;", true)
  | 1 => ("HatchLights", "reader", "LHatchLights$Reader;", true)
  | 2 => ("HatchLights", "told", "LHatchLights$Told;", true)
  | 3 => ("HatchLights", "now", "LHatchLights$Scene;", true)
  | 4 => ("HatchLights", "trial", "LHatchLights$Scene;", true)
  | 5 => ("HatchLights", "path", "[LHatchLights$Scene;", true)
  | 6 => ("HatchLights", "acts", "LHatchLights$Acts;", true)
  | 7 => ("HatchLights", "boxes", "[LHatchLights$Scene;", true)
  | 8 => ("HatchLights", "boxFull", "[Z", true)
  | 9 => ("HatchLights", "sightings", "LHatchLights$Sightings;", true)
  | 10 => ("HatchLights", "lying", "[I", true)
  | 11 => ("HatchLights", "delays", "[I", true)
  | 12 => ("HatchLights", "otherDelays", "[I", true)
  | 13 => ("HatchLights", "lyingCount", "I", false)
  | _ => ("HatchLights", "time", "I", false)
def tyX9 : Nat → FieldType := fun k => match k with
  | 0 => .object "HatchLights$Tape"
  | 1 => .object "HatchLights$Reader"
  | 2 => .object "HatchLights$Told"
  | 3 => .object "HatchLights$Scene"
  | 4 => .object "HatchLights$Scene"
  | 5 => .array (.object "HatchLights$Scene")
  | 6 => .object "HatchLights$Acts"
  | 7 => .array (.object "HatchLights$Scene")
  | 8 => .array .boolean
  | 9 => .object "HatchLights$Sightings"
  | 10 => .array .int
  | 11 => .array .int
  | 12 => .array .int
  | 13 => .int
  | _ => .int
abbrev wsX90 : List Cond := u_ws RX9 TX9 15
theorem nmX9 : ∀ a, a < 15 → ∀ b, b < 15 → a ≠ b → (TX9 a).2.1 ≠ (TX9 b).2.1 := by decide +kernel
theorem tyX9_ok : ∀ k, k < 15 → parseFieldDescriptor (TX9 k).2.2.1 = some (tyX9 k) := by decide +kernel
def RX10 : String := "HatchLightsModel"
def TX10 : u_T := fun k => match k with
  | 0 => ("HatchLightsModel", "tape", "[B", true)
  | 1 => ("HatchLightsModel", "text", "[B", true)
  | 2 => ("HatchLightsModel", "taped", "I", false)
  | 3 => ("HatchLightsModel", "size", "I", false)
  | 4 => ("HatchLightsModel", "faultKind", "I", false)
  | 5 => ("HatchLightsModel", "faultPlace", "I", false)
  | 6 => ("HatchLightsModel", "at", "I", false)
  | 7 => ("HatchLightsModel", "end", "I", false)
  | 8 => ("HatchLightsModel", "token", "I", false)
  | 9 => ("HatchLightsModel", "number", "I", false)
  | 10 => ("HatchLightsModel", "name", "J", false)
  | 11 => ("HatchLightsModel", "roads", "[I", true)
  | 12 => ("HatchLightsModel", "lines", "[I", true)
  | 13 => ("HatchLightsModel", "words", "[I", true)
  | 14 => ("HatchLightsModel", "comers", "[I", true)
  | 15 => ("HatchLightsModel", "units", "[I", true)
  | 16 => ("HatchLightsModel", "mood", "[I", true)
  | 17 => ("HatchLightsModel", "whim", "[I", true)
  | 18 => ("HatchLightsModel", "draw", "[I", true)
  | 19 => ("HatchLightsModel", "told", "[I", true)
  | 20 => ("HatchLightsModel", "movesTold", "[I", true)
  | 21 => ("HatchLightsModel", "tires", "[I", true)
  | 22 => ("HatchLightsModel", "roadTold", "[I", true)
  | 23 => ("HatchLightsModel", "reasonTold", "[I", true)
  | 24 => ("HatchLightsModel", "ruleFrom", "[I", true)
  | 25 => ("HatchLightsModel", "ruleTo", "[I", true)
  | 26 => ("HatchLightsModel", "wName", "[J", true)
  | 27 => ("HatchLightsModel", "cName", "[J", true)
  | 28 => ("HatchLightsModel", "code", "[I", true)
  | 29 => ("HatchLightsModel", "codeNumber", "[I", true)
  | 30 => ("HatchLightsModel", "eWhat", "[I", true)
  | 31 => ("HatchLightsModel", "eSign", "[I", true)
  | 32 => ("HatchLightsModel", "pile", "[I", true)
  | 33 => ("HatchLightsModel", "bank", "I", false)
  | 34 => ("HatchLightsModel", "rb", "I", false)
  | 35 => ("HatchLightsModel", "codes", "I", false)
  | 36 => ("HatchLightsModel", "within", "I", false)
  | 37 => ("HatchLightsModel", "piled", "I", false)
  | 38 => ("HatchLightsModel", "unitsInRule", "I", false)
  | 39 => ("HatchLightsModel", "askMoved", "I", false)
  | 40 => ("HatchLightsModel", "askMany", "I", false)
  | 41 => ("HatchLightsModel", "askWaited", "I", false)
  | 42 => ("HatchLightsModel", "askBehind", "I", false)
  | 43 => ("HatchLightsModel", "all", "[I", true)
  | 44 => ("HatchLightsModel", "thought", "I", false)
  | 45 => ("HatchLightsModel", "heard", "I", false)
  | 46 => ("HatchLightsModel", "waiting", "I", false)
  | 47 => ("HatchLightsModel", "was", "[I", true)
  | 48 => ("HatchLightsModel", "acts", "I", false)
  | 49 => ("HatchLightsModel", "undone", "I", false)
  | 50 => ("HatchLightsModel", "kept", "[I", true)
  | 51 => ("HatchLightsModel", "laidRow", "[I", true)
  | 52 => ("HatchLightsModel", "laid", "I", false)
  | 53 => ("HatchLightsModel", "waits", "I", false)
  | 54 => ("HatchLightsModel", "ownMinutes", "I", false)
  | 55 => ("HatchLightsModel", "timesHeard", "I", false)
  | 56 => ("HatchLightsModel", "sooner", "[I", true)
  | 57 => ("HatchLightsModel", "byThen", "[I", true)
  | 58 => ("HatchLightsModel", "sHatches", "[I", true)
  | 59 => ("HatchLightsModel", "sComer", "[I", true)
  | 60 => ("HatchLightsModel", "sIs", "[I", true)
  | 61 => ("HatchLightsModel", "sTold", "[I", true)
  | 62 => ("HatchLightsModel", "sUntold", "[I", true)
  | 63 => ("HatchLightsModel", "parts", "[I", true)
  | 64 => ("HatchLightsModel", "seens", "I", false)
  | 65 => ("HatchLightsModel", "time", "I", false)
  | 66 => ("HatchLightsModel", "boxAll", "[I", true)
  | _ => ("HatchLightsModel", "isBoxed", "[Z", true)
def tyX10 : Nat → FieldType := fun k => match k with
  | 0 => .array .byte
  | 1 => .array .byte
  | 2 => .int
  | 3 => .int
  | 4 => .int
  | 5 => .int
  | 6 => .int
  | 7 => .int
  | 8 => .int
  | 9 => .int
  | 10 => .long
  | 11 => .array .int
  | 12 => .array .int
  | 13 => .array .int
  | 14 => .array .int
  | 15 => .array .int
  | 16 => .array .int
  | 17 => .array .int
  | 18 => .array .int
  | 19 => .array .int
  | 20 => .array .int
  | 21 => .array .int
  | 22 => .array .int
  | 23 => .array .int
  | 24 => .array .int
  | 25 => .array .int
  | 26 => .array .long
  | 27 => .array .long
  | 28 => .array .int
  | 29 => .array .int
  | 30 => .array .int
  | 31 => .array .int
  | 32 => .array .int
  | 33 => .int
  | 34 => .int
  | 35 => .int
  | 36 => .int
  | 37 => .int
  | 38 => .int
  | 39 => .int
  | 40 => .int
  | 41 => .int
  | 42 => .int
  | 43 => .array .int
  | 44 => .int
  | 45 => .int
  | 46 => .int
  | 47 => .array .int
  | 48 => .int
  | 49 => .int
  | 50 => .array .int
  | 51 => .array .int
  | 52 => .int
  | 53 => .int
  | 54 => .int
  | 55 => .int
  | 56 => .array .int
  | 57 => .array .int
  | 58 => .array .int
  | 59 => .array .int
  | 60 => .array .int
  | 61 => .array .int
  | 62 => .array .int
  | 63 => .array .int
  | 64 => .int
  | 65 => .int
  | 66 => .array .int
  | _ => .array .boolean
abbrev wsX100 : List Cond := u_ws RX10 TX10 68
theorem nmX10 : ∀ a, a < 68 → ∀ b, b < 68 → a ≠ b → (TX10 a).2.1 ≠ (TX10 b).2.1 := by decide +kernel
theorem tyX10_ok : ∀ k, k < 68 → parseFieldDescriptor (TX10 k).2.2.1 = some (tyX10 k) := by decide +kernel
def RL : String := "HatchLightsLaw"
def RJ11 : String := "java/lang/Character"
def RJ6 : String := "java/lang/Integer"
def RJ9 : String := "java/lang/Math"
def RJ0 : String := "java/lang/String"
def RJ1 : String := "java/lang/StringLatin1"
def RJ2 : String := "java/lang/StringUTF16"
def RJ10 : String := "java/lang/System"
def RJ3 : String := "jdk/internal/util/Preconditions"
def RJ7 : String := "java/util/Arrays"
abbrev cX0_init : ByteArray := prog_2_method_1_code
def yX0_init : MethodName := ⟨RX0, "<init>", "(LHatchLights$Told;)V"⟩
abbrev cX0_forget : ByteArray := prog_2_method_2_code
def yX0_forget : MethodName := ⟨RX0, "forget", "(LHatchLights$Scene;)V"⟩
abbrev cX0_add : ByteArray := prog_2_method_3_code
def yX0_add : MethodName := ⟨RX0, "add", "(LHatchLights$Scene;)V"⟩
abbrev cX0_takeBack : ByteArray := prog_2_method_4_code
def yX0_takeBack : MethodName := ⟨RX0, "takeBack", "(LHatchLights$Scene;)Z"⟩
abbrev cX0_doAgain : ByteArray := prog_2_method_5_code
def yX0_doAgain : MethodName := ⟨RX0, "doAgain", "(LHatchLights$Scene;)Z"⟩
abbrev cX0_current : ByteArray := prog_2_method_6_code
def yX0_current : MethodName := ⟨RX0, "current", "()LHatchLights$Scene;"⟩
abbrev cX1_init : ByteArray := prog_3_method_1_code
def yX1_init : MethodName := ⟨RX1, "<init>", "()V"⟩
abbrev cX1_get : ByteArray := prog_3_method_2_code
def yX1_get : MethodName := ⟨RX1, "get", "(I)I"⟩
abbrev cX2_init : ByteArray := prog_4_method_1_code
def yX2_init : MethodName := ⟨RX2, "<init>", "()V"⟩
abbrev cX2_clear : ByteArray := prog_4_method_2_code
def yX2_clear : MethodName := ⟨RX2, "clear", "()V"⟩
abbrev cX2_add : ByteArray := prog_4_method_3_code
def yX2_add : MethodName := ⟨RX2, "add", "(II)V"⟩
abbrev cX2_copy : ByteArray := prog_4_method_4_code
def yX2_copy : MethodName := ⟨RX2, "copy", "(LHatchLights$Formula;)V"⟩
abbrev cX2_valueBy : ByteArray := prog_4_method_5_code
def yX2_valueBy : MethodName := ⟨RX2, "valueBy", "(LHatchLights$Facts;)I"⟩
abbrev cX2_levelOf : ByteArray := prog_4_method_6_code
def yX2_levelOf : MethodName := ⟨RX2, "levelOf", "(I)I"⟩
abbrev cX2_join : ByteArray := prog_4_method_7_code
def yX2_join : MethodName := ⟨RX2, "join", "(III)I"⟩
abbrev cX3_init : ByteArray := prog_5_method_1_code
def yX3_init : MethodName := ⟨RX3, "<init>", "()V"⟩
abbrev cX3_read : ByteArray := prog_5_method_2_code
def yX3_read : MethodName := ⟨RX3, "read", "(LHatchLights$Tape;)Z"⟩
abbrev cX3_goOn : ByteArray := prog_5_method_3_code
def yX3_goOn : MethodName := ⟨RX3, "goOn", "()V"⟩
abbrev cX3_refuse : ByteArray := prog_5_method_4_code
def yX3_refuse : MethodName := ⟨RX3, "refuse", "(I)Z"⟩
abbrev cX3_readLine : ByteArray := prog_5_method_5_code
def yX3_readLine : MethodName := ⟨RX3, "readLine", "()Z"⟩
abbrev cX3_mayTell : ByteArray := prog_5_method_6_code
def yX3_mayTell : MethodName := ⟨RX3, "mayTell", "(I)Z"⟩
abbrev cX3_readKind : ByteArray := prog_5_method_7_code
def yX3_readKind : MethodName := ⟨RX3, "readKind", "(I)Z"⟩
abbrev cX3_readNumber : ByteArray := prog_5_method_8_code
def yX3_readNumber : MethodName := ⟨RX3, "readNumber", "(II)Z"⟩
abbrev cX3_readNewName : ByteArray := prog_5_method_9_code
def yX3_readNewName : MethodName := ⟨RX3, "readNewName", "([JI)Z"⟩
abbrev cX3_indexOf : ByteArray := prog_5_method_10_code
def yX3_indexOf : MethodName := ⟨RX3, "indexOf", "(J[JI)I"⟩
abbrev cX3_readWord : ByteArray := prog_5_method_11_code
def yX3_readWord : MethodName := ⟨RX3, "readWord", "()Z"⟩
abbrev cX3_readComer : ByteArray := prog_5_method_12_code
def yX3_readComer : MethodName := ⟨RX3, "readComer", "()Z"⟩
abbrev cX3_readSaid : ByteArray := prog_5_method_13_code
def yX3_readSaid : MethodName := ⟨RX3, "readSaid", "(I)Z"⟩
abbrev cX3_readFormula : ByteArray := prog_5_method_14_code
def yX3_readFormula : MethodName := ⟨RX3, "readFormula", "(LHatchLights$Formula;)Z"⟩
abbrev cX3_readLevel : ByteArray := prog_5_method_15_code
def yX3_readLevel : MethodName := ⟨RX3, "readLevel", "(II)Z"⟩
abbrev cX3_readNot : ByteArray := prog_5_method_16_code
def yX3_readNot : MethodName := ⟨RX3, "readNot", "(I)Z"⟩
abbrev cX3_readUnit : ByteArray := prog_5_method_17_code
def yX3_readUnit : MethodName := ⟨RX3, "readUnit", "(I)Z"⟩
abbrev cX3_isUnitStart : ByteArray := prog_5_method_18_code
def yX3_isUnitStart : MethodName := ⟨RX3, "isUnitStart", "(I)Z"⟩
abbrev cX4_init : ByteArray := prog_6_method_1_code
def yX4_init : MethodName := ⟨RX4, "<init>", "(LHatchLights$Told;)V"⟩
abbrev cX4_begin : ByteArray := prog_6_method_2_code
def yX4_begin : MethodName := ⟨RX4, "begin", "()V"⟩
abbrev cX4_copy : ByteArray := prog_6_method_3_code
def yX4_copy : MethodName := ⟨RX4, "copy", "(LHatchLights$Scene;)V"⟩
abbrev cX4_whoIsBy : ByteArray := prog_6_method_4_code
def yX4_whoIsBy : MethodName := ⟨RX4, "whoIsBy", "()I"⟩
abbrev cX4_waiting : ByteArray := prog_6_method_5_code
def yX4_waiting : MethodName := ⟨RX4, "waiting", "()I"⟩
abbrev cX4_sayers : ByteArray := prog_6_method_6_code
def yX4_sayers : MethodName := ⟨RX4, "sayers", "(I)I"⟩
abbrev cX4_worthOf : ByteArray := prog_6_method_7_code
def yX4_worthOf : MethodName := ⟨RX4, "worthOf", "(I)I"⟩
abbrev cX4_worthSaying : ByteArray := prog_6_method_8_code
def yX4_worthSaying : MethodName := ⟨RX4, "worthSaying", "(II)I"⟩
abbrev cX4_worthInMood : ByteArray := prog_6_method_9_code
def yX4_worthInMood : MethodName := ⟨RX4, "worthInMood", "(II)I"⟩
abbrev cX4_keepsOf : ByteArray := prog_6_method_10_code
def yX4_keepsOf : MethodName := ⟨RX4, "keepsOf", "(I)I"⟩
abbrev cX4_withinKept : ByteArray := prog_6_method_11_code
def yX4_withinKept : MethodName := ⟨RX4, "withinKept", "(I)I"⟩
abbrev cX4_factsOf : ByteArray := prog_6_method_12_code
def yX4_factsOf : MethodName := ⟨RX4, "factsOf", "(II)LHatchLights$Facts;"⟩
abbrev cX4_drawWhim : ByteArray := prog_6_method_13_code
def yX4_drawWhim : MethodName := ⟨RX4, "drawWhim", "()Z"⟩
abbrev cX4_openTo : ByteArray := prog_6_method_14_code
def yX4_openTo : MethodName := ⟨RX4, "openTo", "(IZ)I"⟩
abbrev cX4_firstOf : ByteArray := prog_6_method_15_code
def yX4_firstOf : MethodName := ⟨RX4, "firstOf", "(I)I"⟩
abbrev cX4_listen : ByteArray := prog_6_method_16_code
def yX4_listen : MethodName := ⟨RX4, "listen", "(IZ)V"⟩
abbrev cX4_takeRoad : ByteArray := prog_6_method_17_code
def yX4_takeRoad : MethodName := ⟨RX4, "takeRoad", "(II)V"⟩
abbrev cX4_leave : ByteArray := prog_6_method_18_code
def yX4_leave : MethodName := ⟨RX4, "leave", "(I)V"⟩
abbrev cX4_join : ByteArray := prog_6_method_19_code
def yX4_join : MethodName := ⟨RX4, "join", "(II)V"⟩
abbrev cX4_exchange : ByteArray := prog_6_method_20_code
def yX4_exchange : MethodName := ⟨RX4, "exchange", "(II)V"⟩
abbrev cX5_init : ByteArray := prog_7_method_1_code
def yX5_init : MethodName := ⟨RX5, "<init>", "(LHatchLights$Told;)V"⟩
abbrev cX5_forget : ByteArray := prog_7_method_2_code
def yX5_forget : MethodName := ⟨RX5, "forget", "()V"⟩
abbrev cX5_add : ByteArray := prog_7_method_3_code
def yX5_add : MethodName := ⟨RX5, "add", "(IIZI)I"⟩
abbrev cX5_takeBack : ByteArray := prog_7_method_4_code
def yX5_takeBack : MethodName := ⟨RX5, "takeBack", "(II)Z"⟩
abbrev cX5_findFitting : ByteArray := prog_7_method_5_code
def yX5_findFitting : MethodName := ⟨RX5, "findFitting", "(I)I"⟩
abbrev cX5_isFitting : ByteArray := prog_7_method_6_code
def yX5_isFitting : MethodName := ⟨RX5, "isFitting", "(II)Z"⟩
abbrev cX5_makeBy : ByteArray := prog_7_method_7_code
def yX5_makeBy : MethodName := ⟨RX5, "makeBy", "()V"⟩
abbrev cX5_mostAlike : ByteArray := prog_7_method_8_code
def yX5_mostAlike : MethodName := ⟨RX5, "mostAlike", "(II)I"⟩
abbrev cX6_init : ByteArray := prog_8_method_1_code
def yX6_init : MethodName := ⟨RX6, "<init>", "()V"⟩
abbrev cX6_put : ByteArray := prog_8_method_2_code
def yX6_put : MethodName := ⟨RX6, "put", "(I)V"⟩
abbrev cX7_init : ByteArray := prog_9_method_1_code
def yX7_init : MethodName := ⟨RX7, "<init>", "()V"⟩
abbrev cX7_cut : ByteArray := prog_9_method_2_code
def yX7_cut : MethodName := ⟨RX7, "cut", "(LHatchLights$Tape;)V"⟩
abbrev cX7_skipBlanks : ByteArray := prog_9_method_3_code
def yX7_skipBlanks : MethodName := ⟨RX7, "skipBlanks", "(LHatchLights$Tape;I)I"⟩
abbrev cX7_cutEnd : ByteArray := prog_9_method_4_code
def yX7_cutEnd : MethodName := ⟨RX7, "cutEnd", "()I"⟩
abbrev cX7_cutOne : ByteArray := prog_9_method_5_code
def yX7_cutOne : MethodName := ⟨RX7, "cutOne", "(LHatchLights$Tape;I)I"⟩
abbrev cX7_cutWord : ByteArray := prog_9_method_6_code
def yX7_cutWord : MethodName := ⟨RX7, "cutWord", "(LHatchLights$Tape;I)I"⟩
abbrev cX7_kindOfWord : ByteArray := prog_9_method_7_code
def yX7_kindOfWord : MethodName := ⟨RX7, "kindOfWord", "(LHatchLights$Tape;II)I"⟩
abbrev cX7_cutNumber : ByteArray := prog_9_method_8_code
def yX7_cutNumber : MethodName := ⟨RX7, "cutNumber", "(LHatchLights$Tape;I)I"⟩
abbrev cX7_isLetter : ByteArray := prog_9_method_9_code
def yX7_isLetter : MethodName := ⟨RX7, "isLetter", "(I)Z"⟩
abbrev cX7_isDigit : ByteArray := prog_9_method_10_code
def yX7_isDigit : MethodName := ⟨RX7, "isDigit", "(I)Z"⟩
abbrev cX8_init : ByteArray := prog_10_method_1_code
def yX8_init : MethodName := ⟨RX8, "<init>", "()V"⟩
abbrev cX8_clear : ByteArray := prog_10_method_2_code
def yX8_clear : MethodName := ⟨RX8, "clear", "()V"⟩
abbrev cX8_copy : ByteArray := prog_10_method_3_code
def yX8_copy : MethodName := ⟨RX8, "copy", "(LHatchLights$Told;)V"⟩
abbrev cX8_allWords : ByteArray := prog_10_method_4_code
def yX8_allWords : MethodName := ⟨RX8, "allWords", "()I"⟩
abbrev cX8_allComers : ByteArray := prog_10_method_5_code
def yX8_allComers : MethodName := ⟨RX8, "allComers", "()I"⟩
abbrev cX9_init : ByteArray := prog_1_method_1_code
def yX9_init : MethodName := ⟨RX9, "<init>", "()V"⟩
abbrev cX9_feed : ByteArray := prog_1_method_2_code
def yX9_feed : MethodName := ⟨RX9, "feed", "(IIIII)I"⟩
abbrev cX9_end : ByteArray := prog_1_method_3_code
def yX9_end : MethodName := ⟨RX9, "end", "(I)I"⟩
abbrev cX9_crossing : ByteArray := prog_1_method_4_code
def yX9_crossing : MethodName := ⟨RX9, "crossing", "()I"⟩
abbrev cX9_fault : ByteArray := prog_1_method_5_code
def yX9_fault : MethodName := ⟨RX9, "fault", "(I)I"⟩
abbrev cX9_startAsTold : ByteArray := prog_1_method_6_code
def yX9_startAsTold : MethodName := ⟨RX9, "startAsTold", "()V"⟩
abbrev cX9_word : ByteArray := prog_1_method_7_code
def yX9_word : MethodName := ⟨RX9, "word", "(II)I"⟩
abbrev cX9_comer : ByteArray := prog_1_method_8_code
def yX9_comer : MethodName := ⟨RX9, "comer", "(II)I"⟩
abbrev cX9_worth : ByteArray := prog_1_method_9_code
def yX9_worth : MethodName := ⟨RX9, "worth", "(I)I"⟩
abbrev cX9_keeps : ByteArray := prog_1_method_10_code
def yX9_keeps : MethodName := ⟨RX9, "keeps", "(I)I"⟩
abbrev cX9_row : ByteArray := prog_1_method_11_code
def yX9_row : MethodName := ⟨RX9, "row", "(I)I"⟩
abbrev cX9_ready : ByteArray := prog_1_method_12_code
def yX9_ready : MethodName := ⟨RX9, "ready", "()I"⟩
abbrev cX9_oldest : ByteArray := prog_1_method_13_code
def yX9_oldest : MethodName := ⟨RX9, "oldest", "()I"⟩
abbrev cX9_fashion : ByteArray := prog_1_method_14_code
def yX9_fashion : MethodName := ⟨RX9, "fashion", "()I"⟩
abbrev cX9_lull : ByteArray := prog_1_method_15_code
def yX9_lull : MethodName := ⟨RX9, "lull", "(I)I"⟩
abbrev cX9_lies : ByteArray := prog_1_method_16_code
def yX9_lies : MethodName := ⟨RX9, "lies", "(I)I"⟩
abbrev cX9_about : ByteArray := prog_1_method_17_code
def yX9_about : MethodName := ⟨RX9, "about", "(I)I"⟩
abbrev cX9_isComer : ByteArray := prog_1_method_18_code
def yX9_isComer : MethodName := ⟨RX9, "isComer", "(I)Z"⟩
abbrev cX9_isWaiting : ByteArray := prog_1_method_19_code
def yX9_isWaiting : MethodName := ⟨RX9, "isWaiting", "(I)Z"⟩
abbrev cX9_isWord : ByteArray := prog_1_method_20_code
def yX9_isWord : MethodName := ⟨RX9, "isWord", "(I)Z"⟩
abbrev cX9_isRoad : ByteArray := prog_1_method_21_code
def yX9_isRoad : MethodName := ⟨RX9, "isRoad", "(I)Z"⟩
abbrev cX9_isAhead : ByteArray := prog_1_method_22_code
def yX9_isAhead : MethodName := ⟨RX9, "isAhead", "(I)Z"⟩
abbrev cX9_isEither : ByteArray := prog_1_method_23_code
def yX9_isEither : MethodName := ⟨RX9, "isEither", "(I)Z"⟩
abbrev cX9_hatch : ByteArray := prog_1_method_24_code
def yX9_hatch : MethodName := ⟨RX9, "hatch", "()I"⟩
abbrev cX9_open : ByteArray := prog_1_method_25_code
def yX9_open : MethodName := ⟨RX9, "open", "(I)I"⟩
abbrev cX9_openInEarnest : ByteArray := prog_1_method_26_code
def yX9_openInEarnest : MethodName := ⟨RX9, "openInEarnest", "(I)I"⟩
abbrev cX9_rehearse : ByteArray := prog_1_method_27_code
def yX9_rehearse : MethodName := ⟨RX9, "rehearse", "(II)I"⟩
abbrev cX9_isReason : ByteArray := prog_1_method_28_code
def yX9_isReason : MethodName := ⟨RX9, "isReason", "(I)Z"⟩
abbrev cX9_turn : ByteArray := prog_1_method_29_code
def yX9_turn : MethodName := ⟨RX9, "turn", "(II)I"⟩
abbrev cX9_revive : ByteArray := prog_1_method_30_code
def yX9_revive : MethodName := ⟨RX9, "revive", "(I)I"⟩
abbrev cX9_humour : ByteArray := prog_1_method_31_code
def yX9_humour : MethodName := ⟨RX9, "humour", "(I)I"⟩
abbrev cX9_undo : ByteArray := prog_1_method_32_code
def yX9_undo : MethodName := ⟨RX9, "undo", "()Z"⟩
abbrev cX9_redo : ByteArray := prog_1_method_33_code
def yX9_redo : MethodName := ⟨RX9, "redo", "()Z"⟩
abbrev cX9_image : ByteArray := prog_1_method_34_code
def yX9_image : MethodName := ⟨RX9, "image", "(I)I"⟩
abbrev cX9_back : ByteArray := prog_1_method_35_code
def yX9_back : MethodName := ⟨RX9, "back", "(I)I"⟩
abbrev cX9_will : ByteArray := prog_1_method_36_code
def yX9_will : MethodName := ⟨RX9, "will", "(II)I"⟩
abbrev cX9_when : ByteArray := prog_1_method_37_code
def yX9_when : MethodName := ⟨RX9, "when", "(I)I"⟩
abbrev cX9_hatchesTill : ByteArray := prog_1_method_38_code
def yX9_hatchesTill : MethodName := ⟨RX9, "hatchesTill", "(I)I"⟩
abbrev cX9_lookAhead : ByteArray := prog_1_method_39_code
def yX9_lookAhead : MethodName := ⟨RX9, "lookAhead", "(I)V"⟩
abbrev cX9_clock : ByteArray := prog_1_method_40_code
def yX9_clock : MethodName := ⟨RX9, "clock", "(I)I"⟩
abbrev cX9_temper : ByteArray := prog_1_method_41_code
def yX9_temper : MethodName := ⟨RX9, "temper", "(I)I"⟩
abbrev cX9_clears : ByteArray := prog_1_method_42_code
def yX9_clears : MethodName := ⟨RX9, "clears", "(II)I"⟩
abbrev cX9_jam : ByteArray := prog_1_method_43_code
def yX9_jam : MethodName := ⟨RX9, "jam", "()I"⟩
abbrev cX9_press : ByteArray := prog_1_method_44_code
def yX9_press : MethodName := ⟨RX9, "press", "(I)I"⟩
abbrev cX9_pressOfTrial : ByteArray := prog_1_method_45_code
def yX9_pressOfTrial : MethodName := ⟨RX9, "pressOfTrial", "(I)I"⟩
abbrev cX9_reorder : ByteArray := prog_1_method_46_code
def yX9_reorder : MethodName := ⟨RX9, "reorder", "(II)I"⟩
abbrev cX9_spends : ByteArray := prog_1_method_47_code
def yX9_spends : MethodName := ⟨RX9, "spends", "(I)I"⟩
abbrev cX9_echoes : ByteArray := prog_1_method_48_code
def yX9_echoes : MethodName := ⟨RX9, "echoes", "(II)I"⟩
abbrev cX9_best : ByteArray := prog_1_method_49_code
def yX9_best : MethodName := ⟨RX9, "best", "(II)I"⟩
abbrev cX9_soonest : ByteArray := prog_1_method_50_code
def yX9_soonest : MethodName := ⟨RX9, "soonest", "()I"⟩
abbrev cX9_allByWithin : ByteArray := prog_1_method_51_code
def yX9_allByWithin : MethodName := ⟨RX9, "allByWithin", "(II)Z"⟩
abbrev cX9_rivals : ByteArray := prog_1_method_52_code
def yX9_rivals : MethodName := ⟨RX9, "rivals", "(II)I"⟩
abbrev cX9_tryRivals : ByteArray := prog_1_method_53_code
def yX9_tryRivals : MethodName := ⟨RX9, "tryRivals", "(IIII)V"⟩
abbrev cX9_isRest : ByteArray := prog_1_method_54_code
def yX9_isRest : MethodName := ⟨RX9, "isRest", "(II)Z"⟩
abbrev cX9_shortest : ByteArray := prog_1_method_55_code
def yX9_shortest : MethodName := ⟨RX9, "shortest", "(II)I"⟩
abbrev cX9_honest : ByteArray := prog_1_method_56_code
def yX9_honest : MethodName := ⟨RX9, "honest", "(II)I"⟩
abbrev cX9_fewestWords : ByteArray := prog_1_method_57_code
def yX9_fewestWords : MethodName := ⟨RX9, "fewestWords", "(III)I"⟩
abbrev cX9_spark : ByteArray := prog_1_method_58_code
def yX9_spark : MethodName := ⟨RX9, "spark", "(II)I"⟩
abbrev cX9_drop : ByteArray := prog_1_method_59_code
def yX9_drop : MethodName := ⟨RX9, "drop", "(II)I"⟩
abbrev cX9_mostWorth : ByteArray := prog_1_method_60_code
def yX9_mostWorth : MethodName := ⟨RX9, "mostWorth", "(III)I"⟩
abbrev cX9_coax : ByteArray := prog_1_method_61_code
def yX9_coax : MethodName := ⟨RX9, "coax", "(I)I"⟩
abbrev cX9_law : ByteArray := prog_1_method_62_code
def yX9_law : MethodName := ⟨RX9, "law", "(I)I"⟩
abbrev cX9_odds : ByteArray := prog_1_method_63_code
def yX9_odds : MethodName := ⟨RX9, "odds", "(II)I"⟩
abbrev cX9_commonDivisor : ByteArray := prog_1_method_64_code
def yX9_commonDivisor : MethodName := ⟨RX9, "commonDivisor", "(II)I"⟩
abbrev cX9_seen : ByteArray := prog_1_method_65_code
def yX9_seen : MethodName := ⟨RX9, "seen", "(IIZ)I"⟩
abbrev cX9_untell : ByteArray := prog_1_method_66_code
def yX9_untell : MethodName := ⟨RX9, "untell", "(I)Z"⟩
abbrev cX9_later : ByteArray := prog_1_method_67_code
def yX9_later : MethodName := ⟨RX9, "later", "(I)I"⟩
abbrev cX9_fits : ByteArray := prog_1_method_68_code
def yX9_fits : MethodName := ⟨RX9, "fits", "(I)I"⟩
abbrev cX9_sure : ByteArray := prog_1_method_69_code
def yX9_sure : MethodName := ⟨RX9, "sure", "(II)I"⟩
abbrev cX9_ask : ByteArray := prog_1_method_70_code
def yX9_ask : MethodName := ⟨RX9, "ask", "(II)I"⟩
abbrev cX10_init : ByteArray := prog_12_method_1_code
def yX10_init : MethodName := ⟨RX10, "<init>", "()V"⟩
abbrev cX10_sign : ByteArray := prog_12_method_2_code
def yX10_sign : MethodName := ⟨RX10, "sign", "(I)I"⟩
abbrev cX10_isLetter : ByteArray := prog_12_method_3_code
def yX10_isLetter : MethodName := ⟨RX10, "isLetter", "(I)Z"⟩
abbrev cX10_isDigit : ByteArray := prog_12_method_4_code
def yX10_isDigit : MethodName := ⟨RX10, "isDigit", "(I)Z"⟩
abbrev cX10_fails : ByteArray := prog_12_method_5_code
def yX10_fails : MethodName := ⟨RX10, "fails", "(II)V"⟩
abbrev cX10_isGood : ByteArray := prog_12_method_6_code
def yX10_isGood : MethodName := ⟨RX10, "isGood", "()Z"⟩
abbrev cX10_isKept : ByteArray := prog_12_method_7_code
def yX10_isKept : MethodName := ⟨RX10, "isKept", "(J)Z"⟩
abbrev cX10_isSign : ByteArray := prog_12_method_8_code
def yX10_isSign : MethodName := ⟨RX10, "isSign", "(I)Z"⟩
abbrev cX10_goOn : ByteArray := prog_12_method_9_code
def yX10_goOn : MethodName := ⟨RX10, "goOn", "()V"⟩
abbrev cX10_isSignHere : ByteArray := prog_12_method_10_code
def yX10_isSignHere : MethodName := ⟨RX10, "isSignHere", "(I)Z"⟩
abbrev cX10_isWord : ByteArray := prog_12_method_11_code
def yX10_isWord : MethodName := ⟨RX10, "isWord", "(J)Z"⟩
abbrev cX10_misplaced : ByteArray := prog_12_method_12_code
def yX10_misplaced : MethodName := ⟨RX10, "misplaced", "()V"⟩
abbrev cX10_must : ByteArray := prog_12_method_13_code
def yX10_must : MethodName := ⟨RX10, "must", "(Z)V"⟩
abbrev cX10_numeral : ByteArray := prog_12_method_14_code
def yX10_numeral : MethodName := ⟨RX10, "numeral", "(II)I"⟩
abbrev cX10_after : ByteArray := prog_12_method_15_code
def yX10_after : MethodName := ⟨RX10, "after", "(JII)I"⟩
abbrev cX10_clearBank : ByteArray := prog_12_method_16_code
def yX10_clearBank : MethodName := ⟨RX10, "clearBank", "()V"⟩
abbrev cX10_crossing : ByteArray := prog_12_method_17_code
def yX10_crossing : MethodName := ⟨RX10, "crossing", "()I"⟩
abbrev cX10_isFull : ByteArray := prog_12_method_18_code
def yX10_isFull : MethodName := ⟨RX10, "isFull", "()Z"⟩
abbrev cX10_once : ByteArray := prog_12_method_19_code
def yX10_once : MethodName := ⟨RX10, "once", "(II)I"⟩
abbrev cX10_readLine : ByteArray := prog_12_method_20_code
def yX10_readLine : MethodName := ⟨RX10, "readLine", "()V"⟩
abbrev cX10_here : ByteArray := prog_12_method_21_code
def yX10_here : MethodName := ⟨RX10, "here", "([JII)I"⟩
abbrev cX10_wordNamed : ByteArray := prog_12_method_22_code
def yX10_wordNamed : MethodName := ⟨RX10, "wordNamed", "()I"⟩
abbrev cX10_fresh : ByteArray := prog_12_method_23_code
def yX10_fresh : MethodName := ⟨RX10, "fresh", "(I)J"⟩
abbrev cX10_readWord : ByteArray := prog_12_method_24_code
def yX10_readWord : MethodName := ⟨RX10, "readWord", "()V"⟩
abbrev cX10_readComer : ByteArray := prog_12_method_25_code
def yX10_readComer : MethodName := ⟨RX10, "readComer", "()V"⟩
abbrev cX10_readRule : ByteArray := prog_12_method_26_code
def yX10_readRule : MethodName := ⟨RX10, "readRule", "(I)V"⟩
abbrev cX10_emit : ByteArray := prog_12_method_27_code
def yX10_emit : MethodName := ⟨RX10, "emit", "(II)V"⟩
abbrev cX10_pushE : ByteArray := prog_12_method_28_code
def yX10_pushE : MethodName := ⟨RX10, "pushE", "(II)V"⟩
abbrev cX10_e : ByteArray := prog_12_method_29_code
def yX10_e : MethodName := ⟨RX10, "e", "()V"⟩
abbrev cX10_wordHere : ByteArray := prog_12_method_30_code
def yX10_wordHere : MethodName := ⟨RX10, "wordHere", "()I"⟩
abbrev cX10_unit : ByteArray := prog_12_method_31_code
def yX10_unit : MethodName := ⟨RX10, "unit", "()Z"⟩
abbrev cX10_rankHere : ByteArray := prog_12_method_32_code
def yX10_rankHere : MethodName := ⟨RX10, "rankHere", "()I"⟩
abbrev cX10_isCompared : ByteArray := prog_12_method_33_code
def yX10_isCompared : MethodName := ⟨RX10, "isCompared", "()Z"⟩
abbrev cX10_behindUnit : ByteArray := prog_12_method_34_code
def yX10_behindUnit : MethodName := ⟨RX10, "behindUnit", "()Z"⟩
abbrev cX10_two : ByteArray := prog_12_method_35_code
def yX10_two : MethodName := ⟨RX10, "two", "(III)I"⟩
abbrev cX10_asked : ByteArray := prog_12_method_36_code
def yX10_asked : MethodName := ⟨RX10, "asked", "(II)I"⟩
abbrev cX10_comes : ByteArray := prog_12_method_37_code
def yX10_comes : MethodName := ⟨RX10, "comes", "(I)I"⟩
abbrev cX10_fault : ByteArray := prog_12_method_38_code
def yX10_fault : MethodName := ⟨RX10, "fault", "(I)I"⟩
abbrev cX10_isIn : ByteArray := prog_12_method_39_code
def yX10_isIn : MethodName := ⟨RX10, "isIn", "(III)Z"⟩
abbrev cX10_held : ByteArray := prog_12_method_40_code
def yX10_held : MethodName := ⟨RX10, "held", "(III)I"⟩
abbrev cX10_bit : ByteArray := prog_12_method_41_code
def yX10_bit : MethodName := ⟨RX10, "bit", "(II)Z"⟩
abbrev cX10_bitsOf : ByteArray := prog_12_method_42_code
def yX10_bitsOf : MethodName := ⟨RX10, "bitsOf", "(I)I"⟩
abbrev cX10_divisor : ByteArray := prog_12_method_43_code
def yX10_divisor : MethodName := ⟨RX10, "divisor", "(II)I"⟩
abbrev cX10_power : ByteArray := prog_12_method_44_code
def yX10_power : MethodName := ⟨RX10, "power", "(II)I"⟩
abbrev cX10_many : ByteArray := prog_12_method_45_code
def yX10_many : MethodName := ⟨RX10, "many", "()I"⟩
abbrev cX10_kinds : ByteArray := prog_12_method_46_code
def yX10_kinds : MethodName := ⟨RX10, "kinds", "()I"⟩
abbrev cX10_isComer : ByteArray := prog_12_method_47_code
def yX10_isComer : MethodName := ⟨RX10, "isComer", "(I)Z"⟩
abbrev cX10_isWordNumber : ByteArray := prog_12_method_48_code
def yX10_isWordNumber : MethodName := ⟨RX10, "isWordNumber", "(I)Z"⟩
abbrev cX10_isRoad : ByteArray := prog_12_method_49_code
def yX10_isRoad : MethodName := ⟨RX10, "isRoad", "(I)Z"⟩
abbrev cX10_isBy : ByteArray := prog_12_method_50_code
def yX10_isBy : MethodName := ⟨RX10, "isBy", "(I)Z"⟩
abbrev cX10_isThere : ByteArray := prog_12_method_51_code
def yX10_isThere : MethodName := ⟨RX10, "isThere", "(I)Z"⟩
abbrev cX10_isAhead : ByteArray := prog_12_method_52_code
def yX10_isAhead : MethodName := ⟨RX10, "isAhead", "(I)Z"⟩
abbrev cX10_startAnew : ByteArray := prog_12_method_53_code
def yX10_startAnew : MethodName := ⟨RX10, "startAnew", "()V"⟩
abbrev cX10_layTold : ByteArray := prog_12_method_54_code
def yX10_layTold : MethodName := ⟨RX10, "layTold", "()V"⟩
abbrev cX10_thoseBy : ByteArray := prog_12_method_55_code
def yX10_thoseBy : MethodName := ⟨RX10, "thoseBy", "()I"⟩
abbrev cX10_rowOf : ByteArray := prog_12_method_56_code
def yX10_rowOf : MethodName := ⟨RX10, "rowOf", "(I)I"⟩
abbrev cX10_placeOf : ByteArray := prog_12_method_57_code
def yX10_placeOf : MethodName := ⟨RX10, "placeOf", "(I)I"⟩
abbrev cX10_firstOf : ByteArray := prog_12_method_58_code
def yX10_firstOf : MethodName := ⟨RX10, "firstOf", "(I)I"⟩
abbrev cX10_goBehind : ByteArray := prog_12_method_59_code
def yX10_goBehind : MethodName := ⟨RX10, "goBehind", "(I)V"⟩
abbrev cX10_movedBy : ByteArray := prog_12_method_60_code
def yX10_movedBy : MethodName := ⟨RX10, "movedBy", "(I)I"⟩
abbrev cX10_layAsked : ByteArray := prog_12_method_61_code
def yX10_layAsked : MethodName := ⟨RX10, "layAsked", "(II)V"⟩
abbrev cX10_worthBy : ByteArray := prog_12_method_62_code
def yX10_worthBy : MethodName := ⟨RX10, "worthBy", "(II)I"⟩
abbrev cX10_worthOf : ByteArray := prog_12_method_63_code
def yX10_worthOf : MethodName := ⟨RX10, "worthOf", "(I)I"⟩
abbrev cX10_keptBy : ByteArray := prog_12_method_64_code
def yX10_keptBy : MethodName := ⟨RX10, "keptBy", "(I)I"⟩
abbrev cX10_goHatch : ByteArray := prog_12_method_65_code
def yX10_goHatch : MethodName := ⟨RX10, "goHatch", "(IZ)I"⟩
abbrev cX10_goOnce : ByteArray := prog_12_method_66_code
def yX10_goOnce : MethodName := ⟨RX10, "goOnce", "()I"⟩
abbrev cX10_goInEarnest : ByteArray := prog_12_method_67_code
def yX10_goInEarnest : MethodName := ⟨RX10, "goInEarnest", "(I)I"⟩
abbrev cX10_sayers : ByteArray := prog_12_method_68_code
def yX10_sayers : MethodName := ⟨RX10, "sayers", "(I)I"⟩
abbrev cX10_word : ByteArray := prog_12_method_69_code
def yX10_word : MethodName := ⟨RX10, "word", "(II)I"⟩
abbrev cX10_comer : ByteArray := prog_12_method_70_code
def yX10_comer : MethodName := ⟨RX10, "comer", "(II)I"⟩
abbrev cX10_worth : ByteArray := prog_12_method_71_code
def yX10_worth : MethodName := ⟨RX10, "worth", "(I)I"⟩
abbrev cX10_keeps : ByteArray := prog_12_method_72_code
def yX10_keeps : MethodName := ⟨RX10, "keeps", "(I)I"⟩
abbrev cX10_row : ByteArray := prog_12_method_73_code
def yX10_row : MethodName := ⟨RX10, "row", "(I)I"⟩
abbrev cX10_ready : ByteArray := prog_12_method_74_code
def yX10_ready : MethodName := ⟨RX10, "ready", "()I"⟩
abbrev cX10_oldest : ByteArray := prog_12_method_75_code
def yX10_oldest : MethodName := ⟨RX10, "oldest", "()I"⟩
abbrev cX10_fashion : ByteArray := prog_12_method_76_code
def yX10_fashion : MethodName := ⟨RX10, "fashion", "()I"⟩
abbrev cX10_lull : ByteArray := prog_12_method_77_code
def yX10_lull : MethodName := ⟨RX10, "lull", "(I)I"⟩
abbrev cX10_keepAct : ByteArray := prog_12_method_78_code
def yX10_keepAct : MethodName := ⟨RX10, "keepAct", "()V"⟩
abbrev cX10_swapAll : ByteArray := prog_12_method_79_code
def yX10_swapAll : MethodName := ⟨RX10, "swapAll", "()V"⟩
abbrev cX10_open : ByteArray := prog_12_method_80_code
def yX10_open : MethodName := ⟨RX10, "open", "(I)I"⟩
abbrev cX10_hatch : ByteArray := prog_12_method_81_code
def yX10_hatch : MethodName := ⟨RX10, "hatch", "()I"⟩
abbrev cX10_rehearse : ByteArray := prog_12_method_82_code
def yX10_rehearse : MethodName := ⟨RX10, "rehearse", "(II)I"⟩
abbrev cX10_turn : ByteArray := prog_12_method_83_code
def yX10_turn : MethodName := ⟨RX10, "turn", "(II)I"⟩
abbrev cX10_revive : ByteArray := prog_12_method_84_code
def yX10_revive : MethodName := ⟨RX10, "revive", "(I)I"⟩
abbrev cX10_humour : ByteArray := prog_12_method_85_code
def yX10_humour : MethodName := ⟨RX10, "humour", "(I)I"⟩
abbrev cX10_undo : ByteArray := prog_12_method_86_code
def yX10_undo : MethodName := ⟨RX10, "undo", "()Z"⟩
abbrev cX10_redo : ByteArray := prog_12_method_87_code
def yX10_redo : MethodName := ⟨RX10, "redo", "()Z"⟩
abbrev cX10_lies : ByteArray := prog_12_method_88_code
def yX10_lies : MethodName := ⟨RX10, "lies", "(I)I"⟩
abbrev cX10_keepNow : ByteArray := prog_12_method_89_code
def yX10_keepNow : MethodName := ⟨RX10, "keepNow", "()V"⟩
abbrev cX10_bringBack : ByteArray := prog_12_method_90_code
def yX10_bringBack : MethodName := ⟨RX10, "bringBack", "()V"⟩
abbrev cX10_goHatches : ByteArray := prog_12_method_91_code
def yX10_goHatches : MethodName := ⟨RX10, "goHatches", "(III)V"⟩
abbrev cX10_will : ByteArray := prog_12_method_92_code
def yX10_will : MethodName := ⟨RX10, "will", "(II)I"⟩
abbrev cX10_clock : ByteArray := prog_12_method_93_code
def yX10_clock : MethodName := ⟨RX10, "clock", "(I)I"⟩
abbrev cX10_temper : ByteArray := prog_12_method_94_code
def yX10_temper : MethodName := ⟨RX10, "temper", "(I)I"⟩
abbrev cX10_pressIn : ByteArray := prog_12_method_95_code
def yX10_pressIn : MethodName := ⟨RX10, "pressIn", "(I)I"⟩
abbrev cX10_press : ByteArray := prog_12_method_96_code
def yX10_press : MethodName := ⟨RX10, "press", "(I)I"⟩
abbrev cX10_echoes : ByteArray := prog_12_method_97_code
def yX10_echoes : MethodName := ⟨RX10, "echoes", "(II)I"⟩
abbrev cX10_byBehind : ByteArray := prog_12_method_98_code
def yX10_byBehind : MethodName := ⟨RX10, "byBehind", "(II)I"⟩
abbrev cX10_when : ByteArray := prog_12_method_99_code
def yX10_when : MethodName := ⟨RX10, "when", "(I)I"⟩
abbrev cX10_spends : ByteArray := prog_12_method_100_code
def yX10_spends : MethodName := ⟨RX10, "spends", "(I)I"⟩
abbrev cX10_jam : ByteArray := prog_12_method_101_code
def yX10_jam : MethodName := ⟨RX10, "jam", "()I"⟩
abbrev cX10_clears : ByteArray := prog_12_method_102_code
def yX10_clears : MethodName := ⟨RX10, "clears", "(II)I"⟩
abbrev cX10_best : ByteArray := prog_12_method_103_code
def yX10_best : MethodName := ⟨RX10, "best", "(II)I"⟩
abbrev cX10_reorder : ByteArray := prog_12_method_104_code
def yX10_reorder : MethodName := ⟨RX10, "reorder", "(II)I"⟩
abbrev cX10_areAllBy : ByteArray := prog_12_method_105_code
def yX10_areAllBy : MethodName := ⟨RX10, "areAllBy", "(II)Z"⟩
abbrev cX10_soonest : ByteArray := prog_12_method_106_code
def yX10_soonest : MethodName := ⟨RX10, "soonest", "()I"⟩
abbrev cX10_fewestOf : ByteArray := prog_12_method_107_code
def yX10_fewestOf : MethodName := ⟨RX10, "fewestOf", "(III)I"⟩
abbrev cX10_shortest : ByteArray := prog_12_method_108_code
def yX10_shortest : MethodName := ⟨RX10, "shortest", "(II)I"⟩
abbrev cX10_honest : ByteArray := prog_12_method_109_code
def yX10_honest : MethodName := ⟨RX10, "honest", "(II)I"⟩
abbrev cX10_spark : ByteArray := prog_12_method_110_code
def yX10_spark : MethodName := ⟨RX10, "spark", "(II)I"⟩
abbrev cX10_drop : ByteArray := prog_12_method_111_code
def yX10_drop : MethodName := ⟨RX10, "drop", "(II)I"⟩
abbrev cX10_coax : ByteArray := prog_12_method_112_code
def yX10_coax : MethodName := ⟨RX10, "coax", "(I)I"⟩
abbrev cX10_law : ByteArray := prog_12_method_113_code
def yX10_law : MethodName := ⟨RX10, "law", "(I)I"⟩
abbrev cX10_laySooner : ByteArray := prog_12_method_114_code
def yX10_laySooner : MethodName := ⟨RX10, "laySooner", "(II)V"⟩
abbrev cX10_isRest : ByteArray := prog_12_method_115_code
def yX10_isRest : MethodName := ⟨RX10, "isRest", "(I)Z"⟩
abbrev cX10_rivals : ByteArray := prog_12_method_116_code
def yX10_rivals : MethodName := ⟨RX10, "rivals", "(II)I"⟩
abbrev cX10_odds : ByteArray := prog_12_method_117_code
def yX10_odds : MethodName := ⟨RX10, "odds", "(II)I"⟩
abbrev cX10_seen : ByteArray := prog_12_method_118_code
def yX10_seen : MethodName := ⟨RX10, "seen", "(IIZ)I"⟩
abbrev cX10_untell : ByteArray := prog_12_method_119_code
def yX10_untell : MethodName := ⟨RX10, "untell", "(I)Z"⟩
abbrev cX10_later : ByteArray := prog_12_method_120_code
def yX10_later : MethodName := ⟨RX10, "later", "(I)I"⟩
abbrev cX10_layBy : ByteArray := prog_12_method_121_code
def yX10_layBy : MethodName := ⟨RX10, "layBy", "()V"⟩
abbrev cX10_doesFit : ByteArray := prog_12_method_122_code
def yX10_doesFit : MethodName := ⟨RX10, "doesFit", "(II)Z"⟩
abbrev cX10_fits : ByteArray := prog_12_method_123_code
def yX10_fits : MethodName := ⟨RX10, "fits", "(I)I"⟩
abbrev cX10_sure : ByteArray := prog_12_method_124_code
def yX10_sure : MethodName := ⟨RX10, "sure", "(II)I"⟩
abbrev cX10_mostBehind : ByteArray := prog_12_method_125_code
def yX10_mostBehind : MethodName := ⟨RX10, "mostBehind", "(II)I"⟩
abbrev cX10_ask : ByteArray := prog_12_method_126_code
def yX10_ask : MethodName := ⟨RX10, "ask", "(II)I"⟩
abbrev cX10_image : ByteArray := prog_12_method_127_code
def yX10_image : MethodName := ⟨RX10, "image", "(I)I"⟩
abbrev cX10_back : ByteArray := prog_12_method_128_code
def yX10_back : MethodName := ⟨RX10, "back", "(I)I"⟩
abbrev cX10_about : ByteArray := prog_12_method_129_code
def yX10_about : MethodName := ⟨RX10, "about", "(I)I"⟩
abbrev cX10_feed : ByteArray := prog_12_method_130_code
def yX10_feed : MethodName := ⟨RX10, "feed", "(IIIII)I"⟩
abbrev cX10_end : ByteArray := prog_12_method_131_code
def yX10_end : MethodName := ⟨RX10, "end", "(I)I"⟩
abbrev cJ11_isValidCodePoint_9a6ad : ByteArray := prog_13_method_11_code
def yJ11_isValidCodePoint_9a6ad : MethodName := ⟨RJ11, "isValidCodePoint", "(I)Z"⟩
abbrev cJ11_highSurrogate_5068e : ByteArray := prog_13_method_28_code
def yJ11_highSurrogate_5068e : MethodName := ⟨RJ11, "highSurrogate", "(I)C"⟩
abbrev cJ11_lowSurrogate_5068e : ByteArray := prog_13_method_29_code
def yJ11_lowSurrogate_5068e : MethodName := ⟨RJ11, "lowSurrogate", "(I)C"⟩
abbrev cJ6_bitCount_0f7a4 : ByteArray := prog_14_method_49_code
def yJ6_bitCount_0f7a4 : MethodName := ⟨RJ6, "bitCount", "(I)I"⟩
abbrev cJ9_max_7cf53 : ByteArray := prog_15_method_65_code
def yJ9_max_7cf53 : MethodName := ⟨RJ9, "max", "(II)I"⟩
abbrev cJ9_min_7cf53 : ByteArray := prog_15_method_69_code
def yJ9_min_7cf53 : MethodName := ⟨RJ9, "min", "(II)I"⟩
abbrev cJ0_length_8abf5 : ByteArray := prog_16_method_54_code
def yJ0_length_8abf5 : MethodName := ⟨RJ0, "length", "()I"⟩
abbrev cJ0_charAt_5068e : ByteArray := prog_16_method_56_code
def yJ0_charAt_5068e : MethodName := ⟨RJ0, "charAt", "(I)C"⟩
abbrev cJ0_indexOf_0f7a4 : ByteArray := prog_16_method_79_code
def yJ0_indexOf_0f7a4 : MethodName := ⟨RJ0, "indexOf", "(I)I"⟩
abbrev cJ0_indexOf_7cf53 : ByteArray := prog_16_method_80_code
def yJ0_indexOf_7cf53 : MethodName := ⟨RJ0, "indexOf", "(II)I"⟩
abbrev cJ0_coder_7d493 : ByteArray := prog_16_method_152_code
def yJ0_coder_7d493 : MethodName := ⟨RJ0, "coder", "()B"⟩
abbrev cJ0_isLatin1_aae02 : ByteArray := prog_16_method_154_code
def yJ0_isLatin1_aae02 : MethodName := ⟨RJ0, "isLatin1", "()Z"⟩
abbrev cJ0_checkIndex_df160 : ByteArray := prog_16_method_155_code
def yJ0_checkIndex_df160 : MethodName := ⟨RJ0, "checkIndex", "(II)V"⟩
abbrev cJ0_checkBoundsBeginEnd_23922 : ByteArray := prog_16_method_158_code
def yJ0_checkBoundsBeginEnd_23922 : MethodName := ⟨RJ0, "checkBoundsBeginEnd", "(III)V"⟩
abbrev cJ1_charAt_3b067 : ByteArray := prog_17_method_2_code
def yJ1_charAt_3b067 : MethodName := ⟨RJ1, "charAt", "([BI)C"⟩
abbrev cJ1_canEncode_9a6ad : ByteArray := prog_17_method_4_code
def yJ1_canEncode_9a6ad : MethodName := ⟨RJ1, "canEncode", "(I)Z"⟩
abbrev cJ1_indexOf_4cfef : ByteArray := prog_17_method_22_code
def yJ1_indexOf_4cfef : MethodName := ⟨RJ1, "indexOf", "([BIII)I"⟩
abbrev cJ1_indexOfChar_4cfef : ByteArray := prog_17_method_23_code
def yJ1_indexOfChar_4cfef : MethodName := ⟨RJ1, "indexOfChar", "([BIII)I"⟩
abbrev cJ2_getChar_3b067 : ByteArray := prog_18_method_5_code
def yJ2_getChar_3b067 : MethodName := ⟨RJ2, "getChar", "([BI)C"⟩
abbrev cJ2_length_9d52b : ByteArray := prog_18_method_6_code
def yJ2_length_9d52b : MethodName := ⟨RJ2, "length", "([B)I"⟩
abbrev cJ2_indexOf_4cfef : ByteArray := prog_18_method_40_code
def yJ2_indexOf_4cfef : MethodName := ⟨RJ2, "indexOf", "([BIII)I"⟩
abbrev cJ2_indexOfChar_4cfef : ByteArray := prog_18_method_47_code
def yJ2_indexOfChar_4cfef : MethodName := ⟨RJ2, "indexOfChar", "([BIII)I"⟩
abbrev cJ2_indexOfCharUnsafe_4cfef : ByteArray := prog_18_method_48_code
def yJ2_indexOfCharUnsafe_4cfef : MethodName := ⟨RJ2, "indexOfCharUnsafe", "([BIII)I"⟩
abbrev cJ2_indexOfSupplementary_4cfef : ByteArray := prog_18_method_49_code
def yJ2_indexOfSupplementary_4cfef : MethodName := ⟨RJ2, "indexOfSupplementary", "([BIII)I"⟩
abbrev cJ2_charAt_3b067 : ByteArray := prog_18_method_83_code
def yJ2_charAt_3b067 : MethodName := ⟨RJ2, "charAt", "([BI)C"⟩
abbrev cJ2_checkIndex_2214a : ByteArray := prog_18_method_91_code
def yJ2_checkIndex_2214a : MethodName := ⟨RJ2, "checkIndex", "(I[B)V"⟩
abbrev cJ2_checkBoundsBeginEnd_d044e : ByteArray := prog_18_method_93_code
def yJ2_checkBoundsBeginEnd_d044e : MethodName := ⟨RJ2, "checkBoundsBeginEnd", "(II[B)V"⟩
abbrev cJ7_fill_53178 : ByteArray := prog_20_method_103_code
def yJ7_fill_53178 : MethodName := ⟨RJ7, "fill", "([II)V"⟩
abbrev cJ3_checkIndex_8e157 : ByteArray := prog_21_method_11_code
def yJ3_checkIndex_8e157 : MethodName := ⟨RJ3, "checkIndex", "(IILjava/util/function/BiFunction;)I"⟩
abbrev cJ3_checkFromToIndex_8c36e : ByteArray := prog_21_method_12_code
def yJ3_checkFromToIndex_8c36e : MethodName := ⟨RJ3, "checkFromToIndex", "(IIILjava/util/function/BiFunction;)I"⟩
abbrev vwCl : List vw_C := [(RX0, TX0, 4), (RX1, TX1, 6), (RX2, TX2, 4), (RX3, TX3, 12), (RX4, TX4, 13), (RX5, TX5, 13), (RX6, TX6, 2), (RX7, TX7, 4), (RX8, TX8, 13), (RX9, TX9, 15), (RX10, TX10, 68)]
set_option maxRecDepth 100000 in
theorem ex_fwX0 : GoodIn lw_tbl (u_ws RX0 TX0 4) := goodIn_r _ [445, 447, 449, 451] (by decide +kernel) (by decide +kernel)
set_option maxRecDepth 100000 in
theorem ex_fwX1 : GoodIn lw_tbl (u_ws RX1 TX1 6) := goodIn_r _ [364, 366, 368, 370, 372, 374] (by decide +kernel) (by decide +kernel)
set_option maxRecDepth 100000 in
theorem ex_fwX2 : GoodIn lw_tbl (u_ws RX2 TX2 4) := goodIn_r _ [178, 180, 182, 184] (by decide +kernel) (by decide +kernel)
set_option maxRecDepth 100000 in
theorem ex_fwX3 : GoodIn lw_tbl (u_ws RX3 TX3 12) := goodIn_r _ [313, 315, 317, 319, 321, 323, 325, 327, 329, 331, 333, 335] (by decide +kernel) (by decide +kernel)
set_option maxRecDepth 100000 in
theorem ex_fwX4 : GoodIn lw_tbl (u_ws RX4 TX4 13) := goodIn_r _ [403, 405, 407, 409, 411, 413, 415, 417, 419, 421, 423, 425, 427] (by decide +kernel) (by decide +kernel)
set_option maxRecDepth 100000 in
theorem ex_fwX5 : GoodIn lw_tbl (u_ws RX5 TX5 13) := goodIn_r _ [477, 479, 481, 483, 485, 487, 489, 491, 493, 495, 497, 499, 501] (by decide +kernel) (by decide +kernel)
set_option maxRecDepth 100000 in
theorem ex_fwX6 : GoodIn lw_tbl (u_ws RX6 TX6 2) := goodIn_r _ [150, 152] (by decide +kernel) (by decide +kernel)
set_option maxRecDepth 100000 in
theorem ex_fwX7 : GoodIn lw_tbl (u_ws RX7 TX7 4) := goodIn_r _ [288, 290, 292, 294] (by decide +kernel) (by decide +kernel)
set_option maxRecDepth 100000 in
theorem ex_fwX8 : GoodIn lw_tbl (u_ws RX8 TX8 13) := goodIn_r _ [247, 249, 251, 253, 255, 257, 259, 261, 263, 265, 267, 269, 271] (by decide +kernel) (by decide +kernel)
set_option maxRecDepth 100000 in
theorem ex_fwX9 : GoodIn lw_tbl (u_ws RX9 TX9 15) := goodIn_r _ [550, 552, 554, 556, 558, 560, 562, 564, 566, 568, 570, 572, 574, 576, 578] (by decide +kernel) (by decide +kernel)
set_option maxRecDepth 100000 in
theorem ex_fwX10 : GoodIn lw_tbl (u_ws RX10 TX10 68) := goodIn_r _ [1314, 1316, 1318, 1320, 1322, 1324, 1326, 1328, 1330, 1332, 1334, 1336, 1338, 1340, 1342, 1344, 1346, 1348, 1350, 1352, 1354, 1356, 1358, 1360, 1362, 1364, 1366, 1368, 1370, 1372, 1374, 1376, 1378, 1380, 1382, 1384, 1386, 1388, 1390, 1392, 1394, 1396, 1398, 1400, 1402, 1404, 1406, 1408, 1410, 1412, 1414, 1416, 1418, 1420, 1422, 1424, 1426, 1428, 1430, 1432, 1434, 1436, 1438, 1440, 1442, 1444, 1446, 1448] (by decide +kernel) (by decide +kernel)
end
section
/-! A checked executor: states with ints known, named or held in a range; cells by number; every step is shown to keep what it says of the machine. An int x is written as ex_u x, its number above the least int. -/
abbrev ex_V : Type := (Nat ⊕ (Nat ⊕ (Nat × Nat))) ⊕ (Option Nat ⊕ (Int64 ⊕ Unit))
abbrev ex_C : Type := (Nat × List ex_V) ⊕ (Nat × Nat × List (Nat × ex_V))
abbrev ex_E : Type := List (Nat × Nat)
abbrev ex_P : Type := Nat × Instr × Nat × Nat × Nat × Nat × List Nat
abbrev ex_L : Type := List (Nat × ex_V)
abbrev ex_H : Type := List (List ex_C)
abbrev ex_S : Type := List ex_P × ex_L × List ex_V × ex_H × Nat × Nat × Nat
abbrev ex_M : Type := List ex_P × Nat × Nat × Nat × Nat
abbrev ex_k (n : Nat) : ex_V := .inl (.inl n)
abbrev ex_v (i : Nat) : ex_V := .inl (.inr (.inl i))
abbrev ex_r (a b : Nat) : ex_V := .inl (.inr (.inr (a, b)))
abbrev ex_a (r : Option Nat) : ex_V := .inr (.inl r)
abbrev ex_j (x : Int64) : ex_V := .inr (.inr (.inl x))
abbrev ex_z : ex_V := .inr (.inr (.inr ()))
abbrev ex_full : ex_V := ex_r 0 4294967295
noncomputable def ex_nth {α : Type} (l : List α) : Nat → Option α := List.rec (motive := fun _ => Nat → Option α) (fun _ => none) (fun a _ ih k => Nat.rec (motive := fun _ => Option α) (some a) (fun k' _ => ih k') k) l
noncomputable def ex_set {α : Type} (l : List α) : Nat → α → List α := List.rec (motive := fun _ => Nat → α → List α) (fun _ _ => []) (fun a t ih k v => Nat.rec (motive := fun _ => List α) (v :: t) (fun k' _ => a :: ih k' v) k) l
noncomputable def ex_lk {α : Type} (l : List (Nat × α)) (i : Nat) : Option α := List.rec (motive := fun _ => Option α) none (fun q _ ih => bif Nat.beq q.1 i then some q.2 else ih) l
noncomputable def ex_ovset (l : List (Nat × ex_V)) (i : Nat) (v : ex_V) : List (Nat × ex_V) := List.rec (motive := fun _ => List (Nat × ex_V)) [(i, v)] (fun q t ih => bif Nat.beq q.1 i then (i, v) :: t else q :: ih) l
noncomputable def ex_get (h : ex_H) (k : Nat) : Option ex_C := match ex_nth h (k / 32) with
  | some ch => ex_nth ch (k % 32)
  | none => none
noncomputable def ex_put (h : ex_H) (k : Nat) (c : ex_C) : ex_H := match ex_nth h (k / 32) with
  | some ch => ex_set h (k / 32) (ex_set ch (k % 32) c)
  | none => h
noncomputable def ex_len {α : Type} (l : List α) : Nat := List.rec (motive := fun _ => Nat) 0 (fun _ _ ih => ih + 1) l
noncomputable def ex_app {α : Type} (l r : List α) : List α := List.rec (motive := fun _ => List α) r (fun a _ ih => a :: ih) l
noncomputable def ex_push (h : ex_H) (n : Nat) (c : ex_C) : Option ex_H := bif Nat.beq (n % 32) 0 then (bif Nat.beq (ex_len h) (n / 32) then some (ex_app h [[c]]) else none) else (match ex_nth h (n / 32) with
  | some ch => bif Nat.beq (ex_len ch) (n % 32) then some (ex_set h (n / 32) (ex_app ch [c])) else none
  | none => none)
noncomputable def ex_b (en : ex_E) (v : ex_V) : Option (Nat × Nat) := match v with
  | .inl (.inl n) => some (n, n)
  | .inl (.inr (.inl i)) => ex_nth en i
  | .inl (.inr (.inr q)) => some q
  | .inr _ => none
noncomputable def ex_cst (en : ex_E) (v : ex_V) : Option Nat := match ex_b en v with
  | some q => bif Nat.beq q.1 q.2 then some q.1 else none
  | none => none
def ex_mx (a b : Nat) : Nat := bif Nat.ble a b then b else a
def ex_mn (a b : Nat) : Nat := bif Nat.ble a b then a else b
noncomputable def ex_rf (en : ex_E) (v : ex_V) (lo hi : Nat) : Option ex_E := match v with
  | .inl (.inl n) => bif Nat.ble lo n && Nat.ble n hi then some en else none
  | .inl (.inr (.inl i)) => (match ex_nth en i with
    | some q => bif Nat.ble (ex_mx q.1 lo) (ex_mn q.2 hi) then some (ex_set en i (ex_mx q.1 lo, ex_mn q.2 hi)) else none
    | none => some en)
  | .inl (.inr (.inr q)) => bif Nat.ble (ex_mx q.1 lo) (ex_mn q.2 hi) then some en else none
  | .inr _ => some en
noncomputable def ex_2 (en : ex_E) (a : ex_V) (la ha : Nat) (b : ex_V) (lb hb : Nat) : List ex_E := match ex_rf en a la ha with
  | none => []
  | some e => (match ex_rf e b lb hb with
    | none => []
    | some e' => [e'])
noncomputable def ex_1 (en : ex_E) (a : ex_V) (la ha : Nat) : List ex_E := match ex_rf en a la ha with
  | none => []
  | some e => [e]
def ex_same (a b : ex_V) : Bool := match a, b with
  | .inl (.inr (.inl i)), .inl (.inr (.inl j)) => Nat.beq i j
  | _, _ => false
noncomputable def ex_lt (en : ex_E) (a b : ex_V) (qa qb : Nat × Nat) : List ex_E := bif ex_same a b then [] else ex_2 en a 0 (qb.2 - 1) b (qa.1 + 1) 4294967295
noncomputable def ex_ge (en : ex_E) (a b : ex_V) (qa qb : Nat × Nat) : List ex_E := ex_2 en a qb.1 4294967295 b 0 qa.2
noncomputable def ex_eq (en : ex_E) (a b : ex_V) (qa qb : Nat × Nat) : List ex_E := ex_2 en a qb.1 qb.2 b qa.1 qa.2
noncomputable def ex_ne (en : ex_E) (a b : ex_V) (qa qb : Nat × Nat) : List ex_E := bif ex_same a b then [] else
  bif Nat.beq qb.1 qb.2 then ex_app (ex_1 en a 0 (qb.1 - 1)) (ex_1 en a (qb.1 + 1) 4294967295) else
  bif Nat.beq qa.1 qa.2 then ex_app (ex_1 en b 0 (qa.1 - 1)) (ex_1 en b (qa.1 + 1) 4294967295) else [en]
noncomputable def ex_br (c : ClassFile.Cond) (en : ex_E) (a b : ex_V) : Option (List ex_E × List ex_E) := match ex_b en a with
  | none => none
  | some qa => (match ex_b en b with
    | none => none
    | some qb => (match c with
      | .eq => some (ex_eq en a b qa qb, ex_ne en a b qa qb)
      | .ne => some (ex_ne en a b qa qb, ex_eq en a b qa qb)
      | .lt => some (ex_lt en a b qa qb, ex_ge en a b qa qb)
      | .ge => some (ex_ge en a b qa qb, ex_lt en a b qa qb)
      | .gt => some (ex_lt en b a qb qa, ex_ge en b a qb qa)
      | .le => some (ex_ge en b a qb qa, ex_lt en b a qb qa)))
noncomputable def ex_ft (q : ex_P) (r : List ex_P) (en : ex_E) (lv : ex_L) (st : List ex_V) (h : ex_H) (n cc ss : Nat) : Option (List (ex_E × ex_S)) := match r with
  | [] => none
  | q' :: r' => bif Nat.beq q'.1 (q.1 + q.2.2.1) then some [(en, (q' :: r', lv, st, h, n, cc, ss))] else none
noncomputable def ex_jp (pr : List ex_P) (t : Nat) : List ex_P := List.rec (motive := fun _ => List ex_P) [] (fun q r ih => bif Nat.beq q.1 t then q :: r else ih) pr
noncomputable def ex_map {α β : Type} (f : α → β) (l : List α) : List β := List.rec (motive := fun _ => List β) [] (fun a _ ih => f a :: ih) l
def ex_isI (v : ex_V) : Bool := match v with
  | .inl _ => true
  | .inr _ => false
def ex_isR (v : ex_V) : Bool := match v with
  | .inr (.inl _) => true
  | .inr (.inr (.inr _)) => true
  | _ => false
def ex_cat (v : ex_V) : Nat := match v with
  | .inr (.inr (.inl _)) => 2
  | _ => 1
noncomputable def ex_del (lv : ex_L) (i : Nat) : ex_L := List.rec (motive := fun _ => ex_L) [] (fun q _ ih => bif (!(Nat.beq q.1 i) && !(Nat.beq (q.1 + 1) i && Nat.beq (ex_cat q.2) 2)) then q :: ih else ih) lv
/-- an int that may take at most 65 values, by name -/
noncomputable def ex_need (en : ex_E) (v : ex_V) : Option Nat := match v with
  | .inl (.inr (.inl i)) => (match ex_nth en i with
    | some q => bif Nat.ble (q.1 + 1) q.2 && Nat.ble q.2 (q.1 + 64) then some i else none
    | none => none)
  | _ => none
noncomputable def ex_range (n lo : Nat) : List Nat := Nat.rec (motive := fun _ => Nat → List Nat) (fun _ => []) (fun _ ih lo => lo :: ih (lo + 1)) n lo
noncomputable def ex_spl (en : ex_E) (i : Nat) (s : ex_S) : Option (List (ex_E × ex_S)) := match ex_nth en i with
  | some q => some (ex_map (fun x => (ex_set en i (x, x), s)) (ex_range (q.2 - q.1 + 1) q.1))
  | none => none
def ex_t (u : Nat) : Nat := (u + 2147483648) % 4294967296
noncomputable def ex_op (o : Instr) (en : ex_E) (a b : ex_V) : Option ex_V := match ex_cst en a, ex_cst en b with
  | some x, some y => (match o with
    | .iadd => some (ex_k ((x + y + 2147483648) % 4294967296))
    | .isub => some (ex_k ((x + 6442450944 - y) % 4294967296))
    | .imul => some (ex_k (ex_t (ex_t x * ex_t y % 4294967296)))
    | .iand => some (ex_k (ex_t (Nat.land (ex_t x) (ex_t y))))
    | .ior => some (ex_k (ex_t (Nat.lor (ex_t x) (ex_t y))))
    | .ixor => some (ex_k (ex_t (Nat.xor (ex_t x) (ex_t y))))
    | .ishl => bif Nat.beq y 2147483648 then some (ex_k x) else some ex_full
    | .idiv => bif Nat.ble 2147483648 x && Nat.ble 2147483649 y then some (ex_k ((x - 2147483648) / (y - 2147483648) + 2147483648)) else none
    | .irem => bif Nat.ble 2147483648 x && Nat.ble 2147483649 y then some (ex_k ((x - 2147483648) % (y - 2147483648) + 2147483648)) else none
    | .ishr => some ex_full
    | _ => none)
  | none, some y => (match o with
    | .iadd => bif Nat.beq y 2147483648 && ex_isI a then some a else some ex_full
    | .iand => bif Nat.ble 2147483648 y then some (ex_r 2147483648 y) else some ex_full
    | .idiv => none
    | .irem => none
    | _ => some ex_full)
  | some x, none => (match o with
    | .iadd => bif Nat.beq x 2147483648 && ex_isI b then some b else some ex_full
    | .idiv => none
    | .irem => none
    | _ => some ex_full)
  | none, none => (match o with
    | .idiv => none
    | .irem => none
    | _ => some ex_full)
noncomputable def ex_bin (q : ex_P) (r : List ex_P) (en : ex_E) (lv : ex_L) (st : List ex_V) (h : ex_H) (n cc ss : Nat) : Option (List (ex_E × ex_S)) := match st with
  | b :: a :: rest => bif ex_isI a && ex_isI b then (match ex_need en a with
    | some i => ex_spl en i (q :: r, lv, st, h, n, cc, ss)
    | none => (match ex_need en b with
      | some i => ex_spl en i (q :: r, lv, st, h, n, cc, ss)
      | none => (match ex_op q.2.1 en a b with
        | some v => ex_ft q r en lv (v :: rest) h n cc ss
        | none => none))) else none
  | _ => none
noncomputable def ex_ifs (pr : List ex_P) (q : ex_P) (r : List ex_P) (c : ClassFile.Cond) (en : ex_E) (lv : ex_L) (a b : ex_V) (rest : List ex_V) (h : ex_H) (n cc ss : Nat) : Option (List (ex_E × ex_S)) := match ex_br c en a b with
  | none => none
  | some tf => (match tf.2 with
    | [] => some (ex_map (fun e => (e, (ex_jp pr q.2.2.2.1, lv, rest, h, n, cc, ss))) tf.1)
    | f0 :: fs => (match r with
      | [] => none
      | q' :: r' => bif Nat.beq q'.1 (q.1 + q.2.2.1) then some (ex_app (ex_map (fun e => (e, (ex_jp pr q.2.2.2.1, lv, rest, h, n, cc, ss))) tf.1) (ex_map (fun e => (e, (q' :: r', lv, rest, h, n, cc, ss))) (f0 :: fs))) else none))
noncomputable def ex_ld (q : ex_P) (r : List ex_P) (en : ex_E) (lv : ex_L) (st : List ex_V) (h : ex_H) (n cc ss : Nat) (ok : ex_V → Bool) : Option (List (ex_E × ex_S)) := match ex_lk lv q.2.2.2.1 with
  | some v => bif ok v then ex_ft q r en lv (v :: st) h n cc ss else none
  | none => none
noncomputable def ex_st (mL : Nat) (q : ex_P) (r : List ex_P) (en : ex_E) (lv : ex_L) (st : List ex_V) (h : ex_H) (n cc ss : Nat) (ok : ex_V → Bool) : Option (List (ex_E × ex_S)) := match st with
  | v :: rest => bif ok v && Nat.blt q.2.2.2.1 mL then ex_ft q r en ((q.2.2.2.1, v) :: ex_del lv q.2.2.2.1) rest h n cc ss else none
  | [] => none
noncomputable def ex_ov (t : Nat) (ov : List (Nat × ex_V)) (j : Nat) : ex_V := match ex_lk ov j with
  | some v => v
  | none => bif Nat.beq t 2 then ex_j 0 else bif Nat.beq t 4 then ex_a none else ex_k 2147483648
/-- a row's place: what it is split by, or its number -/
noncomputable def ex_ix (en : ex_E) (i : ex_V) (n : Nat) : Option Nat := match ex_cst en i with
  | some u => bif Nat.ble 2147483648 u && Nat.blt (u - 2147483648) n then some (u - 2147483648) else none
  | none => none
noncomputable def ex_ald (isl : Bool) (L : Nat) (ok : Nat → Bool) (q : ex_P) (r : List ex_P) (en : ex_E) (lv : ex_L) (st : List ex_V) (h : ex_H) (n cc ss : Nat) : Option (List (ex_E × ex_S)) := match st with
  | i :: .inr (.inl (some o)) :: rest => (match ex_need en i with
    | some x => ex_spl en x (q :: r, lv, st, h, n, cc, ss)
    | none => (match ex_get h o with
      | some (.inr (t, N, ov)) => (match ex_ix en i N with
        | some j => bif ok t && ex_isI i then ex_ft q r en lv (ex_ov t ov j :: rest) h n cc ss else none
        | none => none)
      | _ => none))
  | i :: .inr (.inr (.inr ())) :: rest => (match ex_ix en i L with
    | some j => bif isl && ok 0 && ex_isI i then ex_ft q r en lv (ex_v j :: rest) h n cc ss else none
    | none => none)
  | _ => none
noncomputable def ex_ast (q : ex_P) (r : List ex_P) (en : ex_E) (lv : ex_L) (st : List ex_V) (h : ex_H) (n cc ss : Nat) (ok : Nat → ex_V → Option ex_V) : Option (List (ex_E × ex_S)) := match st with
  | v :: i :: .inr (.inl (some o)) :: rest => (match ex_need en i with
    | some x => ex_spl en x (q :: r, lv, st, h, n, cc, ss)
    | none => (match ex_get h o with
      | some (.inr (t, N, ov)) => (match ex_ix en i N with
        | some j => (match ok t v with
          | some v' => bif ex_isI i then ex_ft q r en lv rest (ex_put h o (.inr (t, N, ex_ovset ov j v'))) n cc ss else none
          | none => none)
        | none => none)
      | _ => none))
  | _ => none
def ex_oki (t : Nat) (v : ex_V) : Option ex_V := bif Nat.beq t 0 && ex_isI v then some v else none
def ex_okj (t : Nat) (v : ex_V) : Option ex_V := match v with
  | .inr (.inr (.inl x)) => bif Nat.beq t 2 then some v else none
  | _ => none
noncomputable def ex_okb (en : ex_E) (t : Nat) (v : ex_V) : Option ex_V := bif Nat.beq t 1 && ex_isI v then some ex_full else bif Nat.beq t 3 then (match ex_cst en v with
  | some u => bif Nat.beq u 2147483648 || Nat.beq u 2147483649 then some (ex_k u) else none
  | none => none) else none
/-- only objects of class 4 go into rows of references -/
noncomputable def ex_okq (h : ex_H) (t : Nat) (v : ex_V) : Option ex_V := match v with
  | .inr (.inl (some o)) => (match ex_get h o with
    | some (.inl (ci, _)) => bif Nat.beq t 4 && Nat.beq ci 4 then some v else none
    | _ => none)
  | _ => none
noncomputable def ex_gf (q : ex_P) (r : List ex_P) (en : ex_E) (lv : ex_L) (st : List ex_V) (h : ex_H) (n cc ss : Nat) : Option (List (ex_E × ex_S)) := match st with
  | .inr (.inl (some o)) :: rest => (match ex_get h o with
    | some (.inl (ci, fs)) => (match ex_nth fs q.2.2.2.2.1 with
      | some v => bif Nat.beq ci q.2.2.2.1 then ex_ft q r en lv (v :: rest) h n cc ss else none
      | none => none)
    | _ => none)
  | _ => none
noncomputable def ex_okf (en : ex_E) (ty : Nat) (v : ex_V) : Bool := bif Nat.beq ty 0 then ex_isI v else bif Nat.beq ty 1 then (match v with
  | .inr (.inl _) => true
  | _ => false) else bif Nat.beq ty 2 then (match ex_cst en v with
  | some u => Nat.beq u 2147483648 || Nat.beq u 2147483649
  | none => false) else false
noncomputable def ex_pf (q : ex_P) (r : List ex_P) (en : ex_E) (lv : ex_L) (st : List ex_V) (h : ex_H) (n cc ss : Nat) : Option (List (ex_E × ex_S)) := match st with
  | v :: .inr (.inl (some o)) :: rest => (match ex_get h o with
    | some (.inl (ci, fs)) => (match ex_nth fs q.2.2.2.2.1 with
      | some _ => bif Nat.beq ci q.2.2.2.1 && ex_okf en q.2.2.2.2.2.1 v then ex_ft q r en lv rest (ex_put h o (.inl (ci, ex_set fs q.2.2.2.2.1 v))) n cc ss else none
      | none => none)
    | _ => none)
  | _ => none
noncomputable def ex_nw (cap : Nat × Nat) (df : Nat → List ex_V) (q : ex_P) (r : List ex_P) (en : ex_E) (lv : ex_L) (st : List ex_V) (h : ex_H) (n cc ss : Nat) : Option (List (ex_E × ex_S)) := match ex_push h n (.inl (q.2.2.2.1, df q.2.2.2.1)) with
  | some h' => bif Nat.ble (cc + 1) cap.1 && Nat.ble (ss + q.2.2.2.2.1) cap.2 then ex_ft q r en lv (ex_a (some n) :: st) h' (n + 1) (cc + 1) (ss + q.2.2.2.2.1) else none
  | none => none
noncomputable def ex_na (cap : Nat × Nat) (q : ex_P) (r : List ex_P) (en : ex_E) (lv : ex_L) (st : List ex_V) (h : ex_H) (n cc ss : Nat) : Option (List (ex_E × ex_S)) := match st with
  | i :: rest => (match ex_ix en i 100000 with
    | some N => (match ex_push h n (.inr (q.2.2.2.1, N, [])) with
      | some h' => bif ex_isI i && Nat.ble (cc + 1) cap.1 && Nat.ble (ss + N) cap.2 then ex_ft q r en lv (ex_a (some n) :: rest) h' (n + 1) (cc + 1) (ss + N) else none
      | none => none)
    | none => none)
  | _ => none
noncomputable def ex_al (isl : Bool) (L : Nat) (q : ex_P) (r : List ex_P) (en : ex_E) (lv : ex_L) (st : List ex_V) (h : ex_H) (n cc ss : Nat) : Option (List (ex_E × ex_S)) := match st with
  | .inr (.inl (some o)) :: rest => (match ex_get h o with
    | some (.inr (_, N, _)) => bif Nat.ble N 100000 then ex_ft q r en lv (ex_k (N + 2147483648) :: rest) h n cc ss else none
    | _ => none)
  | .inr (.inr (.inr ())) :: rest => bif isl && Nat.ble L 100000 then ex_ft q r en lv (ex_k (L + 2147483648) :: rest) h n cc ss else none
  | _ => none
noncomputable def ex_cp (a b : List (Nat × ex_V)) (t sp dp m : Nat) : List (Nat × ex_V) := Nat.rec (motive := fun _ => List (Nat × ex_V)) b (fun k ih => ex_ovset ih (dp + k) (ex_ov t a (sp + k))) m
noncomputable def ex_acp (q : ex_P) (r : List ex_P) (en : ex_E) (lv : ex_L) (st : List ex_V) (h : ex_H) (n cc ss : Nat) : Option (List (ex_E × ex_S)) := match st with
  | m :: dp :: .inr (.inl (some d)) :: sp :: .inr (.inl (some o)) :: rest => (match ex_get h o, ex_get h d with
    | some (.inr (t, N, ov)), some (.inr (t', N', ov')) => (match ex_ix en m 100000, ex_ix en sp 100000, ex_ix en dp 100000 with
      | some m', some s', some d' => bif Nat.beq t 0 && Nat.beq t' 0 && Nat.ble (s' + m') N && Nat.ble (d' + m') N' && ex_isI m && ex_isI sp && ex_isI dp && Nat.ble (ex_len rest) 4 then ex_ft q r en lv rest (ex_put h d (.inr (t', N', ex_cp ov ov' 0 s' d' m'))) n cc ss else none
      | _, _, _ => none)
    | _, _ => none)
  | _ => none
noncomputable def ex_sw (pr : List ex_P) (q : ex_P) (en : ex_E) (lv : ex_L) (v : ex_V) (rest : List ex_V) (h : ex_H) (n cc ss : Nat) (ts : List Nat) (lo : Nat) : List (ex_E × ex_S) := List.rec (motive := fun _ => Nat → List (ex_E × ex_S)) (fun lo => ex_map (fun e => (e, (ex_jp pr q.2.2.2.1, lv, rest, h, n, cc, ss))) (ex_1 en v lo 4294967295)) (fun t _ ih lo => ex_app (ex_map (fun e => (e, (ex_jp pr t, lv, rest, h, n, cc, ss))) (ex_1 en v lo lo)) (ih (lo + 1))) ts lo
noncomputable def ex_lu (pr : List ex_P) (q : ex_P) (lv : ex_L) (v : ex_V) (rest : List ex_V) (h : ex_H) (n cc ss : Nat) (ts : List Nat) : ex_E → Option (List (ex_E × ex_S)) := fun en => match ts with
  | [k0, t0, k1, t1] => (match ex_b en v with
    | some qa => some (ex_app (ex_map (fun e => (e, (ex_jp pr t0, lv, rest, h, n, cc, ss))) (ex_1 en v k0 k0)) (ex_app (ex_map (fun e => (e, (ex_jp pr t1, lv, rest, h, n, cc, ss))) (ex_1 en v k1 k1)) (bif Nat.beq (k0 + 1) k1 then ex_app (ex_map (fun e => (e, (ex_jp pr q.2.2.2.1, lv, rest, h, n, cc, ss))) (ex_1 en v 0 (k0 - 1))) (ex_map (fun e => (e, (ex_jp pr q.2.2.2.1, lv, rest, h, n, cc, ss))) (ex_1 en v (k1 + 1) 4294967295)) else ex_map (fun e => (e, (ex_jp pr q.2.2.2.1, lv, rest, h, n, cc, ss))) [en])))
    | none => none)
  | _ => none
def ex_bz (t : Nat) : Bool := Nat.beq t 1 || Nat.beq t 3
noncomputable def ex_step (pr : List ex_P) (isl : Bool) (L mL : Nat) (cap : Nat × Nat) (df : Nat → List ex_V) (en : ex_E) (q : ex_P) (r : List ex_P) (lv : ex_L) (st : List ex_V) (h : ex_H) (n cc ss : Nat) : Option (List (ex_E × ex_S)) := match q.2.1 with
  | .iconst _ => ex_ft q r en lv (ex_k q.2.2.2.1 :: st) h n cc ss
  | .bipush _ => ex_ft q r en lv (ex_k q.2.2.2.1 :: st) h n cc ss
  | .sipush _ => ex_ft q r en lv (ex_k q.2.2.2.1 :: st) h n cc ss
  | .ldc _ => ex_ft q r en lv (ex_k q.2.2.2.1 :: st) h n cc ss
  | .ldc_w _ => ex_ft q r en lv (ex_k q.2.2.2.1 :: st) h n cc ss
  | .lconst _ => ex_ft q r en lv (ex_j (Int64.ofNat q.2.2.2.1) :: st) h n cc ss
  | .iload_n _ => ex_ld q r en lv st h n cc ss ex_isI
  | .iload _ => ex_ld q r en lv st h n cc ss ex_isI
  | .aload_n _ => ex_ld q r en lv st h n cc ss ex_isR
  | .aload _ => ex_ld q r en lv st h n cc ss ex_isR
  | .istore_n _ => ex_st mL q r en lv st h n cc ss ex_isI
  | .istore _ => ex_st mL q r en lv st h n cc ss ex_isI
  | .astore_n _ => ex_st mL q r en lv st h n cc ss ex_isR
  | .astore _ => ex_st mL q r en lv st h n cc ss ex_isR
  | .iinc _ _ => (match ex_lk lv q.2.2.2.1 with
    | some v => (match ex_cst en v with
      | some u => bif ex_isI v && Nat.blt q.2.2.2.1 mL then ex_ft q r en ((q.2.2.2.1, ex_k ((u + q.2.2.2.2.1) % 4294967296)) :: ex_del lv q.2.2.2.1) st h n cc ss else none
      | none => none)
    | none => none)
  | .iadd => ex_bin q r en lv st h n cc ss
  | .isub => ex_bin q r en lv st h n cc ss
  | .imul => ex_bin q r en lv st h n cc ss
  | .iand => ex_bin q r en lv st h n cc ss
  | .ior => ex_bin q r en lv st h n cc ss
  | .ixor => ex_bin q r en lv st h n cc ss
  | .ishl => ex_bin q r en lv st h n cc ss
  | .ishr => ex_bin q r en lv st h n cc ss
  | .idiv => ex_bin q r en lv st h n cc ss
  | .irem => ex_bin q r en lv st h n cc ss
  | .i2b => (match st with
    | v :: rest => bif ex_isI v then ex_ft q r en lv (ex_full :: rest) h n cc ss else none
    | [] => none)
  | .dup => (match st with
    | v :: rest => bif Nat.beq (ex_cat v) 1 then ex_ft q r en lv (v :: v :: rest) h n cc ss else none
    | [] => none)
  | .dup2 => (match st with
    | v :: w :: rest => bif Nat.beq (ex_cat v) 1 && Nat.beq (ex_cat w) 1 then ex_ft q r en lv (v :: w :: v :: w :: rest) h n cc ss else none
    | _ => none)
  | .pop => (match st with
    | v :: rest => bif Nat.beq (ex_cat v) 1 then ex_ft q r en lv rest h n cc ss else none
    | [] => none)
  | .goto _ => some [(en, (ex_jp pr q.2.2.2.1, lv, st, h, n, cc, ss))]
  | .ifCond c _ => (match st with
    | a :: rest => ex_ifs pr q r c en lv a (ex_k 2147483648) rest h n cc ss
    | [] => none)
  | .if_icmp c _ => (match st with
    | b :: a :: rest => ex_ifs pr q r c en lv a b rest h n cc ss
    | _ => none)
  | .tableswitch _ _ _ _ => (match st with
    | v :: rest => bif ex_isI v then some (ex_app (ex_map (fun e => (e, (ex_jp pr q.2.2.2.1, lv, rest, h, n, cc, ss))) (ex_1 en v 0 (q.2.2.2.2.1 - 1))) (ex_sw pr q en lv v rest h n cc ss q.2.2.2.2.2.2 q.2.2.2.2.1)) else none
    | [] => none)
  | .lookupswitch _ _ => (match st with
    | v :: rest => bif ex_isI v then ex_lu pr q lv v rest h n cc ss q.2.2.2.2.2.2 en else none
    | [] => none)
  | .getfield _ => ex_gf q r en lv st h n cc ss
  | .putfield _ => ex_pf q r en lv st h n cc ss
  | .new _ => ex_nw cap df q r en lv st h n cc ss
  | .newarray _ => ex_na cap q r en lv st h n cc ss
  | .anewarray _ => ex_na cap q r en lv st h n cc ss
  | .arraylength => ex_al isl L q r en lv st h n cc ss
  | .iaload => ex_ald isl L (fun t => Nat.beq t 0) q r en lv st h n cc ss
  | .baload => ex_ald false L ex_bz q r en lv st h n cc ss
  | .aaload => ex_ald false L (fun t => Nat.beq t 4) q r en lv st h n cc ss
  | .iastore => ex_ast q r en lv st h n cc ss ex_oki
  | .bastore => ex_ast q r en lv st h n cc ss (ex_okb en)
  | .lastore => ex_ast q r en lv st h n cc ss ex_okj
  | .aastore => ex_ast q r en lv st h n cc ss (ex_okq h)
  | .invokestatic _ => ex_acp q r en lv st h n cc ss
  | .invokespecial _ => (match st with
    | .inr (.inl (some _)) :: rest => bif Nat.ble (ex_len rest) 4 then ex_ft q r en lv rest h n cc ss else none
    | _ => none)
  | _ => none
/-- a number for each instruction, so that the way is found by compares of numbers -/
def ex_tag (o : Instr) : Nat := match o with
  | .aload_n _ => 0
  | .iload_n _ => 1
  | .getfield _ => 2
  | .iconst _ => 3
  | .iload _ => 4
  | .iaload => 5
  | .if_icmp c _ => 6
  | .iinc _ _ => 7
  | .goto _ => 8
  | .ifCond c _ => 9
  | .bipush _ => 10
  | .iadd => 11
  | .putfield _ => 12
  | .iastore => 13
  | .istore_n _ => 14
  | .istore _ => 15
  | .sipush _ => 16
  | .dup => 17
  | .ldc _ => 18
  | .ldc_w _ => 19
  | .lconst _ => 20
  | .aload _ => 21
  | .astore_n _ => 22
  | .astore _ => 23
  | .isub => 24
  | .imul => 25
  | .iand => 26
  | .ior => 27
  | .ixor => 28
  | .ishl => 29
  | .ishr => 30
  | .idiv => 31
  | .irem => 32
  | .i2b => 33
  | .dup2 => 34
  | .pop => 35
  | .tableswitch _ _ _ _ => 36
  | .lookupswitch _ _ => 37
  | .new _ => 38
  | .newarray _ => 39
  | .anewarray _ => 40
  | .arraylength => 41
  | .baload => 42
  | .aaload => 43
  | .bastore => 44
  | .lastore => 45
  | .aastore => 46
  | .invokestatic _ => 47
  | .invokespecial _ => 48
  | _ => 99
/-- the same by numbers -/
noncomputable def ex_opt (t : Nat) (en : ex_E) (a b : ex_V) : Option ex_V := match ex_cst en a, ex_cst en b with
  | some x, some y => bif Nat.beq t 11 then some (ex_k ((x + y + 2147483648) % 4294967296)) else bif Nat.beq t 24 then some (ex_k ((x + 6442450944 - y) % 4294967296)) else bif Nat.beq t 25 then some (ex_k (ex_t (ex_t x * ex_t y % 4294967296))) else bif Nat.beq t 32 then (bif Nat.ble 2147483648 x && Nat.ble 2147483649 y then some (ex_k ((x - 2147483648) % (y - 2147483648) + 2147483648)) else none) else bif Nat.beq t 26 then some (ex_k (ex_t (Nat.land (ex_t x) (ex_t y)))) else bif Nat.beq t 27 then some (ex_k (ex_t (Nat.lor (ex_t x) (ex_t y)))) else bif Nat.beq t 28 then some (ex_k (ex_t (Nat.xor (ex_t x) (ex_t y)))) else bif Nat.beq t 29 then (bif Nat.beq y 2147483648 then some (ex_k x) else some ex_full) else bif Nat.beq t 31 then (bif Nat.ble 2147483648 x && Nat.ble 2147483649 y then some (ex_k ((x - 2147483648) / (y - 2147483648) + 2147483648)) else none) else bif Nat.beq t 30 then some ex_full else none
  | none, some y => bif Nat.beq t 11 then (bif Nat.beq y 2147483648 && ex_isI a then some a else some ex_full) else bif Nat.beq t 26 then (bif Nat.ble 2147483648 y then some (ex_r 2147483648 y) else some ex_full) else bif Nat.beq t 31 then none else bif Nat.beq t 32 then none else some ex_full
  | some x, none => bif Nat.beq t 11 then (bif Nat.beq x 2147483648 && ex_isI b then some b else some ex_full) else bif Nat.beq t 31 then none else bif Nat.beq t 32 then none else some ex_full
  | none, none => bif Nat.beq t 31 then none else bif Nat.beq t 32 then none else some ex_full
noncomputable def ex_bin2 (q : ex_P) (r : List ex_P) (en : ex_E) (lv : ex_L) (st : List ex_V) (h : ex_H) (n cc ss : Nat) : Option (List (ex_E × ex_S)) := match st with
  | b :: a :: rest => bif ex_isI a && ex_isI b then (match ex_need en a with
    | some i => ex_spl en i (q :: r, lv, st, h, n, cc, ss)
    | none => (match ex_need en b with
      | some i => ex_spl en i (q :: r, lv, st, h, n, cc, ss)
      | none => (match ex_opt (ex_tag q.2.1) en a b with
        | some v => ex_ft q r en lv (v :: rest) h n cc ss
        | none => none))) else none
  | _ => none
def ex_cnd (o : Instr) : ClassFile.Cond := match o with
  | .ifCond c _ => c
  | .if_icmp c _ => c
  | _ => .eq
noncomputable def ex_s_if1 (pr : List ex_P) (q : ex_P) (r : List ex_P) (en : ex_E) (lv : ex_L) (st : List ex_V) (h : ex_H) (n cc ss : Nat) : Option (List (ex_E × ex_S)) := match st with
  | a :: rest => ex_ifs pr q r (ex_cnd q.2.1) en lv a (ex_k 2147483648) rest h n cc ss
  | [] => none
noncomputable def ex_s_if2 (pr : List ex_P) (q : ex_P) (r : List ex_P) (en : ex_E) (lv : ex_L) (st : List ex_V) (h : ex_H) (n cc ss : Nat) : Option (List (ex_E × ex_S)) := match st with
  | b :: a :: rest => ex_ifs pr q r (ex_cnd q.2.1) en lv a b rest h n cc ss
  | _ => none
noncomputable def ex_s_iinc (pr : List ex_P) (isl : Bool) (L mL : Nat) (cap : Nat × Nat) (df : Nat → List ex_V) (en : ex_E) (q : ex_P) (r : List ex_P) (lv : ex_L) (st : List ex_V) (h : ex_H) (n cc ss : Nat) : Option (List (ex_E × ex_S)) := match ex_lk lv q.2.2.2.1 with
    | some v => (match ex_cst en v with
      | some u => bif ex_isI v && Nat.blt q.2.2.2.1 mL then ex_ft q r en ((q.2.2.2.1, ex_k ((u + q.2.2.2.2.1) % 4294967296)) :: ex_del lv q.2.2.2.1) st h n cc ss else none
      | none => none)
    | none => none
noncomputable def ex_s_dup (pr : List ex_P) (isl : Bool) (L mL : Nat) (cap : Nat × Nat) (df : Nat → List ex_V) (en : ex_E) (q : ex_P) (r : List ex_P) (lv : ex_L) (st : List ex_V) (h : ex_H) (n cc ss : Nat) : Option (List (ex_E × ex_S)) := match st with
    | v :: rest => bif Nat.beq (ex_cat v) 1 then ex_ft q r en lv (v :: v :: rest) h n cc ss else none
    | [] => none
noncomputable def ex_s_i2b (pr : List ex_P) (isl : Bool) (L mL : Nat) (cap : Nat × Nat) (df : Nat → List ex_V) (en : ex_E) (q : ex_P) (r : List ex_P) (lv : ex_L) (st : List ex_V) (h : ex_H) (n cc ss : Nat) : Option (List (ex_E × ex_S)) := match st with
    | v :: rest => bif ex_isI v then ex_ft q r en lv (ex_full :: rest) h n cc ss else none
    | [] => none
noncomputable def ex_s_dup2 (pr : List ex_P) (isl : Bool) (L mL : Nat) (cap : Nat × Nat) (df : Nat → List ex_V) (en : ex_E) (q : ex_P) (r : List ex_P) (lv : ex_L) (st : List ex_V) (h : ex_H) (n cc ss : Nat) : Option (List (ex_E × ex_S)) := match st with
    | v :: w :: rest => bif Nat.beq (ex_cat v) 1 && Nat.beq (ex_cat w) 1 then ex_ft q r en lv (v :: w :: v :: w :: rest) h n cc ss else none
    | _ => none
noncomputable def ex_s_pop (pr : List ex_P) (isl : Bool) (L mL : Nat) (cap : Nat × Nat) (df : Nat → List ex_V) (en : ex_E) (q : ex_P) (r : List ex_P) (lv : ex_L) (st : List ex_V) (h : ex_H) (n cc ss : Nat) : Option (List (ex_E × ex_S)) := match st with
    | v :: rest => bif Nat.beq (ex_cat v) 1 then ex_ft q r en lv rest h n cc ss else none
    | [] => none
noncomputable def ex_s_tableswitch (pr : List ex_P) (isl : Bool) (L mL : Nat) (cap : Nat × Nat) (df : Nat → List ex_V) (en : ex_E) (q : ex_P) (r : List ex_P) (lv : ex_L) (st : List ex_V) (h : ex_H) (n cc ss : Nat) : Option (List (ex_E × ex_S)) := match st with
    | v :: rest => bif ex_isI v then some (ex_app (ex_map (fun e => (e, (ex_jp pr q.2.2.2.1, lv, rest, h, n, cc, ss))) (ex_1 en v 0 (q.2.2.2.2.1 - 1))) (ex_sw pr q en lv v rest h n cc ss q.2.2.2.2.2.2 q.2.2.2.2.1)) else none
    | [] => none
noncomputable def ex_s_lookupswitch (pr : List ex_P) (isl : Bool) (L mL : Nat) (cap : Nat × Nat) (df : Nat → List ex_V) (en : ex_E) (q : ex_P) (r : List ex_P) (lv : ex_L) (st : List ex_V) (h : ex_H) (n cc ss : Nat) : Option (List (ex_E × ex_S)) := match st with
    | v :: rest => bif ex_isI v then ex_lu pr q lv v rest h n cc ss q.2.2.2.2.2.2 en else none
    | [] => none
noncomputable def ex_s_invokespecial (pr : List ex_P) (isl : Bool) (L mL : Nat) (cap : Nat × Nat) (df : Nat → List ex_V) (en : ex_E) (q : ex_P) (r : List ex_P) (lv : ex_L) (st : List ex_V) (h : ex_H) (n cc ss : Nat) : Option (List (ex_E × ex_S)) := match st with
    | .inr (.inl (some _)) :: rest => bif Nat.ble (ex_len rest) 4 then ex_ft q r en lv rest h n cc ss else none
    | _ => none
noncomputable def ex_go (n_ : Nat) (pr : List ex_P) (isl : Bool) (L mL : Nat) (cap : Nat × Nat) (df : Nat → List ex_V) (en : ex_E) (q : ex_P) (r : List ex_P) (lv : ex_L) (st : List ex_V) (h : ex_H) (n cc ss : Nat) : Option (List (ex_E × ex_S)) := bif Nat.ble n_ 48 then (bif Nat.ble n_ 15 then (bif Nat.ble n_ 4 then (bif Nat.ble n_ 1 then (bif Nat.ble n_ 0 then (ex_ld q r en lv st h n cc ss ex_isR) else (ex_ld q r en lv st h n cc ss ex_isI)) else (bif Nat.ble n_ 2 then (ex_gf q r en lv st h n cc ss) else (bif Nat.ble n_ 3 then (ex_ft q r en lv (ex_k q.2.2.2.1 :: st) h n cc ss) else (ex_ld q r en lv st h n cc ss ex_isI)))) else (bif Nat.ble n_ 7 then (bif Nat.ble n_ 5 then (ex_ald isl L (fun t => Nat.beq t 0) q r en lv st h n cc ss) else (bif Nat.ble n_ 6 then (ex_s_if2 pr q r en lv st h n cc ss) else (ex_s_iinc pr isl L mL cap df en q r lv st h n cc ss))) else (bif Nat.ble n_ 9 then (bif Nat.ble n_ 8 then (some [(en, (ex_jp pr q.2.2.2.1, lv, st, h, n, cc, ss))]) else (ex_s_if1 pr q r en lv st h n cc ss)) else (bif Nat.ble n_ 12 then (bif Nat.ble n_ 10 then (ex_ft q r en lv (ex_k q.2.2.2.1 :: st) h n cc ss) else (bif Nat.ble n_ 11 then (ex_bin2 q r en lv st h n cc ss) else (ex_pf q r en lv st h n cc ss))) else (bif Nat.ble n_ 13 then (ex_ast q r en lv st h n cc ss ex_oki) else (bif Nat.ble n_ 14 then (ex_st mL q r en lv st h n cc ss ex_isI) else (ex_st mL q r en lv st h n cc ss ex_isI))))))) else (bif Nat.ble n_ 26 then (bif Nat.ble n_ 18 then (bif Nat.ble n_ 16 then (ex_ft q r en lv (ex_k q.2.2.2.1 :: st) h n cc ss) else (bif Nat.ble n_ 17 then (ex_s_dup pr isl L mL cap df en q r lv st h n cc ss) else (ex_ft q r en lv (ex_k q.2.2.2.1 :: st) h n cc ss))) else (bif Nat.ble n_ 20 then (bif Nat.ble n_ 19 then (ex_ft q r en lv (ex_k q.2.2.2.1 :: st) h n cc ss) else (ex_ft q r en lv (ex_j (Int64.ofNat q.2.2.2.1) :: st) h n cc ss)) else (bif Nat.ble n_ 23 then (bif Nat.ble n_ 21 then (ex_ld q r en lv st h n cc ss ex_isR) else (bif Nat.ble n_ 22 then (ex_st mL q r en lv st h n cc ss ex_isR) else (ex_st mL q r en lv st h n cc ss ex_isR))) else (bif Nat.ble n_ 24 then (ex_bin2 q r en lv st h n cc ss) else (bif Nat.ble n_ 25 then (ex_bin2 q r en lv st h n cc ss) else (ex_bin2 q r en lv st h n cc ss)))))) else (bif Nat.ble n_ 33 then (bif Nat.ble n_ 28 then (bif Nat.ble n_ 27 then (ex_bin2 q r en lv st h n cc ss) else (ex_bin2 q r en lv st h n cc ss)) else (bif Nat.ble n_ 30 then (bif Nat.ble n_ 29 then (ex_bin2 q r en lv st h n cc ss) else (ex_bin2 q r en lv st h n cc ss)) else (bif Nat.ble n_ 31 then (ex_bin2 q r en lv st h n cc ss) else (bif Nat.ble n_ 32 then (ex_bin2 q r en lv st h n cc ss) else (ex_s_i2b pr isl L mL cap df en q r lv st h n cc ss))))) else (bif Nat.ble n_ 38 then (bif Nat.ble n_ 35 then (bif Nat.ble n_ 34 then (ex_s_dup2 pr isl L mL cap df en q r lv st h n cc ss) else (ex_s_pop pr isl L mL cap df en q r lv st h n cc ss)) else (bif Nat.ble n_ 36 then (ex_s_tableswitch pr isl L mL cap df en q r lv st h n cc ss) else (bif Nat.ble n_ 37 then (ex_s_lookupswitch pr isl L mL cap df en q r lv st h n cc ss) else (ex_nw cap df q r en lv st h n cc ss)))) else (bif Nat.ble n_ 41 then (bif Nat.ble n_ 39 then (ex_na cap q r en lv st h n cc ss) else (bif Nat.ble n_ 40 then (ex_na cap q r en lv st h n cc ss) else (ex_al isl L q r en lv st h n cc ss))) else (bif Nat.ble n_ 43 then (bif Nat.ble n_ 42 then (ex_ald false L ex_bz q r en lv st h n cc ss) else (ex_ald false L (fun t => Nat.beq t 4) q r en lv st h n cc ss)) else (bif Nat.ble n_ 45 then (bif Nat.ble n_ 44 then (ex_ast q r en lv st h n cc ss (ex_okb en)) else (ex_ast q r en lv st h n cc ss ex_okj)) else (bif Nat.ble n_ 46 then (ex_ast q r en lv st h n cc ss (ex_okq h)) else (bif Nat.ble n_ 47 then (ex_acp q r en lv st h n cc ss) else (ex_s_invokespecial pr isl L mL cap df en q r lv st h n cc ss)))))))))) else none
noncomputable def ex_step2 (pr : List ex_P) (isl : Bool) (L mL : Nat) (cap : Nat × Nat) (df : Nat → List ex_V) (en : ex_E) (q : ex_P) (r : List ex_P) (lv : ex_L) (st : List ex_V) (h : ex_H) (n cc ss : Nat) : Option (List (ex_E × ex_S)) := ex_go (ex_tag q.2.1) pr isl L mL cap df en q r lv st h n cc ss
/-- a call's first number: the method, its second: how many values it takes, its third: 0 for a call, 1 for a copy of rows or Object's constructor -/
def ex_call (q : ex_P) : Bool := match q.2.1 with
  | .invokestatic _ => Nat.beq q.2.2.2.2.2.1 0
  | .invokespecial _ => Nat.beq q.2.2.2.2.2.1 0
  | .invokevirtual _ => true
  | _ => false
def ex_end (q : ex_P) : Bool := match q.2.1 with
  | .ireturn => true
  | .areturn => true
  | .return_ => true
  | _ => false
noncomputable def ex_take (n : Nat) : List ex_V → List ex_V → Option (List ex_V × List ex_V) := Nat.rec (motive := fun _ => List ex_V → List ex_V → Option (List ex_V × List ex_V)) (fun acc st => some (acc, st)) (fun _ ih acc st => match st with
  | v :: rest => bif Nat.beq (ex_cat v) 1 then ih (v :: acc) rest else none
  | [] => none) n
noncomputable def ex_args (l : List ex_V) (i : Nat) : ex_L := List.rec (motive := fun _ => Nat → ex_L) (fun _ => []) (fun v _ ih i => (i, v) :: ih (i + 1)) l i
/-- an answer that is a boolean is 0 or 1 -/
noncomputable def ex_zok (en : ex_E) (z : Nat) (v : ex_V) : Bool := bif Nat.beq z 1 then (match ex_cst en v with
  | some u => Nat.beq u 2147483648 || Nat.beq u 2147483649
  | none => false) else true
abbrev ex_A : Type := ex_E × List ex_V × ex_H × Nat
/-- what a method leaves: its answer, and the cells -/
noncomputable def ex_ret (z mc ms : Nat) (o : ex_E × ex_S) : Option ex_A := match o with
  | (e, (q :: _, _, st, h, n, c', s')) => bif Nat.ble c' mc && Nat.ble s' ms then (match q.2.1, st with
    | .ireturn, [v] => bif ex_isI v && ex_zok e z v then some (e, [v], h, n) else none
    | .areturn, [v] => bif ex_isR v then some (e, [v], h, n) else none
    | .return_, [] => some (e, [], h, n)
    | _, _ => none) else none
  | _ => none
noncomputable def ex_rets (z mc ms : Nat) (l : List (ex_E × ex_S)) : Option (List ex_A) := List.rec (motive := fun _ => Option (List ex_A)) (some []) (fun a _ ih => match ex_ret z mc ms a with
  | none => none
  | some x => (match ih with
    | none => none
    | some y => some (x :: y))) l
/-- answers that lie side by side become one: untrusted, then held against each -/
def ex_veq (a b : ex_V) : Bool := match a, b with
  | .inl (.inl x), .inl (.inl y) => Nat.beq x y
  | .inl (.inr (.inl x)), .inl (.inr (.inl y)) => Nat.beq x y
  | .inl (.inr (.inr x)), .inl (.inr (.inr y)) => Nat.beq x.1 y.1 && Nat.beq x.2 y.2
  | .inr (.inl none), .inr (.inl none) => true
  | .inr (.inl (some x)), .inr (.inl (some y)) => Nat.beq x y
  | .inr (.inr (.inl x)), .inr (.inr (.inl y)) => decide (x = y)
  | _, _ => false
noncomputable def ex_lq {α : Type} (f : α → α → Bool) (l : List α) : List α → Bool := List.rec (motive := fun _ => List α → Bool) (fun r => match r with
  | [] => true
  | _ :: _ => false) (fun a _ ih r => match r with
  | [] => false
  | b :: t => f a b && ih t) l
def ex_pq (a b : Nat × ex_V) : Bool := Nat.beq a.1 b.1 && ex_veq a.2 b.2
noncomputable def ex_cq (a b : ex_C) : Bool := match a, b with
  | .inl x, .inl y => Nat.beq x.1 y.1 && ex_lq ex_veq x.2 y.2
  | .inr x, .inr y => Nat.beq x.1 y.1 && Nat.beq x.2.1 y.2.1 && ex_lq ex_pq x.2.2 y.2.2
  | _, _ => false
noncomputable def ex_hb (a b : List ex_C) : Bool := match b with
  | [] => true
  | _ :: _ => ex_lq ex_cq a b
/-- the second's cells are the first's -/
noncomputable def ex_hq (l : ex_H) : ex_H → Bool := List.rec (motive := fun _ => ex_H → Bool) (fun r => match r with
  | [] => true
  | _ :: _ => false) (fun a _ ih r => match r with
  | [] => true
  | b :: t => ex_hb a b && ih t) l
noncomputable def ex_eq' (l : ex_E) : ex_E → Bool := List.rec (motive := fun _ => ex_E → Bool) (fun r => match r with
  | [] => true
  | _ :: _ => false) (fun a _ ih r => match r with
  | [] => true
  | b :: t => Nat.ble b.1 a.1 && Nat.ble a.2 b.2 && ih t) l
noncomputable def ex_le (a m : ex_A) : Bool := ex_eq' a.1 m.1 && ex_lq ex_veq a.2.1 m.2.1 && Nat.beq a.2.2.2 m.2.2.2 && ex_hq a.2.2.1 m.2.2.1
noncomputable def ex_any {α : Type} (f : α → Bool) (l : List α) : Bool := List.rec (motive := fun _ => Bool) false (fun a _ ih => f a || ih) l
noncomputable def ex_every {α : Type} (f : α → Bool) (l : List α) : Bool := List.rec (motive := fun _ => Bool) true (fun a _ ih => f a && ih) l
/-- two ranges side by side -/
noncomputable def ex_hull (l : ex_E) : ex_E → ex_E := List.rec (motive := fun _ => ex_E → ex_E) (fun _ => []) (fun a _ ih r => match r with
  | [] => []
  | b :: t => (bif Nat.beq (a.2 + 1) b.1 then (a.1, b.2) else a) :: ih t) l
noncomputable def ex_next (l : ex_E) : ex_E → Nat := List.rec (motive := fun _ => ex_E → Nat) (fun _ => 0) (fun a _ ih r => match r with
  | [] => 9
  | b :: t => (bif Nat.beq a.1 b.1 && Nat.beq a.2 b.2 then 0 else bif Nat.beq (a.2 + 1) b.1 then 1 else 9) + ih t) l
noncomputable def ex_drop (k : Nat) (h : ex_H) : ex_H := List.rec (motive := fun _ => Nat → ex_H) (fun _ => []) (fun a _ ih k => Nat.rec (motive := fun _ => ex_H) (a :: ih 0) (fun k' _ => [] :: ih k') k) h k
noncomputable def ex_grp (k : Nat) (l : List ex_A) : List ex_A := List.rec (motive := fun _ => List ex_A) [] (fun a _ ih => match ih with
  | [] => [(a.1, a.2.1, ex_drop k a.2.2.1, a.2.2.2)]
  | m :: t => bif ex_lq ex_veq a.2.1 m.2.1 && Nat.ble (ex_next a.1 m.1) 1 && ex_hq a.2.2.1 m.2.2.1 then (ex_hull a.1 m.1, m.2.1, m.2.2.1, m.2.2.2) :: t else (a.1, a.2.1, ex_drop k a.2.2.1, a.2.2.2) :: m :: t) l
noncomputable def ex_mg (b : Bool) (l : List ex_A) : Option (List ex_A) := bif b && Nat.ble 2 (ex_len l) then (bif ex_every (fun a => ex_any (ex_le a) (ex_grp 15 l)) l then some (ex_grp 15 l) else none) else some l
noncomputable def ex_bk (r : List ex_P) (lv : ex_L) (rest : List ex_V) (cc ss : Nat) (a : ex_A) : ex_E × ex_S := (a.1, (r, lv, ex_app a.2.1 rest, a.2.2.1, a.2.2.2, cc, ss))
noncomputable def ex_alls (f : ex_E × ex_S → Option (List (ex_E × ex_S))) (l : List (ex_E × ex_S)) : Option (List (ex_E × ex_S)) := List.rec (motive := fun _ => Option (List (ex_E × ex_S))) (some []) (fun a _ ih => match f a with
  | none => none
  | some x => (match ih with
    | none => none
    | some y => some (ex_app x y))) l
/-- one state is gone on with as it is -/
noncomputable def ex_all (f : ex_E × ex_S → Option (List (ex_E × ex_S))) (l : List (ex_E × ex_S)) : Option (List (ex_E × ex_S)) := match l with
  | [a] => f a
  | l => ex_alls f l
/-- a receiver is an object of the class that the third number says; a new one's constructor has one -/
noncomputable def ex_rcv (q : ex_P) (h : ex_H) (a : List ex_V) : Bool := match q.2.1, a with
  | .invokevirtual _, .inr (.inl (some o)) :: _ => (match ex_get h o with
    | some (.inl oc) => Nat.beq oc.1 q.2.2.2.2.2.1
    | _ => false)
  | .invokespecial _, .inr (.inl (some _)) :: _ => true
  | .invokestatic _, _ => true
  | _, _ => false
abbrev ex_F : Type := Nat → Nat → Bool → ex_M → ex_E → ex_S → Option (List (ex_E × ex_S))
def ex_nx3 (q : ex_P) (r : List ex_P) : Bool := match r with
  | [] => false
  | q' :: _ => Nat.beq q'.1 (q.1 + 3)
/-- a call, and what comes behind it -/
noncomputable def ex_cl (run : ex_F) (mt : Nat → Option ex_M) (stop d : Nat) (isl : Bool) (M : ex_M) (en : ex_E) (q : ex_P) (r : List ex_P) (lv : ex_L) (st : List ex_V) (h : ex_H) (n cc ss : Nat) : Option (List (ex_E × ex_S)) := match d with
  | 0 => none
  | d' + 1 => (match mt q.2.2.2.1 with
    | none => none
    | some M' => (match ex_take q.2.2.2.2.1 [] st with
      | none => none
      | some ar => bif Nat.ble (ex_len ar.2) 4 && Nat.ble (cc + M'.2.2.2.1) M.2.2.2.1 && Nat.ble (ss + M'.2.2.2.2) M.2.2.2.2 && ex_nx3 q r && ex_rcv q h ar.1 then (match run 1000000 d' false M' en (M'.1, ex_args ar.1 0, [], h, n, 0, 0) with
        | none => none
        | some outs => (match ex_rets M'.2.2.1 M'.2.2.2.1 M'.2.2.2.2 outs with
          | none => none
          | some l => (match ex_mg isl l with
            | none => none
            | some l' => ex_all (fun o => run stop (d' + 1) isl M o.1 o.2) (ex_map (ex_bk r lv ar.2 (cc + M'.2.2.2.1) (ss + M'.2.2.2.2)) l')))) else none))
noncomputable def ex_sp (run : ex_F) (df : Nat → List ex_V) (L stop d : Nat) (isl : Bool) (M : ex_M) (en : ex_E) (q : ex_P) (r : List ex_P) (lv : ex_L) (st : List ex_V) (h : ex_H) (n cc ss : Nat) : Option (List (ex_E × ex_S)) := match ex_step2 M.1 isl L M.2.1 (M.2.2.2.1, M.2.2.2.2) df en q r lv st h n cc ss with
  | none => none
  | some l => ex_all (fun o => run stop d isl M o.1 o.2) l
/-- the run: up to returns, or (in the law's own frame) up to the place 'stop' -/
noncomputable def ex_run (mt : Nat → Option ex_M) (df : Nat → List ex_V) (L : Nat) (f : Nat) : ex_F := Nat.rec (motive := fun _ => ex_F) (fun _ _ _ _ _ _ => none) (fun _ ih stop d isl M en s => match s with
  | ([], _) => none
  | (q :: r, lv, st, h, n, cc, ss) =>
    bif ex_end q || Nat.ble stop q.1 then some [(en, s)] else
    bif ex_call q then ex_cl ih mt stop d isl M en q r lv st h n cc ss else ex_sp ih df L stop d isl M en q r lv st h n cc ss) f
end
section
def ex_u (x : Int32) : Nat := (x.toBitVec.toNat + 2147483648) % 4294967296
theorem ex_u_lt (x : Int32) : ex_u x < 4294967296 := Nat.mod_lt _ (by decide)
theorem ex_u_int (x : Int32) : (ex_u x : Int) = x.toInt + 2147483648 := by
  have h := x.toBitVec.isLt
  have e : x.toInt = x.toBitVec.toInt := rfl
  rw [e, BitVec.toInt_eq_toNat_cond]
  unfold ex_u
  split <;> omega
theorem ex_u_inj {x y : Int32} (h : ex_u x = ex_u y) : x = y := by
  have h1 := ex_u_int x
  have h2 := ex_u_int y
  exact Int32.toInt_inj.mp (by omega)
theorem ex_u_lti {x y : Int32} : x < y ↔ ex_u x < ex_u y := by
  have h1 := ex_u_int x
  have h2 := ex_u_int y
  rw [Int32.lt_iff_toInt_lt]
  omega
theorem ex_u_lei {x y : Int32} : x ≤ y ↔ ex_u x ≤ ex_u y := by
  have h1 := ex_u_int x
  have h2 := ex_u_int y
  rw [Int32.le_iff_toInt_le]
  omega
theorem ex_u_0 : ex_u 0 = 2147483648 := by decide
theorem ex_u_nneg {x : Int32} (h : 2147483648 ≤ ex_u x) : ¬ x < 0 := by
  rw [ex_u_lti, ex_u_0]; omega
theorem ex_u_cl {x : Int32} (h : 2147483648 ≤ ex_u x) : x.toNatClampNeg = ex_u x - 2147483648 := by
  have h1 := ex_u_int x
  have e : x.toNatClampNeg = x.toInt.toNat := rfl
  rw [e]; omega
theorem ex_u_tn (x : Int32) : x.toBitVec.toNat = ex_t (ex_u x) := by
  have h := x.toBitVec.isLt
  unfold ex_t ex_u
  omega
theorem ex_u_of (x : Int32) : ex_u x = ex_t x.toBitVec.toNat := rfl
theorem ex_u_add (x y : Int32) : ex_u (x + y) = (ex_u x + ex_u y + 2147483648) % 4294967296 := by
  have h1 := x.toBitVec.isLt
  have h2 := y.toBitVec.isLt
  have e : (x + y).toBitVec.toNat = (x.toBitVec.toNat + y.toBitVec.toNat) % 4294967296 := by rw [Int32.toBitVec_add, BitVec.toNat_add]
  unfold ex_u
  rw [e]; omega
theorem ex_u_sub (x y : Int32) : ex_u (x - y) = (ex_u x + 6442450944 - ex_u y) % 4294967296 := by
  have h1 := x.toBitVec.isLt
  have h2 := y.toBitVec.isLt
  have e : (x - y).toBitVec.toNat = (4294967296 - y.toBitVec.toNat + x.toBitVec.toNat) % 4294967296 := by rw [Int32.toBitVec_sub, BitVec.toNat_sub]
  unfold ex_u
  rw [e]; omega
theorem ex_u_mul (x y : Int32) : ex_u (x * y) = ex_t (ex_t (ex_u x) * ex_t (ex_u y) % 4294967296) := by
  rw [ex_u_of, ← ex_u_tn x, ← ex_u_tn y, Int32.toBitVec_mul, BitVec.toNat_mul]
theorem ex_u_and (x y : Int32) : ex_u (x &&& y) = ex_t (Nat.land (ex_t (ex_u x)) (ex_t (ex_u y))) := by
  rw [ex_u_of, ← ex_u_tn x, ← ex_u_tn y, Int32.toBitVec_and, BitVec.toNat_and]; rfl
theorem ex_u_or (x y : Int32) : ex_u (x ||| y) = ex_t (Nat.lor (ex_t (ex_u x)) (ex_t (ex_u y))) := by
  rw [ex_u_of, ← ex_u_tn x, ← ex_u_tn y, Int32.toBitVec_or, BitVec.toNat_or]; rfl
theorem ex_u_xor (x y : Int32) : ex_u (x ^^^ y) = ex_t (Nat.xor (ex_t (ex_u x)) (ex_t (ex_u y))) := by
  rw [ex_u_of, ← ex_u_tn x, ← ex_u_tn y, Int32.toBitVec_xor, BitVec.toNat_xor]; rfl
theorem ex_u_div {x y : Int32} (hx : 2147483648 ≤ ex_u x) (hy : 2147483649 ≤ ex_u y) : ex_u (x / y) = (ex_u x - 2147483648) / (ex_u y - 2147483648) + 2147483648 := by
  have l1 := ex_u_lt x
  have l2 := ex_u_lt y
  have e1 : x = nI (ex_u x - 2147483648) := ex_u_inj (by have := ex_u_int x; have h := ex_u_int (nI (ex_u x - 2147483648)); rw [nI_toInt (by omega)] at h; omega)
  have e2 : y = nI (ex_u y - 2147483648) := ex_u_inj (by have := ex_u_int y; have h := ex_u_int (nI (ex_u y - 2147483648)); rw [nI_toInt (by omega)] at h; omega)
  have d := pk_div (a := ex_u x - 2147483648) (d := ex_u y - 2147483648) (by omega) (by omega) (by omega)
  rw [← e1, ← e2] at d
  have hq : (ex_u x - 2147483648) / (ex_u y - 2147483648) ≤ ex_u x - 2147483648 := Nat.div_le_self _ _
  have h := ex_u_int (x / y)
  have d2 : (x / y).toInt = (((ex_u x - 2147483648) / (ex_u y - 2147483648) : Nat) : Int) := by rw [d, nI_toInt (by omega)]
  omega
theorem ex_u_rem {x y : Int32} (hx : 2147483648 ≤ ex_u x) (hy : 2147483649 ≤ ex_u y) : ex_u (x - x / y * y) = (ex_u x - 2147483648) % (ex_u y - 2147483648) + 2147483648 := by
  have l1 := ex_u_lt x
  have l2 := ex_u_lt y
  have e1 : x = nI (ex_u x - 2147483648) := ex_u_inj (by have := ex_u_int x; have h := ex_u_int (nI (ex_u x - 2147483648)); rw [nI_toInt (by omega)] at h; omega)
  have e2 : y = nI (ex_u y - 2147483648) := ex_u_inj (by have := ex_u_int y; have h := ex_u_int (nI (ex_u y - 2147483648)); rw [nI_toInt (by omega)] at h; omega)
  have d := pk_rem (a := ex_u x - 2147483648) (d := ex_u y - 2147483648) (by omega) (by omega) (by omega)
  rw [← e1, ← e2] at d
  have hq : (ex_u x - 2147483648) % (ex_u y - 2147483648) < ex_u y - 2147483648 := Nat.mod_lt _ (by omega)
  have h := ex_u_int (x - x / y * y)
  have d2 : (x - x / y * y).toInt = (((ex_u x - 2147483648) % (ex_u y - 2147483648) : Nat) : Int) := by rw [d, nI_toInt (by omega)]
  omega
theorem ex_bif {c : Bool} {α : Type} {a b : α} {P : α → Prop} (h : P (bif c then a else b)) : (c = true ∧ P a) ∨ (c = false ∧ P b) := by
  cases c
  · exact Or.inr ⟨rfl, h⟩
  · exact Or.inl ⟨rfl, h⟩
theorem ex_bifs {c : Bool} {α : Type} {a : Option α} {v : α} (h : (bif c then a else none) = some v) : c = true ∧ a = some v := by
  cases c
  · cases h
  · exact ⟨rfl, h⟩
theorem ex_beq {a b : Nat} (h : Nat.beq a b = true) : a = b := Nat.eq_of_beq_eq_true h
theorem ex_bne {a b : Nat} (h : Nat.beq a b = false) : a ≠ b := Nat.ne_of_beq_eq_false h
theorem ex_ble {a b : Nat} (h : Nat.ble a b = true) : a ≤ b := Nat.le_of_ble_eq_true h
theorem ex_blt {a b : Nat} (h : Nat.blt a b = true) : a < b := Nat.le_of_ble_eq_true h
theorem ex_and {a b : Bool} (h : (a && b) = true) : a = true ∧ b = true := by cases a <;> cases b <;> first | exact ⟨rfl, rfl⟩ | cases h
-- lists
theorem ex_nth_get {α : Type} (l : List α) (k : Nat) : ex_nth l k = l[k]? := by
  induction l generalizing k with
  | nil => rfl
  | cons a t ih => cases k with
    | zero => rfl
    | succ k => exact (ih k).trans (List.getElem?_cons_succ).symm
theorem ex_set_eq {α : Type} (l : List α) (k : Nat) (v : α) : ex_set l k v = l.set k v := by
  induction l generalizing k with
  | nil => rfl
  | cons a t ih => cases k with
    | zero => rfl
    | succ k => exact congrArg (a :: ·) (ih k)
theorem ex_app_eq {α : Type} (l r : List α) : ex_app l r = l ++ r := by
  induction l with
  | nil => rfl
  | cons a t ih => exact congrArg (a :: ·) ih
theorem ex_len_eq {α : Type} (l : List α) : ex_len l = l.length := by
  induction l with
  | nil => rfl
  | cons a t ih => exact congrArg (· + 1) ih
theorem ex_map_eq {α β : Type} (f : α → β) (l : List α) : ex_map f l = l.map f := by
  induction l with
  | nil => rfl
  | cons a t ih => exact congrArg (f a :: ·) ih
theorem ex_range_mem (n lo x : Nat) : x ∈ ex_range n lo ↔ lo ≤ x ∧ x < lo + n := by
  induction n generalizing lo with
  | zero => exact ⟨fun h => absurd h List.not_mem_nil, fun h => by omega⟩
  | succ n ih =>
    show x ∈ lo :: ex_range n (lo + 1) ↔ _
    rw [List.mem_cons, ih]
    omega
theorem ex_get_at {h : ex_H} {k : Nat} {c : ex_C} (e : ex_get h k = some c) : ∃ ch, h[k / 32]? = some ch ∧ ch[k % 32]? = some c := by
  unfold ex_get at e
  split at e
  · rename_i ch hc
    rw [ex_nth_get] at hc e
    exact ⟨ch, hc, e⟩
  · cases e
theorem ex_get_of {h : ex_H} {k : Nat} {c : ex_C} {ch : List ex_C} (e1 : h[k / 32]? = some ch) (e2 : ch[k % 32]? = some c) : ex_get h k = some c := by
  unfold ex_get
  rw [ex_nth_get, e1]
  exact (ex_nth_get _ _).trans e2
theorem ex_put_get {h : ex_H} {k : Nat} {c : ex_C} {j : Nat} {c' : ex_C} (e : ex_get (ex_put h k c) j = some c') : (j = k ∧ c' = c) ∨ (j ≠ k ∧ ex_get h j = some c') := by
  obtain ⟨ch, h1, h2⟩ := ex_get_at e
  unfold ex_put at h1
  split at h1
  · rename_i ck hk
    rw [ex_nth_get] at hk
    rw [ex_set_eq, List.getElem?_set] at h1
    by_cases hd : k / 32 = j / 32
    · rw [if_pos hd] at h1
      split at h1
      · cases h1
        rw [ex_set_eq, List.getElem?_set] at h2
        by_cases hm : k % 32 = j % 32
        · rw [if_pos hm] at h2
          split at h2
          · cases h2
            exact Or.inl ⟨by omega, rfl⟩
          · cases h2
        · rw [if_neg hm] at h2
          exact Or.inr ⟨fun q => hm (by rw [q]), ex_get_of (by rw [← hd]; exact hk) h2⟩
      · cases h1
    · rw [if_neg hd] at h1
      exact Or.inr ⟨fun q => hd (by rw [q]), ex_get_of h1 h2⟩
  · rename_i hn
    refine Or.inr ⟨fun q => ?_, ex_get_of h1 h2⟩
    subst q
    rw [ex_nth_get] at hn
    rw [h1] at hn
    cases hn
theorem ex_push_get {h h' : ex_H} {n : Nat} {c : ex_C} (e : ex_push h n c = some h') {j : Nat} {c' : ex_C} (g : ex_get h' j = some c') : (j = n ∧ c' = c) ∨ ex_get h j = some c' := by
  obtain ⟨ch, h1, h2⟩ := ex_get_at g
  unfold ex_push at e
  rcases ex_bif (P := fun z => z = some h') e with ⟨e0, e1⟩ | ⟨e0, e1⟩
  · obtain ⟨e2, e3⟩ := ex_bifs e1
    cases e3
    have e0 := ex_beq e0
    have e2 := ex_beq e2
    rw [ex_len_eq] at e2
    rw [ex_app_eq] at h1
    by_cases hl : j / 32 < h.length
    · rw [List.getElem?_append_left hl] at h1
      exact Or.inr (ex_get_of h1 h2)
    · rw [List.getElem?_append_right (by omega)] at h1
      have hz : j / 32 - h.length < 1 := (List.getElem?_eq_some_iff.mp h1).1
      rw [show j / 32 - h.length = 0 by omega] at h1
      cases h1
      have hz2 : j % 32 < 1 := (List.getElem?_eq_some_iff.mp h2).1
      rw [show j % 32 = 0 by omega] at h2
      cases h2
      exact Or.inl ⟨by omega, rfl⟩
  · have e0 := ex_bne e0
    split at e1
    · rename_i ck hk
      obtain ⟨e2, e3⟩ := ex_bifs e1
      cases e3
      have e2 := ex_beq e2
      rw [ex_len_eq] at e2
      rw [ex_nth_get] at hk
      rw [ex_set_eq, List.getElem?_set] at h1
      by_cases hd : n / 32 = j / 32
      · rw [if_pos hd] at h1
        split at h1
        · cases h1
          rw [ex_app_eq] at h2
          by_cases hl : j % 32 < ck.length
          · rw [List.getElem?_append_left hl] at h2
            exact Or.inr (ex_get_of (by rw [← hd]; exact hk) h2)
          · rw [List.getElem?_append_right (by omega)] at h2
            have hz : j % 32 - ck.length < 1 := (List.getElem?_eq_some_iff.mp h2).1
            rw [show j % 32 - ck.length = 0 by omega] at h2
            cases h2
            exact Or.inl ⟨by omega, rfl⟩
        · cases h1
      · rw [if_neg hd] at h1
        exact Or.inr (ex_get_of h1 h2)
    · cases e1
theorem ex_lk_mem {α : Type} {l : List (Nat × α)} {i : Nat} {v : α} (h : ex_lk l i = some v) : (i, v) ∈ l := by
  induction l with
  | nil => cases h
  | cons q t ih =>
    rcases ex_bif (P := fun z => z = some v) (show (bif Nat.beq q.1 i then some q.2 else ex_lk t i) = some v from h) with ⟨h1, h2⟩ | ⟨h1, h2⟩
    · cases h2
      have := ex_beq h1
      subst this
      exact List.mem_cons_self
    · exact List.mem_cons_of_mem _ (ih h2)
theorem ex_ovset_lk (l : List (Nat × ex_V)) (i : Nat) (v : ex_V) (j : Nat) : ex_lk (ex_ovset l i v) j = if j = i then some v else ex_lk l j := by
  induction l with
  | nil =>
    show (bif Nat.beq i j then some v else none) = _
    by_cases h : j = i
    · subst h
      rw [if_pos rfl, show Nat.beq j j = true from Nat.beq_refl j]; rfl
    · rw [if_neg h]
      cases hb : Nat.beq i j
      · rfl
      · exact absurd (ex_beq hb).symm h
  | cons q t ih =>
    show ex_lk (bif Nat.beq q.1 i then (i, v) :: t else q :: ex_ovset t i v) j = _
    cases hq : Nat.beq q.1 i
    · show (bif Nat.beq q.1 j then some q.2 else ex_lk (ex_ovset t i v) j) = if j = i then some v else (bif Nat.beq q.1 j then some q.2 else ex_lk t j)
      cases hj : Nat.beq q.1 j
      · exact ih
      · rw [if_neg (fun e => ex_bne hq (by rw [ex_beq hj, e]))]; rfl
    · show (bif Nat.beq i j then some v else ex_lk t j) = if j = i then some v else (bif Nat.beq q.1 j then some q.2 else ex_lk t j)
      rw [ex_beq hq]
      cases hj : Nat.beq i j
      · rw [if_neg (fun e => ex_bne hj e.symm)]; rfl
      · rw [if_pos (ex_beq hj).symm]; rfl
end
section
/-! what an executor's state says of the machine's -/
def ex_vr (ρ : Nat → Int32) (b : Nat) (ws : va_W) (v : ex_V) (x : Value) : Prop := match v with
  | .inl (.inl n) => ∃ y : Int32, x = .int y ∧ ex_u y = n
  | .inl (.inr (.inl i)) => x = .int (ρ i)
  | .inl (.inr (.inr q)) => ∃ y : Int32, x = .int y ∧ q.1 ≤ ex_u y ∧ ex_u y ≤ q.2
  | .inr (.inl none) => x = .null
  | .inr (.inl (some k)) => ∃ (a : Nat) (e : va_E), ws[k]? = some (a, e) ∧ x = .ref a
  | .inr (.inr (.inl z)) => x = .long z
  | .inr (.inr (.inr ())) => x = .ref b
def ex_er (ρ : Nat → Int32) (en : ex_E) : Prop := ∀ (i : Nat) (q : Nat × Nat), ex_nth en i = some q → q.1 ≤ ex_u (ρ i) ∧ ex_u (ρ i) ≤ q.2
def ex_ty (t : Nat) : FieldType := if t = 0 then .int else if t = 1 then .byte else if t = 2 then .long else if t = 3 then .boolean else .object "HatchLights$Scene"
def ex_ag (a : vp_A) (j : Nat) : Value := match a.2 with
  | .inl f => .int (f j)
  | .inr (.inl f) => .long (f j)
  | .inr (.inr (.inl f)) => .float (f j)
  | .inr (.inr (.inr (.inl f))) => .double (f j)
  | .inr (.inr (.inr (.inr f))) => va_rf (f j)
def ex_ak (t : Nat) (a : vp_A) : Prop := if t = 2 then ∃ f, a.2 = .inr (.inl f) else if t = 4 then ∃ f, a.2 = .inr (.inr (.inr (.inr f))) else ∃ f, a.2 = .inl f
def ex_cr (ρ : Nat → Int32) (b : Nat) (tys : List (ClassId × FieldType)) (ws : va_W) (c : ex_C) (e : va_E) : Prop := match c, e with
  | .inl o, .inr w => o.1 = w.1 ∧ o.2.length = w.2.length ∧ ∀ (k : Nat) (v : ex_V), ex_nth o.2 k = some v → ∃ x, w.2[k]? = some x ∧ ex_vr ρ b ws v x
  | .inr o, .inl w => (w.1, ex_ty o.1) ∈ tys ∧ o.1 ≤ 4 ∧ w.2.1 = o.2.1 ∧ ex_ak o.1 w.2 ∧ ∀ j, j < o.2.1 → ex_vr ρ b ws (ex_ov o.1 o.2.2 j) (ex_ag w.2 j)
  | _, _ => False
def ex_hr (ρ : Nat → Int32) (b : Nat) (tys : List (ClassId × FieldType)) (ws : va_W) (h : ex_H) (n : Nat) : Prop := ws.length = n ∧ ∀ (k : Nat) (c : ex_C), ex_get h k = some c → ∃ (a : Nat) (e : va_E), ws[k]? = some (a, e) ∧ ex_cr ρ b tys ws c e
def ex_sr (ρ : Nat → Int32) (b : Nat) (ws : va_W) : List ex_V → List Value → Prop
  | [], [] => True
  | v :: s, x :: xs => ex_vr ρ b ws v x ∧ ex_sr ρ b ws s xs
  | _, _ => False
def ex_lr (ρ : Nat → Int32) (b : Nat) (ws : va_W) : ex_L → List (Nat × Value) → Prop
  | [], [] => True
  | q :: s, x :: xs => (q.1 = x.1 ∧ ex_vr ρ b ws q.2 x.2) ∧ ex_lr ρ b ws s xs
  | _, _ => False
/-- the cells stay where they are -/
def ex_xt (ws ws' : va_W) : Prop := ∀ (k : Nat) (a : Nat) (e : va_E), ws[k]? = some (a, e) → ∃ e', ws'[k]? = some (a, e')
theorem ex_xt.rf {ws : va_W} : ex_xt ws ws := fun _ _ e h => ⟨e, h⟩
theorem ex_xt.tr {w1 w2 w3 : va_W} (h1 : ex_xt w1 w2) (h2 : ex_xt w2 w3) : ex_xt w1 w3 := fun k a e h => by
  obtain ⟨e', h'⟩ := h1 k a e h
  exact h2 k a e' h'
theorem ex_xt.set {ws : va_W} {k : Nat} {a : Nat} {e e' : va_E} (h : ws[k]? = some (a, e)) : ex_xt ws (ws.set k (a, e')) := fun j x y hj => by
  by_cases q : k = j
  · subst q
    rw [h] at hj
    cases hj
    exact ⟨e', by rw [List.getElem?_set_self (List.getElem?_eq_some_iff.mp h).1]⟩
  · exact ⟨y, by rw [List.getElem?_set_ne q]; exact hj⟩
theorem ex_xt.app {ws w : va_W} : ex_xt ws (ws ++ w) := fun k a e h => ⟨e, by rw [List.getElem?_append_left (List.getElem?_eq_some_iff.mp h).1]; exact h⟩
section EXM
variable {ρ : Nat → Int32} {b : Nat} {tys tys' : List (ClassId × FieldType)} {ws ws' : va_W}
theorem ex_vr.mono (hx : ex_xt ws ws') {v : ex_V} {x : Value} (h : ex_vr ρ b ws v x) : ex_vr ρ b ws' v x := by
  rcases v with (n | i | q) | (_ | k) | z | _
  · exact h
  · exact h
  · exact h
  · exact h
  · obtain ⟨a, e, h1, h2⟩ := h
    obtain ⟨e', h3⟩ := hx k a e h1
    exact ⟨a, e', h3, h2⟩
  · exact h
  · exact h
theorem ex_sr.mono (hx : ex_xt ws ws') : ∀ {st : List ex_V} {xs : List Value}, ex_sr ρ b ws st xs → ex_sr ρ b ws' st xs
  | [], [], _ => trivial
  | _ :: _, _ :: _, h => ⟨h.1.mono hx, ex_sr.mono hx h.2⟩
  | [], _ :: _, h => h.elim
  | _ :: _, [], h => h.elim
theorem ex_lr.mono (hx : ex_xt ws ws') : ∀ {lv : ex_L} {lw : List (Nat × Value)}, ex_lr ρ b ws lv lw → ex_lr ρ b ws' lv lw
  | [], [], _ => trivial
  | _ :: _, _ :: _, h => ⟨⟨h.1.1, h.1.2.mono hx⟩, ex_lr.mono hx h.2⟩
  | [], _ :: _, h => h.elim
  | _ :: _, [], h => h.elim
theorem ex_cr.mono (hx : ex_xt ws ws') (ht : ∀ t ∈ tys, t ∈ tys') {c : ex_C} {e : va_E} (h : ex_cr ρ b tys ws c e) : ex_cr ρ b tys' ws' c e := by
  rcases c with o | o <;> rcases e with w | w
  · exact h
  · exact ⟨h.1, h.2.1, fun k v hk => by obtain ⟨x, h1, h2⟩ := h.2.2 k v hk; exact ⟨x, h1, h2.mono hx⟩⟩
  · exact ⟨ht _ h.1, h.2.1, h.2.2.1, h.2.2.2.1, fun j hj => (h.2.2.2.2 j hj).mono hx⟩
  · exact h
theorem ex_sr_cons {v : ex_V} {st : List ex_V} {xs : List Value} (h : ex_sr ρ b ws (v :: st) xs) : ∃ x xr, xs = x :: xr ∧ ex_vr ρ b ws v x ∧ ex_sr ρ b ws st xr := by
  cases xs with
  | nil => exact h.elim
  | cons x xr => exact ⟨x, xr, rfl, h.1, h.2⟩
theorem ex_sr_nil {xs : List Value} (h : ex_sr ρ b ws [] xs) : xs = [] := by
  cases xs with
  | nil => rfl
  | cons x xr => exact h.elim
/-- an int's bounds -/
theorem ex_vr_int {v : ex_V} {x : Value} (h : ex_vr ρ b ws v x) (hi : ex_isI v = true) : ∃ y : Int32, x = .int y := by
  rcases v with (n | i | q) | v
  · exact ⟨h.choose, h.choose_spec.1⟩
  · exact ⟨_, h⟩
  · exact ⟨h.choose, h.choose_spec.1⟩
  · cases hi
theorem ex_b_ok {en : ex_E} (he : ex_er ρ en) {v : ex_V} {q : Nat × Nat} (hb : ex_b en v = some q) {y : Int32} (h : ex_vr ρ b ws v (.int y)) : q.1 ≤ ex_u y ∧ ex_u y ≤ q.2 := by
  rcases v with (n | i | r) | v
  · obtain ⟨z, h1, h2⟩ := h
    cases h1
    cases hb
    exact ⟨Nat.le_of_eq h2.symm, Nat.le_of_eq h2⟩
  · cases h
    exact he i q hb
  · obtain ⟨z, h1, h2⟩ := h
    cases h1
    cases hb
    exact h2
  · cases hb
theorem ex_b_isI {en : ex_E} {v : ex_V} {q : Nat × Nat} (hb : ex_b en v = some q) : ex_isI v = true := by
  rcases v with (n | i | r) | v <;> first | rfl | cases hb
theorem ex_cst_b {en : ex_E} {v : ex_V} {u : Nat} (hc : ex_cst en v = some u) : ex_b en v = some (u, u) := by
  unfold ex_cst at hc
  split at hc
  · rename_i q hq
    obtain ⟨h1, h2⟩ := ex_bifs hc
    cases h2
    have := ex_beq h1
    rw [hq, show q = (q.1, q.2) from rfl, ← this]
  · cases hc
theorem ex_cst_ok {en : ex_E} (he : ex_er ρ en) {v : ex_V} {u : Nat} (hc : ex_cst en v = some u) {y : Int32} (h : ex_vr ρ b ws v (.int y)) : ex_u y = u := by
  have := ex_b_ok he (ex_cst_b hc) h
  exact Nat.le_antisymm this.2 this.1
theorem ex_cst_isI {en : ex_E} {v : ex_V} {u : Nat} (hc : ex_cst en v = some u) : ex_isI v = true := ex_b_isI (ex_cst_b hc)
theorem ex_mx_ok (a c : Nat) : ex_mx a c = max a c := by
  unfold ex_mx
  cases h : Nat.ble a c
  · have : ¬ a ≤ c := fun q => by rw [Nat.ble_eq_true_of_le q] at h; cases h
    show a = _; omega
  · have := ex_ble h
    show c = _; omega
theorem ex_mn_ok (a c : Nat) : ex_mn a c = min a c := by
  unfold ex_mn
  cases h : Nat.ble a c
  · have : ¬ a ≤ c := fun q => by rw [Nat.ble_eq_true_of_le q] at h; cases h
    show c = _; omega
  · have := ex_ble h
    show a = _; omega
theorem ex_nble {a c : Nat} (h : Nat.ble a c = false) : c < a := by
  rcases Nat.lt_or_ge c a with q | q
  · exact q
  · rw [Nat.ble_eq_true_of_le q] at h; cases h
theorem ex_rf_ok {en : ex_E} (he : ex_er ρ en) {v : ex_V} {y : Int32} (h : ex_vr ρ b ws v (.int y)) {lo hi : Nat} (h1 : lo ≤ ex_u y) (h2 : ex_u y ≤ hi) : ∃ e', ex_rf en v lo hi = some e' ∧ ex_er ρ e' := by
  rcases v with (n | i | r) | v
  · obtain ⟨z, e1, e2⟩ := h
    cases e1
    refine ⟨en, ?_, he⟩
    show (bif Nat.ble lo n && Nat.ble n hi then some en else none) = _
    rw [Nat.ble_eq_true_of_le (show lo ≤ n by omega), Nat.ble_eq_true_of_le (show n ≤ hi by omega)]; rfl
  · cases h
    unfold ex_rf
    cases hn : ex_nth en i with
    | none => exact ⟨en, by simp only [hn], he⟩
    | some q =>
      have hb := he i q hn
      refine ⟨ex_set en i (ex_mx q.1 lo, ex_mn q.2 hi), ?_, fun j r hj => ?_⟩
      · simp only [hn]
        rw [Nat.ble_eq_true_of_le (show ex_mx q.1 lo ≤ ex_mn q.2 hi by rw [ex_mx_ok, ex_mn_ok]; omega)]; rfl
      · rw [ex_nth_get, ex_set_eq, List.getElem?_set] at hj
        split at hj
        · rename_i hij
          subst hij
          split at hj
          · cases hj
            show ex_mx q.1 lo ≤ _ ∧ _ ≤ ex_mn q.2 hi
            rw [ex_mx_ok, ex_mn_ok]; omega
          · cases hj
        · exact he j r (by rw [ex_nth_get]; exact hj)
  · obtain ⟨z, e1, e2⟩ := h
    cases e1
    refine ⟨en, ?_, he⟩
    show (bif Nat.ble (ex_mx r.1 lo) (ex_mn r.2 hi) then some en else none) = _
    rw [Nat.ble_eq_true_of_le (show ex_mx r.1 lo ≤ ex_mn r.2 hi by rw [ex_mx_ok, ex_mn_ok]; omega)]; rfl
  · exact ⟨en, rfl, he⟩
theorem ex_1_ok {en : ex_E} (he : ex_er ρ en) {v : ex_V} {y : Int32} (h : ex_vr ρ b ws v (.int y)) {lo hi : Nat} (h1 : lo ≤ ex_u y) (h2 : ex_u y ≤ hi) : ∃ e' ∈ ex_1 en v lo hi, ex_er ρ e' := by
  obtain ⟨e', e1, e2⟩ := ex_rf_ok he h h1 h2
  exact ⟨e', by unfold ex_1; rw [e1]; exact List.mem_singleton.mpr rfl, e2⟩
theorem ex_2_ok {en : ex_E} (he : ex_er ρ en) {v w : ex_V} {y z : Int32} (h : ex_vr ρ b ws v (.int y)) (k : ex_vr ρ b ws w (.int z)) {la ha lb hb : Nat} (h1 : la ≤ ex_u y) (h2 : ex_u y ≤ ha) (k1 : lb ≤ ex_u z) (k2 : ex_u z ≤ hb) : ∃ e' ∈ ex_2 en v la ha w lb hb, ex_er ρ e' := by
  obtain ⟨e', e1, e2⟩ := ex_rf_ok he h h1 h2
  obtain ⟨e'', f1, f2⟩ := ex_rf_ok e2 k k1 k2
  exact ⟨e'', by unfold ex_2; rw [e1]; simp only [f1]; exact List.mem_singleton.mpr rfl, f2⟩
theorem ex_same_ok {v w : ex_V} {y z : Int32} (h : ex_vr ρ b ws v (.int y)) (k : ex_vr ρ b ws w (.int z)) (hs : ex_same v w = true) : y = z := by
  rcases v with (n | i | r) | v <;> rcases w with (n' | i' | r') | w <;> first | (cases hs; done) | skip
  have := ex_beq hs
  subst this
  have h1 : Value.int y = .int (ρ i) := h
  have h2 : Value.int z = .int (ρ i) := k
  rw [← h2] at h1
  cases h1
  rfl
theorem ex_lt_ok {en : ex_E} (he : ex_er ρ en) {v w : ex_V} {y z : Int32} (h : ex_vr ρ b ws v (.int y)) (k : ex_vr ρ b ws w (.int z)) {qa qb : Nat × Nat} (ha : ex_b en v = some qa) (hb : ex_b en w = some qb) (hlt : y < z) : ∃ e' ∈ ex_lt en v w qa qb, ex_er ρ e' := by
  have a1 := ex_b_ok he ha h
  have b1 := ex_b_ok he hb k
  have l1 := ex_u_lti.mp hlt
  have l2 := ex_u_lt z
  unfold ex_lt
  cases hs : ex_same v w
  · exact ex_2_ok he h k (Nat.zero_le _) (by omega) (by omega) (by omega)
  · have := ex_same_ok h k hs
    subst this
    omega
theorem ex_ge_ok {en : ex_E} (he : ex_er ρ en) {v w : ex_V} {y z : Int32} (h : ex_vr ρ b ws v (.int y)) (k : ex_vr ρ b ws w (.int z)) {qa qb : Nat × Nat} (ha : ex_b en v = some qa) (hb : ex_b en w = some qb) (hlt : ¬ y < z) : ∃ e' ∈ ex_ge en v w qa qb, ex_er ρ e' := by
  have a1 := ex_b_ok he ha h
  have b1 := ex_b_ok he hb k
  have l1 : ¬ ex_u y < ex_u z := fun q => hlt (ex_u_lti.mpr q)
  have l2 := ex_u_lt y
  exact ex_2_ok he h k (by omega) (by omega) (Nat.zero_le _) (by omega)
theorem ex_eq_ok {en : ex_E} (he : ex_er ρ en) {v w : ex_V} {y z : Int32} (h : ex_vr ρ b ws v (.int y)) (k : ex_vr ρ b ws w (.int z)) {qa qb : Nat × Nat} (ha : ex_b en v = some qa) (hb : ex_b en w = some qb) (heq : y = z) : ∃ e' ∈ ex_eq en v w qa qb, ex_er ρ e' := by
  have a1 := ex_b_ok he ha h
  have b1 := ex_b_ok he hb k
  subst heq
  exact ex_2_ok he h k (by omega) (by omega) (by omega) (by omega)
theorem ex_ne_ok {en : ex_E} (he : ex_er ρ en) {v w : ex_V} {y z : Int32} (h : ex_vr ρ b ws v (.int y)) (k : ex_vr ρ b ws w (.int z)) {qa qb : Nat × Nat} (ha : ex_b en v = some qa) (hb : ex_b en w = some qb) (hne : ¬ y = z) : ∃ e' ∈ ex_ne en v w qa qb, ex_er ρ e' := by
  have a1 := ex_b_ok he ha h
  have b1 := ex_b_ok he hb k
  have l1 : ex_u y ≠ ex_u z := fun q => hne (ex_u_inj q)
  have ly := ex_u_lt y
  have lz := ex_u_lt z
  unfold ex_ne
  cases hs : ex_same v w
  · cases h2 : Nat.beq qb.1 qb.2
    · cases h3 : Nat.beq qa.1 qa.2
      · exact ⟨en, List.mem_singleton.mpr rfl, he⟩
      · have := ex_beq h3
        show ∃ e' ∈ ex_app (ex_1 en w 0 (qa.1 - 1)) (ex_1 en w (qa.1 + 1) 4294967295), _
        rw [ex_app_eq]
        rcases Nat.lt_or_gt_of_ne l1 with q | q
        · obtain ⟨e', i1, i2⟩ := ex_1_ok he k (show qa.1 + 1 ≤ ex_u z by omega) (show ex_u z ≤ 4294967295 by omega)
          exact ⟨e', List.mem_append_right _ i1, i2⟩
        · obtain ⟨e', i1, i2⟩ := ex_1_ok he k (Nat.zero_le _) (show ex_u z ≤ qa.1 - 1 by omega)
          exact ⟨e', List.mem_append_left _ i1, i2⟩
    · have := ex_beq h2
      show ∃ e' ∈ ex_app (ex_1 en v 0 (qb.1 - 1)) (ex_1 en v (qb.1 + 1) 4294967295), _
      rw [ex_app_eq]
      rcases Nat.lt_or_gt_of_ne l1 with q | q
      · obtain ⟨e', i1, i2⟩ := ex_1_ok he h (Nat.zero_le _) (show ex_u y ≤ qb.1 - 1 by omega)
        exact ⟨e', List.mem_append_left _ i1, i2⟩
      · obtain ⟨e', i1, i2⟩ := ex_1_ok he h (show qb.1 + 1 ≤ ex_u y by omega) (show ex_u y ≤ 4294967295 by omega)
        exact ⟨e', List.mem_append_right _ i1, i2⟩
  · exact absurd (ex_same_ok h k hs) hne
/-- what a compare says -/
def ex_cm (c : ClassFile.Cond) (y z : Int32) : Prop := match c with
  | .eq => y = z
  | .ne => ¬ y = z
  | .lt => y < z
  | .ge => ¬ y < z
  | .gt => z < y
  | .le => ¬ z < y
theorem ex_br_ok {cd : ClassFile.Cond} {en : ex_E} (he : ex_er ρ en) {v w : ex_V} {y z : Int32} (h : ex_vr ρ b ws v (.int y)) (k : ex_vr ρ b ws w (.int z)) {tf : List ex_E × List ex_E} (hb : ex_br cd en v w = some tf) : (ex_cm cd y z → ∃ e' ∈ tf.1, ex_er ρ e') ∧ (¬ ex_cm cd y z → ∃ e' ∈ tf.2, ex_er ρ e') := by
  unfold ex_br at hb
  split at hb
  · cases hb
  · rename_i qa ha
    split at hb
    · cases hb
    · rename_i qb hc
      cases cd <;> cases hb
      · exact ⟨ex_eq_ok he h k ha hc, ex_ne_ok he h k ha hc⟩
      · exact ⟨ex_ne_ok he h k ha hc, fun q => ex_eq_ok he h k ha hc (Classical.not_not.mp q)⟩
      · exact ⟨ex_lt_ok he h k ha hc, ex_ge_ok he h k ha hc⟩
      · exact ⟨ex_ge_ok he h k ha hc, fun q => ex_lt_ok he h k ha hc (Classical.not_not.mp q)⟩
      · exact ⟨ex_lt_ok he k h hc ha, ex_ge_ok he k h hc ha⟩
      · exact ⟨ex_ge_ok he k h hc ha, fun q => ex_lt_ok he k h hc ha (Classical.not_not.mp q)⟩
theorem ex_full_ok (y : Int32) : ex_vr ρ b ws ex_full (.int y) := ⟨y, rfl, Nat.zero_le _, by have := ex_u_lt y; show ex_u y ≤ 4294967295; omega⟩
theorem ex_k_ok (y : Int32) {n : Nat} (h : ex_u y = n) : ex_vr ρ b ws (ex_k n) (.int y) := ⟨y, rfl, h⟩
end EXM
end
section
section EXO
variable {ρ : Nat → Int32} {b : Nat} {tys tys' : List (ClassId × FieldType)} {ws ws' : va_W}
def ex_bv (o : Instr) (x y : Int32) : Option Int32 := match o with
  | .iadd => some (x + y)
  | .isub => some (x - y)
  | .imul => some (x * y)
  | .iand => some (x &&& y)
  | .ior => some (x ||| y)
  | .ixor => some (x ^^^ y)
  | .ishl => some (x <<< (y &&& 31))
  | .ishr => some (x >>> (y &&& 31))
  | .idiv => some (x / y)
  | .irem => some (x - x / y * y)
  | _ => none
theorem ex_and_le (y : Int32) (x : Int32) (h : 2147483648 ≤ ex_u y) : 2147483648 ≤ ex_u (x &&& y) ∧ ex_u (x &&& y) ≤ ex_u y := by
  have l := ex_u_lt y
  have e1 : ex_t (ex_u y) = ex_u y - 2147483648 := by unfold ex_t; omega
  have h1 : Nat.land (ex_t (ex_u x)) (ex_t (ex_u y)) ≤ ex_t (ex_u y) := Nat.and_le_right
  rw [ex_u_and]
  rw [e1] at h1 ⊢
  generalize Nat.land (ex_t (ex_u x)) (ex_u y - 2147483648) = z at h1
  unfold ex_t
  omega
theorem ex_op_ok {o : Instr} {en : ex_E} (he : ex_er ρ en) {v w : ex_V} {x y : Int32} (h : ex_vr ρ b ws v (.int x)) (k : ex_vr ρ b ws w (.int y)) {r : ex_V} (hr : ex_op o en v w = some r) (z : Int32) (hz : ex_bv o x y = some z) : ex_vr ρ b ws r (.int z) ∧ ((o = .idiv ∨ o = .irem) → ¬ y = 0) := by
  unfold ex_op at hr
  split at hr
  · rename_i u w' hu hw
    have e1 := ex_cst_ok he hu h
    have e2 := ex_cst_ok he hw k
    split at hr
    · cases hz; cases hr
      exact ⟨ex_k_ok _ (by rw [ex_u_add, e1, e2]), by rintro (q | q) <;> cases q⟩
    · cases hz; cases hr
      exact ⟨ex_k_ok _ (by rw [ex_u_sub, e1, e2]), by rintro (q | q) <;> cases q⟩
    · cases hz; cases hr
      exact ⟨ex_k_ok _ (by rw [ex_u_mul, e1, e2]), by rintro (q | q) <;> cases q⟩
    · cases hz; cases hr
      exact ⟨ex_k_ok _ (by rw [ex_u_and, e1, e2]), by rintro (q | q) <;> cases q⟩
    · cases hz; cases hr
      exact ⟨ex_k_ok _ (by rw [ex_u_or, e1, e2]), by rintro (q | q) <;> cases q⟩
    · cases hz; cases hr
      exact ⟨ex_k_ok _ (by rw [ex_u_xor, e1, e2]), by rintro (q | q) <;> cases q⟩
    · cases hz
      rcases ex_bif (P := fun z => z = some r) hr with ⟨q1, q2⟩ | ⟨q1, q2⟩
      · cases q2
        have hy : y = 0 := ex_u_inj (by rw [e2, ex_u_0]; exact ex_beq q1)
        subst hy
        exact ⟨ex_k_ok _ (by rw [sb_shl0]; exact e1), by rintro (q | q) <;> cases q⟩
      · cases q2
        exact ⟨ex_full_ok _, by rintro (q | q) <;> cases q⟩
    · cases hz
      obtain ⟨q1, q2⟩ := ex_bifs hr
      cases q2
      obtain ⟨q1, q3⟩ := ex_and q1
      have q1 := ex_ble q1
      have q3 := ex_ble q3
      refine ⟨ex_k_ok _ (by rw [ex_u_div (by rw [e1]; exact q1) (by rw [e2]; exact q3), e1, e2]), fun _ q => ?_⟩
      subst q
      rw [ex_u_0] at e2
      omega
    · cases hz
      obtain ⟨q1, q2⟩ := ex_bifs hr
      cases q2
      obtain ⟨q1, q3⟩ := ex_and q1
      have q1 := ex_ble q1
      have q3 := ex_ble q3
      refine ⟨ex_k_ok _ (by rw [ex_u_rem (by rw [e1]; exact q1) (by rw [e2]; exact q3), e1, e2]), fun _ q => ?_⟩
      subst q
      rw [ex_u_0] at e2
      omega
    · cases hz; cases hr
      exact ⟨ex_full_ok _, by rintro (q | q) <;> cases q⟩
    · cases hr
  · rename_i w' hu hw
    have e2 := ex_cst_ok he hw k
    split at hr
    · cases hz
      rcases ex_bif (P := fun z => z = some r) hr with ⟨q1, q2⟩ | ⟨q1, q2⟩
      · cases q2
        obtain ⟨q1, -⟩ := ex_and q1
        have hy : y = 0 := ex_u_inj (by rw [e2, ex_u_0]; exact ex_beq q1)
        subst hy
        exact ⟨by rw [Int32.add_zero]; exact h, by rintro (q | q) <;> cases q⟩
      · cases q2
        exact ⟨ex_full_ok _, by rintro (q | q) <;> cases q⟩
    · cases hz
      rcases ex_bif (P := fun z => z = some r) hr with ⟨q1, q2⟩ | ⟨q1, q2⟩
      · cases q2
        have q1 := ex_ble q1
        have := ex_and_le y x (by rw [e2]; exact q1)
        exact ⟨⟨_, rfl, this.1, by rw [← e2]; exact this.2⟩, by rintro (q | q) <;> cases q⟩
      · cases q2
        exact ⟨ex_full_ok _, by rintro (q | q) <;> cases q⟩
    · cases hr
    · cases hr
    · rename_i n1 n2 n3 n4
      cases hr
      exact ⟨ex_full_ok _, by rintro (q | q) <;> simp_all⟩
  · rename_i u hu hw
    have e1 := ex_cst_ok he hu h
    split at hr
    · cases hz
      rcases ex_bif (P := fun z => z = some r) hr with ⟨q1, q2⟩ | ⟨q1, q2⟩
      · cases q2
        obtain ⟨q1, -⟩ := ex_and q1
        have hy : x = 0 := ex_u_inj (by rw [e1, ex_u_0]; exact ex_beq q1)
        subst hy
        exact ⟨by rw [Int32.zero_add]; exact k, by rintro (q | q) <;> cases q⟩
      · cases q2
        exact ⟨ex_full_ok _, by rintro (q | q) <;> cases q⟩
    · cases hr
    · cases hr
    · cases hr
      exact ⟨ex_full_ok _, by rintro (q | q) <;> simp_all⟩
  · split at hr
    · cases hr
    · cases hr
    · cases hr
      exact ⟨ex_full_ok _, by rintro (q | q) <;> simp_all⟩
theorem ex_lr_lk : ∀ {lv : ex_L} {lw : List (Nat × Value)}, ex_lr ρ b ws lv lw → ∀ {i : Nat} {v : ex_V}, ex_lk lv i = some v → ∃ (k : Nat) (x : Value), lw[k]? = some (i, x) ∧ ex_vr ρ b ws v x
  | [], [], _, _, _, h => by cases h
  | [], _ :: _, h, _, _, _ => h.elim
  | _ :: _, [], h, _, _, _ => h.elim
  | q :: t, x :: xs, h, i, v, hk => by
    rcases ex_bif (P := fun z => z = some v) (show (bif Nat.beq q.1 i then some q.2 else ex_lk t i) = some v from hk) with ⟨h1, h2⟩ | ⟨h1, h2⟩
    · cases h2
      have := ex_beq h1
      subst this
      exact ⟨0, x.2, by rw [h.1.1]; rfl, h.1.2⟩
    · obtain ⟨k, y, e1, e2⟩ := ex_lr_lk h.2 h2
      exact ⟨k + 1, y, by rw [List.getElem?_cons_succ]; exact e1, e2⟩
theorem ex_cat_ok {v : ex_V} {x : Value} (h : ex_vr ρ b ws v x) : x.category = ex_cat v := by
  rcases v with (n | i | q) | (_ | k) | z | _
  · obtain ⟨y, rfl, -⟩ := h; rfl
  · cases h; rfl
  · obtain ⟨y, rfl, -⟩ := h; rfl
  · cases h; rfl
  · obtain ⟨a, e, -, rfl⟩ := h; rfl
  · cases h; rfl
  · cases h; rfl
/-- the kit's own words for a store of one word -/
abbrev ex_flt (i : Nat) (lw : List (Nat × Value)) : List (Nat × Value) := lw.filter (fun q => !(q.1 == i) && !(q.1 + 1 == i && q.2.category == 2))
theorem ex_beq_b (a c : Nat) : (a == c) = Nat.beq a c := by
  cases h : Nat.beq a c
  · have := ex_bne h; simp [this]
  · have := ex_beq h; simp [this]
theorem ex_lr_del : ∀ {lv : ex_L} {lw : List (Nat × Value)}, ex_lr ρ b ws lv lw → ∀ (i : Nat), ex_lr ρ b ws (ex_del lv i) (ex_flt i lw)
  | [], [], _, _ => trivial
  | [], _ :: _, h, _ => h.elim
  | _ :: _, [], h, _ => h.elim
  | q :: t, x :: xs, h, i => by
    have ih := ex_lr_del h.2 i
    show ex_lr ρ b ws (bif (!(Nat.beq q.1 i) && !(Nat.beq (q.1 + 1) i && Nat.beq (ex_cat q.2) 2)) then q :: ex_del t i else ex_del t i) ((x :: xs).filter _)
    have e : (!(x.1 == i) && !(x.1 + 1 == i && x.2.category == 2)) = (!(Nat.beq q.1 i) && !(Nat.beq (q.1 + 1) i && Nat.beq (ex_cat q.2) 2)) := by
      rw [ex_cat_ok h.1.2, ← h.1.1, ex_beq_b, ex_beq_b, ex_beq_b]
    rw [List.filter_cons, e]
    cases (!(Nat.beq q.1 i) && !(Nat.beq (q.1 + 1) i && Nat.beq (ex_cat q.2) 2))
    · exact ih
    · exact ⟨h.1, ih⟩
end EXO
end
section
/-! the words, what is known of a frame, and what the executor says of one -/
def ex_tb : List Cond := lw_tbl.filter goodWord
noncomputable def ex_wd (i : Nat) (w : Cond) : Bool := decide (ex_nth lw_tbl i = some w) && goodWord w
theorem ex_wd_ok {i : Nat} {w : Cond} (h : ex_wd i w = true) : w ∈ ex_tb := by
  obtain ⟨h1, h2⟩ := ex_and h
  have h1 := of_decide_eq_true h1
  rw [ex_nth_get] at h1
  exact List.mem_filter.mpr ⟨List.mem_of_getElem? h1, h2⟩
theorem ex_tb_of {ws : List Cond} (h : GoodIn lw_tbl ws) (hw : ws.all goodWord = true) : ∀ w ∈ ws, w ∈ ex_tb := fun w hw' => List.mem_filter.mpr ⟨(h w hw').1, List.all_eq_true.mp hw w hw'⟩
abbrev ex_nest : List Cond := [Cond.methodLinkNest "HatchLights" 9 yX6_init "HatchLights", Cond.methodLinkNest "HatchLights" 18 yX3_init "HatchLights", Cond.methodLinkNest "HatchLights$Told" 26 yX2_init "HatchLights", Cond.methodLinkNest "HatchLights$Reader" 27 yX7_init "HatchLights", Cond.methodLinkNest "HatchLights$Scene" 48 yX1_init "HatchLights"]
def ex_X (p : Program) (R : Room) (s : State) (m : MethodId) (args : Array Value) (meth : Method) (c : Code) (ρ : Nat → Int32) (b L : Nat) (A : Nat → Prop) (own nm : String) (cc : ByteArray) (mL d : Nat) (cap : Nat × Nat) (isl : Bool) : Prop :=
  p.tables.exec = Jvm.exec ∧ c.code = cc ∧ c.maxLocals = mL ∧ s.vm.findClass own = some m.cls ∧ (∀ w ∈ ex_tb, w.before args s = true) ∧ (∀ q, s.heap.size ≤ q → A q) ∧ (∀ w ∈ ex_nest, va_Nw w s) ∧ va_AO "HatchLights$Scene" s ∧ (isl = true → va_X b L ρ s s.heap ∧ b < s.heap.size ∧ ¬ A b) ∧ meth.name = nm ∧ (cap.1 ≤ R.cells ∧ cap.2 ≤ R.slots) ∧ d + 1 ≤ R.frames ∧ 60 * (d + 1) ≤ R.locals
def ex_Rl (s : State) (D : va_G) (ρ : Nat → Int32) (b : Nat) (A : Nat → Prop) (mL : Nat) (w0 : va_W) (t0 : List (ClassId × FieldType)) (en : ex_E) (lv : ex_L) (st : List ex_V) (h : ex_H) (n : Nat) (ls : Array Slot) (xs : List Value) (ws : va_W) (tys : List (ClassId × FieldType)) (H : Heap) (locs : List Loc) : Prop :=
  (∃ lw, lv_has ls mL lw ∧ ex_lr ρ b ws lv lw) ∧ ex_er ρ en ∧ ex_sr ρ b ws st xs ∧ ex_hr ρ b tys ws h n ∧ va_K D vwCl tys s ∧ va_P D vwCl ws H ∧ va_D A ws ∧ va_S A s.heap H locs ∧ ex_xt w0 ws ∧ ∀ t ∈ t0, t ∈ tys
def ex_G (p : Program) (l : Launch) (e : Env) (R : Room) (s : State) (m : MethodId) (args : Array Value) (below : List Frame) (meth : Method) (c : Code) (Q : State → Prop) (D : va_G) (ρ : Nat → Int32) (b : Nat) (A : Nat → Prop) (mL : Nat) (w0 : va_W) (t0 : List (ClassId × FieldType)) (pr : List ex_P) (en : ex_E) (S : ex_S) : Prop :=
  ∀ (pc : Nat) (ls : Array Slot) (xs : List Value) (ws : va_W) (tys : List (ClassId × FieldType)) (H : Heap) (locs : List Loc), (∃ q r, S.1 = q :: r ∧ q.1 = pc) → (∀ q ∈ S.1, q ∈ pr) → ex_Rl s D ρ b A mL w0 t0 en S.2.1 S.2.2.1 S.2.2.2.1 S.2.2.2.2.1 ls xs ws tys H locs →
    W p l e R s m args below meth c H locs S.2.2.2.2.2.1 S.2.2.2.2.2.2 Q (F0 m pc ls xs)
theorem ex_cli {ci : Nat} {r : vw_C} (h : vwCl[ci]? = some r) : (∀ w ∈ u_ws r.1 r.2.1 r.2.2, w ∈ ex_tb) ∧ (∃ ty0 : Nat → FieldType, ∀ k, k < r.2.2 → parseFieldDescriptor (r.2.1 k).2.2.1 = some (ty0 k)) ∧ (∀ a, a < r.2.2 → ∀ b, b < r.2.2 → a ≠ b → (r.2.1 a).2.1 ≠ (r.2.1 b).2.1) := by
  match ci, h with
  | 0, h => cases h; exact ⟨ex_tb_of ex_fwX0 (by decide +kernel), ⟨_, tyX0_ok⟩, nmX0⟩
  | 1, h => cases h; exact ⟨ex_tb_of ex_fwX1 (by decide +kernel), ⟨_, tyX1_ok⟩, nmX1⟩
  | 2, h => cases h; exact ⟨ex_tb_of ex_fwX2 (by decide +kernel), ⟨_, tyX2_ok⟩, nmX2⟩
  | 3, h => cases h; exact ⟨ex_tb_of ex_fwX3 (by decide +kernel), ⟨_, tyX3_ok⟩, nmX3⟩
  | 4, h => cases h; exact ⟨ex_tb_of ex_fwX4 (by decide +kernel), ⟨_, tyX4_ok⟩, nmX4⟩
  | 5, h => cases h; exact ⟨ex_tb_of ex_fwX5 (by decide +kernel), ⟨_, tyX5_ok⟩, nmX5⟩
  | 6, h => cases h; exact ⟨ex_tb_of ex_fwX6 (by decide +kernel), ⟨_, tyX6_ok⟩, nmX6⟩
  | 7, h => cases h; exact ⟨ex_tb_of ex_fwX7 (by decide +kernel), ⟨_, tyX7_ok⟩, nmX7⟩
  | 8, h => cases h; exact ⟨ex_tb_of ex_fwX8 (by decide +kernel), ⟨_, tyX8_ok⟩, nmX8⟩
  | 9, h => cases h; exact ⟨ex_tb_of ex_fwX9 (by decide +kernel), ⟨_, tyX9_ok⟩, nmX9⟩
  | 10, h => cases h; exact ⟨ex_tb_of ex_fwX10 (by decide +kernel), ⟨_, tyX10_ok⟩, nmX10⟩
  | k + 11, h => simp [vwCl] at h
section EXS
variable {p : Program} {l : Launch} {e : Env} {R : Room} {s : State} {m : MethodId} {args : Array Value} {below : List Frame} {meth : Method} {c : Code} {Q : State → Prop} {D : va_G} {ρ : Nat → Int32} {b L : Nat} {A : Nat → Prop} {mL d : Nat} {w0 : va_W} {t0 : List (ClassId × FieldType)} {pr : List ex_P} {own nm : String} {cd : ByteArray} {cap : Nat × Nat} {isl : Bool}
variable {en : ex_E} {lv : ex_L} {st : List ex_V} {h : ex_H} {n k1 k2 : Nat} {ls : Array Slot} {xs : List Value} {ws : va_W} {tys : List (ClassId × FieldType)} {H : Heap} {locs : List Loc} {q : ex_P} {r : List ex_P} {o : List (ex_E × ex_S)}
theorem ex_ft_ok (hf : ex_ft q r en lv st h n k1 k2 = some o) (hG : ∀ x ∈ o, ex_G p l e R s m args below meth c Q D ρ b A mL w0 t0 pr x.1 x.2) (hs : ∀ x ∈ q :: r, x ∈ pr) (hR : ex_Rl s D ρ b A mL w0 t0 en lv st h n ls xs ws tys H locs) : W p l e R s m args below meth c H locs k1 k2 Q (F0 m (q.1 + q.2.2.1) ls xs) := by
  unfold ex_ft at hf
  split at hf
  · cases hf
  · rename_i q' r'
    obtain ⟨h1, h2⟩ := ex_bifs hf
    cases h2
    have h1 := ex_beq h1
    exact hG _ (List.mem_singleton.mpr rfl) _ ls xs ws tys H locs ⟨q', r', rfl, h1⟩ (fun x hx => hs x (List.mem_cons_of_mem _ hx)) hR
theorem ex_jp_sub : ∀ {pr : List ex_P} {t : Nat}, (∀ x ∈ ex_jp pr t, x ∈ pr) ∧ (ex_jp pr t = [] ∨ ∃ q r, ex_jp pr t = q :: r ∧ q.1 = t)
  | [], t => ⟨fun x hx => hx, Or.inl rfl⟩
  | q :: r, t => by
    have ih := @ex_jp_sub r t
    show (∀ x ∈ (bif Nat.beq q.1 t then q :: r else ex_jp r t), x ∈ q :: r) ∧ ((bif Nat.beq q.1 t then q :: r else ex_jp r t) = [] ∨ ∃ q' r', (bif Nat.beq q.1 t then q :: r else ex_jp r t) = q' :: r' ∧ q'.1 = t)
    cases hb : Nat.beq q.1 t
    · exact ⟨fun x hx => List.mem_cons_of_mem _ (ih.1 x hx), ih.2⟩
    · exact ⟨fun x hx => hx, Or.inr ⟨q, r, rfl, ex_beq hb⟩⟩
/-- what follows is well, and has a place to be -/
def ex_N (p : Program) (l : Launch) (e : Env) (R : Room) (s : State) (m : MethodId) (args : Array Value) (below : List Frame) (meth : Method) (c : Code) (Q : State → Prop) (D : va_G) (ρ : Nat → Int32) (b : Nat) (A : Nat → Prop) (mL : Nat) (w0 : va_W) (t0 : List (ClassId × FieldType)) (pr : List ex_P) (o : List (ex_E × ex_S)) : Prop := ∀ x ∈ o, x.2.1 ≠ [] ∧ ex_G p l e R s m args below meth c Q D ρ b A mL w0 t0 pr x.1 x.2
theorem ex_jp_ok {t : Nat} (hG : ex_jp pr t ≠ [] ∧ ex_G p l e R s m args below meth c Q D ρ b A mL w0 t0 pr en (ex_jp pr t, lv, st, h, n, k1, k2)) (hR : ex_Rl s D ρ b A mL w0 t0 en lv st h n ls xs ws tys H locs) : W p l e R s m args below meth c H locs k1 k2 Q (F0 m t ls xs) :=
  hG.2 t ls xs ws tys H locs (ex_jp_sub.2.resolve_left hG.1) ex_jp_sub.1 hR
theorem ex_Rl.sr (hR : ex_Rl s D ρ b A mL w0 t0 en lv st h n ls xs ws tys H locs) : ex_sr ρ b ws st xs := hR.2.2.1
theorem ex_Rl.er (hR : ex_Rl s D ρ b A mL w0 t0 en lv st h n ls xs ws tys H locs) : ex_er ρ en := hR.2.1
theorem ex_Rl.stk (hR : ex_Rl s D ρ b A mL w0 t0 en lv st h n ls xs ws tys H locs) {st' : List ex_V} {xs' : List Value} (h' : ex_sr ρ b ws st' xs') : ex_Rl s D ρ b A mL w0 t0 en lv st' h n ls xs' ws tys H locs := ⟨hR.1, hR.2.1, h', hR.2.2.2⟩
theorem ex_Rl.env (hR : ex_Rl s D ρ b A mL w0 t0 en lv st h n ls xs ws tys H locs) {en' : ex_E} (h' : ex_er ρ en') : ex_Rl s D ρ b A mL w0 t0 en' lv st h n ls xs ws tys H locs := ⟨hR.1, h', hR.2.2⟩
theorem ex_Rl.loc (hR : ex_Rl s D ρ b A mL w0 t0 en lv st h n ls xs ws tys H locs) {lv' : ex_L} {ls' : Array Slot} (h' : ∃ lw, lv_has ls' mL lw ∧ ex_lr ρ b ws lv' lw) : ex_Rl s D ρ b A mL w0 t0 en lv' st h n ls' xs ws tys H locs := ⟨h', hR.2⟩
theorem ex_Rl.push (hR : ex_Rl s D ρ b A mL w0 t0 en lv st h n ls xs ws tys H locs) {v : ex_V} {x : Value} (h' : ex_vr ρ b ws v x) : ex_Rl s D ρ b A mL w0 t0 en lv (v :: st) h n ls (x :: xs) ws tys H locs := hR.stk ⟨h', hR.sr⟩
end EXS
end
section
theorem ex_nlt {x y : Int32} : ¬ x < y ↔ y ≤ x := by
  rw [ex_u_lti, ex_u_lei]; omega
noncomputable def ex_i (n : Nat) : Int32 := Int32.ofInt ((n : Int) - 2147483648)
section EXF
variable {p : Program} {l : Launch} {e : Env} {R : Room} {s : State} {m : MethodId} {args : Array Value} {below : List Frame} {meth : Method} {c : Code} {Q : State → Prop} {D : va_G} {ρ : Nat → Int32} {b L : Nat} {A : Nat → Prop} {mL d : Nat} {w0 : va_W} {t0 : List (ClassId × FieldType)} {pr : List ex_P} {own nm : String} {cd : ByteArray} {cap : Nat × Nat} {isl : Bool}
variable {en : ex_E} {lv : ex_L} {st : List ex_V} {h : ex_H} {n k1 k2 : Nat} {ls : Array Slot} {xs : List Value} {ws : va_W} {tys : List (ClassId × FieldType)} {H : Heap} {locs : List Loc} {q : ex_P} {r : List ex_P} {o : List (ex_E × ex_S)}
theorem ex_N.g (hN : ex_N p l e R s m args below meth c Q D ρ b A mL w0 t0 pr o) : ∀ x ∈ o, ex_G p l e R s m args below meth c Q D ρ b A mL w0 t0 pr x.1 x.2 := fun x hx => (hN x hx).2
/-- a load: the value is there -/
theorem ex_ld_ok {ok : ex_V → Bool} (hs : ex_ld q r en lv st h n k1 k2 ok = some o) (hN : ex_N p l e R s m args below meth c Q D ρ b A mL w0 t0 pr o) (hsub : ∀ x ∈ q :: r, x ∈ pr) (hR : ex_Rl s D ρ b A mL w0 t0 en lv st h n ls xs ws tys H locs)
    (row : ∀ (v : ex_V) (x : Value), ok v = true → ex_vr ρ b ws v x → ls[q.2.2.2.1]? = some (.val x) → W p l e R s m args below meth c H locs k1 k2 Q (F0 m (q.1 + q.2.2.1) ls (x :: xs)) → W p l e R s m args below meth c H locs k1 k2 Q (F0 m q.1 ls xs)) : W p l e R s m args below meth c H locs k1 k2 Q (F0 m q.1 ls xs) := by
  unfold ex_ld at hs
  split at hs
  · rename_i v hv
    obtain ⟨h1, h2⟩ := ex_bifs hs
    obtain ⟨lw, hl, hr⟩ := hR.1
    obtain ⟨k, x, e1, e2⟩ := ex_lr_lk hr hv
    exact row v x h1 e2 (lv_at hl k e1) (ex_ft_ok h2 hN.g hsub (hR.push e2))
  · cases hs
theorem ex_st_ok {ok : ex_V → Bool} (hs : ex_st mL q r en lv st h n k1 k2 ok = some o) (hN : ex_N p l e R s m args below meth c Q D ρ b A mL w0 t0 pr o) (hsub : ∀ x ∈ q :: r, x ∈ pr) (hR : ex_Rl s D ρ b A mL w0 t0 en lv st h n ls xs ws tys H locs)
    (row : ∀ (v : ex_V) (x : Value) (xr : List Value) (lw : List (Nat × Value)), ok v = true → ex_vr ρ b ws v x → lv_has ls mL lw → q.2.2.2.1 < mL → (∀ ls' : Array Slot, lv_has ls' mL ((q.2.2.2.1, x) :: ex_flt q.2.2.2.1 lw) → W p l e R s m args below meth c H locs k1 k2 Q (F0 m (q.1 + q.2.2.1) ls' xr)) → W p l e R s m args below meth c H locs k1 k2 Q (F0 m q.1 ls (x :: xr))) : W p l e R s m args below meth c H locs k1 k2 Q (F0 m q.1 ls xs) := by
  unfold ex_st at hs
  split at hs
  · rename_i v rest
    obtain ⟨h1, h2⟩ := ex_bifs hs
    obtain ⟨h3, h4⟩ := ex_and h1
    obtain ⟨x, xr, rfl, hv, hr⟩ := ex_sr_cons hR.sr
    obtain ⟨lw, hl, hlr⟩ := hR.1
    exact row v x xr lw h3 hv hl (ex_blt h4) (fun ls' hl' => ex_ft_ok h2 hN.g hsub ((hR.loc (lv' := (q.2.2.2.1, v) :: ex_del lv q.2.2.2.1) ⟨_, hl', (show ex_lr ρ b ws ((q.2.2.2.1, v) :: ex_del lv q.2.2.2.1) ((q.2.2.2.1, x) :: ex_flt q.2.2.2.1 lw) from ⟨⟨rfl, hv⟩, ex_lr_del hlr _⟩)⟩).stk hr))
  · cases hs
theorem ex_spl_ok {i : Nat} (hs : ex_spl en i (q :: r, lv, st, h, n, k1, k2) = some o) (hN : ex_N p l e R s m args below meth c Q D ρ b A mL w0 t0 pr o) (hsub : ∀ x ∈ q :: r, x ∈ pr) (hR : ex_Rl s D ρ b A mL w0 t0 en lv st h n ls xs ws tys H locs) : W p l e R s m args below meth c H locs k1 k2 Q (F0 m q.1 ls xs) := by
  unfold ex_spl at hs
  split at hs
  · rename_i z hz
    cases hs
    have hb := hR.er i z hz
    refine (hN (ex_set en i (ex_u (ρ i), ex_u (ρ i)), (q :: r, lv, st, h, n, k1, k2)) ?_).2 q.1 ls xs ws tys H locs ⟨q, r, rfl, rfl⟩ hsub (hR.env ?_)
    · rw [ex_map_eq]
      exact List.mem_map.mpr ⟨ex_u (ρ i), (ex_range_mem _ _ _).mpr ⟨hb.1, by omega⟩, rfl⟩
    · intro j y hj
      rw [ex_nth_get, ex_set_eq, List.getElem?_set] at hj
      split at hj
      · rename_i hij
        subst hij
        split at hj
        · injection hj with hj
          subst hj
          exact ⟨Nat.le_refl _, Nat.le_refl _⟩
        · cases hj
      · exact hR.er j y (by rw [ex_nth_get]; exact hj)
  · cases hs
theorem ex_bin_ok (hs : ex_bin q r en lv st h n k1 k2 = some o) (hN : ex_N p l e R s m args below meth c Q D ρ b A mL w0 t0 pr o) (hsub : ∀ x ∈ q :: r, x ∈ pr) (hR : ex_Rl s D ρ b A mL w0 t0 en lv st h n ls xs ws tys H locs)
    (row : ∀ (x y : Int32) (rest : List Value), ∃ z, ex_bv q.2.1 x y = some z ∧ (((q.2.1 = .idiv ∨ q.2.1 = .irem) → ¬ y = 0) → W p l e R s m args below meth c H locs k1 k2 Q (F0 m (q.1 + q.2.2.1) ls (.int z :: rest)) → W p l e R s m args below meth c H locs k1 k2 Q (F0 m q.1 ls (.int y :: .int x :: rest)))) : W p l e R s m args below meth c H locs k1 k2 Q (F0 m q.1 ls xs) := by
  unfold ex_bin at hs
  split at hs
  · rename_i vb va rest
    obtain ⟨h1, h2⟩ := ex_bifs hs
    obtain ⟨ha, hb⟩ := ex_and h1
    split at h2
    · exact ex_spl_ok h2 hN hsub hR
    · split at h2
      · exact ex_spl_ok h2 hN hsub hR
      · split at h2
        · rename_i v hv
          obtain ⟨xb, x1, rfl, vb1, hr1⟩ := ex_sr_cons hR.sr
          obtain ⟨xa, x2, rfl, va1, hr2⟩ := ex_sr_cons hr1
          obtain ⟨y, rfl⟩ := ex_vr_int vb1 hb
          obtain ⟨x, rfl⟩ := ex_vr_int va1 ha
          obtain ⟨z, hz, hrow⟩ := row x y x2
          obtain ⟨g1, g2⟩ := ex_op_ok hR.er va1 vb1 hv z hz
          exact hrow g2 (ex_ft_ok h2 hN.g hsub (hR.stk ⟨g1, hr2⟩))
        · cases h2
  · cases hs
theorem ex_ifs_ok {cd' : ClassFile.Cond} {va vb : ex_V} {rest : List ex_V} {x y : Int32} {xr : List Value} (hs : ex_ifs pr q r cd' en lv va vb rest h n k1 k2 = some o) (hN : ex_N p l e R s m args below meth c Q D ρ b A mL w0 t0 pr o) (hsub : ∀ x ∈ q :: r, x ∈ pr) (hR : ex_Rl s D ρ b A mL w0 t0 en lv rest h n ls xr ws tys H locs) (ha : ex_vr ρ b ws va (.int x)) (hb : ex_vr ρ b ws vb (.int y)) :
    (ex_cm cd' x y → W p l e R s m args below meth c H locs k1 k2 Q (F0 m q.2.2.2.1 ls xr)) ∧ (¬ ex_cm cd' x y → W p l e R s m args below meth c H locs k1 k2 Q (F0 m (q.1 + q.2.2.1) ls xr)) := by
  unfold ex_ifs at hs
  split at hs
  · cases hs
  · rename_i tf htf
    obtain ⟨g1, g2⟩ := ex_br_ok hR.er ha hb htf
    split at hs
    · rename_i hnil
      cases hs
      refine ⟨fun hc => ?_, fun hc => ?_⟩
      · obtain ⟨e', i1, i2⟩ := g1 hc
        exact ex_jp_ok (hN (e', _) (by rw [ex_map_eq]; exact List.mem_map.mpr ⟨e', i1, rfl⟩)) (hR.env i2)
      · obtain ⟨e', i1, i2⟩ := g2 hc
        rw [hnil] at i1
        cases i1
    · rename_i f0 fs hcons
      split at hs
      · cases hs
      · rename_i q' r'
        obtain ⟨h1, h2⟩ := ex_bifs hs
        cases h2
        refine ⟨fun hc => ?_, fun hc => ?_⟩
        · obtain ⟨e', i1, i2⟩ := g1 hc
          exact ex_jp_ok (hN (e', _) (by rw [ex_app_eq, ex_map_eq]; exact List.mem_append_left _ (List.mem_map.mpr ⟨e', i1, rfl⟩))) (hR.env i2)
        · obtain ⟨e', i1, i2⟩ := g2 hc
          rw [hcons] at i1
          exact (hN (e', _) (by rw [ex_app_eq, ex_map_eq, ex_map_eq]; exact List.mem_append_right _ (List.mem_map.mpr ⟨e', i1, rfl⟩))).2 _ ls xr ws tys H locs ⟨q', r', rfl, ex_beq h1⟩ (fun x hx => hsub x (List.mem_cons_of_mem _ hx)) (hR.env i2)
theorem ex_sw_ok {v : ex_V} {rest : List ex_V} {x : Int32} {xr : List Value} (hv : ex_vr ρ b ws v (.int x)) (hR : ex_Rl s D ρ b A mL w0 t0 en lv rest h n ls xr ws tys H locs) : ∀ (ts : List Nat) (lo : Nat), ex_N p l e R s m args below meth c Q D ρ b A mL w0 t0 pr (ex_sw pr q en lv v rest h n k1 k2 ts lo) →
    (∀ j t, ts[j]? = some t → ex_u x = lo + j → W p l e R s m args below meth c H locs k1 k2 Q (F0 m t ls xr)) ∧ (lo + ts.length ≤ ex_u x → W p l e R s m args below meth c H locs k1 k2 Q (F0 m q.2.2.2.1 ls xr))
  | [], lo, hN => by
    refine ⟨(fun j t hh => by cases hh), (fun hx => ?_)⟩
    have l := ex_u_lt x
    obtain ⟨e', i1, i2⟩ := ex_1_ok hR.er hv (show lo ≤ ex_u x by simpa using hx) (show ex_u x ≤ 4294967295 by omega)
    exact ex_jp_ok (hN (e', _) (by show _ ∈ ex_map _ _; rw [ex_map_eq]; exact List.mem_map.mpr ⟨e', i1, rfl⟩)) (hR.env i2)
  | t :: ts, lo, hN => by
    have hN1 : ex_N p l e R s m args below meth c Q D ρ b A mL w0 t0 pr (ex_app (ex_map (fun e => (e, (ex_jp pr t, lv, rest, h, n, k1, k2))) (ex_1 en v lo lo)) (ex_sw pr q en lv v rest h n k1 k2 ts (lo + 1))) := hN
    rw [ex_app_eq, ex_map_eq] at hN1
    have ih := ex_sw_ok hv hR ts (lo + 1) (fun x hx => hN1 x (List.mem_append_right _ hx))
    refine ⟨fun j t' hj hx => ?_, fun hx => ih.2 (by rw [List.length_cons] at hx; omega)⟩
    cases j with
    | zero =>
      cases hj
      obtain ⟨e', i1, i2⟩ := ex_1_ok hR.er hv (show lo ≤ ex_u x by omega) (show ex_u x ≤ lo by omega)
      exact ex_jp_ok (hN1 (e', _) (List.mem_append_left _ (List.mem_map.mpr ⟨e', i1, rfl⟩))) (hR.env i2)
    | succ j => exact ih.1 j t' (by rw [List.getElem?_cons_succ] at hj; exact hj) (by omega)
end EXF
end
section
section EXH
variable {p : Program} {l : Launch} {e : Env} {R : Room} {s : State} {m : MethodId} {args : Array Value} {below : List Frame} {meth : Method} {c : Code} {Q : State → Prop} {D : va_G} {ρ : Nat → Int32} {b L : Nat} {A : Nat → Prop} {mL d : Nat} {w0 : va_W} {t0 : List (ClassId × FieldType)} {pr : List ex_P} {own nm : String} {cd : ByteArray} {cap : Nat × Nat} {isl : Bool}
variable {en : ex_E} {lv : ex_L} {st : List ex_V} {h : ex_H} {n k1 k2 : Nat} {ls : Array Slot} {xs : List Value} {ws : va_W} {tys : List (ClassId × FieldType)} {H : Heap} {locs : List Loc} {q : ex_P} {r : List ex_P} {o : List (ex_E × ex_S)}
theorem ex_Rl.hr (hR : ex_Rl s D ρ b A mL w0 t0 en lv st h n ls xs ws tys H locs) : ex_hr ρ b tys ws h n := hR.2.2.2.1
theorem ex_Rl.hK (hR : ex_Rl s D ρ b A mL w0 t0 en lv st h n ls xs ws tys H locs) : va_K D vwCl tys s := hR.2.2.2.2.1
theorem ex_Rl.hP (hR : ex_Rl s D ρ b A mL w0 t0 en lv st h n ls xs ws tys H locs) : va_P D vwCl ws H := hR.2.2.2.2.2.1
theorem ex_Rl.hD (hR : ex_Rl s D ρ b A mL w0 t0 en lv st h n ls xs ws tys H locs) : va_D A ws := hR.2.2.2.2.2.2.1
theorem ex_Rl.hS (hR : ex_Rl s D ρ b A mL w0 t0 en lv st h n ls xs ws tys H locs) : va_S A s.heap H locs := hR.2.2.2.2.2.2.2.1
/-- the world goes on: cells stay, what is said of them is new -/
theorem ex_Rl.world (hR : ex_Rl s D ρ b A mL w0 t0 en lv st h n ls xs ws tys H locs) {ws' : va_W} {tys' : List (ClassId × FieldType)} {H' : Heap} {locs' : List Loc} {h' : ex_H} {n' : Nat} (hx : ex_xt ws ws') (ht : ∀ t ∈ tys, t ∈ tys') (hh : ex_hr ρ b tys' ws' h' n') (hK : va_K D vwCl tys' s) (hP : va_P D vwCl ws' H') (hD : va_D A ws') (hS : va_S A s.heap H' locs') : ex_Rl s D ρ b A mL w0 t0 en lv st h' n' ls xs ws' tys' H' locs' := by
  obtain ⟨⟨lw, a1, a2⟩, a3, a4, a5, a6, a7, a8, a9, a10, a11⟩ := hR
  exact ⟨⟨lw, a1, a2.mono hx⟩, a3, a4.mono hx, hh, hK, hP, hD, hS, a10.tr hx, fun t h => ht t (a11 t h)⟩
/-- a cell's new words -/
theorem ex_hr.put (hh : ex_hr ρ b tys ws h n) {k a : Nat} {ev ev' : va_E} (hk : ws[k]? = some (a, ev)) {cv : ex_C} (hc : ex_cr ρ b tys (ws.set k (a, ev')) cv ev') : ex_hr ρ b tys (ws.set k (a, ev')) (ex_put h k cv) n := by
  refine ⟨by rw [List.length_set]; exact hh.1, fun j cj hj => ?_⟩
  rcases ex_put_get hj with ⟨rfl, rfl⟩ | ⟨hne, hj⟩
  · exact ⟨a, ev', by rw [List.getElem?_set_self (List.getElem?_eq_some_iff.mp hk).1], hc⟩
  · obtain ⟨a', e', h1, h2⟩ := hh.2 j cj hj
    exact ⟨a', e', by rw [List.getElem?_set_ne (Ne.symm hne)]; exact h1, h2.mono (ex_xt.set hk) (fun _ h => h)⟩
theorem ex_hr.push (hh : ex_hr ρ b tys ws h n) {h' : ex_H} {cv : ex_C} (hp : ex_push h n cv = some h') {a : Nat} {ev : va_E} {tys' : List (ClassId × FieldType)} (ht : ∀ t ∈ tys, t ∈ tys') (hc : ex_cr ρ b tys' (ws ++ [(a, ev)]) cv ev) : ex_hr ρ b tys' (ws ++ [(a, ev)]) h' (n + 1) := by
  refine ⟨by rw [List.length_append, hh.1]; rfl, fun j cj hj => ?_⟩
  rcases ex_push_get hp hj with ⟨rfl, rfl⟩ | hj
  · exact ⟨a, ev, by rw [← hh.1, List.getElem?_append_right (Nat.le_refl _), Nat.sub_self]; rfl, hc⟩
  · obtain ⟨a', e', h1, h2⟩ := hh.2 j cj hj
    exact ⟨a', e', by rw [List.getElem?_append_left (List.getElem?_eq_some_iff.mp h1).1]; exact h1, h2.mono ex_xt.app ht⟩
/-- an object is where its number says -/
theorem ex_hr.obj (hh : ex_hr ρ b tys ws h n) {k : Nat} {oc : Nat × List ex_V} (hk : ex_get h k = some (.inl oc)) : ∃ (a : Nat) (vs : List Value), ws[k]? = some (a, .inr (oc.1, vs)) ∧ oc.2.length = vs.length ∧ ∀ (j : Nat) (v : ex_V), ex_nth oc.2 j = some v → ∃ x, vs[j]? = some x ∧ ex_vr ρ b ws v x := by
  obtain ⟨a, ev, h1, h2⟩ := hh.2 k _ hk
  rcases ev with w | w
  · exact h2.elim
  · obtain ⟨c1, c2, c3⟩ := h2
    obtain ⟨ci, vs⟩ := w
    dsimp only at c1 c2 c3
    subst c1
    exact ⟨a, vs, h1, c2, c3⟩
theorem ex_hr.arr (hh : ex_hr ρ b tys ws h n) {k t N : Nat} {ov : List (Nat × ex_V)} (hk : ex_get h k = some (.inr (t, N, ov))) : ∃ (a : Nat) (cA : ClassId) (ar : vp_A), ws[k]? = some (a, .inl (cA, ar)) ∧ (cA, ex_ty t) ∈ tys ∧ t ≤ 4 ∧ ar.1 = N ∧ ex_ak t ar ∧ ∀ j, j < N → ex_vr ρ b ws (ex_ov t ov j) (ex_ag ar j) := by
  obtain ⟨a, ev, h1, h2⟩ := hh.2 k _ hk
  rcases ev with w | w
  · exact ⟨a, w.1, w.2, h1, h2⟩
  · exact h2.elim
theorem ex_at {k : Nat} {a a' : Nat} {ev ev' : va_E} (h1 : ws[k]? = some (a, ev)) (h2 : ws[k]? = some (a', ev')) : a = a' := by
  rw [h1] at h2
  cases h2
  rfl
theorem ex_gf_ok {ix : Nat} {rc : vw_C} (hc : vwCl[q.2.2.2.1]? = some rc) (hk : q.2.2.2.2.1 < rc.2.2) (hl : Cond.fieldLink own ix (rc.2.1 q.2.2.2.2.1).1 (rc.2.1 q.2.2.2.2.1).2.1 (rc.2.1 q.2.2.2.2.1).2.2.1 ∈ ex_tb) (X : ex_X p R s m args meth c ρ b L A own nm cd mL d cap isl) (hlen : q.2.2.1 = 3) (hdg : decode cd q.1 = .ok (.getfield ix, 3))
    (hs : ex_gf q r en lv st h n k1 k2 = some o) (hN : ex_N p l e R s m args below meth c Q D ρ b A mL w0 t0 pr o) (hsub : ∀ x ∈ q :: r, x ∈ pr) (hR : ex_Rl s D ρ b A mL w0 t0 en lv st h n ls xs ws tys H locs) : W p l e R s m args below meth c H locs k1 k2 Q (F0 m q.1 ls xs) := by
  unfold ex_gf at hs
  split at hs
  · rename_i ob rest
    split at hs
    · rename_i ci fs hget
      split at hs
      · rename_i v hv
        obtain ⟨h1, h2⟩ := ex_bifs hs
        have h1 := ex_beq h1
        subst h1
        obtain ⟨x, xr, rfl, hvr, hr⟩ := ex_sr_cons hR.sr
        obtain ⟨a, ev, e1, rfl⟩ := hvr
        obtain ⟨a', vs, f1, f2, f3⟩ := hR.hr.obj hget
        have ea := ex_at e1 f1
        subst ea
        obtain ⟨y, g1, g2⟩ := f3 _ _ hv
        obtain ⟨x1, x2, x3, x4, x5, x6⟩ := X
        have W1 := ex_ft_ok h2 hN.g hsub (hR.stk (st' := v :: rest) (xs' := y :: xr) ⟨g2, hr⟩)
        rw [hlen] at W1
        exact va_get (C := rc.1) (T := rc.2.1) (N := rc.2.2) x1 x2 x5 (ex_cli hc).1 x4 hR.hK hR.hP ob f1 hc _ hk (x5 _ hl) (fun _ h9 => h9) g1 hdg W1
      · cases hs
    · cases hs
  · cases hs
/-- a field's new value is kept as it is -/
theorem ex_okf_ok {ty : Nat} {v : ex_V} {x : Value} {ft : FieldType} (he : ex_er ρ en) (hk : ex_okf en ty v = true) (hv : ex_vr ρ b ws v x) (hty : (ty = 0 ∧ ft = .int) ∨ (ty = 1 ∧ ((∃ C, ft = .object C) ∨ ∃ t, ft = .array t)) ∨ (ty = 2 ∧ ft = .boolean)) : narrow ft x = x ∧ fits ft x = true := by
  unfold ex_okf at hk
  rcases hty with ⟨rfl, rfl⟩ | ⟨rfl, hf⟩ | ⟨rfl, rfl⟩
  · obtain ⟨y, rfl⟩ := ex_vr_int hv hk
    exact ⟨rfl, rfl⟩
  · have hx : x = .null ∨ ∃ a, x = .ref a := by
      rcases v with v | (_ | k) | v
      · cases hk
      · exact Or.inl hv
      · obtain ⟨a, ev, -, rfl⟩ := hv
        exact Or.inr ⟨a, rfl⟩
      · cases hk
    rcases hf with ⟨C, rfl⟩ | ⟨t, rfl⟩ <;> rcases hx with rfl | ⟨a, rfl⟩ <;> exact ⟨rfl, rfl⟩
  · have hk : (match ex_cst en v with
      | some u => Nat.beq u 2147483648 || Nat.beq u 2147483649
      | none => false) = true := hk
    split at hk
    · rename_i u hu
      obtain ⟨y, rfl⟩ := ex_vr_int hv (ex_cst_isI hu)
      have e1 := ex_cst_ok he hu hv
      have hy : y = 0 ∨ y = 1 := by
        rcases Bool.or_eq_true _ _ |>.mp hk with h1 | h1
        · exact Or.inl (ex_u_inj (by rw [e1, ex_beq h1, ex_u_0]))
        · exact Or.inr (ex_u_inj (by rw [e1, ex_beq h1]; decide))
      rcases hy with rfl | rfl <;> exact ⟨rfl, by decide⟩
    · cases hk
/-- what a field's type is, by the executor's number -/
def ex_tk (ty : Nat) (d : String) : Bool := match parseFieldDescriptor d with
  | some .int => Nat.beq ty 0
  | some (.object _) => Nat.beq ty 1
  | some (.array _) => Nat.beq ty 1
  | some .boolean => Nat.beq ty 2
  | _ => false
theorem ex_tk_ok {ty : Nat} {dd : String} (hk : ex_tk ty dd = true) : ∃ ft, parseFieldDescriptor dd = some ft ∧ ((ty = 0 ∧ ft = .int) ∨ (ty = 1 ∧ ((∃ C, ft = .object C) ∨ ∃ t, ft = .array t)) ∨ (ty = 2 ∧ ft = .boolean)) := by
  unfold ex_tk at hk
  split at hk
  · rename_i hp
    exact ⟨_, hp, Or.inl ⟨ex_beq hk, rfl⟩⟩
  · rename_i C hp
    exact ⟨_, hp, Or.inr (Or.inl ⟨ex_beq hk, Or.inl ⟨C, rfl⟩⟩)⟩
  · rename_i C hp
    exact ⟨_, hp, Or.inr (Or.inl ⟨ex_beq hk, Or.inr ⟨C, rfl⟩⟩)⟩
  · rename_i hp
    exact ⟨_, hp, Or.inr (Or.inr ⟨ex_beq hk, rfl⟩)⟩
  · cases hk
theorem ex_pf_ok {ix : Nat} {rc : vw_C} (hc : vwCl[q.2.2.2.1]? = some rc) (hk : q.2.2.2.2.1 < rc.2.2) (hl : Cond.fieldLink own ix (rc.2.1 q.2.2.2.2.1).1 (rc.2.1 q.2.2.2.2.1).2.1 (rc.2.1 q.2.2.2.2.1).2.2.1 ∈ ex_tb) (hfin : (rc.2.1 q.2.2.2.2.1).2.2.2 = false ∨ (nm = "<init>" ∧ (rc.2.1 q.2.2.2.2.1).1 = own)) (htk : ex_tk q.2.2.2.2.2.1 (rc.2.1 q.2.2.2.2.1).2.2.1 = true) (X : ex_X p R s m args meth c ρ b L A own nm cd mL d cap isl) (hlen : q.2.2.1 = 3) (hdg : decode cd q.1 = .ok (.putfield ix, 3))
    (hs : ex_pf q r en lv st h n k1 k2 = some o) (hN : ex_N p l e R s m args below meth c Q D ρ b A mL w0 t0 pr o) (hsub : ∀ x ∈ q :: r, x ∈ pr) (hR : ex_Rl s D ρ b A mL w0 t0 en lv st h n ls xs ws tys H locs) : W p l e R s m args below meth c H locs k1 k2 Q (F0 m q.1 ls xs) := by
  unfold ex_pf at hs
  split at hs
  · rename_i v ob rest
    split at hs
    · rename_i ci fs hget
      split at hs
      · rename_i v0 hv0
        obtain ⟨h1, h2⟩ := ex_bifs hs
        obtain ⟨h1, h3⟩ := ex_and h1
        have h1 := ex_beq h1
        subst h1
        obtain ⟨x, xr, rfl, hvr, hr⟩ := ex_sr_cons hR.sr
        obtain ⟨x', xr', rfl, hvr', hr'⟩ := ex_sr_cons hr
        obtain ⟨a, ev, e1, rfl⟩ := hvr'
        obtain ⟨a', vs, f1, f2, f3⟩ := hR.hr.obj hget
        have ea := ex_at e1 f1
        subst ea
        obtain ⟨y, g1, g2⟩ := f3 _ _ hv0
        obtain ⟨ft, t1, t2⟩ := ex_tk_ok htk
        obtain ⟨n1, n2⟩ := ex_okf_ok hR.er h3 hvr t2
        have hlt : q.2.2.2.2.1 < vs.length := (List.getElem?_eq_some_iff.mp g1).1
        obtain ⟨cw, ⟨ty0, hty0⟩, hnm⟩ := ex_cli hc
        obtain ⟨x1, x2, x3, x4, x5, x6, x7, x8, x9, x10, x11⟩ := X
        have hx := ex_xt.set (e' := .inr (q.2.2.2.1, vs.set q.2.2.2.2.1 x)) f1
        have hcr : ex_cr ρ b tys (ws.set ob (a, .inr (q.2.2.2.1, vs.set q.2.2.2.2.1 x))) (.inl (q.2.2.2.1, ex_set fs q.2.2.2.2.1 v)) (.inr (q.2.2.2.1, vs.set q.2.2.2.2.1 x)) := by
          refine ⟨rfl, by show (ex_set fs q.2.2.2.2.1 v).length = (vs.set q.2.2.2.2.1 x).length; rw [ex_set_eq, List.length_set, List.length_set]; exact f2, fun j w hj0 => ?_⟩
          have hj : ex_nth (ex_set fs q.2.2.2.2.1 v) j = some w := hj0
          clear hj0
          show ∃ z, (vs.set q.2.2.2.2.1 x)[j]? = some z ∧ _
          rw [ex_nth_get, ex_set_eq, List.getElem?_set] at hj
          split at hj
          · rename_i hij
            subst hij
            split at hj
            · injection hj with hj
              subst hj
              exact ⟨x, by rw [List.getElem?_set_self hlt], hvr.mono hx⟩
            · cases hj
          · rename_i hij
            obtain ⟨z, z1, z2⟩ := f3 j w (by rw [ex_nth_get]; exact hj)
            exact ⟨z, by rw [List.getElem?_set_ne hij]; exact z1, z2.mono hx⟩
        have W1 : ∀ (H1 : Heap) (locs1 : List Loc), va_P D vwCl (ws.set ob (a, .inr (q.2.2.2.1, vs.set q.2.2.2.2.1 x))) H1 → va_D A (ws.set ob (a, .inr (q.2.2.2.1, vs.set q.2.2.2.2.1 x))) → va_S A s.heap H1 locs1 → W p l e R s m args below meth c H1 locs1 k1 k2 Q (F0 m (q.1 + 3) ls xr') := fun H1 locs1 hP hD hS => by
          have W2 := ex_ft_ok h2 hN.g hsub ((hR.stk hr').world hx (fun _ h => h) (hR.hr.put f1 hcr) hR.hK hP hD hS)
          rw [hlen] at W2
          exact W2
        rcases hfin with hfin | ⟨hi, hown⟩
        · exact va_put (C := rc.1) (T := rc.2.1) (N := rc.2.2) x1 x2 x5 cw ty0 hty0 hnm x4 hR.hK hR.hP hR.hD hR.hS ob f1 hc _ hk (x5 _ hl) (fun _ h9 => h9) hfin t1 n1 n2 hlt hdg W1
        · cases hfb : (rc.2.1 q.2.2.2.2.1).2.2.2 with
          | false => exact va_put (C := rc.1) (T := rc.2.1) (N := rc.2.2) x1 x2 x5 cw ty0 hty0 hnm x4 hR.hK hR.hP hR.hD hR.hS ob f1 hc _ hk (x5 _ hl) (fun _ h9 => h9) hfb t1 n1 n2 hlt hdg W1
          | true => exact va_putF (C := rc.1) (T := rc.2.1) (N := rc.2.2) x1 x2 x5 cw ty0 hty0 hnm x4 hR.hK hR.hP hR.hD hR.hS ob f1 hc _ hk (x5 _ hl) (fun _ h9 => h9) hfb (x10.trans hi) hown t1 n1 n2 hlt hdg W1
      · cases hs
    · cases hs
  · cases hs
theorem ex_nw_ok {ix : Nat} {rc : vw_C} {df : Nat → List ex_V} (hdf : (df q.2.2.2.1).length = rc.2.2 ∧ ∀ (ty0 : Nat → FieldType), (∀ k, k < rc.2.2 → parseFieldDescriptor (rc.2.1 k).2.2.1 = some (ty0 k)) → ∃ fs : List Value, fs.length = rc.2.2 ∧ (∀ j, j < rc.2.2 → defaultValue (ty0 j) = vp_V fs j) ∧ ∀ (j : Nat) (v : ex_V), ex_nth (df q.2.2.2.1) j = some v → ∀ (ρ : Nat → Int32) (b : Nat) (ws : va_W), ∃ x, fs[j]? = some x ∧ ex_vr ρ b ws v x) (hc : vwCl[q.2.2.2.1]? = some rc) (hnn : q.2.2.2.2.1 = rc.2.2) (hl : Cond.classLink own ix rc.1 ∈ ex_tb) (hin : Cond.instantiable rc.1 rc.2.2 ∈ ex_tb) (hini : Cond.initialized rc.1 ∈ ex_tb) (X : ex_X p R s m args meth c ρ b L A own nm cd mL d cap isl) (hlen : q.2.2.1 = 3) (hdg : decode cd q.1 = .ok (.new ix, 3))
    (hs : ex_nw cap df q r en lv st h n k1 k2 = some o) (hN : ex_N p l e R s m args below meth c Q D ρ b A mL w0 t0 pr o) (hsub : ∀ x ∈ q :: r, x ∈ pr) (hR : ex_Rl s D ρ b A mL w0 t0 en lv st h n ls xs ws tys H locs) : W p l e R s m args below meth c H locs k1 k2 Q (F0 m q.1 ls xs) := by
  unfold ex_nw at hs
  split at hs
  · rename_i h' hp
    obtain ⟨h1, h2⟩ := ex_bifs hs
    obtain ⟨h1, h3⟩ := ex_and h1
    have h1 := ex_ble h1
    have h3 := ex_ble h3
    obtain ⟨cw, ⟨ty0, hty0⟩, hnm⟩ := ex_cli hc
    obtain ⟨x1, x2, x3, x4, x5, x6, x7, x8, x9, x10, x11, x12⟩ := X
    obtain ⟨d1, d2⟩ := hdf
    obtain ⟨fs, d3, d4, d5⟩ := d2 ty0 hty0
    refine va_new (ci := q.2.2.2.1) (fs := fs) (C := rc.1) (T := rc.2.1) (N := rc.2.2) x1 x2 x5 cw ty0 hty0 x4 (x5 _ hl) (x5 _ hin) (x5 _ hini) hR.hK hR.hP hR.hD hR.hS x6 hc d4 (Nat.le_trans h1 x11.1) (Nat.le_trans (by rw [hnn] at h3; exact h3) x11.2) hdg (fun a H1 hP hD hS => ?_)
    have hcr : ex_cr ρ b tys (ws ++ [(a, .inr (q.2.2.2.1, fs))]) (.inl (q.2.2.2.1, df q.2.2.2.1)) (.inr (q.2.2.2.1, fs)) := ⟨rfl, d1.trans d3.symm, fun j v hj => d5 j v hj _ _ _⟩
    have hv : ex_vr ρ b (ws ++ [(a, .inr (q.2.2.2.1, fs))]) (ex_a (some n)) (.ref a) := ⟨a, .inr (q.2.2.2.1, fs), by rw [← hR.hr.1, List.getElem?_append_right (Nat.le_refl _), Nat.sub_self]; rfl, rfl⟩
    have W2 := ex_ft_ok h2 hN.g hsub ((hR.world ex_xt.app (fun _ h => h) (hR.hr.push hp (fun _ h => h) hcr) hR.hK hP hD hS).push hv)
    rw [hlen, hnn] at W2
    exact W2
  · cases hs
theorem ex_ix_ok {i : ex_V} {N j : Nat} (he : ex_er ρ en) (hi : ex_ix en i N = some j) {y : Int32} (hv : ex_vr ρ b ws i (.int y)) : j < N ∧ ex_u y = j + 2147483648 ∧ y.toNatClampNeg = j ∧ ¬ y < 0 := by
  unfold ex_ix at hi
  split at hi
  · rename_i u hu
    obtain ⟨h1, h2⟩ := ex_bifs hi
    injection h2 with h2
    obtain ⟨h1, h3⟩ := ex_and h1
    have h1 := ex_ble h1
    have h3 := ex_blt h3
    have e1 := ex_cst_ok he hu hv
    have g1 : 2147483648 ≤ ex_u y := by omega
    exact ⟨by omega, by omega, by rw [ex_u_cl g1, e1]; exact h2, ex_u_nneg g1⟩
  · cases hi
theorem ex_vpin {y : Int32} {N j : Nat} (h1 : j < N) (h2 : y.toNatClampNeg = j) (h3 : ¬ y < 0) : vp_in y N := fun hh => hh.elim h3 (fun q => by omega)
theorem ex_ty_in {t : Nat} {cA : ClassId} (h : (cA, ex_ty t) ∈ tys) : ∃ k : Nat, tys[k]? = some (cA, ex_ty t) := List.getElem?_of_mem h
theorem ex_na_ok {at_ : ArrayType} (ht : newarray.typeOf at_ = ex_ty q.2.2.2.1 ∧ q.2.2.2.1 ≤ 3) (hl : Cond.arrayClass (ex_ty q.2.2.2.1) ∈ ex_tb) (X : ex_X p R s m args meth c ρ b L A own nm cd mL d cap isl) (hlen : q.2.2.1 = 2) (hdg : decode cd q.1 = .ok (.newarray at_, 2))
    (hs : ex_na cap q r en lv st h n k1 k2 = some o) (hN : ex_N p l e R s m args below meth c Q D ρ b A mL w0 t0 pr o) (hsub : ∀ x ∈ q :: r, x ∈ pr) (hR : ex_Rl s D ρ b A mL w0 t0 en lv st h n ls xs ws tys H locs) : W p l e R s m args below meth c H locs k1 k2 Q (F0 m q.1 ls xs) := by
  unfold ex_na at hs
  split at hs
  · rename_i i rest
    split at hs
    · rename_i N hix
      split at hs
      · rename_i h' hp
        obtain ⟨h1, h2⟩ := ex_bifs hs
        obtain ⟨h1, h3⟩ := ex_and h1
        obtain ⟨hI, h1⟩ := ex_and h1
        have h1 := ex_ble h1
        have h3 := ex_ble h3
        obtain ⟨x, xr, rfl, hvr, hr⟩ := ex_sr_cons hR.sr
        obtain ⟨y, rfl⟩ := ex_vr_int hvr hI
        obtain ⟨i1, i2, i3, i4⟩ := ex_ix_ok hR.er hix hvr
        obtain ⟨x1, x2, x3, x4, x5, x6, x7, x8, x9, x10, x11, x12⟩ := X
        obtain ⟨ht, ht3⟩ := ht
        have hbig : N * componentBytes (ex_ty q.2.2.2.1) ≤ 536870912 := by
          have : componentBytes (ex_ty q.2.2.2.1) ≤ 8 := by
            rcases (show q.2.2.2.1 = 0 ∨ q.2.2.2.1 = 1 ∨ q.2.2.2.1 = 2 ∨ q.2.2.2.1 = 3 by omega) with z | z | z | z <;> rw [z] <;> decide
          have := Nat.mul_le_mul (Nat.le_of_lt i1) this
          omega
        obtain ⟨a0, ha1, ha2, ha3, ha4⟩ : ∃ a0 : vp_A, (∀ cA : ClassId, vp_cell cA a0 = arrV cA N (fun _ => defaultValue (ex_ty q.2.2.2.1))) ∧ a0.1 = N ∧ ex_ak q.2.2.2.1 a0 ∧ ∀ (j : Nat) (ρ : Nat → Int32) (b : Nat) (ws : va_W), ex_vr ρ b ws (ex_ov q.2.2.2.1 [] j) (ex_ag a0 j) := by
          rcases (show q.2.2.2.1 = 0 ∨ q.2.2.2.1 = 1 ∨ q.2.2.2.1 = 2 ∨ q.2.2.2.1 = 3 by omega) with z | z | z | z <;> rw [z]
          · exact ⟨(N, .inl (fun _ => 0)), fun cA => rfl, rfl, ⟨_, rfl⟩, fun j ρ b ws => ⟨0, rfl, ex_u_0⟩⟩
          · exact ⟨(N, .inl (fun _ => 0)), fun cA => rfl, rfl, ⟨_, rfl⟩, fun j ρ b ws => ⟨0, rfl, ex_u_0⟩⟩
          · exact ⟨(N, .inr (.inl (fun _ => 0))), fun cA => rfl, rfl, ⟨_, rfl⟩, fun j ρ b ws => rfl⟩
          · exact ⟨(N, .inl (fun _ => 0)), fun cA => rfl, rfl, ⟨_, rfl⟩, fun j ρ b ws => ⟨0, rfl, ex_u_0⟩⟩
        refine va_newa (a0 := a0) x1 x2 (by rw [ht]; exact x5 _ hl) ht hR.hK hR.hP hR.hD hR.hS x6 ha1 i4 i3 hbig (Nat.le_trans h1 x11.1) (Nat.le_trans h3 x11.2) hdg (fun a cA H1 hK hP hD hS => ?_)
        have hcr : ex_cr ρ b (tys ++ [(cA, ex_ty q.2.2.2.1)]) (ws ++ [(a, .inl (cA, a0))]) (.inr (q.2.2.2.1, N, [])) (.inl (cA, a0)) := ⟨List.mem_append_right _ (List.mem_singleton.mpr rfl), (show q.2.2.2.1 ≤ 4 by omega), ha2, ha3, fun j hj => ha4 j _ _ _⟩
        have hv : ex_vr ρ b (ws ++ [(a, .inl (cA, a0))]) (ex_a (some n)) (.ref a) := ⟨a, .inl (cA, a0), by rw [← hR.hr.1, List.getElem?_append_right (Nat.le_refl _), Nat.sub_self]; rfl, rfl⟩
        have W2 := ex_ft_ok h2 hN.g hsub (((hR.stk hr).world ex_xt.app (fun _ h => List.mem_append_left _ h) (hR.hr.push hp (fun _ h => List.mem_append_left _ h) hcr) hK hP hD hS).push hv)
        rw [hlen] at W2
        exact W2
      · cases hs
    · cases hs
  · cases hs
theorem ex_nq_ok {ix : Nat} (ht : q.2.2.2.1 = 4) (hl : Cond.classLink own ix "HatchLights$Scene" ∈ ex_tb) (X : ex_X p R s m args meth c ρ b L A own nm cd mL d cap isl) (hlen : q.2.2.1 = 3) (hdg : decode cd q.1 = .ok (.anewarray ix, 3))
    (hs : ex_na cap q r en lv st h n k1 k2 = some o) (hN : ex_N p l e R s m args below meth c Q D ρ b A mL w0 t0 pr o) (hsub : ∀ x ∈ q :: r, x ∈ pr) (hR : ex_Rl s D ρ b A mL w0 t0 en lv st h n ls xs ws tys H locs) : W p l e R s m args below meth c H locs k1 k2 Q (F0 m q.1 ls xs) := by
  unfold ex_na at hs
  split at hs
  · rename_i i rest
    split at hs
    · rename_i N hix
      split at hs
      · rename_i h' hp
        obtain ⟨h1, h2⟩ := ex_bifs hs
        obtain ⟨h1, h3⟩ := ex_and h1
        obtain ⟨hI, h1⟩ := ex_and h1
        have h1 := ex_ble h1
        have h3 := ex_ble h3
        obtain ⟨x, xr, rfl, hvr, hr⟩ := ex_sr_cons hR.sr
        obtain ⟨y, rfl⟩ := ex_vr_int hvr hI
        obtain ⟨i1, i2, i3, i4⟩ := ex_ix_ok hR.er hix hvr
        obtain ⟨x1, x2, x3, x4, x5, x6, x7, x8, x9, x10, x11, x12⟩ := X
        refine va_newq x1 x2 x4 (x5 _ hl) x8 hR.hK hR.hP hR.hD hR.hS x6 i4 i3 (by omega) (Nat.le_trans h1 x11.1) (Nat.le_trans h3 x11.2) hdg (fun a cA H1 hK hP hD hS => ?_)
        have hcr : ex_cr ρ b (tys ++ [(cA, .object "HatchLights$Scene")]) (ws ++ [(a, .inl (cA, N, .inr (.inr (.inr (.inr (fun _ => none))))))]) (.inr (q.2.2.2.1, N, [])) (.inl (cA, N, .inr (.inr (.inr (.inr (fun _ => none)))))) := by
          rw [ht]
          exact ⟨List.mem_append_right _ (List.mem_singleton.mpr rfl), Nat.le_refl 4, rfl, ⟨_, rfl⟩, fun j hj => rfl⟩
        have hv : ex_vr ρ b (ws ++ [(a, .inl (cA, N, .inr (.inr (.inr (.inr (fun _ => none))))))]) (ex_a (some n)) (.ref a) := ⟨a, _, by rw [← hR.hr.1, List.getElem?_append_right (Nat.le_refl _), Nat.sub_self]; rfl, rfl⟩
        have W2 := ex_ft_ok h2 hN.g hsub (((hR.stk hr).world ex_xt.app (fun _ h => List.mem_append_left _ h) (hR.hr.push hp (fun _ h => List.mem_append_left _ h) hcr) hK hP hD hS).push hv)
        rw [hlen] at W2
        exact W2
      · cases hs
    · cases hs
  · cases hs
end EXH
end
section
section EXR
variable {p : Program} {l : Launch} {e : Env} {R : Room} {s : State} {m : MethodId} {args : Array Value} {below : List Frame} {meth : Method} {c : Code} {Q : State → Prop} {D : va_G} {ρ : Nat → Int32} {b L : Nat} {A : Nat → Prop} {mL d : Nat} {w0 : va_W} {t0 : List (ClassId × FieldType)} {pr : List ex_P} {own nm : String} {cd : ByteArray} {cap : Nat × Nat} {isl : Bool}
variable {en : ex_E} {lv : ex_L} {st : List ex_V} {h : ex_H} {n k1 k2 : Nat} {ls : Array Slot} {xs : List Value} {ws : va_W} {tys : List (ClassId × FieldType)} {H : Heap} {locs : List Loc} {q : ex_P} {r : List ex_P} {o : List (ex_E × ex_S)}
theorem ex_u_nat {N : Nat} (h : N ≤ 100000) : ex_u (Int32.ofNat N) = N + 2147483648 := by
  have h1 := ex_u_int (nI N)
  rw [nI_toInt (by omega)] at h1
  have : ex_u (nI N) = ex_u (Int32.ofNat N) := rfl
  omega
theorem ex_al_ok (X : ex_X p R s m args meth c ρ b L A own nm cd mL d cap isl) (hlen : q.2.2.1 = 1) (hdg : decode cd q.1 = .ok (.arraylength, 1))
    (hs : ex_al isl L q r en lv st h n k1 k2 = some o) (hN : ex_N p l e R s m args below meth c Q D ρ b A mL w0 t0 pr o) (hsub : ∀ x ∈ q :: r, x ∈ pr) (hR : ex_Rl s D ρ b A mL w0 t0 en lv st h n ls xs ws tys H locs) : W p l e R s m args below meth c H locs k1 k2 Q (F0 m q.1 ls xs) := by
  obtain ⟨x1, x2, x3, x4, x5, x6, x7, x8, x9, x10, x11, x12⟩ := X
  unfold ex_al at hs
  split at hs
  · rename_i ob rest
    split at hs
    · rename_i t N ov hget
      obtain ⟨h1, h2⟩ := ex_bifs hs
      have h1 := ex_ble h1
      obtain ⟨x, xr, rfl, hvr, hr⟩ := ex_sr_cons hR.sr
      obtain ⟨a, ev, e1, rfl⟩ := hvr
      obtain ⟨a', cA, ar, f1, f2, f3, f4, f5, f6⟩ := hR.hr.arr hget
      have ea := ex_at e1 f1
      subst ea
      obtain ⟨tk, ht⟩ := ex_ty_in f2
      have W1 := ex_ft_ok h2 hN.g hsub (hR.stk (st' := ex_k (N + 2147483648) :: rest) (xs' := .int (Int32.ofNat ar.1) :: xr) ⟨ex_k_ok _ (by rw [f4]; exact ex_u_nat h1), hr⟩)
      rw [hlen] at W1
      exact va_alen x1 x2 hR.hK hR.hP ob tk f1 ht rfl hdg W1
    · cases hs
  · rename_i rest
    obtain ⟨h1, h2⟩ := ex_bifs hs
    obtain ⟨h1, h3⟩ := ex_and h1
    have h3 := ex_ble h3
    obtain ⟨x, xr, rfl, hvr, hr⟩ := ex_sr_cons hR.sr
    obtain ⟨hX, hbl, hbA⟩ := x9 h1
    have W1 := ex_ft_ok h2 hN.g hsub (hR.stk (st' := ex_k (L + 2147483648) :: rest) (xs' := .int (Int32.ofNat L) :: xr) ⟨ex_k_ok _ (ex_u_nat h3), hr⟩)
    rw [hlen] at W1
    have hvr : x = .ref b := hvr
    subst hvr
    exact va_slen x1 x2 hX hbl hbA hR.hS hdg W1
  · cases hs
theorem ex_ald_ok {ok : Nat → Bool} {il : Bool} (hil : il = true → isl = true) (hs : ex_ald il L ok q r en lv st h n k1 k2 = some o) (hN : ex_N p l e R s m args below meth c Q D ρ b A mL w0 t0 pr o) (hsub : ∀ x ∈ q :: r, x ∈ pr) (hR : ex_Rl s D ρ b A mL w0 t0 en lv st h n ls xs ws tys H locs)
    (row : ∀ (t ob a N j tk : Nat) (cA : ClassId) (ar : vp_A) (y : Int32) (xr : List Value), ok t = true → ws[ob]? = some (a, .inl (cA, ar)) → tys[tk]? = some (cA, ex_ty t) → t ≤ 4 → ar.1 = N → ex_ak t ar → vp_in y N → y.toNatClampNeg = j → W p l e R s m args below meth c H locs k1 k2 Q (F0 m (q.1 + q.2.2.1) ls (ex_ag ar j :: xr)) → W p l e R s m args below meth c H locs k1 k2 Q (F0 m q.1 ls (.int y :: .ref a :: xr)))
    (row2 : ∀ (j : Nat) (y : Int32) (xr : List Value), il = true → vp_in y L → y.toNatClampNeg = j → W p l e R s m args below meth c H locs k1 k2 Q (F0 m (q.1 + q.2.2.1) ls (.int (ρ j) :: xr)) → W p l e R s m args below meth c H locs k1 k2 Q (F0 m q.1 ls (.int y :: .ref b :: xr))) : W p l e R s m args below meth c H locs k1 k2 Q (F0 m q.1 ls xs) := by
  unfold ex_ald at hs
  split at hs
  · rename_i i ob rest
    split at hs
    · exact ex_spl_ok hs hN hsub hR
    · split at hs
      · rename_i t N ov hget
        split at hs
        · rename_i j hix
          obtain ⟨h1, h2⟩ := ex_bifs hs
          obtain ⟨h1, hI⟩ := ex_and h1
          obtain ⟨x, xr, rfl, hvr, hr⟩ := ex_sr_cons hR.sr
          obtain ⟨x', xr', rfl, hvr', hr'⟩ := ex_sr_cons hr
          obtain ⟨y, rfl⟩ := ex_vr_int hvr hI
          obtain ⟨i1, i2, i3, i4⟩ := ex_ix_ok hR.er hix hvr
          obtain ⟨a, ev, e1, rfl⟩ := hvr'
          obtain ⟨a', cA, ar, f1, f2, f3, f4, f5, f6⟩ := hR.hr.arr hget
          have ea := ex_at e1 f1
          subst ea
          obtain ⟨tk, ht⟩ := ex_ty_in f2
          exact row t ob a N j tk cA ar y xr' h1 f1 ht f3 f4 f5 (ex_vpin i1 i3 i4) i3 (ex_ft_ok h2 hN.g hsub (hR.stk (st' := ex_ov t ov j :: rest) ⟨f6 j i1, hr'⟩))
        · cases hs
      · cases hs
  · rename_i i rest
    split at hs
    · rename_i j hix
      obtain ⟨h1, h2⟩ := ex_bifs hs
      obtain ⟨h1, hI⟩ := ex_and h1
      obtain ⟨h1, h3⟩ := ex_and h1
      obtain ⟨x, xr, rfl, hvr, hr⟩ := ex_sr_cons hR.sr
      obtain ⟨x', xr', rfl, hvr', hr'⟩ := ex_sr_cons hr
      obtain ⟨y, rfl⟩ := ex_vr_int hvr hI
      obtain ⟨i1, i2, i3, i4⟩ := ex_ix_ok hR.er hix hvr
      have hvr' : x' = .ref b := hvr'
      subst hvr'
      exact row2 j y xr' h1 (ex_vpin i1 i3 i4) i3 (ex_ft_ok h2 hN.g hsub (hR.stk (st' := ex_v j :: rest) ⟨rfl, hr'⟩))
    · cases hs
  · cases hs
theorem ex_ov_set {t : Nat} {ov : List (Nat × ex_V)} {j : Nat} {v : ex_V} (i : Nat) : ex_ov t (ex_ovset ov j v) i = if i = j then v else ex_ov t ov i := by
  unfold ex_ov
  rw [ex_ovset_lk]
  by_cases hij : i = j
  · rw [if_pos hij, if_pos hij]
  · rw [if_neg hij, if_neg hij]
theorem ex_ast_ok {ok : Nat → ex_V → Option ex_V} (hs : ex_ast q r en lv st h n k1 k2 ok = some o) (hN : ex_N p l e R s m args below meth c Q D ρ b A mL w0 t0 pr o) (hsub : ∀ x ∈ q :: r, x ∈ pr) (hR : ex_Rl s D ρ b A mL w0 t0 en lv st h n ls xs ws tys H locs)
    (row : ∀ (t ob a N j tk : Nat) (cA : ClassId) (ar : vp_A) (y : Int32) (v v' : ex_V) (x : Value) (xr : List Value), ok t v = some v' → ex_vr ρ b ws v x → ws[ob]? = some (a, .inl (cA, ar)) → tys[tk]? = some (cA, ex_ty t) → t ≤ 4 → ar.1 = N → ex_ak t ar → vp_in y N → y.toNatClampNeg = j →
      ∃ ar' : vp_A, ar'.1 = N ∧ ex_ak t ar' ∧ (∀ i, i < N → i ≠ j → ex_ag ar' i = ex_ag ar i) ∧ (∀ ws' : va_W, ex_xt ws ws' → ex_vr ρ b ws' v' (ex_ag ar' j)) ∧ ((∀ (H1 : Heap) (locs1 : List Loc), va_P D vwCl (ws.set ob (a, .inl (cA, ar'))) H1 → va_D A (ws.set ob (a, .inl (cA, ar'))) → va_S A s.heap H1 locs1 → W p l e R s m args below meth c H1 locs1 k1 k2 Q (F0 m (q.1 + q.2.2.1) ls xr)) → W p l e R s m args below meth c H locs k1 k2 Q (F0 m q.1 ls (x :: .int y :: .ref a :: xr)))) : W p l e R s m args below meth c H locs k1 k2 Q (F0 m q.1 ls xs) := by
  unfold ex_ast at hs
  split at hs
  · rename_i v i ob rest
    split at hs
    · exact ex_spl_ok hs hN hsub hR
    · split at hs
      · rename_i t N ov hget
        split at hs
        · rename_i j hix
          split at hs
          · rename_i v' hv'
            obtain ⟨hI, h2⟩ := ex_bifs hs
            obtain ⟨x, xr, rfl, hvr, hr⟩ := ex_sr_cons hR.sr
            obtain ⟨x', xr', rfl, hvr', hr'⟩ := ex_sr_cons hr
            obtain ⟨x'', xr'', rfl, hvr'', hr''⟩ := ex_sr_cons hr'
            obtain ⟨y, rfl⟩ := ex_vr_int hvr' hI
            obtain ⟨i1, i2, i3, i4⟩ := ex_ix_ok hR.er hix hvr'
            obtain ⟨a, ev, e1, rfl⟩ := hvr''
            obtain ⟨a', cA, ar, f1, f2, f3, f4, f5, f6⟩ := hR.hr.arr hget
            have ea := ex_at e1 f1
            subst ea
            obtain ⟨tk, ht⟩ := ex_ty_in f2
            obtain ⟨ar', g1, g2, g3, g4, g5⟩ := row t ob a N j tk cA ar y v v' x xr'' hv' hvr f1 ht f3 f4 f5 (ex_vpin i1 i3 i4) i3
            refine g5 (fun H1 locs1 hP hD hS => ?_)
            have hx := ex_xt.set (e' := .inl (cA, ar')) f1
            have hcr : ex_cr ρ b tys (ws.set ob (a, .inl (cA, ar'))) (.inr (t, N, ex_ovset ov j v')) (.inl (cA, ar')) := ⟨f2, f3, g1, g2, fun z hz => by
              show ex_vr ρ b _ (ex_ov t (ex_ovset ov j v') z) (ex_ag ar' z)
              rw [ex_ov_set]
              split
              · rename_i hzj
                subst hzj
                exact g4 _ hx
              · rename_i hzj
                rw [g3 z hz hzj]
                exact (f6 z hz).mono hx⟩
            exact ex_ft_ok h2 hN.g hsub ((hR.stk hr'').world hx (fun _ h => h) (hR.hr.put f1 hcr) hR.hK hP hD hS)
          · cases hs
        · cases hs
      · cases hs
  · cases hs
theorem ex_cp_ov (a b' : List (Nat × ex_V)) (t sp dp : Nat) : ∀ (k i : Nat), ex_ov t (ex_cp a b' t sp dp k) i = if dp ≤ i ∧ i < dp + k then ex_ov t a (sp + (i - dp)) else ex_ov t b' i
  | 0, i => by
    rw [if_neg (by omega)]; rfl
  | k + 1, i => by
    show ex_ov t (ex_ovset (ex_cp a b' t sp dp k) (dp + k) (ex_ov t a (sp + k))) i = _
    rw [ex_ov_set, ex_cp_ov a b' t sp dp k i]
    by_cases h1 : i = dp + k
    · rw [if_pos h1, if_pos (by omega)]
      subst h1
      rw [show dp + k - dp = k by omega]
    · rw [if_neg h1]
      by_cases h2 : dp ≤ i ∧ i < dp + k
      · rw [if_pos h2, if_pos (by omega)]
      · rw [if_neg h2, if_neg (by omega)]
theorem ex_sum_le : ∀ {st : List ex_V} {xs : List Value}, ex_sr ρ b ws st xs → (xs.map fun v => v.category).sum ≤ 2 * st.length
  | [], [], _ => Nat.le_refl 0
  | [], _ :: _, h => h.elim
  | _ :: _, [], h => h.elim
  | v :: t, x :: r, h => by
    have ih := ex_sum_le h.2
    have := lv_cat x
    rw [List.map_cons, List.sum_cons, List.length_cons]
    omega
theorem ex_acp_ok {ix : Nat} (hl : Cond.methodLink own ix arraycopyName ∈ ex_tb) (hw1 : Cond.native arraycopyName ∈ ex_tb) (hw2 : Cond.static arraycopyName ∈ ex_tb) (hw3 : Cond.initialized "java/lang/System" ∈ ex_tb) (X : ex_X p R s m args meth c ρ b L A own nm cd mL d cap isl) (hlen : q.2.2.1 = 3) (hdg : decode cd q.1 = .ok (.invokestatic ix, 3))
    (hs : ex_acp q r en lv st h n k1 k2 = some o) (hN : ex_N p l e R s m args below meth c Q D ρ b A mL w0 t0 pr o) (hsub : ∀ x ∈ q :: r, x ∈ pr) (hR : ex_Rl s D ρ b A mL w0 t0 en lv st h n ls xs ws tys H locs) : W p l e R s m args below meth c H locs k1 k2 Q (F0 m q.1 ls xs) := by
  obtain ⟨x1, x2, x3, x4, x5, x6, x7, x8, x9, x10, x11, x12, x13⟩ := X
  unfold ex_acp at hs
  split at hs
  · rename_i vm vdp dob vsp sob rest
    split at hs
    · rename_i t N ov t' N' ov' g1 g2
      split at hs
      · rename_i m' s' d' j1 j2 j3
        obtain ⟨h1, h2⟩ := ex_bifs hs
        obtain ⟨h1, hc8⟩ := ex_and h1
        obtain ⟨h1, hI3⟩ := ex_and h1
        obtain ⟨h1, hI2⟩ := ex_and h1
        obtain ⟨h1, hI1⟩ := ex_and h1
        obtain ⟨h1, hc4⟩ := ex_and h1
        obtain ⟨h1, hc3⟩ := ex_and h1
        obtain ⟨hc1, hc2⟩ := ex_and h1
        have hc1 := ex_beq hc1
        have hc2 := ex_beq hc2
        have hc3 := ex_ble hc3
        have hc4 := ex_ble hc4
        have hc8 := ex_ble hc8
        rw [ex_len_eq] at hc8
        subst hc1
        subst hc2
        obtain ⟨y1, r1, rfl, v1, hr1⟩ := ex_sr_cons hR.sr
        obtain ⟨y2, r2, rfl, v2, hr2⟩ := ex_sr_cons hr1
        obtain ⟨y3, r3, rfl, v3, hr3⟩ := ex_sr_cons hr2
        obtain ⟨y4, r4, rfl, v4, hr4⟩ := ex_sr_cons hr3
        obtain ⟨y5, r5, rfl, v5, hr5⟩ := ex_sr_cons hr4
        obtain ⟨z1, rfl⟩ := ex_vr_int v1 hI1
        obtain ⟨z2, rfl⟩ := ex_vr_int v2 hI3
        obtain ⟨z4, rfl⟩ := ex_vr_int v4 hI2
        obtain ⟨a1, b1, c1, d1⟩ := ex_ix_ok hR.er j1 v1
        obtain ⟨a2, b2, c2, d2⟩ := ex_ix_ok hR.er j2 v4
        obtain ⟨a3, b3, c3, d3⟩ := ex_ix_ok hR.er j3 v2
        obtain ⟨ad, ed, w1, rfl⟩ := v3
        obtain ⟨as, es, w2, rfl⟩ := v5
        obtain ⟨as', cA, ar, f1, f2, f3, f4, f5, f6⟩ := hR.hr.arr g1
        obtain ⟨ad', cA', ar', f1', f2', f3', f4', f5', f6'⟩ := hR.hr.arr g2
        have ea := ex_at w2 f1
        subst ea
        have ea := ex_at w1 f1'
        subst ea
        obtain ⟨tk, ht⟩ := ex_ty_in f2
        obtain ⟨tk', ht'⟩ := ex_ty_in f2'
        obtain ⟨N0, arv⟩ := ar
        obtain ⟨N0', arv'⟩ := ar'
        dsimp only at f4 f4'
        subst f4
        subst f4'
        obtain ⟨f, rfl⟩ : ∃ f, arv = .inl f := f5
        obtain ⟨g, rfl⟩ : ∃ f, arv' = .inl f := f5'
        obtain ⟨lw, hl1, hl2⟩ := hR.1
        have hsum := ex_sum_le hr5
        refine va_copyi x1 x2 (x3.trans hl1.1.symm) x4 (x5 _ hl) (x5 _ hw1) (x5 _ hw2) (x5 _ hw3) hR.hK hR.hP hR.hD hR.hS sob dob tk tk' f1 f1' ht ht' rfl d2 d3 d1 (by rw [c1, c2]; exact hc3) (by rw [c1, c3]; exact hc4) (fun _ _ => rfl) (by omega) (by
          have hnw : nativeFrameWords "java/lang/System" "arraycopy" 5 ≤ 41 := by decide
          omega) hdg (fun H1 locs1 hP hD hS => ?_)
        rw [c1, c2, c3] at hP hD
        have hx := ex_xt.set (e' := .inl (cA', N0', .inl (va_cpy f g s' d' m'))) f1'
        have hcr : ex_cr ρ b tys (ws.set dob (ad, .inl (cA', N0', .inl (va_cpy f g s' d' m')))) (.inr (0, N0', ex_cp ov ov' 0 s' d' m')) (.inl (cA', N0', .inl (va_cpy f g s' d' m'))) := by
          refine ⟨f2', f3', rfl, ⟨_, rfl⟩, fun z hz => ?_⟩
          have hz : z < N0' := hz
          show ex_vr ρ b _ (ex_ov 0 (ex_cp ov ov' 0 s' d' m') z) (.int (va_cpy f g s' d' m' z))
          rw [ex_cp_ov]
          by_cases hin : d' ≤ z ∧ z < d' + m'
          · rw [if_pos hin, pk_cpy_in hin.1 hin.2]
            exact (f6 (s' + (z - d')) (show s' + (z - d') < N0 by omega)).mono hx
          · rw [if_neg hin, pk_cpy_out (by omega)]
            exact (f6' z hz).mono hx
        have W2 := ex_ft_ok h2 hN.g hsub ((hR.stk hr5).world hx (fun _ h => h) (hR.hr.put f1' hcr) hR.hK hP hD hS)
        rw [hlen] at W2
        exact W2
      · cases hs
    · cases hs
  · cases hs
end EXR
end
section
noncomputable def ex_pk (own nm : String) (q : ex_P) : Bool := match q with
  | (pc, ins, len, a1, a2, a3, ts) => (match ins with
    | .iconst i => Nat.beq len 1 && Nat.beq (ex_u (Int32.ofInt i)) a1
    | .bipush i => Nat.beq len 2 && Nat.beq (ex_u (Int8.ofInt i).toInt32) a1
    | .sipush i => Nat.beq len 3 && Nat.beq (ex_u (Int16.ofInt i).toInt32) a1
    | .ldc i => Nat.beq len 2 && Nat.beq (ex_u (ex_i a1)) a1 && ex_wd a2 (Cond.constant own i (ex_i a1))
    | .ldc_w i => Nat.beq len 3 && Nat.beq (ex_u (ex_i a1)) a1 && ex_wd a2 (Cond.constant own i (ex_i a1))
    | .lconst k => Nat.beq len 1 && Nat.beq k.val a1
    | .iload_n k => Nat.beq len 1 && Nat.beq k.val a1
    | .iload k => Nat.beq len 2 && Nat.beq k a1
    | .aload_n k => Nat.beq len 1 && Nat.beq k.val a1
    | .aload k => Nat.beq len 2 && Nat.beq k a1
    | .istore_n k => Nat.beq len 1 && Nat.beq k.val a1
    | .istore k => Nat.beq len 2 && Nat.beq k a1
    | .astore_n k => Nat.beq len 1 && Nat.beq k.val a1
    | .astore k => Nat.beq len 2 && Nat.beq k a1
    | .iinc k i => Nat.beq len 3 && Nat.beq k a1 && Nat.beq (Int32.ofInt i).toBitVec.toNat a2
    | .iadd => Nat.beq len 1
    | .isub => Nat.beq len 1
    | .imul => Nat.beq len 1
    | .iand => Nat.beq len 1
    | .ior => Nat.beq len 1
    | .ixor => Nat.beq len 1
    | .ishl => Nat.beq len 1
    | .ishr => Nat.beq len 1
    | .idiv => Nat.beq len 1
    | .irem => Nat.beq len 1
    | .i2b => Nat.beq len 1
    | .dup => Nat.beq len 1
    | .dup2 => Nat.beq len 1
    | .pop => Nat.beq len 1
    | .goto off => Nat.beq len 3 && decide ((pc : Int) + off = (a1 : Int))
    | .ifCond _ off => Nat.beq len 3 && decide ((pc : Int) + off = (a1 : Int))
    | .if_icmp _ off => Nat.beq len 3 && decide ((pc : Int) + off = (a1 : Int))
    | .tableswitch df lo hi offs => decide ((pc : Int) + df = (a1 : Int)) && decide (lo + 2147483648 = (a2 : Int)) && decide (hi - lo + 1 = (ts.length : Int)) && decide (offs.toList.map (fun z => (pc : Int) + z) = ts.map (fun t : Nat => (t : Int)))
    | .lookupswitch df ps => decide ((pc : Int) + df = (a1 : Int)) && (match ts with
      | [k0, t0, k1, t1] => (match ps.toList with
        | [p0, p1] => decide (p0.1 + 2147483648 = (k0 : Int)) && decide (p1.1 + 2147483648 = (k1 : Int)) && decide ((pc : Int) + p0.2 = (t0 : Int)) && decide ((pc : Int) + p1.2 = (t1 : Int)) && decide (p0.1 < p1.1)
        | _ => false)
      | _ => false)
    | .getfield ix => Nat.beq len 3 && (match vwCl[a1]?, ts with
      | some rc, [wi] => Nat.blt a2 rc.2.2 && ex_wd wi (Cond.fieldLink own ix (rc.2.1 a2).1 (rc.2.1 a2).2.1 (rc.2.1 a2).2.2.1)
      | _, _ => false)
    | .putfield ix => Nat.beq len 3 && (match vwCl[a1]?, ts with
      | some rc, [wi] => Nat.blt a2 rc.2.2 && ex_wd wi (Cond.fieldLink own ix (rc.2.1 a2).1 (rc.2.1 a2).2.1 (rc.2.1 a2).2.2.1) && (!(rc.2.1 a2).2.2.2 || (decide (nm = "<init>") && decide ((rc.2.1 a2).1 = own))) && ex_tk a3 (rc.2.1 a2).2.2.1
      | _, _ => false)
    | .new ix => Nat.beq len 3 && (match vwCl[a1]?, ts with
      | some rc, [wi] => Nat.beq a2 rc.2.2 && ex_wd wi (Cond.classLink own ix rc.1)
      | _, _ => false)
    | .newarray at_ => Nat.beq len 2 && decide (newarray.typeOf at_ = ex_ty a1) && Nat.ble a1 3
    | .anewarray ix => Nat.beq len 3 && Nat.beq a1 4 && (match ts with
      | [wi] => ex_wd wi (Cond.classLink own ix "HatchLights$Scene")
      | _ => false)
    | .arraylength => Nat.beq len 1
    | .iaload => Nat.beq len 1
    | .baload => Nat.beq len 1
    | .aaload => Nat.beq len 1
    | .iastore => Nat.beq len 1
    | .bastore => Nat.beq len 1
    | .lastore => Nat.beq len 1
    | .aastore => Nat.beq len 1
    | .invokestatic ix => Nat.beq len 3 && (match ts with
      | [wi] => ex_wd wi (Cond.methodLink own ix arraycopyName)
      | _ => false)
    | .invokespecial ix => Nat.beq len 3 && (match ts with
      | [wi] => ex_wd wi (Cond.methodLink own ix objectInit)
      | _ => false)
    | _ => false)
/-- the words that all share -/
def ex_gw : Prop := (∀ t, t ≤ 3 → Cond.arrayClass (ex_ty t) ∈ ex_tb) ∧ (Cond.native arraycopyName ∈ ex_tb ∧ Cond.static arraycopyName ∈ ex_tb ∧ Cond.initialized "java/lang/System" ∈ ex_tb) ∧ (Cond.instanceMethod objectInit ∈ ex_tb ∧ Cond.code objectInit ⟨#[0xb1]⟩ 1 none ∈ ex_tb) ∧ ∀ (ci : Nat) (rc : vw_C), vwCl[ci]? = some rc → Cond.instantiable rc.1 rc.2.2 ∈ ex_tb ∧ Cond.initialized rc.1 ∈ ex_tb
/-- what a new object's fields hold -/
def ex_gd (df : Nat → List ex_V) : Prop := ∀ (ci : Nat) (rc : vw_C), vwCl[ci]? = some rc → (df ci).length = rc.2.2 ∧ ∀ (ty0 : Nat → FieldType), (∀ k, k < rc.2.2 → parseFieldDescriptor (rc.2.1 k).2.2.1 = some (ty0 k)) → ∃ fs : List Value, fs.length = rc.2.2 ∧ (∀ j, j < rc.2.2 → defaultValue (ty0 j) = vp_V fs j) ∧ ∀ (j : Nat) (v : ex_V), ex_nth (df ci) j = some v → ∀ (ρ : Nat → Int32) (b : Nat) (ws : va_W), ∃ x, fs[j]? = some x ∧ ex_vr ρ b ws v x
theorem ex_u_inc (x : Int32) (z : Int32) : ex_u (x + z) = (ex_u x + z.toBitVec.toNat) % 4294967296 := by
  have h1 := x.toBitVec.isLt
  have h2 := z.toBitVec.isLt
  rw [ex_u_add]
  unfold ex_u
  omega
section EXT
variable {p : Program} {l : Launch} {e : Env} {R : Room} {s : State} {m : MethodId} {args : Array Value} {below : List Frame} {meth : Method} {c : Code} {Q : State → Prop} {D : va_G} {ρ : Nat → Int32} {b L : Nat} {A : Nat → Prop} {mL d : Nat} {w0 : va_W} {t0 : List (ClassId × FieldType)} {pr : List ex_P} {own nm : String} {cd : ByteArray} {cap : Nat × Nat} {isl : Bool}
variable {en : ex_E} {lv : ex_L} {st : List ex_V} {h : ex_H} {n k1 k2 : Nat} {ls : Array Slot} {xs : List Value} {ws : va_W} {tys : List (ClassId × FieldType)} {H : Heap} {locs : List Loc} {q : ex_P} {r : List ex_P} {o : List (ex_E × ex_S)}
theorem ex_isR_ok {v : ex_V} {x : Value} (hv : ex_vr ρ b ws v x) (hk : ex_isR v = true) : x = .null ∨ ∃ a, x = .ref a := by
  rcases v with v | (_ | k) | z | _
  · cases hk
  · exact Or.inl hv
  · obtain ⟨a, ev, -, rfl⟩ := hv
    exact Or.inr ⟨a, rfl⟩
  · cases hk
  · exact Or.inr ⟨b, hv⟩
theorem ex_ifs_isI {cn : ClassFile.Cond} {va vb : ex_V} {rest : List ex_V} (hs : ex_ifs pr q r cn en lv va vb rest h n k1 k2 = some o) : ex_isI va = true := by
  unfold ex_ifs at hs
  split at hs
  · cases hs
  · rename_i tf htf
    unfold ex_br at htf
    split at htf
    · cases htf
    · rename_i qa ha
      exact ex_b_isI ha
theorem ex_ifs_isJ {cn : ClassFile.Cond} {va vb : ex_V} {rest : List ex_V} (hs : ex_ifs pr q r cn en lv va vb rest h n k1 k2 = some o) : ex_isI vb = true := by
  unfold ex_ifs at hs
  split at hs
  · cases hs
  · rename_i tf htf
    unfold ex_br at htf
    split at htf
    · cases htf
    · split at htf
      · cases htf
      · rename_i qb hb
        exact ex_b_isI hb
set_option maxHeartbeats 4000000 in
theorem ex_step_ok {df : Nat → List ex_V} (hgw : ex_gw) (hgd : ex_gd df) (X : ex_X p R s m args meth c ρ b L A own nm cd mL d cap isl) (hk : ex_pk own nm q = true) (hdg : decode cd q.1 = .ok (q.2.1, q.2.2.1))
    (hs : ex_step pr isl L mL cap df en q r lv st h n k1 k2 = some o) (hN : ex_N p l e R s m args below meth c Q D ρ b A mL w0 t0 pr o) (hsub : ∀ x ∈ q :: r, x ∈ pr) (hR : ex_Rl s D ρ b A mL w0 t0 en lv st h n ls xs ws tys H locs) : W p l e R s m args below meth c H locs k1 k2 Q (F0 m q.1 ls xs) := by
  obtain ⟨x1, x2, x3, x4, x5, x6, x7, x8, x9, x10, x11, x12, x13⟩ := id X
  obtain ⟨pc, ins, len, a1, a2, a3, ts⟩ := q
  have hdg : decode cd pc = .ok (ins, len) := hdg
  cases ins with
  | iconst i =>
    obtain ⟨e1, e2⟩ := ex_and hk
    cases ex_beq e1
    exact lv_iconst x1 x2 hdg rfl (ex_ft_ok hs hN.g hsub (hR.push (ex_k_ok _ (ex_beq e2))))
  | bipush i =>
    obtain ⟨e1, e2⟩ := ex_and hk
    cases ex_beq e1
    exact lv_bipush x1 x2 hdg rfl (ex_ft_ok hs hN.g hsub (hR.push (ex_k_ok _ (ex_beq e2))))
  | sipush i =>
    obtain ⟨e1, e2⟩ := ex_and hk
    cases ex_beq e1
    exact lv_sipush x1 x2 hdg rfl (ex_ft_ok hs hN.g hsub (hR.push (ex_k_ok _ (ex_beq e2))))
  | ldc i =>
    obtain ⟨e1, e3⟩ := ex_and hk
    obtain ⟨e1, e2⟩ := ex_and e1
    cases ex_beq e1
    exact lv_ldc x1 x2 x4 (x5 _ (ex_wd_ok e3)) hdg (ex_ft_ok hs hN.g hsub (hR.push (ex_k_ok _ (ex_beq e2))))
  | ldc_w i =>
    obtain ⟨e1, e3⟩ := ex_and hk
    obtain ⟨e1, e2⟩ := ex_and e1
    cases ex_beq e1
    exact lv_ldcw x1 x2 x4 (x5 _ (ex_wd_ok e3)) hdg (ex_ft_ok hs hN.g hsub (hR.push (ex_k_ok _ (ex_beq e2))))
  | lconst k =>
    obtain ⟨e1, e2⟩ := ex_and hk
    cases ex_beq e1
    exact lv_lconst x1 x2 hdg (by rw [ex_beq e2]) (ex_ft_ok hs hN.g hsub (hR.push (v := ex_j (Int64.ofNat a1)) rfl))
  | iload_n k =>
    obtain ⟨e1, e2⟩ := ex_and hk
    cases ex_beq e1
    refine ex_ld_ok hs hN hsub hR (fun v x ok hv hl W1 => ?_)
    obtain ⟨y, rfl⟩ := ex_vr_int hv ok
    exact lv_iload_n x1 x2 hdg (ex_beq e2) hl W1
  | iload k =>
    obtain ⟨e1, e2⟩ := ex_and hk
    cases ex_beq e1
    cases ex_beq e2
    refine ex_ld_ok hs hN hsub hR (fun v x ok hv hl W1 => ?_)
    obtain ⟨y, rfl⟩ := ex_vr_int hv ok
    exact lv_iload x1 x2 hdg hl W1
  | aload_n k =>
    obtain ⟨e1, e2⟩ := ex_and hk
    cases ex_beq e1
    refine ex_ld_ok hs hN hsub hR (fun v x ok hv hl W1 => ?_)
    rcases ex_isR_ok hv ok with rfl | ⟨y, rfl⟩
    · exact lv_aload_nN x1 x2 hdg (ex_beq e2) hl W1
    · exact lv_aload_n x1 x2 hdg (ex_beq e2) hl W1
  | aload k =>
    obtain ⟨e1, e2⟩ := ex_and hk
    cases ex_beq e1
    cases ex_beq e2
    refine ex_ld_ok hs hN hsub hR (fun v x ok hv hl W1 => ?_)
    rcases ex_isR_ok hv ok with rfl | ⟨y, rfl⟩
    · exact lv_aloadN x1 x2 hdg hl W1
    · exact lv_aload x1 x2 hdg hl W1
  | istore_n k =>
    obtain ⟨e1, e2⟩ := ex_and hk
    cases ex_beq e1
    refine ex_st_ok hs hN hsub hR (fun v x xr lw ok hv hl hn W1 => ?_)
    obtain ⟨y, rfl⟩ := ex_vr_int hv ok
    exact lv_istore_n x1 x2 hdg (ex_beq e2) hl hn rfl W1
  | istore k =>
    obtain ⟨e1, e2⟩ := ex_and hk
    cases ex_beq e1
    cases ex_beq e2
    refine ex_st_ok hs hN hsub hR (fun v x xr lw ok hv hl hn W1 => ?_)
    obtain ⟨y, rfl⟩ := ex_vr_int hv ok
    exact lv_istore x1 x2 hdg hl hn rfl W1
  | astore_n k =>
    obtain ⟨e1, e2⟩ := ex_and hk
    cases ex_beq e1
    refine ex_st_ok hs hN hsub hR (fun v x xr lw ok hv hl hn W1 => ?_)
    rcases ex_isR_ok hv ok with rfl | ⟨y, rfl⟩
    · exact lv_astore_nN x1 x2 hdg (ex_beq e2) hl hn rfl W1
    · exact lv_astore_n x1 x2 hdg (ex_beq e2) hl hn rfl W1
  | astore k =>
    obtain ⟨e1, e2⟩ := ex_and hk
    cases ex_beq e1
    cases ex_beq e2
    refine ex_st_ok hs hN hsub hR (fun v x xr lw ok hv hl hn W1 => ?_)
    rcases ex_isR_ok hv ok with rfl | ⟨y, rfl⟩
    · exact lv_astoreN x1 x2 hdg hl hn rfl W1
    · exact lv_astore x1 x2 hdg hl hn rfl W1
  | iinc k i =>
    obtain ⟨e1, e3⟩ := ex_and hk
    obtain ⟨e1, e2⟩ := ex_and e1
    cases ex_beq e1
    cases ex_beq e2
    have e3 := ex_beq e3
    have hs : (match ex_lk lv a1 with
      | some v => (match ex_cst en v with
        | some u => bif ex_isI v && Nat.blt a1 mL then ex_ft (pc, .iinc a1 i, 3, a1, a2, a3, ts) r en ((a1, ex_k ((u + a2) % 4294967296)) :: ex_del lv a1) st h n k1 k2 else none
        | none => none)
      | none => none) = some o := hs
    split at hs
    · rename_i v hv
      split at hs
      · rename_i u hu
        obtain ⟨g1, g2⟩ := ex_bifs hs
        obtain ⟨g1, g3⟩ := ex_and g1
        obtain ⟨lw, hl, hlr⟩ := hR.1
        obtain ⟨j, x, f1, f2⟩ := ex_lr_lk hlr hv
        obtain ⟨y, rfl⟩ := ex_vr_int f2 g1
        have e4 := ex_cst_ok hR.er hu f2
        refine lv_iinc x1 x2 hdg hl f1 rfl (ex_blt g3) rfl (fun ls' hl' => ?_)
        exact ex_ft_ok g2 hN.g hsub (hR.loc (lv' := (a1, ex_k ((u + a2) % 4294967296)) :: ex_del lv a1) ⟨_, hl', (show ex_lr ρ b ws ((a1, ex_k ((u + a2) % 4294967296)) :: ex_del lv a1) ((a1, .int (y + Int32.ofInt i)) :: ex_flt a1 lw) from ⟨⟨rfl, ex_k_ok _ (by rw [ex_u_inc, e4, e3])⟩, ex_lr_del hlr _⟩)⟩)
      · cases hs
    · cases hs
  | iadd =>
    cases ex_beq hk
    exact ex_bin_ok hs hN hsub hR (fun x y rest => ⟨_, rfl, fun hz W1 => lv_iadd x1 x2 hdg W1⟩)
  | isub =>
    cases ex_beq hk
    exact ex_bin_ok hs hN hsub hR (fun x y rest => ⟨_, rfl, fun hz W1 => lv_isub x1 x2 hdg W1⟩)
  | imul =>
    cases ex_beq hk
    exact ex_bin_ok hs hN hsub hR (fun x y rest => ⟨_, rfl, fun hz W1 => lv_imul x1 x2 hdg W1⟩)
  | iand =>
    cases ex_beq hk
    exact ex_bin_ok hs hN hsub hR (fun x y rest => ⟨_, rfl, fun hz W1 => lv_iand x1 x2 hdg W1⟩)
  | ior =>
    cases ex_beq hk
    exact ex_bin_ok hs hN hsub hR (fun x y rest => ⟨_, rfl, fun hz W1 => lv_ior x1 x2 hdg W1⟩)
  | ixor =>
    cases ex_beq hk
    exact ex_bin_ok hs hN hsub hR (fun x y rest => ⟨_, rfl, fun hz W1 => lv_ixor x1 x2 hdg W1⟩)
  | ishl =>
    cases ex_beq hk
    exact ex_bin_ok hs hN hsub hR (fun x y rest => ⟨_, rfl, fun hz W1 => lv_ishl x1 x2 hdg W1⟩)
  | ishr =>
    cases ex_beq hk
    exact ex_bin_ok hs hN hsub hR (fun x y rest => ⟨_, rfl, fun hz W1 => lv_ishr x1 x2 hdg W1⟩)
  | idiv =>
    cases ex_beq hk
    exact ex_bin_ok hs hN hsub hR (fun x y rest => ⟨_, rfl, fun hz W1 => lv_idiv x1 x2 hdg (hz (Or.inl rfl)) W1⟩)
  | irem =>
    cases ex_beq hk
    exact ex_bin_ok hs hN hsub hR (fun x y rest => ⟨_, rfl, fun hz W1 => lv_irem x1 x2 hdg (hz (Or.inr rfl)) W1⟩)
  | i2b =>
    cases ex_beq hk
    cases st with
    | nil => cases (show none = some o from hs)
    | cons v rest =>
      obtain ⟨g1, g2⟩ := ex_bifs (show (bif ex_isI v then ex_ft (pc, .i2b, 1, a1, a2, a3, ts) r en lv (ex_full :: rest) h n k1 k2 else none) = some o from hs)
      obtain ⟨x, xr, rfl, hvr, hr⟩ := ex_sr_cons hR.sr
      obtain ⟨y, rfl⟩ := ex_vr_int hvr g1
      exact lv_i2b x1 x2 hdg rfl (ex_ft_ok g2 hN.g hsub (hR.stk ⟨ex_full_ok _, hr⟩))
  | dup =>
    cases ex_beq hk
    cases st with
    | nil => cases (show none = some o from hs)
    | cons v rest =>
      obtain ⟨g1, g2⟩ := ex_bifs (show (bif Nat.beq (ex_cat v) 1 then ex_ft (pc, .dup, 1, a1, a2, a3, ts) r en lv (v :: v :: rest) h n k1 k2 else none) = some o from hs)
      obtain ⟨x, xr, rfl, hvr, hr⟩ := ex_sr_cons hR.sr
      exact lv_dup x1 x2 hdg ((ex_cat_ok hvr).trans (ex_beq g1)) (ex_ft_ok g2 hN.g hsub (hR.stk ⟨hvr, hvr, hr⟩))
  | dup2 =>
    cases ex_beq hk
    match st, hs, hR with
    | [], hs, hR => cases (show none = some o from hs)
    | [v], hs, hR => cases (show none = some o from hs)
    | v :: w :: rest, hs, hR =>
      obtain ⟨g1, g2⟩ := ex_bifs (show (bif Nat.beq (ex_cat v) 1 && Nat.beq (ex_cat w) 1 then ex_ft (pc, .dup2, 1, a1, a2, a3, ts) r en lv (v :: w :: v :: w :: rest) h n k1 k2 else none) = some o from hs)
      obtain ⟨g1, g3⟩ := ex_and g1
      obtain ⟨x, xr, rfl, hvr, hr⟩ := ex_sr_cons hR.sr
      obtain ⟨x', xr', rfl, hvr', hr'⟩ := ex_sr_cons hr
      exact lv_dup2_11 x1 x2 hdg ((ex_cat_ok hvr).trans (ex_beq g1)) ((ex_cat_ok hvr').trans (ex_beq g3)) (ex_ft_ok g2 hN.g hsub (hR.stk ⟨hvr, hvr', hvr, hvr', hr'⟩))
  | pop =>
    cases ex_beq hk
    cases st with
    | nil => cases (show none = some o from hs)
    | cons v rest =>
      obtain ⟨g1, g2⟩ := ex_bifs (show (bif Nat.beq (ex_cat v) 1 then ex_ft (pc, .pop, 1, a1, a2, a3, ts) r en lv rest h n k1 k2 else none) = some o from hs)
      obtain ⟨x, xr, rfl, hvr, hr⟩ := ex_sr_cons hR.sr
      exact lv_pop x1 x2 hdg ((ex_cat_ok hvr).trans (ex_beq g1)) (ex_ft_ok g2 hN.g hsub (hR.stk hr))
  | goto off =>
    obtain ⟨e1, e2⟩ := ex_and hk
    cases ex_beq e1
    have hs : some [(en, (ex_jp pr a1, lv, st, h, n, k1, k2))] = some o := hs
    cases hs
    exact lv_goto x1 x2 hdg (of_decide_eq_true e2) (ex_jp_ok (hN _ (List.mem_singleton.mpr rfl)) hR)
  | ifCond cn off =>
    obtain ⟨e1, e2⟩ := ex_and hk
    cases ex_beq e1
    cases st with
    | nil => cases (show none = some o from hs)
    | cons v rest =>
      have hs : ex_ifs pr (pc, .ifCond cn off, 3, a1, a2, a3, ts) r cn en lv v (ex_k 2147483648) rest h n k1 k2 = some o := hs
      have hI : ex_isI v = true := ex_ifs_isI hs
      obtain ⟨x, xr, rfl, hvr, hr⟩ := ex_sr_cons hR.sr
      obtain ⟨y, rfl⟩ := ex_vr_int hvr hI
      obtain ⟨kt, kf⟩ := ex_ifs_ok hs hN hsub (hR.stk hr) hvr (ex_k_ok (0 : Int32) ex_u_0)
      cases cn with
      | eq => exact lv_if_eq x1 x2 hdg (of_decide_eq_true e2) kt kf
      | ne => exact lv_if_ne x1 x2 hdg (of_decide_eq_true e2) kt (fun z => kf (fun w => w z))
      | lt => exact lv_if_lt x1 x2 hdg (of_decide_eq_true e2) kt kf
      | ge => exact lv_if_ge x1 x2 hdg (of_decide_eq_true e2) (fun z => kt (ex_nlt.mpr z)) (fun z => kf (fun w => z (ex_nlt.mp w)))
      | gt => exact lv_if_gt x1 x2 hdg (of_decide_eq_true e2) kt kf
      | le => exact lv_if_le x1 x2 hdg (of_decide_eq_true e2) (fun z => kt (ex_nlt.mpr z)) (fun z => kf (fun w => z (ex_nlt.mp w)))
  | if_icmp cn off =>
    obtain ⟨e1, e2⟩ := ex_and hk
    cases ex_beq e1
    match st, hs, hR with
    | [], hs, hR => cases (show none = some o from hs)
    | [v], hs, hR => cases (show none = some o from hs)
    | vb :: va :: rest, hs, hR =>
      have hs : ex_ifs pr (pc, .if_icmp cn off, 3, a1, a2, a3, ts) r cn en lv va vb rest h n k1 k2 = some o := hs
      have hI : ex_isI va = true := ex_ifs_isI hs
      have hJ : ex_isI vb = true := ex_ifs_isJ hs
      obtain ⟨x, xr, rfl, hvr, hr⟩ := ex_sr_cons hR.sr
      obtain ⟨x', xr', rfl, hvr', hr'⟩ := ex_sr_cons hr
      obtain ⟨y, rfl⟩ := ex_vr_int hvr hJ
      obtain ⟨y', rfl⟩ := ex_vr_int hvr' hI
      obtain ⟨kt, kf⟩ := ex_ifs_ok hs hN hsub (hR.stk hr') hvr' hvr
      cases cn with
      | eq => exact lv_icmp_eq x1 x2 hdg (of_decide_eq_true e2) kt kf
      | ne => exact lv_icmp_ne x1 x2 hdg (of_decide_eq_true e2) kt (fun z => kf (fun w => w z))
      | lt => exact lv_icmp_lt x1 x2 hdg (of_decide_eq_true e2) kt kf
      | ge => exact lv_icmp_ge x1 x2 hdg (of_decide_eq_true e2) (fun z => kt (ex_nlt.mpr z)) (fun z => kf (fun w => z (ex_nlt.mp w)))
      | gt => exact lv_icmp_gt x1 x2 hdg (of_decide_eq_true e2) kt kf
      | le => exact lv_icmp_le x1 x2 hdg (of_decide_eq_true e2) (fun z => kt (ex_nlt.mpr z)) (fun z => kf (fun w => z (ex_nlt.mp w)))
  | tableswitch df' lo hi offs =>
    obtain ⟨e1, e4⟩ := ex_and hk
    obtain ⟨e1, e3⟩ := ex_and e1
    obtain ⟨e1, e2⟩ := ex_and e1
    have e1 := of_decide_eq_true e1
    have e2 := of_decide_eq_true e2
    have e3 := of_decide_eq_true e3
    have e4 := of_decide_eq_true e4
    cases st with
    | nil => cases (show none = some o from hs)
    | cons v rest =>
      obtain ⟨hI, g2⟩ := ex_bifs (show (bif ex_isI v then some (ex_app (ex_map (fun e => (e, (ex_jp pr a1, lv, rest, h, n, k1, k2))) (ex_1 en v 0 (a2 - 1))) (ex_sw pr (pc, .tableswitch df' lo hi offs, len, a1, a2, a3, ts) en lv v rest h n k1 k2 ts a2)) else none) = some o from hs)
      injection g2 with g2
      subst g2
      rw [ex_app_eq, ex_map_eq] at hN
      obtain ⟨x, xr, rfl, hvr, hr⟩ := ex_sr_cons hR.sr
      obtain ⟨y, rfl⟩ := ex_vr_int hvr hI
      obtain ⟨s1, s2⟩ := ex_sw_ok (pr := pr) (q := (pc, .tableswitch df' lo hi offs, len, a1, a2, a3, ts)) hvr (hR.stk hr) ts a2 (fun z hz => hN z (List.mem_append_right _ hz))
      have hy := ex_u_int y
      by_cases c1 : y.toInt < lo
      · refine lv_tableOut x1 x2 hdg (Or.inl c1) e1 ?_
        obtain ⟨e', i1, i2⟩ := ex_1_ok hR.er hvr (Nat.zero_le _) (show ex_u y ≤ a2 - 1 by omega)
        exact ex_jp_ok (hN (e', _) (List.mem_append_left _ (List.mem_map.mpr ⟨e', i1, rfl⟩))) ((hR.stk hr).env i2)
      · by_cases c2 : hi < y.toInt
        · exact lv_tableOut x1 x2 hdg (Or.inr c2) e1 (s2 (by omega))
        · have hj : (y.toInt - lo).toNat < ts.length := by omega
          obtain ⟨t, ht⟩ : ∃ t, ts[(y.toInt - lo).toNat]? = some t := ⟨_, List.getElem?_eq_getElem hj⟩
          have h9 : (offs.toList.map (fun z => (pc : Int) + z))[(y.toInt - lo).toNat]? = some (t : Int) := by rw [e4, List.getElem?_map, ht]; rfl
          rw [List.getElem?_map] at h9
          obtain ⟨off, ho, ho2⟩ := Option.map_eq_some_iff.mp h9
          exact lv_tableIn x1 x2 hdg c1 c2 (by rw [← Array.getElem?_toList]; exact ho) ho2 (s1 _ _ ht (by omega))
  | getfield ix =>
    obtain ⟨e1, e2⟩ := ex_and hk
    cases ex_beq e1
    split at e2
    · rename_i rc wi hc
      obtain ⟨e2, e3⟩ := ex_and e2
      exact ex_gf_ok (q := (pc, .getfield ix, 3, a1, a2, a3, [wi])) hc (ex_blt e2) (ex_wd_ok e3) X rfl hdg hs hN hsub hR
    · cases e2
  | putfield ix =>
    obtain ⟨e1, e2⟩ := ex_and hk
    cases ex_beq e1
    split at e2
    · rename_i rc wi hc
      obtain ⟨e2, e5⟩ := ex_and e2
      obtain ⟨e2, e4⟩ := ex_and e2
      obtain ⟨e2, e3⟩ := ex_and e2
      have hfin : (rc.2.1 a2).2.2.2 = false ∨ (nm = "<init>" ∧ (rc.2.1 a2).1 = own) := by
        cases hf : (rc.2.1 a2).2.2.2 with
        | false => exact Or.inl rfl
        | true =>
          rw [hf] at e4
          obtain ⟨z1, z2⟩ := ex_and (show (decide (nm = "<init>") && decide ((rc.2.1 a2).1 = own)) = true from e4)
          exact Or.inr ⟨of_decide_eq_true z1, of_decide_eq_true z2⟩
      exact ex_pf_ok (q := (pc, .putfield ix, 3, a1, a2, a3, [wi])) hc (ex_blt e2) (ex_wd_ok e3) hfin e5 X rfl hdg hs hN hsub hR
    · cases e2
  | new ix =>
    obtain ⟨e1, e2⟩ := ex_and hk
    cases ex_beq e1
    split at e2
    · rename_i rc wi hc
      obtain ⟨e2, e3⟩ := ex_and e2
      obtain ⟨w1, w2⟩ := hgw.2.2.2 a1 rc hc
      exact ex_nw_ok (q := (pc, .new ix, 3, a1, a2, a3, [wi])) (hgd a1 rc hc) hc (ex_beq e2) (ex_wd_ok e3) w1 w2 X rfl hdg hs hN hsub hR
    · cases e2
  | newarray at_ =>
    obtain ⟨e1, e3⟩ := ex_and hk
    obtain ⟨e1, e2⟩ := ex_and e1
    cases ex_beq e1
    exact ex_na_ok (q := (pc, .newarray at_, 2, a1, a2, a3, ts)) ⟨of_decide_eq_true e2, ex_ble e3⟩ (hgw.1 a1 (ex_ble e3)) X rfl hdg hs hN hsub hR
  | anewarray ix =>
    obtain ⟨e1, e3⟩ := ex_and hk
    obtain ⟨e1, e2⟩ := ex_and e1
    cases ex_beq e1
    split at e3
    · exact ex_nq_ok (q := (pc, .anewarray ix, 3, a1, a2, a3, _)) (ex_beq e2) (ex_wd_ok e3) X rfl hdg hs hN hsub hR
    · cases e3
  | arraylength =>
    cases ex_beq hk
    exact ex_al_ok (q := (pc, .arraylength, 1, a1, a2, a3, ts)) X rfl hdg hs hN hsub hR
  | iaload =>
    cases ex_beq hk
    refine ex_ald_ok (q := (pc, .iaload, 1, a1, a2, a3, ts)) (isl := isl) (il := isl) (fun z => z) hs hN hsub hR (fun t ob a N j tk cA ar y xr ok f1 ht f3 f4 f5 hin hj W1 => ?_) (fun j y xr hil hin hj W1 => ?_)
    · have ht0 := ex_beq ok
      subst ht0
      obtain ⟨N0, arv⟩ := ar
      cases f4
      obtain ⟨f, rfl⟩ : ∃ f, arv = .inl f := f5
      subst hj
      exact va_iald x1 x2 hR.hK hR.hP ob tk f1 ht hin hdg W1
    · obtain ⟨hX, hbl, hbA⟩ := x9 hil
      subst hj
      exact va_sld x1 x2 hX hbl hbA hR.hS hin hdg W1
  | baload =>
    cases ex_beq hk
    refine ex_ald_ok (q := (pc, .baload, 1, a1, a2, a3, ts)) (isl := isl) (il := false) (fun z => by cases z) hs hN hsub hR (fun t ob a N j tk cA ar y xr ok f1 ht f3 f4 f5 hin hj W1 => ?_) (fun j y xr hil hin hj W1 => by cases hil)
    obtain ⟨N0, arv⟩ := ar
    cases f4
    subst hj
    rcases Bool.or_eq_true _ _ |>.mp ok with ok | ok
    · have ht0 := ex_beq ok
      subst ht0
      obtain ⟨f, rfl⟩ : ∃ f, arv = .inl f := f5
      exact va_bald x1 x2 hR.hK hR.hP ob tk f1 ht hin hdg W1
    · have ht0 := ex_beq ok
      subst ht0
      obtain ⟨f, rfl⟩ : ∃ f, arv = .inl f := f5
      exact va_zald x1 x2 hR.hK hR.hP ob tk f1 ht hin hdg W1
  | aaload =>
    cases ex_beq hk
    refine ex_ald_ok (q := (pc, .aaload, 1, a1, a2, a3, ts)) (isl := isl) (il := false) (fun z => by cases z) hs hN hsub hR (fun t ob a N j tk cA ar y xr ok f1 ht f3 f4 f5 hin hj W1 => ?_) (fun j y xr hil hin hj W1 => by cases hil)
    obtain ⟨N0, arv⟩ := ar
    cases f4
    subst hj
    have ht0 := ex_beq ok
    subst ht0
    obtain ⟨f, rfl⟩ : ∃ f, arv = .inr (.inr (.inr (.inr f))) := f5
    exact va_aldq x1 x2 hR.hK hR.hP ob tk f1 ht hin hdg W1
  | iastore =>
    cases ex_beq hk
    refine ex_ast_ok (q := (pc, .iastore, 1, a1, a2, a3, ts)) hs hN hsub hR (fun t ob a N j tk cA ar y v v' x xr ok hv f1 ht f3 f4 f5 hin hj => ?_)
    obtain ⟨g1, g2⟩ := ex_bifs (show (bif Nat.beq t 0 && ex_isI v then some v else none) = some v' from ok)
    cases g2
    obtain ⟨g1, g3⟩ := ex_and g1
    have ht0 := ex_beq g1
    subst ht0
    obtain ⟨z, rfl⟩ := ex_vr_int hv g3
    obtain ⟨N0, arv⟩ := ar
    cases f4
    subst hj
    obtain ⟨f, rfl⟩ : ∃ f, arv = .inl f := f5
    exact ⟨(N0, .inl (upd f y.toNatClampNeg z)), rfl, ⟨_, rfl⟩, fun i _ hi => by show Value.int (upd f y.toNatClampNeg z i) = .int (f i); rw [pk_un hi], fun ws' hx => by show ex_vr ρ b ws' v (.int (upd f y.toNatClampNeg z y.toNatClampNeg)); rw [pk_us]; exact hv.mono hx, fun W1 => va_iast x1 x2 hR.hK hR.hP hR.hD hR.hS ob tk f1 ht hin hdg W1⟩
  | bastore =>
    cases ex_beq hk
    refine ex_ast_ok (q := (pc, .bastore, 1, a1, a2, a3, ts)) hs hN hsub hR (fun t ob a N j tk cA ar y v v' x xr ok hv f1 ht f3 f4 f5 hin hj => ?_)
    obtain ⟨N0, arv⟩ := ar
    cases f4
    subst hj
    rcases ex_bif (P := fun z => z = some v') (show (bif Nat.beq t 1 && ex_isI v then some ex_full else bif Nat.beq t 3 then (match ex_cst en v with
      | some u => bif Nat.beq u 2147483648 || Nat.beq u 2147483649 then some (ex_k u) else none
      | none => none) else none) = some v' from ok) with ⟨g1, g2⟩ | ⟨g1, g2⟩
    · cases g2
      obtain ⟨g1, g3⟩ := ex_and g1
      have ht0 := ex_beq g1
      subst ht0
      obtain ⟨z, rfl⟩ := ex_vr_int hv g3
      obtain ⟨f, rfl⟩ : ∃ f, arv = .inl f := f5
      exact ⟨(N0, .inl (upd f y.toNatClampNeg (vp_nar .byte z))), rfl, ⟨_, rfl⟩, fun i _ hi => by show Value.int (upd f y.toNatClampNeg _ i) = .int (f i); rw [pk_un hi], fun ws' hx => by show ex_vr ρ b ws' ex_full (.int (upd f y.toNatClampNeg _ y.toNatClampNeg)); exact ex_full_ok _, fun W1 => va_bast x1 x2 hR.hK hR.hP hR.hD hR.hS ob tk f1 ht hin hdg W1⟩
    · obtain ⟨g1, g2⟩ := ex_bifs g2
      have ht0 := ex_beq g1
      subst ht0
      split at g2
      · rename_i u hu
        obtain ⟨g3, g4⟩ := ex_bifs (show (bif Nat.beq u 2147483648 || Nat.beq u 2147483649 then some (ex_k u) else none) = some v' from g2)
        injection g4 with g4
        subst g4
        obtain ⟨z, rfl⟩ := ex_vr_int hv (ex_cst_isI hu)
        have e4 := ex_cst_ok hR.er hu hv
        have hz : z = 0 ∨ z = 1 := by
          rcases Bool.or_eq_true _ _ |>.mp g3 with h1 | h1
          · exact Or.inl (ex_u_inj (by rw [e4, ex_beq h1, ex_u_0]))
          · exact Or.inr (ex_u_inj (by rw [e4, ex_beq h1]; decide))
        have hnar : vp_nar .boolean z = z := by rcases hz with rfl | rfl <;> decide
        obtain ⟨f, rfl⟩ : ∃ f, arv = .inl f := f5
        exact ⟨(N0, .inl (upd f y.toNatClampNeg (vp_nar .boolean z))), rfl, ⟨_, rfl⟩, fun i _ hi => by show Value.int (upd f y.toNatClampNeg _ i) = .int (f i); rw [pk_un hi], fun ws' hx => by show ex_vr ρ b ws' (ex_k u) (.int (upd f y.toNatClampNeg _ y.toNatClampNeg)); rw [pk_us, hnar]; exact ex_k_ok _ e4, fun W1 => va_zast x1 x2 hR.hK hR.hP hR.hD hR.hS ob tk f1 ht hin hdg W1⟩
      · cases g2
  | lastore =>
    cases ex_beq hk
    refine ex_ast_ok (q := (pc, .lastore, 1, a1, a2, a3, ts)) hs hN hsub hR (fun t ob a N j tk cA ar y v v' x xr ok hv f1 ht f3 f4 f5 hin hj => ?_)
    rcases v with w | w | z | w
    · cases (show none = some v' from ok)
    · cases (show none = some v' from ok)
    · obtain ⟨g1, g2⟩ := ex_bifs (show (bif Nat.beq t 2 then some (ex_j z) else none) = some v' from ok)
      cases g2
      have ht0 := ex_beq g1
      subst ht0
      have hv : x = .long z := hv
      subst hv
      obtain ⟨N0, arv⟩ := ar
      cases f4
      subst hj
      obtain ⟨f, rfl⟩ : ∃ f, arv = .inr (.inl f) := f5
      exact ⟨(N0, .inr (.inl (vp_updL f y.toNatClampNeg z))), rfl, ⟨_, rfl⟩, fun i _ hi => by show Value.long (vp_updL f y.toNatClampNeg z i) = .long (f i); rw [pk_uLn hi], fun ws' hx => by show Value.long (vp_updL f y.toNatClampNeg z y.toNatClampNeg) = .long z; rw [pk_uLs], fun W1 => va_last x1 x2 hR.hK hR.hP hR.hD hR.hS ob tk f1 ht hin hdg W1⟩
    · cases (show none = some v' from ok)
  | aastore =>
    cases ex_beq hk
    refine ex_ast_ok (q := (pc, .aastore, 1, a1, a2, a3, ts)) hs hN hsub hR (fun t ob a N j tk cA ar y v v' x xr ok hv f1 ht f3 f4 f5 hin hj => ?_)
    rcases v with w | (_ | w) | z | w
    · cases (show none = some v' from ok)
    · cases (show none = some v' from ok)
    · have ok : (match ex_get h w with
        | some (.inl (ci, _)) => bif Nat.beq t 4 && Nat.beq ci 4 then some (ex_a (some w)) else none
        | _ => none) = some v' := ok
      split at ok
      · rename_i ci fs hget
        obtain ⟨g1, g2⟩ := ex_bifs ok
        cases g2
        obtain ⟨g1, g3⟩ := ex_and g1
        have ht0 := ex_beq g1
        subst ht0
        have hc4 := ex_beq g3
        subst hc4
        obtain ⟨a', vs, w1, w2, w3⟩ := hR.hr.obj hget
        obtain ⟨a2', ev, w4, rfl⟩ := hv
        have ea := ex_at w4 w1
        subst ea
        obtain ⟨N0, arv⟩ := ar
        cases f4
        subst hj
        obtain ⟨f, rfl⟩ : ∃ f, arv = .inr (.inr (.inr (.inr f))) := f5
        exact ⟨(N0, .inr (.inr (.inr (.inr (va_up f y.toNatClampNeg (some a2')))))), rfl, ⟨_, rfl⟩, fun i _ hi => by show va_rf (va_up f y.toNatClampNeg (some a2') i) = va_rf (f i); rw [va_up_ne _ _ hi], fun ws' hx => by show ex_vr ρ b ws' (ex_a (some w)) (va_rf (va_up f y.toNatClampNeg (some a2') y.toNatClampNeg)); rw [va_up_self]; exact (show ex_vr ρ b ws (ex_a (some w)) (.ref a2') from ⟨a2', _, w1, rfl⟩).mono hx, fun W1 => va_astq (r := (RX4, TX4, 13)) x1 x2 hR.hK hR.hP hR.hD hR.hS ob tk w 4 f1 ht w1 rfl hin hdg W1⟩
      · cases ok
    · cases (show none = some v' from ok)
    · cases (show none = some v' from ok)
  | invokestatic ix =>
    obtain ⟨e1, e3⟩ := ex_and hk
    cases ex_beq e1
    split at e3
    · exact ex_acp_ok (q := (pc, .invokestatic ix, 3, a1, a2, a3, _)) (ex_wd_ok e3) hgw.2.1.1 hgw.2.1.2.1 hgw.2.1.2.2 X rfl hdg hs hN hsub hR
    · cases e3
  | invokespecial ix =>
    obtain ⟨e1, e3⟩ := ex_and hk
    cases ex_beq e1
    split at e3
    · rename_i wi
      match st, hs, hR with
      | [], hs, hR => cases (show none = some o from hs)
      | .inl _ :: _, hs, hR => cases (show none = some o from hs)
      | .inr (.inl none) :: _, hs, hR => cases (show none = some o from hs)
      | .inr (.inr _) :: _, hs, hR => cases (show none = some o from hs)
      | .inr (.inl (some w)) :: rest, hs, hR =>
        obtain ⟨g1, g2⟩ := ex_bifs (show (bif Nat.ble (ex_len rest) 4 then ex_ft (pc, .invokespecial ix, 3, a1, a2, a3, [wi]) r en lv rest h n k1 k2 else none) = some o from hs)
        have g1 := ex_ble g1
        rw [ex_len_eq] at g1
        obtain ⟨x, xr, rfl, hvr, hr⟩ := ex_sr_cons hR.sr
        obtain ⟨a, ev, w1, rfl⟩ := hvr
        obtain ⟨lw, hl1, hl2⟩ := hR.1
        have hsum := ex_sum_le hr
        refine W.objInit x1 x2 x4 (x5 _ (ex_wd_ok e3)) (x5 _ hgw.2.2.1.1) (x5 _ hgw.2.2.1.2) rfl (by rw [x3]; exact hl1.1) rfl hdg (by omega) (by
          show 2 * (F0 m pc ls (.ref a :: xr)).monitorRoom + (xr.map fun v => v.category).sum + 12 ≤ R.locals
          have := lv_room (m := m) (pc := pc) (ls := ls) (rest := .ref a :: xr) (st := xr) (by omega)
          omega) ?_
        exact ex_ft_ok g2 hN.g hsub (hR.stk hr)
    · cases e3
  | lookupswitch df' ps =>
    obtain ⟨e1, e2⟩ := ex_and hk
    have e1 := of_decide_eq_true e1
    split at e2
    · rename_i c0 u0 c1 u1
      split at e2
      · rename_i p0 p1 hps
        obtain ⟨e2, e7⟩ := ex_and e2
        obtain ⟨e2, e6⟩ := ex_and e2
        obtain ⟨e2, e5⟩ := ex_and e2
        obtain ⟨e3, e4⟩ := ex_and e2
        have e3 := of_decide_eq_true e3
        have e4 := of_decide_eq_true e4
        have e5 := of_decide_eq_true e5
        have e6 := of_decide_eq_true e6
        have e7 := of_decide_eq_true e7
        have hp : (ps.toList.zip (ps.toList.drop 1)).all (fun (a, next) => a.1 < next.1) = true := by
          rw [hps]
          simp [e7]
        cases st with
        | nil => cases (show none = some o from hs)
        | cons v rest =>
          obtain ⟨hI, g2⟩ := ex_bifs (show (bif ex_isI v then ex_lu pr (pc, .lookupswitch df' ps, len, a1, a2, a3, [c0, u0, c1, u1]) lv v rest h n k1 k2 [c0, u0, c1, u1] en else none) = some o from hs)
          unfold ex_lu at g2
          dsimp only at g2
          split at g2
          · rename_i qa hqa
            injection g2 with g2
            subst g2
            rw [ex_app_eq, ex_app_eq, ex_map_eq, ex_map_eq] at hN
            obtain ⟨x, xr, rfl, hvr, hr⟩ := ex_sr_cons hR.sr
            obtain ⟨y, rfl⟩ := ex_vr_int hvr hI
            have hy := ex_u_int y
            have ly := ex_u_lt y
            obtain ⟨p01, p02⟩ := p0
            obtain ⟨p11, p12⟩ := p1
            dsimp only at e3 e4 e5 e6 e7
            by_cases q0 : p01 = y.toInt
            · refine lv_lookup x1 x2 hdg hp (by rw [hps, Op.lookupswitch.offset_cons, if_pos q0]) e5 ?_
              obtain ⟨e', i1, i2⟩ := ex_1_ok hR.er hvr (show c0 ≤ ex_u y by omega) (show ex_u y ≤ c0 by omega)
              exact ex_jp_ok (hN (e', _) (List.mem_append_left _ (List.mem_map.mpr ⟨e', i1, rfl⟩))) ((hR.stk hr).env i2)
            · by_cases q1 : p11 = y.toInt
              · refine lv_lookup x1 x2 hdg hp (by rw [hps, Op.lookupswitch.offset_cons, if_neg q0, Op.lookupswitch.offset_cons, if_pos q1]) e6 ?_
                obtain ⟨e', i1, i2⟩ := ex_1_ok hR.er hvr (show c1 ≤ ex_u y by omega) (show ex_u y ≤ c1 by omega)
                exact ex_jp_ok (hN (e', _) (List.mem_append_right _ (List.mem_append_left _ (List.mem_map.mpr ⟨e', i1, rfl⟩)))) ((hR.stk hr).env i2)
              · refine lv_lookup x1 x2 hdg hp (by rw [hps, Op.lookupswitch.offset_cons, if_neg q0, Op.lookupswitch.offset_cons, if_neg q1]; rfl) e1 ?_
                cases hb : Nat.beq (c0 + 1) c1 with
                | false =>
                  rw [hb] at hN
                  exact ex_jp_ok (hN (en, (ex_jp pr a1, lv, rest, h, n, k1, k2)) (List.mem_append_right _ (List.mem_append_right _ (show (en, (ex_jp pr a1, lv, rest, h, n, k1, k2)) ∈ [(en, (ex_jp pr a1, lv, rest, h, n, k1, k2))] from List.mem_singleton.mpr rfl)))) (hR.stk hr)
                | true =>
                  have hb2 := ex_beq hb
                  rw [hb] at hN
                  rcases Nat.lt_or_ge (ex_u y) c0 with z | z
                  · obtain ⟨e', i1, i2⟩ := ex_1_ok hR.er hvr (Nat.zero_le _) (show ex_u y ≤ c0 - 1 by omega)
                    exact ex_jp_ok (hN (e', _) (List.mem_append_right _ (List.mem_append_right _ (by show _ ∈ ex_app (ex_map _ _) (ex_map _ _); rw [ex_app_eq, ex_map_eq, ex_map_eq]; exact List.mem_append_left _ (List.mem_map.mpr ⟨e', i1, rfl⟩))))) ((hR.stk hr).env i2)
                  · obtain ⟨e', i1, i2⟩ := ex_1_ok hR.er hvr (show c1 + 1 ≤ ex_u y by omega) (show ex_u y ≤ 4294967295 by omega)
                    exact ex_jp_ok (hN (e', _) (List.mem_append_right _ (List.mem_append_right _ (by show _ ∈ ex_app (ex_map _ _) (ex_map _ _); rw [ex_app_eq, ex_map_eq, ex_map_eq]; exact List.mem_append_right _ (List.mem_map.mpr ⟨e', i1, rfl⟩))))) ((hR.stk hr).env i2)
          · cases g2
      · cases e2
    · cases e2
  | _ => exact absurd (show false = true from hk) (by decide)
end EXT
end
section
theorem ex_veq_ok {a b : ex_V} (h : ex_veq a b = true) : a = b := by
  rcases a with (x | x | x) | (_ | x) | x | x <;> rcases b with (y | y | y) | (_ | y) | y | y <;> first | (cases h; done) | rfl | skip
  · rw [ex_beq h]
  · rw [ex_beq h]
  · obtain ⟨h1, h2⟩ := ex_and h
    obtain ⟨x1, x2⟩ := x
    obtain ⟨y1, y2⟩ := y
    have h1 : x1 = y1 := ex_beq h1
    have h2 : x2 = y2 := ex_beq h2
    rw [h1, h2]
  · rw [ex_beq h]
  · rw [of_decide_eq_true h]
theorem ex_lq_ok {α : Type} {f : α → α → Bool} (hf : ∀ a b, f a b = true → a = b) : ∀ {l r : List α}, ex_lq f l r = true → l = r
  | [], [], _ => rfl
  | [], _ :: _, h => by cases h
  | _ :: _, [], h => by cases h
  | a :: t, b :: u, h => by
    obtain ⟨h1, h2⟩ := ex_and (show (f a b && ex_lq f t u) = true from h)
    rw [hf a b h1, ex_lq_ok hf h2]
theorem ex_pq_ok (a b : Nat × ex_V) (h : ex_pq a b = true) : a = b := by
  obtain ⟨h1, h2⟩ := ex_and h
  obtain ⟨a1, a2⟩ := a
  obtain ⟨b1, b2⟩ := b
  have h1 : a1 = b1 := ex_beq h1
  have h2 : a2 = b2 := ex_veq_ok h2
  rw [h1, h2]
theorem ex_cq_ok (a b : ex_C) (h : ex_cq a b = true) : a = b := by
  rcases a with x | x <;> rcases b with y | y <;> first | (cases h; done) | skip
  · obtain ⟨h1, h2⟩ := ex_and (show (Nat.beq x.1 y.1 && ex_lq ex_veq x.2 y.2) = true from h)
    obtain ⟨x1, x2⟩ := x
    obtain ⟨y1, y2⟩ := y
    have h1 : x1 = y1 := ex_beq h1
    have h2 : x2 = y2 := ex_lq_ok (fun _ _ => ex_veq_ok) h2
    rw [h1, h2]
  · obtain ⟨h1, h3⟩ := ex_and (show (Nat.beq x.1 y.1 && Nat.beq x.2.1 y.2.1 && ex_lq ex_pq x.2.2 y.2.2) = true from h)
    obtain ⟨h1, h2⟩ := ex_and h1
    obtain ⟨x1, x2, x3⟩ := x
    obtain ⟨y1, y2, y3⟩ := y
    have h1 : x1 = y1 := ex_beq h1
    have h2 : x2 = y2 := ex_beq h2
    have h3 : x3 = y3 := ex_lq_ok ex_pq_ok h3
    rw [h1, h2, h3]
theorem ex_hq_at : ∀ {l r : ex_H}, ex_hq l r = true → ∀ (i : Nat) (ch : List ex_C), r[i]? = some ch → ch = [] ∨ l[i]? = some ch
  | [], [], _, i, ch, h => by cases h
  | [], _ :: _, h, _, _, _ => by cases h
  | _ :: _, [], _, i, ch, h => by cases h
  | a :: t, b :: u, h, i, ch, hi => by
    obtain ⟨h1, h2⟩ := ex_and (show (ex_hb a b && ex_hq t u) = true from h)
    cases i with
    | zero =>
      cases hi
      cases b with
      | nil => exact Or.inl rfl
      | cons x y => exact Or.inr (by rw [show a = x :: y from ex_lq_ok ex_cq_ok h1]; rfl)
    | succ i =>
      rw [List.getElem?_cons_succ] at hi ⊢
      exact ex_hq_at h2 i ch hi
theorem ex_hq_ok {l r : ex_H} (h : ex_hq l r = true) {k : Nat} {c : ex_C} (hk : ex_get r k = some c) : ex_get l k = some c := by
  obtain ⟨ch, h1, h2⟩ := ex_get_at hk
  rcases ex_hq_at h _ _ h1 with rfl | h3
  · cases h2
  · exact ex_get_of h3 h2
theorem ex_eq'_ok : ∀ {l r : ex_E}, ex_eq' l r = true → ∀ (i : Nat) (q : Nat × Nat), ex_nth r i = some q → ∃ q', ex_nth l i = some q' ∧ q.1 ≤ q'.1 ∧ q'.2 ≤ q.2
  | [], [], _, i, q, h => by cases h
  | [], _ :: _, h, _, _, _ => by cases h
  | _ :: _, [], _, i, q, h => by cases h
  | a :: t, b :: u, h, i, q, hi => by
    obtain ⟨h1, h2⟩ := ex_and (show ((Nat.ble b.1 a.1 && Nat.ble a.2 b.2) && ex_eq' t u) = true from h)
    obtain ⟨h1, h3⟩ := ex_and h1
    cases i with
    | zero =>
      cases hi
      exact ⟨a, rfl, ex_ble h1, ex_ble h3⟩
    | succ i => exact ex_eq'_ok h2 i q hi
theorem ex_any_ok {α : Type} {f : α → Bool} : ∀ {l : List α}, ex_any f l = true → ∃ a ∈ l, f a = true
  | [], h => by cases h
  | a :: t, h => by
    rcases Bool.or_eq_true _ _ |>.mp (show (f a || ex_any f t) = true from h) with h | h
    · exact ⟨a, List.mem_cons_self, h⟩
    · obtain ⟨b, h1, h2⟩ := ex_any_ok h
      exact ⟨b, List.mem_cons_of_mem _ h1, h2⟩
theorem ex_every_ok {α : Type} {f : α → Bool} : ∀ {l : List α}, ex_every f l = true → ∀ a ∈ l, f a = true
  | [], _, a, ha => by cases ha
  | b :: t, h, a, ha => by
    obtain ⟨h1, h2⟩ := ex_and (show (f b && ex_every f t) = true from h)
    rcases List.mem_cons.mp ha with rfl | ha
    · exact h1
    · exact ex_every_ok h2 a ha
/-- an answer is held by one of the answers gone on with -/
theorem ex_mg_ok {bb : Bool} {l l' : List ex_A} (h : ex_mg bb l = some l') {a : ex_A} (ha : a ∈ l) : ∃ m ∈ l', (∀ (i : Nat) (q : Nat × Nat), ex_nth m.1 i = some q → ∃ q', ex_nth a.1 i = some q' ∧ q.1 ≤ q'.1 ∧ q'.2 ≤ q.2) ∧ a.2.1 = m.2.1 ∧ a.2.2.2 = m.2.2.2 ∧ ∀ (k : Nat) (c : ex_C), ex_get m.2.2.1 k = some c → ex_get a.2.2.1 k = some c := by
  unfold ex_mg at h
  rcases ex_bif (P := fun z => z = some l') h with ⟨h1, h2⟩ | ⟨h1, h2⟩
  · obtain ⟨h3, h4⟩ := ex_bifs h2
    cases h4
    obtain ⟨m, hm, hl⟩ := ex_any_ok (ex_every_ok h3 a ha)
    obtain ⟨hl, c4⟩ := ex_and hl
    obtain ⟨hl, c3⟩ := ex_and hl
    obtain ⟨c1, c2⟩ := ex_and hl
    exact ⟨m, hm, ex_eq'_ok c1, ex_lq_ok (fun _ _ => ex_veq_ok) c2, ex_beq c3, fun k c hk => ex_hq_ok c4 hk⟩
  · cases h2
    exact ⟨a, ha, fun i q hq => ⟨q, hq, Nat.le_refl _, Nat.le_refl _⟩, rfl, rfl, fun k c hk => hk⟩
theorem ex_alls_ok {f : ex_E × ex_S → Option (List (ex_E × ex_S))} : ∀ {l y : List (ex_E × ex_S)}, ex_alls f l = some y → ∀ a ∈ l, ∃ x, f a = some x ∧ ∀ z ∈ x, z ∈ y
  | [], y, h, a, ha => by cases ha
  | b :: t, y, h, a, ha => by
    have h : (match f b with
      | none => none
      | some x => (match ex_alls f t with
        | none => none
        | some y => some (ex_app x y))) = some y := h
    split at h
    · cases h
    · rename_i x hx
      split at h
      · cases h
      · rename_i y' hy
        injection h with h
        subst h
        rw [ex_app_eq]
        rcases List.mem_cons.mp ha with rfl | ha
        · exact ⟨x, hx, fun z hz => List.mem_append_left _ hz⟩
        · obtain ⟨x', h1, h2⟩ := ex_alls_ok hy a ha
          exact ⟨x', h1, fun z hz => List.mem_append_right _ (h2 z hz)⟩
theorem ex_all_ok {f : ex_E × ex_S → Option (List (ex_E × ex_S))} {l y : List (ex_E × ex_S)} (h : ex_all f l = some y) : ∀ a ∈ l, ∃ x, f a = some x ∧ ∀ z ∈ x, z ∈ y := by
  unfold ex_all at h
  split at h
  · rename_i b
    intro a ha
    cases List.mem_singleton.mp ha
    exact ⟨y, h, fun z hz => hz⟩
  · exact ex_alls_ok h
theorem ex_rets_ok {z mc ms : Nat} : ∀ {l : List (ex_E × ex_S)} {y : List ex_A}, ex_rets z mc ms l = some y → ∀ x ∈ l, ∃ a ∈ y, ex_ret z mc ms x = some a
  | [], y, h, a, ha => by cases ha
  | b :: t, y, h, a, ha => by
    have h : (match ex_ret z mc ms b with
      | none => none
      | some x => (match ex_rets z mc ms t with
        | none => none
        | some y => some (x :: y))) = some y := h
    split at h
    · cases h
    · rename_i x hx
      split at h
      · cases h
      · rename_i y' hy
        injection h with h
        subst h
        rcases List.mem_cons.mp ha with rfl | ha
        · exact ⟨x, List.mem_cons_self, hx⟩
        · obtain ⟨x', h1, h2⟩ := ex_rets_ok hy a ha
          exact ⟨x', List.mem_cons_of_mem _ h1, h2⟩
section EXJ
variable {ρ : Nat → Int32} {b : Nat} {ws : va_W}
theorem ex_sr_app : ∀ {s1 : List ex_V} {x1 : List Value}, ex_sr ρ b ws s1 x1 → ∀ {s2 : List ex_V} {x2 : List Value}, ex_sr ρ b ws s2 x2 → ex_sr ρ b ws (s1 ++ s2) (x1 ++ x2)
  | [], [], _, _, _, h => h
  | [], _ :: _, h, _, _, _ => h.elim
  | _ :: _, [], h, _, _, _ => h.elim
  | _ :: _, _ :: _, h, _, _, k => ⟨h.1, ex_sr_app h.2 k⟩
/-- the values that a call takes -/
theorem ex_take_ok : ∀ {k : Nat} {acc st as rest : List ex_V}, ex_take k acc st = some (as, rest) → ∀ {xa xs : List Value}, ex_sr ρ b ws acc xa → (∀ v ∈ acc, ex_cat v = 1) → ex_sr ρ b ws st xs → ∃ va xr, xs.take k = (xs.take k) ∧ xa.reverse.reverse = xa ∧ ex_sr ρ b ws as va ∧ ex_sr ρ b ws rest xr ∧ (∀ v ∈ as, ex_cat v = 1) ∧ va.length = k + xa.length ∧ xa.reverse ++ xs = va.reverse ++ xr
  | 0, acc, st, as, rest, h, xa, xs, h1, h2, h3 => by
    have h : some (acc, st) = some (as, rest) := h
    cases h
    exact ⟨xa, xs, rfl, List.reverse_reverse _, h1, h3, h2, by omega, rfl⟩
  | k + 1, acc, st, as, rest, h, xa, xs, h1, h2, h3 => by
    cases st with
    | nil => cases (show none = some (as, rest) from h)
    | cons v t =>
      obtain ⟨g1, g2⟩ := ex_bifs (show (bif Nat.beq (ex_cat v) 1 then ex_take k (v :: acc) t else none) = some (as, rest) from h)
      obtain ⟨x, xr, rfl, hv, hr⟩ := ex_sr_cons h3
      obtain ⟨va, xr', -, -, c1, c2, c3, c4, c5⟩ := ex_take_ok g2 (xa := x :: xa) (xs := xr) ⟨hv, h1⟩ (fun w hw => by
        rcases List.mem_cons.mp hw with rfl | hw
        · exact ex_beq g1
        · exact h2 w hw) hr
      refine ⟨va, xr', rfl, List.reverse_reverse _, c1, c2, c3, by rw [List.length_cons] at c4; omega, ?_⟩
      rw [← c5, List.reverse_cons, List.append_assoc]
      rfl
theorem ex_args_ok : ∀ {as : List ex_V} {va : List Value}, ex_sr ρ b ws as va → (∀ v ∈ as, ex_cat v = 1) → ∀ i : Nat, ex_lr ρ b ws (ex_args as i) (lv_args i va) ∧ (lg_sl va).length = va.length
  | [], [], _, _, _ => ⟨trivial, rfl⟩
  | [], _ :: _, h, _, _ => h.elim
  | _ :: _, [], h, _, _ => h.elim
  | v :: t, x :: r, h, hc, i => by
    have hx : x.category = 1 := (ex_cat_ok h.1).trans (hc v List.mem_cons_self)
    obtain ⟨i1, i2⟩ := ex_args_ok h.2 (fun w hw => hc w (List.mem_cons_of_mem _ hw)) (i + 1)
    refine ⟨?_, ?_⟩
    · show ex_lr ρ b ws ((i, v) :: ex_args t (i + 1)) ((i, x) :: lv_args (if x.category = 2 then i + 2 else i + 1) r)
      rw [if_neg (by omega)]
      exact ⟨⟨rfl, h.1⟩, i1⟩
    · show (lg_sl (x :: r)).length = r.length + 1
      unfold lg_sl at i2 ⊢
      rw [List.flatMap_cons, if_neg (by omega), List.length_append, i2]
      show 1 + r.length = _
      omega
end EXJ
end
section
theorem ex_opt_eq (o : Instr) (ho : o = .iadd ∨ o = .isub ∨ o = .imul ∨ o = .iand ∨ o = .ior ∨ o = .ixor ∨ o = .ishl ∨ o = .ishr ∨ o = .idiv ∨ o = .irem) (en : ex_E) (a b : ex_V) : ex_opt (ex_tag o) en a b = ex_op o en a b := by
  unfold ex_opt ex_op
  rcases ho with rfl | rfl | rfl | rfl | rfl | rfl | rfl | rfl | rfl | rfl <;> (cases ex_cst en a <;> cases ex_cst en b <;> rfl)
theorem ex_bin2_eq (q : ex_P) (ho : q.2.1 = .iadd ∨ q.2.1 = .isub ∨ q.2.1 = .imul ∨ q.2.1 = .iand ∨ q.2.1 = .ior ∨ q.2.1 = .ixor ∨ q.2.1 = .ishl ∨ q.2.1 = .ishr ∨ q.2.1 = .idiv ∨ q.2.1 = .irem) (r : List ex_P) (en : ex_E) (lv : ex_L) (st : List ex_V) (h : ex_H) (n cc ss : Nat) : ex_bin2 q r en lv st h n cc ss = ex_bin q r en lv st h n cc ss := by
  unfold ex_bin2 ex_bin
  split
  · rw [ex_opt_eq _ ho]
  · rfl
theorem ex_step2_eq (pr : List ex_P) (isl : Bool) (L mL : Nat) (cap : Nat × Nat) (df : Nat → List ex_V) (en : ex_E) (q : ex_P) (r : List ex_P) (lv : ex_L) (st : List ex_V) (h : ex_H) (n cc ss : Nat) : ex_step2 pr isl L mL cap df en q r lv st h n cc ss = ex_step pr isl L mL cap df en q r lv st h n cc ss := by
  obtain ⟨pc, ins, len, a1, a2, a3, ts⟩ := q
  cases ins with
  | iadd => exact ex_bin2_eq _ (Or.inl rfl) _ _ _ _ _ _ _ _
  | isub => exact ex_bin2_eq _ (Or.inr (Or.inl rfl)) _ _ _ _ _ _ _ _
  | imul => exact ex_bin2_eq _ (Or.inr (Or.inr (Or.inl rfl))) _ _ _ _ _ _ _ _
  | iand => exact ex_bin2_eq _ (Or.inr (Or.inr (Or.inr (Or.inl rfl)))) _ _ _ _ _ _ _ _
  | ior => exact ex_bin2_eq _ (Or.inr (Or.inr (Or.inr (Or.inr (Or.inl rfl))))) _ _ _ _ _ _ _ _
  | ixor => exact ex_bin2_eq _ (Or.inr (Or.inr (Or.inr (Or.inr (Or.inr (Or.inl rfl)))))) _ _ _ _ _ _ _ _
  | ishl => exact ex_bin2_eq _ (Or.inr (Or.inr (Or.inr (Or.inr (Or.inr (Or.inr (Or.inl rfl))))))) _ _ _ _ _ _ _ _
  | ishr => exact ex_bin2_eq _ (Or.inr (Or.inr (Or.inr (Or.inr (Or.inr (Or.inr (Or.inr (Or.inl rfl)))))))) _ _ _ _ _ _ _ _
  | idiv => exact ex_bin2_eq _ (Or.inr (Or.inr (Or.inr (Or.inr (Or.inr (Or.inr (Or.inr (Or.inr (Or.inl rfl))))))))) _ _ _ _ _ _ _ _
  | irem => exact ex_bin2_eq _ (Or.inr (Or.inr (Or.inr (Or.inr (Or.inr (Or.inr (Or.inr (Or.inr (Or.inr rfl))))))))) _ _ _ _ _ _ _ _
  | _ => rfl
end
section
abbrev ex_I : Type := MethodName × ByteArray × Option FieldType × Nat × Nat
noncomputable def ex_ck (mi : Nat → Option ex_I) (own : String) (q : ex_P) : Bool := match q with
  | (_, ins, len, a1, a2, a3, ts) => Nat.beq len 3 && (match mi a1, ts with
    | some I, [wi, ne] => (match ins with
      | .invokevirtual ix => ex_wd wi (Cond.methodLink own ix I.1) && Nat.beq I.2.2.2.1 0 && Nat.beq a2 (I.2.2.2.2 + 1) && (match vwCl[a3]? with
        | some rc => decide (rc.1 = I.1.cls)
        | none => false)
      | .invokestatic ix => ex_wd wi (Cond.methodLink own ix I.1) && Nat.beq I.2.2.2.1 1 && Nat.beq a2 I.2.2.2.2
      | .invokespecial ix => Nat.beq I.2.2.2.1 2 && Nat.beq a2 (I.2.2.2.2 + 1) && (bif Nat.beq ne 0 then ex_wd wi (Cond.methodLink own ix I.1) else decide (Cond.methodLinkNest own ix I.1 "HatchLights" ∈ ex_nest))
      | _ => false)
    | _, _ => false)
def ex_ek (z : Nat) (ret : Option FieldType) (q : ex_P) : Bool := match q.2.1, ret with
  | .ireturn, some .int => Nat.beq q.2.2.1 1
  | .ireturn, some .boolean => Nat.beq q.2.2.1 1 && Nat.beq z 1
  | .areturn, some (.object _) => Nat.beq q.2.2.1 1
  | .return_, none => Nat.beq q.2.2.1 1
  | _, _ => false
noncomputable def ex_qk (mi : Nat → Option ex_I) (own nm : String) (z : Nat) (ret : Option FieldType) (q : ex_P) : Bool := bif ex_end q then ex_ek z ret q else bif ex_call q then ex_ck mi own q else ex_pk own nm q
def ex_PO (mi : Nat → Option ex_I) (own nm : String) (cd : ByteArray) (z : Nat) (ret : Option FieldType) (pr : List ex_P) : Prop := ∀ q ∈ pr, decode cd q.1 = .ok (q.2.1, q.2.2.1) ∧ ex_qk mi own nm z ret q = true
def ex_MO (mi : Nat → Option ex_I) (M : ex_M) (I : ex_I) : Prop := plainName I.1.cls = true ∧ Cond.code I.1 I.2.1 M.2.1 I.2.2.1 ∈ ex_tb ∧ M.2.1 ≤ 40 ∧ Cond.initialized I.1.cls ∈ ex_tb ∧ (I.1.cls ≠ "java/lang/invoke/MethodHandle" ∧ I.1.cls ≠ "java/lang/invoke/VarHandle" ∧ (parseMethodDescriptor I.1.desc).map (fun d => d.parameters.length) = some I.2.2.2.2) ∧ ((I.2.2.2.1 = 0 → Cond.instanceMethod I.1 ∈ ex_tb ∧ Cond.selects I.1.cls I.1 I.1 ∈ ex_tb) ∧ (I.2.2.2.1 = 1 → Cond.static I.1 ∈ ex_tb) ∧ (I.2.2.2.1 = 2 → I.1.name = "<init>" ∧ Cond.instanceMethod I.1 ∈ ex_tb ∧ I.2.2.1 = none)) ∧ (I.2.2.2.2 + 1 ≤ M.2.1 ∨ (I.2.2.2.1 = 1 ∧ I.2.2.2.2 ≤ M.2.1)) ∧ (∃ q r, M.1 = q :: r ∧ q.1 = 0) ∧ ex_PO mi I.1.cls I.1.name I.2.1 M.2.2.1 I.2.2.1 M.1
def ex_Snd (mt : Nat → Option ex_M) (mi : Nat → Option ex_I) (df : Nat → List ex_V) (L : Nat) (l : Launch) (f : Nat) : Prop := ∀ (stop d : Nat) (isl : Bool) (M : ex_M) (en : ex_E) (S : ex_S) (o : List (ex_E × ex_S)), ex_run mt df L f stop d isl M en S = some o → ∀ (own nm : String) (cd : ByteArray) (ret : Option FieldType), ex_PO mi own nm cd M.2.2.1 ret M.1 → ∀ (p : Program) (e : Env) (R : Room) (s : State) (m : MethodId) (args : Array Value) (below : List Frame) (meth : Method) (c : Code) (Q : State → Prop) (D : va_G) (ρ : Nat → Int32) (b : Nat) (A : Nat → Prop) (w0 : va_W) (t0 : List (ClassId × FieldType)), ex_X p R s m args meth c ρ b L A own nm cd M.2.1 d (M.2.2.2.1, M.2.2.2.2) isl → (∀ x ∈ o, ex_G p l e R s m args below meth c Q D ρ b A M.2.1 w0 t0 M.1 x.1 x.2) → S.1 ≠ [] ∧ ex_G p l e R s m args below meth c Q D ρ b A M.2.1 w0 t0 M.1 en S
def ex_Pc (D : va_G) (ws : va_W) (tys : List (ClassId × FieldType)) (sz : Nat) (U : State) : Prop := U.heap.size = sz ∧ va_P D vwCl ws U.heap ∧ va_K D vwCl tys U ∧ va_D (fun _ => True) ws ∧ (∀ w ∈ ex_nest, va_Nw w U) ∧ va_AO "HatchLights$Scene" U
def ex_Qc (D : va_G) (ρ : Nat → Int32) (b : Nat) (ws : va_W) (tys : List (ClassId × FieldType)) (sz : Nat) (outs : List ex_A) : Array Value → State → Outcome → State → Prop := fun _ st oc t => (∃ a ∈ outs, ∃ (vo : Option Value) (ws' : va_W) (tys' : List (ClassId × FieldType)), oc = .returned vo ∧ ex_er ρ a.1 ∧ ex_sr ρ b ws' a.2.1 vo.toList ∧ ex_hr ρ b tys' ws' a.2.2.1 a.2.2.2 ∧ va_P D vwCl ws' t.heap ∧ va_K D vwCl tys' t ∧ va_D (va_A ws sz) ws' ∧ ex_xt ws ws' ∧ ∀ x ∈ tys, x ∈ tys') ∧ va_F (va_A ws sz) st t
theorem ex_zok_ok {ρ : Nat → Int32} {b : Nat} {ws : va_W} {en : ex_E} {z : Nat} {v : ex_V} {y : Int32} (he : ex_er ρ en) (hz : z = 1) (hk : ex_zok en z v = true) (hv : ex_vr ρ b ws v (.int y)) : narrow .boolean (.int y) = .int y := by
  subst hz
  have hk : (match ex_cst en v with
    | some u => Nat.beq u 2147483648 || Nat.beq u 2147483649
    | none => false) = true := hk
  split at hk
  · rename_i u hu
    have e1 := ex_cst_ok he hu hv
    have hy : y = 0 ∨ y = 1 := by
      rcases Bool.or_eq_true _ _ |>.mp hk with h1 | h1
      · exact Or.inl (ex_u_inj (by rw [e1, ex_beq h1, ex_u_0]))
      · exact Or.inr (ex_u_inj (by rw [e1, ex_beq h1]; decide))
    rcases hy with rfl | rfl <;> rfl
  · cases hk
set_option maxHeartbeats 4000000 in
theorem ex_met {mt : Nat → Option ex_M} {mi : Nat → Option ex_I} {df : Nat → List ex_V} {L : Nat} {l : Launch} {f : Nat} (hs : ex_Snd mt mi df L l f) {M : ex_M} {I : ex_I} (hMO : ex_MO mi M I) {d : Nat} {en : ex_E} {as : List ex_V} {h : ex_H} {n : Nat} {outs : List (ex_E × ex_S)} {l1 : List ex_A} (hr : ex_run mt df L f 1000000 d false M en (M.1, ex_args as 0, [], h, n, 0, 0) = some outs) (hrt : ex_rets M.2.2.1 M.2.2.2.1 M.2.2.2.2 outs = some l1)
    {ρ : Nat → Int32} {b : Nat} {D : va_G} {ws : va_W} {tys : List (ClassId × FieldType)} {va : List Value} {sz : Nat} (he : ex_er ρ en) (ha : ex_sr ρ b ws as va) (hc : ∀ v ∈ as, ex_cat v = 1) (hlen : va.length ≤ M.2.1) (hh : ex_hr ρ b tys ws h n) :
    Met l I.1 (Cond.code I.1 I.2.1 M.2.1 I.2.2.1 :: ex_tb) { frames := d + 1, cells := M.2.2.2.1, slots := M.2.2.2.2, locals := 60 * (d + 1) } (va_Pc va (ex_Pc D ws tys sz)) (ex_Qc D ρ b ws tys sz l1) M.2.2.2.1 M.2.2.2.2 (va_A ws sz) := by
  obtain ⟨m1, m2, m3, m4, m5, m6, m7, m8, m9⟩ := hMO
  refine Met.ofW (cc := I.2.1) (maxL := M.2.1) (ret := I.2.2.1) m1 rfl ?_
  intro p e s m args below meth c s₁ B hml hv
  obtain ⟨rfl, hsz, hP, hK, hD0, hNw, hAO⟩ := hv
  subst hsz
  have hts := atoms_spec (ws := Cond.code I.1 I.2.1 M.2.1 I.2.2.1 :: ex_tb) B.pre
  have X : ex_X p (headSpec (Cond.code I.1 I.2.1 M.2.1 I.2.2.1 :: ex_tb) { frames := d + 1, cells := M.2.2.2.1, slots := M.2.2.2.2, locals := 60 * (d + 1) }).room s m va.toArray meth c ρ b L (va_A ws s.heap.size) I.1.cls I.1.name I.2.1 M.2.1 d (M.2.2.2.1, M.2.2.2.2) false := ⟨B.exec, B.bytes, hml, findClass_of_methodNamed B.named, fun w hw => hts w (List.mem_cons_of_mem _ hw), fun q hq => Or.inr hq, hNw, hAO, (fun z => by cases z), (name_of_methodNamed B.named B.method).1, ⟨Nat.le_refl _, Nat.le_refl _⟩, Nat.le_refl _, Nat.le_refl _⟩
  have hG := (hs _ _ _ M en _ outs hr I.1.cls I.1.name I.2.1 I.2.2.1 m9 p e _ s m va.toArray below meth c (MQ below (ex_Qc D ρ b ws tys s.heap.size l1) va.toArray s M.2.2.2.1 M.2.2.2.2 (va_A ws s.heap.size)) D ρ b (va_A ws s.heap.size) ws tys X (fun x hx => by
    obtain ⟨a, ha', hra0⟩ := ex_rets_ok hrt x hx
    intro pc ls xs ws' tys' H locs hh0 hsub hR
    obtain ⟨q, r, e0, e1⟩ := hh0
    obtain ⟨e', sx, lv, st, h', n', c', s'⟩ := x
    have e0 : sx = q :: r := e0
    subst e0
    subst e1
    have hra : (bif Nat.ble c' M.2.2.2.1 && Nat.ble s' M.2.2.2.2 then (match q.2.1, st with
      | .ireturn, [v] => bif ex_isI v && ex_zok e' M.2.2.1 v then some ((e', [v], h', n') : ex_A) else none
      | .areturn, [v] => bif ex_isR v then some (e', [v], h', n') else none
      | .return_, [] => some (e', [], h', n')
      | _, _ => none) else none) = some a := hra0
    clear hra0
    obtain ⟨g0, g2⟩ := ex_bifs hra
    clear hra
    obtain ⟨g1, g3⟩ := ex_and g0
    clear g0
    refine W.widen (ex_ble g1) (ex_ble g3) ?_
    obtain ⟨hdq, hqk⟩ := m9 q (hsub q List.mem_cons_self)
    obtain ⟨pc, ins, len, a1, a2, a3, ts⟩ := q
    have hx10 := hR.2.2.2.2.2.2.2.2.1
    have hx11 := hR.2.2.2.2.2.2.2.2.2
    split at g2
    · rename_i v hins
      have hins : ins = .ireturn := hins
      subst hins
      obtain ⟨g4, g5⟩ := ex_bifs g2
      obtain ⟨g4, g6⟩ := ex_and g4
      injection g5 with g5
      subst g5
      obtain ⟨x, xr, rfl, hv, hr'⟩ := ex_sr_cons hR.sr
      obtain ⟨y, rfl⟩ := ex_vr_int hv g4
      have hxr := ex_sr_nil hr'
      subst hxr
      have hek : ex_ek M.2.2.1 I.2.2.1 (pc, .ireturn, len, a1, a2, a3, ts) = true := hqk
      have fin : ∀ ty : FieldType, I.2.2.1 = some ty → narrow ty (.int y) = .int y → len = 1 → W p l e (headSpec (Cond.code I.1 I.2.1 M.2.1 I.2.2.1 :: ex_tb) { frames := d + 1, cells := M.2.2.2.1, slots := M.2.2.2.2, locals := 60 * (d + 1) }).room s m va.toArray below meth c H locs M.2.2.2.1 M.2.2.2.2 (MQ below (ex_Qc D ρ b ws tys s.heap.size l1) va.toArray s M.2.2.2.1 M.2.2.2.2 (va_A ws s.heap.size)) (F0 m pc ls [.int y]) := fun ty hty hnar hl => by
        subst hl
        exact W.zret (ty := ty) B.exec B.bytes (B.returns.trans hty) hnar (fun t ht hW => ⟨⟨_, ha', some (.int y), ws', tys', rfl, hR.er, ⟨hv, trivial⟩, hR.hr, by rw [ht]; exact hR.hP, va_K.moved hW.alike hR.hK, hR.hD, hx10, hx11⟩, hR.hS.F ht⟩) hR.hS.2.2 hdq (hlocks := B.notSynchronized)
      cases hret : I.2.2.1 with
      | none => rw [hret] at hek; cases (show false = true from hek)
      | some ty =>
        rw [hret] at hek
        cases ty with
        | int => exact fin .int hret rfl (ex_beq hek)
        | boolean =>
          obtain ⟨z1, z2⟩ := ex_and (show (Nat.beq len 1 && Nat.beq M.2.2.1 1) = true from hek)
          exact fin .boolean hret (ex_zok_ok hR.er (ex_beq z2) g6 hv) (ex_beq z1)
        | _ => cases (show false = true from hek)
    · rename_i v hins
      have hins : ins = .areturn := hins
      subst hins
      obtain ⟨g4, g5⟩ := ex_bifs g2
      injection g5 with g5
      subst g5
      obtain ⟨x, xr, rfl, hv, hr'⟩ := ex_sr_cons hR.sr
      have hxr := ex_sr_nil hr'
      subst hxr
      have hek : ex_ek M.2.2.1 I.2.2.1 (pc, .areturn, len, a1, a2, a3, ts) = true := hqk
      cases hret : I.2.2.1 with
      | none => rw [hret] at hek; cases (show false = true from hek)
      | some ty =>
        rw [hret] at hek
        cases ty with
        | object C =>
          have hl : len = 1 := ex_beq hek
          subst hl
          exact W.aret (rt := .object C) B.exec B.bytes (B.returns.trans hret) (Or.inl ⟨C, rfl⟩) (ex_isR_ok hv g4) (fun t ht hW => ⟨⟨_, ha', some x, ws', tys', rfl, hR.er, ⟨hv, trivial⟩, hR.hr, by rw [ht]; exact hR.hP, va_K.moved hW.alike hR.hK, hR.hD, hx10, hx11⟩, hR.hS.F ht⟩) hR.hS.2.2 hdq (hlocks := B.notSynchronized)
        | _ => cases (show false = true from hek)
    · rename_i hins
      have hins : ins = .return_ := hins
      subst hins
      injection g2 with g5
      subst g5
      have hxr := ex_sr_nil hR.sr
      subst hxr
      have hek : ex_ek M.2.2.1 I.2.2.1 (pc, .return_, len, a1, a2, a3, ts) = true := hqk
      cases hret : I.2.2.1 with
      | none =>
        rw [hret] at hek
        have hl : len = 1 := ex_beq hek
        subst hl
        exact W.vret B.exec B.bytes (B.returns.trans hret) (fun t ht hW => ⟨⟨_, ha', none, ws', tys', rfl, hR.er, trivial, hR.hr, by rw [ht]; exact hR.hP, va_K.moved hW.alike hR.hK, hR.hD, hx10, hx11⟩, hR.hS.F ht⟩) hR.hS.2.2 hdq (hlocks := B.notSynchronized)
      | some ty => rw [hret] at hek; cases (show false = true from hek)
    · cases g2)).2
  rw [lg_entry_eq]
  obtain ⟨a1, a2⟩ := ex_args_ok ha hc 0
  have hl := lv_entry va (n := M.2.1) (by rw [a2]; exact hlen)
  obtain ⟨q, r, hq, hq0⟩ := m8
  exact hG 0 _ [] ws tys s.heap [] ⟨q, r, hq, hq0⟩ (fun q h => h) ⟨⟨_, hl, a1⟩, he, trivial, hh, hK, hP, hD0.self, va_S.rf, ex_xt.rf, fun _ h => h⟩
end
section
section EXC
variable {p : Program} {l : Launch} {e : Env} {R : Room} {s : State} {m : MethodId} {args : Array Value} {below : List Frame} {meth : Method} {c : Code} {H : Heap} {locs : List Loc} {cells slots : Nat} {Q : State → Prop}
/-- behind a call, whatever it answers -/
theorem ex_callk {pc : Nat} {ls : Array Slot} {rest st0 : List Value} {A0 A1 : Nat → Prop} {H0 : Heap} {mc ms : Nat} {free : Addr → Prop} {Qa : State → Outcome → State → Prop} (hr : va_Run p l e R s m args below meth c H locs cells slots mc ms (F0 m pc ls st0) rest Qa free) (hS : va_S A0 H0 H locs) (hA : ∀ q, q < H.size → A1 q → A0 q) (hf : ∀ q, free q → A0 q) (hQ : ∀ st oc t, Qa st oc t → va_F A1 st t)
    (kk : ∀ (vo : Option Value) (st₀ t : State) (locs1 : List Loc), st₀.heap = H → s.vm.Alike t.vm → Qa st₀ (.returned vo) t → va_S A0 H0 t.heap locs1 → W p l e R s m args below meth c t.heap locs1 (cells + mc) (slots + ms) Q (F0 m (pc + 3) ls (vo.toList ++ rest))) : W p l e R s m args below meth c H locs cells slots Q (F0 m pc ls st0) := by
  intro T hT X
  obtain ⟨v, st₀, t, T', L, h0, X', hL, e1, e2, hq, st⟩ := hr T hT X
  obtain ⟨hz, hk⟩ := hQ _ _ _ hq
  rw [h0] at hz hk
  obtain ⟨t2, a1, b1⟩ := kk v st₀ t (locs ++ L) h0 (by rw [← e2]; exact X'.warmed.alike) hq ⟨Nat.le_trans hS.1 hz, fun q h1 h2 => by rw [hk q (Nat.lt_of_lt_of_le h1 hS.1) (fun z => h2 (hA q (Nat.lt_of_lt_of_le h1 hS.1) z))]; exact hS.2.1 q h1 h2, fun q hq => by
    rcases List.mem_append.mp hq with h | h
    · exact hS.2.2 q h
    · exact hf _ (hL q h)⟩ T' e1 X'
  exact ⟨t2, st t2 a1, b1⟩
end EXC
theorem ex_good {ws : List Cond} (h : ∀ w ∈ ws, w ∈ ex_tb) : GoodIn ex_tb ws := fun w hw => ⟨h w hw, good_of_word (List.mem_filter.mp (h w hw)).2⟩
theorem ex_nest_warm {s U : State} (hW : s.WarmedH U.vm) (h : ∀ w ∈ ex_nest, va_Nw w s) : ∀ w ∈ ex_nest, va_Nw w U := by
  intro w hw
  have h1 := h w hw
  simp only [ex_nest, List.mem_cons, List.not_mem_nil, or_false] at hw
  rcases hw with rfl | rfl | rfl | rfl | rfl <;> exact va_Nw.warmM hW h1
theorem ex_nest_same {s U : State} (hW : s.vm = U.vm) (h : ∀ w ∈ ex_nest, va_Nw w s) : ∀ w ∈ ex_nest, va_Nw w U := by
  intro w hw
  have h1 := h w hw
  simp only [ex_nest, List.mem_cons, List.not_mem_nil, or_false] at hw
  rcases hw with rfl | rfl | rfl | rfl | rfl <;> exact va_Nw.same rfl hW h1
theorem ex_ck_ok {mi : Nat → Option ex_I} {own : String} {pc len a1 a2 a3 : Nat} {ins : Instr} {ts : List Nat} {I : ex_I} (hI : mi a1 = some I) (hck : ex_ck mi own (pc, ins, len, a1, a2, a3, ts) = true) : len = 3 ∧ ((∃ ix rc, ins = .invokevirtual ix ∧ Cond.methodLink own ix I.1 ∈ ex_tb ∧ I.2.2.2.1 = 0 ∧ a2 = I.2.2.2.2 + 1 ∧ vwCl[a3]? = some rc ∧ rc.1 = I.1.cls) ∨ (∃ ix, ins = .invokestatic ix ∧ Cond.methodLink own ix I.1 ∈ ex_tb ∧ I.2.2.2.1 = 1 ∧ a2 = I.2.2.2.2) ∨ (∃ ix, ins = .invokespecial ix ∧ I.2.2.2.1 = 2 ∧ a2 = I.2.2.2.2 + 1 ∧ (Cond.methodLink own ix I.1 ∈ ex_tb ∨ Cond.methodLinkNest own ix I.1 "HatchLights" ∈ ex_nest))) := by
  unfold ex_ck at hck
  obtain ⟨k0, k9⟩ := ex_and hck
  refine ⟨ex_beq k0, ?_⟩
  split at k9
  · rename_i I' wi ne hI'
    rw [hI] at hI'
    injection hI' with hI'
    subst hI'
    split at k9
    · rename_i ix
      obtain ⟨k9, k4⟩ := ex_and k9
      obtain ⟨k9, k3⟩ := ex_and k9
      obtain ⟨k1, k2⟩ := ex_and k9
      split at k4
      · rename_i rc hrc
        exact Or.inl ⟨ix, rc, rfl, ex_wd_ok k1, ex_beq k2, ex_beq k3, hrc, of_decide_eq_true k4⟩
      · cases k4
    · rename_i ix
      obtain ⟨k9, k3⟩ := ex_and k9
      obtain ⟨k1, k2⟩ := ex_and k9
      exact Or.inr (Or.inl ⟨ix, rfl, ex_wd_ok k1, ex_beq k2, ex_beq k3⟩)
    · rename_i ix
      obtain ⟨k9, k3⟩ := ex_and k9
      obtain ⟨k1, k2⟩ := ex_and k9
      refine Or.inr (Or.inr ⟨ix, rfl, ex_beq k1, ex_beq k2, ?_⟩)
      rcases ex_bif (P := fun z => z = true) k3 with ⟨z1, z2⟩ | ⟨z1, z2⟩
      · exact Or.inl (ex_wd_ok z2)
      · exact Or.inr (of_decide_eq_true z2)
    · cases k9
  · cases k9
set_option maxHeartbeats 4000000 in
set_option maxRecDepth 100000 in
theorem ex_run_ok {mt : Nat → Option ex_M} {mi : Nat → Option ex_I} {df : Nat → List ex_V} {L : Nat} {l : Launch} (hgw : ex_gw) (hgd : ex_gd df) (hmt : ∀ (j : Nat) (M : ex_M), mt j = some M → ∃ I, mi j = some I ∧ ex_MO mi M I) (f : Nat) : ex_Snd mt mi df L l f := by
  induction f with
  | zero =>
    intro stop d isl M en S o hr
    cases (show none = some o from hr)
  | succ f ih =>
    intro stop d isl M en S o hr0 own nm cd ret hPO p e R s m args below meth c Q D ρ b A w0 t0 X hG
    obtain ⟨sx, lv, st, h, n, k1, k2⟩ := S
    cases sx with
    | nil => cases (show none = some o from hr0)
    | cons q r =>
      refine ⟨List.cons_ne_nil _ _, ?_⟩
      have hr : (bif ex_end q || Nat.ble stop q.1 then some [(en, (q :: r, lv, st, h, n, k1, k2))] else
        bif ex_call q then ex_cl (ex_run mt df L f) mt stop d isl M en q r lv st h n k1 k2 else ex_sp (ex_run mt df L f) df L stop d isl M en q r lv st h n k1 k2) = some o := hr0
      clear hr0
      intro pc ls xs ws tys H locs hh0 hsub hR
      obtain ⟨q0, r0, e0, e1⟩ := hh0
      have e0 : q :: r = q0 :: r0 := e0
      injection e0 with e0 e2
      subst e0
      subst e1
      have hsub : ∀ x ∈ q :: r, x ∈ M.1 := hsub
      have hR : ex_Rl s D ρ b A M.2.1 w0 t0 en lv st h n ls xs ws tys H locs := hR
      show W p l e R s m args below meth c H locs k1 k2 Q (F0 m q.1 ls xs)
      obtain ⟨hdq, hqk⟩ := hPO q (hsub q List.mem_cons_self)
      rcases ex_bif (P := fun z => z = some o) hr with ⟨g1, g2⟩ | ⟨g1, g2⟩
      · injection g2 with g2
        subst g2
        exact hG _ (List.mem_singleton.mpr rfl) q.1 ls xs ws tys H locs ⟨q, r, rfl, rfl⟩ hsub hR
      · obtain ⟨g1e, -⟩ := Bool.or_eq_false_iff.mp g1
        have hqk : (bif ex_call q then ex_ck mi own q else ex_pk own nm q) = true := by
          unfold ex_qk at hqk
          rw [g1e] at hqk
          exact hqk
        rcases ex_bif (P := fun z => z = some o) g2 with ⟨g3, g4⟩ | ⟨g3, g4⟩
        · rw [g3] at hqk
          have hck : ex_ck mi own q = true := hqk
          unfold ex_cl at g4
          split at g4
          · cases g4
          · rename_i d'
            split at g4
            · cases g4
            · rename_i M' hM'
              obtain ⟨I, hI, hMO⟩ := hmt _ _ hM'
              split at g4
              · cases g4
              · rename_i ar har
                obtain ⟨as, rest⟩ := ar
                obtain ⟨g5, g6⟩ := ex_bifs g4
                obtain ⟨g5, c5⟩ := ex_and g5
                obtain ⟨g5, c4⟩ := ex_and g5
                obtain ⟨g5, c3⟩ := ex_and g5
                obtain ⟨c1, c2⟩ := ex_and g5
                have c1 : rest.length ≤ 4 := by have := ex_ble c1; rw [ex_len_eq] at this; exact this
                have c2 := ex_ble c2
                have c3 := ex_ble c3
                split at g6
                · cases g6
                · rename_i outs houts
                  split at g6
                  · cases g6
                  · rename_i la hla
                    split at g6
                    · cases g6
                    · rename_i lm hlm
                      obtain ⟨x1, x2, x3, x4, x5, x6, x7, x8, x9, x10, x11, x12, x13⟩ := id X
                      obtain ⟨va, xr, -, -, t1, t2, t3, t4, t5⟩ := ex_take_ok har (xa := []) (ρ := ρ) (b := b) (ws := ws) trivial (fun v hv => by cases hv) hR.sr
                      have hxs : xs = va.reverse ++ xr := t5
                      have t4 : va.length = q.2.2.2.2.1 := t4
                      obtain ⟨lw, hl1, hl2⟩ := hR.1
                      have hsum := ex_sum_le t2
                      obtain ⟨o1, o2, o3, o4, o5, ⟨o6a, o6b, o6c⟩, o7, o8, o9⟩ := id hMO
                      -- behind the call
                      have kk : ∀ (vo : Option Value) (st₀ t : State) (locs1 : List Loc), st₀.heap = H → s.vm.Alike t.vm → ex_Qc D ρ b ws tys H.size la va.toArray st₀ (.returned vo) t → va_S A s.heap t.heap locs1 → W p l e R s m args below meth c t.heap locs1 (k1 + M'.2.2.2.1) (k2 + M'.2.2.2.2) Q (F0 m (q.1 + 3) ls (vo.toList ++ xr)) := by
                        intro vo st₀ t locs1 hst0 hvm hq hS1
                        obtain ⟨⟨a, ha, vo', ws', tys', ho, f1, f2, f3, f4, f5, f6, f7, f8⟩, -⟩ := hq
                        injection ho with ho
                        subst ho
                        obtain ⟨mm, hmm, j1, j2, j3, j4⟩ := ex_mg_ok hlm ha
                        obtain ⟨ox, hox1, hox2⟩ := ex_all_ok g6 (ex_bk r lv rest (k1 + M'.2.2.2.1) (k2 + M'.2.2.2.2) mm) (by rw [ex_map_eq]; exact List.mem_map.mpr ⟨mm, hmm, rfl⟩)
                        have hG1 := (ih stop (d' + 1) isl M _ _ ox hox1 own nm cd ret hPO p e R s m args below meth c Q D ρ b A w0 t0 X (fun x hx => hG x (hox2 x hx))).2
                        cases r with
                        | nil => cases (show false = true from c4)
                        | cons q' r' =>
                          refine hG1 (q.1 + 3) ls (vo.toList ++ xr) ws' tys' t.heap locs1 ⟨q', r', rfl, ex_beq c4⟩ (fun x hx => hsub x (List.mem_cons_of_mem _ hx)) ⟨⟨lw, hl1, hl2.mono f7⟩, ?_, ?_, ?_, va_K.moved hvm.symm f5, f4, f6.weaken (fun k x hk hx => ?_), hS1, hR.2.2.2.2.2.2.2.2.1.tr f7, fun x hx => f8 x (hR.2.2.2.2.2.2.2.2.2 x hx)⟩
                          · intro i z hz
                            obtain ⟨z', z1, z2, z3⟩ := j1 i z hz
                            have := f1 i z' z1
                            omega
                          · show ex_sr ρ b ws' (ex_app mm.2.1 rest) (vo.toList ++ xr)
                            rw [ex_app_eq, ← j2]
                            exact ex_sr_app f2 (t2.mono f7)
                          · show ex_hr ρ b tys' ws' mm.2.2.1 mm.2.2.2
                            exact ⟨f3.1.trans j3, fun k cc hk => f3.2 k cc (j4 k cc hk)⟩
                          · rcases hx with ⟨k', ev, hk'⟩ | hx
                            · exact hR.hD.2 k' (x.1, ev) hk'
                            · exact x6 _ (Nat.le_trans hR.hS.1 hx)
                      have hFa : ∀ z, va_A ws H.size z → A z := fun z hz => by
                        rcases hz with ⟨k', ev, hk'⟩ | hz
                        · exact hR.hD.2 k' (z, ev) hk'
                        · exact x6 _ (Nat.le_trans hR.hS.1 hz)
                      have hQF : ∀ st oc t, ex_Qc D ρ b ws tys H.size la va.toArray st oc t → va_F (va_A ws H.size) st t := fun _ _ _ hq => hq.2
                      have hfin : va.length ≤ M'.2.1 → ∀ rr, va_Run p l e R s m args below meth c H locs k1 k2 M'.2.2.2.1 M'.2.2.2.2 (F0 m q.1 ls xs) xr (ex_Qc D ρ b ws tys H.size la va.toArray) rr → (∀ z, rr z → A z) → W p l e R s m args below meth c H locs k1 k2 Q (F0 m q.1 ls xs) := fun _ rr hrun hrr => ex_callk hrun hR.hS (fun z _ hz => hFa z hz) hrr hQF kk
                      have hblind : FrameBlind (va_Pc va (ex_Pc D ws tys H.size)) := fun a U g mk qq => by
                        obtain ⟨q0, q1, qP, qK, qD, qN, qA⟩ := qq
                        exact ⟨q0, q1, qP, va_K.moved (u := U) (U := U.calling g mk a) (Vm.Alike.refl U.vm) qK, qD, ex_nest_same (s := U) (U := U.calling g mk a) rfl qN, va_AO.moved (U := U.calling g mk a) (Vm.Alike.refl U.vm) qA⟩
                      have hpre : ∀ U : State, U.heap = H → s.WarmedH U.vm → va_Pc va (ex_Pc D ws tys H.size) va.toArray U := fun U hU hW => ⟨rfl, by rw [hU], by rw [hU]; exact hR.hP, va_K.moved hW.alike hR.hK, hR.hD.weaken (fun _ _ _ _ => trivial), ex_nest_warm hW x7, va_AO.moved hW.alike x8⟩
                      have hroom : ({ frames := d' + 1, cells := M'.2.2.2.1, slots := M'.2.2.2.2, locals := 60 * (d' + 1) } : Room).frames + 1 ≤ R.frames ∧ 8 + (M'.2.1 + 11) + ({ frames := d' + 1, cells := M'.2.2.2.1, slots := M'.2.2.2.2, locals := 60 * (d' + 1) } : Room).locals ≤ R.locals := ⟨x12, by
                        show 8 + (M'.2.1 + 11) + 60 * (d' + 1) ≤ R.locals
                        omega⟩
                      have hcap : k1 + M'.2.2.2.1 ≤ R.cells ∧ k2 + M'.2.2.2.2 ≤ R.slots := ⟨Nat.le_trans c2 x11.1, Nat.le_trans c3 x11.2⟩
                      have hsub8 : 2 * (F0 m q.1 ls xs).monitorRoom + (xr.map fun v => v.category).sum ≤ 8 := lv_room (st := xr) (by omega)
                      have hcode : ∀ w ∈ (Cond.code I.1 I.2.1 M'.2.1 I.2.2.1 :: ex_tb), w ∈ ex_tb := fun w hw => by
                        rcases List.mem_cons.mp hw with rfl | hw
                        · exact o2
                        · exact hw
                      have fix : CallFix p m c cd M.2.1 s args ex_tb own := ⟨x1, x2, x3, x4, x5⟩
                      obtain ⟨pc, ins, len, a1, a2, a3, ts⟩ := q
                      obtain ⟨hlen3, hcs⟩ := ex_ck_ok hI hck
                      subst hlen3
                      rcases hcs with ⟨ix, rc, rfl, k1', k2', k3, hrc, k4⟩ | ⟨ix, rfl, k1', k2', k3⟩ | ⟨ix, rfl, k2', k3, k1'⟩
                      · match as, va, t1, t3, c5, t4, hxs, hfin, hblind, hpre, houts with
                        | .inr (.inl (some ob)) :: as', va, t1, t3, c5, t4, hxs, hfin, hblind, hpre, houts =>
                          obtain ⟨x, va', rfl, hv, hr'⟩ := ex_sr_cons t1
                          obtain ⟨a, ev, hw, rfl⟩ := hv
                          unfold ex_rcv at c5
                          dsimp only at c5
                          split at c5
                          · rename_i oc hoc
                            have c5 := ex_beq c5
                            obtain ⟨a', vs, y1, y2, y3⟩ := hR.hr.obj hoc
                            have ea := ex_at hw y1
                            subst ea
                            rw [c5] at y1
                            have t4 : va'.length + 1 = a2 := t4
                            have hlv : (Value.ref a :: va').length ≤ M'.2.1 := by
                              show va'.length + 1 ≤ _
                              rcases o7 with z | z <;> omega
                            have hM := ex_met ih hMO houts hla (D := D) (sz := H.size) hR.er t1 t3 hlv hR.hr
                            refine hfin hlv _ (va_runV (As := va') (b := a) (C := I.1.cls) fix hM (cwV I.2.2.2.2 x5 (ex_good (fun w hw => ?_)) rfl rfl rfl ⟨rfl, o5⟩ hroom) ⟨hblind, ?_, hpre⟩ rfl ?_ hl1.1 ?_ hsub8 hdq hcap) hFa
                            · simp only [wsV, List.mem_append, List.mem_cons, List.not_mem_nil, or_false] at hw
                              rcases hw with (rfl | rfl | rfl | rfl) | rfl | hw
                              · exact k1'
                              · exact (o6a k2').1
                              · exact (o6a k2').2
                              · exact o4
                              · exact o2
                              · exact hw
                            · rw [← k4]
                              exact va_recv hR.hK hR.hP hrc y1
                            · show va'.length = I.2.2.2.2
                              omega
                            · show xs = va'.reverse ++ .ref a :: xr
                              rw [hxs, List.reverse_cons, List.append_assoc]
                              rfl
                          · cases c5
                        | [], va, t1, t3, c5, t4, hxs, hfin, hblind, hpre, houts => cases c5
                        | .inl _ :: _, va, t1, t3, c5, t4, hxs, hfin, hblind, hpre, houts => cases c5
                        | .inr (.inl none) :: _, va, t1, t3, c5, t4, hxs, hfin, hblind, hpre, houts => cases c5
                        | .inr (.inr _) :: _, va, t1, t3, c5, t4, hxs, hfin, hblind, hpre, houts => cases c5
                      · have t4 : va.length = a2 := t4
                        have hlv : va.length ≤ M'.2.1 := by rcases o7 with z | z <;> omega
                        have hM := ex_met ih hMO houts hla (D := D) (sz := H.size) hR.er t1 t3 hlv hR.hr
                        refine hfin hlv _ (va_runS (As := va) fix hM (va_cwS I.2.2.2.2 x5 (ex_good (fun w hw => ?_)) rfl rfl rfl o5 hroom) ⟨hblind, hpre⟩ rfl (by omega) hl1.1 hxs hsub8 hdq hcap) hFa
                        simp only [va_wsS, List.mem_append, List.mem_cons, List.not_mem_nil, or_false] at hw
                        rcases hw with (rfl | rfl | rfl) | rfl | hw
                        · exact k1'
                        · exact o6b k2'
                        · exact o4
                        · exact o2
                        · exact hw
                      · obtain ⟨z1, z2, z3⟩ := o6c k2'
                        match as, va, t1, t3, c5, t4, hxs, hfin, hblind, hpre, houts with
                        | .inr (.inl (some ob)) :: as', va, t1, t3, c5, t4, hxs, hfin, hblind, hpre, houts =>
                          obtain ⟨x, va', rfl, hv, hr'⟩ := ex_sr_cons t1
                          obtain ⟨a, ev, hw, rfl⟩ := hv
                          have t4 : va'.length + 1 = a2 := t4
                          have hlv : (Value.ref a :: va').length ≤ M'.2.1 := by
                            show va'.length + 1 ≤ _
                            rcases o7 with z | z <;> omega
                          have hM := ex_met ih hMO houts hla (D := D) (sz := H.size) hR.er t1 t3 hlv hR.hr
                          have hcode' := hcode
                          rw [z3] at hM hcode'
                          have hstk : (F0 m pc ls xs).stack = va'.reverse ++ .ref a :: xr := by
                            show xs = va'.reverse ++ .ref a :: xr
                            rw [hxs, List.reverse_cons, List.append_assoc]
                            rfl
                          rcases k1' with k1' | k1'
                          · exact hfin hlv _ (va_runI (As := va') (b := a) fix hM (cwI I.2.2.2.2 x5 (ex_good hcode') rfl rfl rfl (x5 _ o4) (x5 _ k1') (x5 _ z2) z1 o5 hroom) ⟨hblind, hpre⟩ rfl (by omega) hl1.1 hstk hsub8 hdq hcap) hFa
                          · exact hfin hlv _ (va_runIN (As := va') (b := a) fix hM ⟨va_cnB I.2.2.2.2 x5 (ex_good hcode') rfl rfl rfl (x7 _ k1') (x5 _ o4) o5 hroom, z1, x5 _ z2⟩ ⟨hblind, hpre⟩ rfl (by omega) hl1.1 hstk hsub8 hdq hcap) hFa
                        | [], va, t1, t3, c5, t4, hxs, hfin, hblind, hpre, houts => cases c5
                        | .inl _ :: _, va, t1, t3, c5, t4, hxs, hfin, hblind, hpre, houts => cases c5
                        | .inr (.inl none) :: _, va, t1, t3, c5, t4, hxs, hfin, hblind, hpre, houts => cases c5
                        | .inr (.inr _) :: _, va, t1, t3, c5, t4, hxs, hfin, hblind, hpre, houts => cases c5
        · rw [g3] at hqk
          unfold ex_sp at g4
          split at g4
          · cases g4
          · rename_i lx hlx
            rw [ex_step2_eq] at hlx
            exact ex_step_ok hgw hgd X hqk hdq hlx (fun x hx => by
              obtain ⟨ox, h1, h2⟩ := ex_all_ok g4 x hx
              exact ih stop d isl M _ _ ox h1 own nm cd ret hPO p e R s m args below meth c Q D ρ b A w0 t0 X (fun y hy => hG y (h2 y hy))) hsub hR
end
section
/-! what each instruction is held against -/
noncomputable def ty_every {α : Type} (f : α → Bool) (l : List α) : Bool := List.rec (motive := fun _ => Bool) true (fun a _ ih => f a && ih) l
theorem ty_every_t {α : Type} {f : α → Bool} : ∀ {l : List α}, ty_every f l = true → ∀ a ∈ l, f a = true
  | [], _, a, ha => by cases ha
  | x :: t, h, a, ha => by
    obtain ⟨h1, h2⟩ := ex_and (show (f x && ty_every f t) = true from h)
    rcases List.mem_cons.mp ha with rfl | ha
    · exact h1
    · exact ty_every_t h2 a ha
noncomputable def ty_prs (l : List Nat) : List (Nat × Nat) := match l with
  | [a, b] => [(a, b)]
  | [a, b, c, d] => [(a, b), (c, d)]
  | [a, b, c, d, e, f, g, h, i, j, k, m] => [(a, b), (c, d), (e, f), (g, h), (i, j), (k, m)]
  | _ => []
def ty_tk (ty : Nat) (d : String) : Bool := match parseFieldDescriptor d with
  | some .long => Nat.beq ty 3
  | _ => ex_tk ty d
noncomputable def ty_wm (own : String) (ix : Nat) (ts : List Nat) (y : MethodName) : Bool := match ts with
  | [wi] => ex_wd wi (Cond.methodLink own ix y)
  | _ => false
theorem ty_wm_ok {own : String} {ix : Nat} {ts : List Nat} {y : MethodName} (h : ty_wm own ix ts y = true) : Cond.methodLink own ix y ∈ ex_tb := by
  unfold ty_wm at h
  split at h
  · exact ex_wd_ok h
  · cases h
/-- the two texts: where they are named -/
def ty_sk (n : Nat) : String × Nat := bif Nat.beq n 0 then ("HatchLights$Tokens", 59) else ("HatchLights$Tokens", 73)
noncomputable def ty_wf (own : String) (ix : Nat) (ts : List Nat) (C n d : String) : Bool := match ts with
  | [wi] => ex_wd wi (Cond.fieldLink own ix C n d)
  | _ => false
theorem ty_wf_ok {own : String} {ix : Nat} {ts : List Nat} {C n d : String} (h : ty_wf own ix ts C n d = true) : Cond.fieldLink own ix C n d ∈ ex_tb := by
  unfold ty_wf at h
  split at h
  · exact ex_wd_ok h
  · cases h
noncomputable def ty_pk (own nm : String) (q : ex_P) : Bool := match q with
  | (pc, ins, len, a1, a2, a3, ts) => (match ins with
    | .ldc2_w i => Nat.beq len 3 && decide ((Int64.ofNat a1).toInt = (a1 : Int)) && ex_wd a2 (Cond.constantLong own i (Int64.ofNat a1))
    | .lconst k => Nat.beq len 1 && Nat.beq k.val a1 && decide ((Int64.ofNat a1).toInt = (a1 : Int))
    | .lload_n k => Nat.beq len 1 && Nat.beq k.val a1
    | .lload k => Nat.beq len 2 && Nat.beq k a1
    | .lstore_n k => Nat.beq len 1 && Nat.beq k.val a1
    | .lstore k => Nat.beq len 2 && Nat.beq k a1
    | .iushr => Nat.beq len 1
    | .i2c => Nat.beq len 1
    | .i2l => Nat.beq len 1
    | .l2i => Nat.beq len 1
    | .ladd => Nat.beq len 1
    | .lmul => Nat.beq len 1
    | .lor => Nat.beq len 1
    | .lshl => Nat.beq len 1
    | .lcmp => Nat.beq len 1
    | .laload => Nat.beq len 1
    | .lookupswitch df ps => decide ((pc : Int) + df = (a1 : Int)) && decide (ps.toList.map (fun z => (z.1 + 2147483648, (pc : Int) + z.2)) = (ty_prs ts).map (fun t => ((t.1 : Int), (t.2 : Int)))) && (ps.toList.zip (ps.toList.drop 1)).all (fun (a, next) => a.1 < next.1)
    | .putfield ix => Nat.beq len 3 && (match vwCl[a1]?, ts with
      | some rc, [wi] => Nat.blt a2 rc.2.2 && ex_wd wi (Cond.fieldLink own ix (rc.2.1 a2).1 (rc.2.1 a2).2.1 (rc.2.1 a2).2.2.1) && !(rc.2.1 a2).2.2.2 && ty_tk a3 (rc.2.1 a2).2.2.1
      | _, _ => false)
    | .ldc i => bif Nat.beq a3 9 then Nat.beq len 2 && decide (ty_sk a1 = (own, i)) else ex_pk own nm (pc, ins, len, a1, a2, a3, ts)
    | .getfield ix => bif Nat.beq a1 99 then Nat.beq len 3 && (bif Nat.beq a2 0 then ty_wf own ix ts "java/lang/String" "value" "[B" else ty_wf own ix ts "java/lang/String" "coder" "B") else ex_pk own nm (pc, ins, len, a1, a2, a3, ts)
    | .getstatic ix => Nat.beq len 3 && (bif Nat.beq a1 0 then ty_wf own ix ts "java/lang/String" "COMPACT_STRINGS" "Z" else ty_wf own ix ts "jdk/internal/util/Preconditions" "SIOOBE_FORMATTER" "Ljava/util/function/BiFunction;")
    | .invokestatic ix => bif Nat.beq a3 2 then Nat.beq len 3 && ty_wm own ix ts Lib.Math.max.name else bif Nat.beq a3 3 then Nat.beq len 3 && ty_wm own ix ts Lib.Math.min.name else ex_pk own nm (pc, ins, len, a1, a2, a3, ts)
    | _ => ex_pk own nm (pc, ins, len, a1, a2, a3, ts))
def ty_call (q : ex_P) : Bool := match q.2.1 with
  | .invokestatic _ => Nat.beq q.2.2.2.2.2.1 0
  | .invokevirtual _ => true
  | _ => false
def ty_end (q : ex_P) : Bool := match q.2.1 with
  | .ireturn => true
  | .areturn => true
  | .lreturn => true
  | .return_ => true
  | _ => false
def ty_ek (z : Nat) (ret : Option FieldType) (q : ex_P) : Bool := match q.2.1, ret with
  | .ireturn, some .char => Nat.beq q.2.2.1 1 && Nat.beq z 2
  | .ireturn, some .byte => Nat.beq q.2.2.1 1 && Nat.beq z 3
  | .lreturn, some .long => Nat.beq q.2.2.1 1
  | _, _ => ex_ek z ret q
/-- calls; a text's own methods have the number 99 for their class -/
noncomputable def ty_ck (mi : Nat → Option ex_I) (own : String) (q : ex_P) : Bool := bif Nat.beq q.2.2.2.2.2.1 99 then Nat.beq q.2.2.1 3 && (match mi q.2.2.2.1, q.2.2.2.2.2.2, q.2.1 with
  | some I, [wi, _], .invokevirtual ix => ex_wd wi (Cond.methodLink own ix I.1) && (Nat.beq I.2.2.2.1 0 && (Nat.beq q.2.2.2.2.1 (I.2.2.2.2 + 1) && decide (I.1.cls = "java/lang/String")))
  | _, _, _ => false) else ex_ck mi own q
theorem ty_ck_ok {mi : Nat → Option ex_I} {own : String} {q : ex_P} {I : ex_I} (hI : mi q.2.2.2.1 = some I) (hck : ty_ck mi own q = true) : (q.2.2.2.2.2.1 = 99 ∧ q.2.2.1 = 3 ∧ ∃ ix, q.2.1 = .invokevirtual ix ∧ Cond.methodLink own ix I.1 ∈ ex_tb ∧ I.2.2.2.1 = 0 ∧ q.2.2.2.2.1 = I.2.2.2.2 + 1 ∧ I.1.cls = "java/lang/String") ∨ (q.2.2.2.2.2.1 ≠ 99 ∧ ex_ck mi own q = true) := by
  rcases ex_bif (P := fun z => z = true) hck with ⟨h1, h2⟩ | ⟨h1, h2⟩
  · obtain ⟨h2, h3⟩ := ex_and h2
    split at h3
    · rename_i I' wi ne ix hI' _ hin
      rw [hI] at hI'
      injection hI' with hI'
      subst hI'
      obtain ⟨g1, h3⟩ := ex_and h3
      obtain ⟨g2, h3⟩ := ex_and h3
      obtain ⟨g3, g4⟩ := ex_and h3
      exact Or.inl ⟨ex_beq h1, ex_beq h2, ix, hin, ex_wd_ok g1, ex_beq g2, ex_beq g3, of_decide_eq_true g4⟩
    · cases h3
  · exact Or.inr ⟨ex_bne h1, h2⟩
noncomputable def ty_qk (mi : Nat → Option ex_I) (own nm : String) (z : Nat) (ret : Option FieldType) (q : ex_P) : Bool := bif ty_end q then ty_ek z ret q else bif ty_call q then ty_ck mi own q else ty_pk own nm q
def ty_PO (mi : Nat → Option ex_I) (own nm : String) (cd : ByteArray) (z : Nat) (ret : Option FieldType) (pr : List ex_P) : Prop := ∀ q ∈ pr, decode cd q.1 = .ok (q.2.1, q.2.2.1) ∧ ty_qk mi own nm z ret q = true
def ty_MS (I : ex_I) (nL : Nat) : Prop := plainName I.1.cls = true ∧ Cond.code I.1 I.2.1 nL I.2.2.1 ∈ ex_tb ∧ nL ≤ 40 ∧ Cond.initialized I.1.cls ∈ ex_tb ∧ (I.1.cls ≠ "java/lang/invoke/MethodHandle" ∧ I.1.cls ≠ "java/lang/invoke/VarHandle" ∧ (parseMethodDescriptor I.1.desc).map (fun d => d.parameters.length) = some I.2.2.2.2) ∧ ((I.2.2.2.1 = 0 → Cond.instanceMethod I.1 ∈ ex_tb ∧ Cond.selects I.1.cls I.1 I.1 ∈ ex_tb) ∧ (I.2.2.2.1 = 1 → Cond.static I.1 ∈ ex_tb))
def ty_MO (mi : Nat → Option ex_I) (M : ex_M) (I : ex_I) : Prop := ty_MS I M.2.1 ∧ (∃ q r, M.1 = q :: r ∧ q.1 = 0) ∧ ty_PO mi I.1.cls I.1.name I.2.1 M.2.2.1 I.2.2.1 M.1
end
section
/-! A checker: states with ints as linear terms over named ints, ranges, side conditions (terms that are 0 at most), what is known of cells; cells are of kinds, and each kind's fields and rows keep to their ranges at every time. -/
abbrev ty_t : Type := Int × List (Nat × Int)
abbrev ty_E : Type := Nat × List (Nat × Int × Int) × List ty_t
abbrev ty_V : Type := (ty_t ⊕ ty_t) ⊕ ((Nat × ty_t) ⊕ ((ty_t × ty_t) ⊕ (Nat ⊕ Unit)))
abbrev ty_L : Type := List (Nat × ty_V)
abbrev ty_K : Type := List (Nat × ty_t × ty_t × ty_V)
abbrev ty_S : Type := List ex_P × ty_L × List ty_V × ty_K
abbrev ty_F : Type := (Int × Int) ⊕ (Unit ⊕ Nat)
abbrev ty_C : Type := (Nat × List ty_F) ⊕ (Nat × Nat × ty_F)
abbrev ty_M : Type := List (Nat × Option Nat)
abbrev ty_i (t : ty_t) : ty_V := .inl (.inl t)
abbrev ty_j (t : ty_t) : ty_V := .inl (.inr t)
abbrev ty_r (k : Nat) (t : ty_t) : ty_V := .inr (.inl (k, t))
abbrev ty_c (s t : ty_t) : ty_V := .inr (.inr (.inl (s, t)))
abbrev ty_x (n : Nat) : ty_V := .inr (.inr (.inr (.inl n)))
abbrev ty_z : ty_V := .inr (.inr (.inr (.inr ())))
def ty_nn (x : Int) : Bool := match x with
  | .ofNat _ => true
  | .negSucc _ => false
def ty_le (x y : Int) : Bool := ty_nn (y - x)
def ty_0 (x : Int) : Bool := match x with
  | .ofNat n => Nat.beq n 0
  | .negSucc _ => false
/-- a number is worked out before it is handed on -/
noncomputable def ty_fc {α : Type} (x : Int) (f : Int → α) : α := match x with
  | .ofNat n => Nat.rec (motive := fun _ => α) (f (.ofNat 0)) (fun m _ => f (.ofNat (m + 1))) n
  | .negSucc n => Nat.rec (motive := fun _ => α) (f (.negSucc 0)) (fun m _ => f (.negSucc (m + 1))) n
abbrev ty_k (c : Int) : ty_t := (c, [])
abbrev ty_s (i : Nat) : ty_t := (0, [(i, 1)])
noncomputable def ty_ins (i : Nat) (a : Int) (l : List (Nat × Int)) : List (Nat × Int) := List.rec (motive := fun _ => List (Nat × Int)) [(i, a)] (fun q t ih => bif Nat.beq q.1 i then ty_fc (q.2 + a) (fun b => bif ty_0 b then t else (i, b) :: t) else q :: ih) l
noncomputable def ty_adl (k : Int) (l r : List (Nat × Int)) : List (Nat × Int) := List.rec (motive := fun _ => List (Nat × Int)) l (fun q _ ih => ty_ins q.1 (k * q.2) ih) r
/-- t + k u -/
noncomputable def ty_add (t u : ty_t) (k : Int) : ty_t := ty_fc (t.1 + k * u.1) (fun c => (c, ty_adl k t.2 u.2))
noncomputable def ty_pl (t : ty_t) (c : Int) : ty_t := ty_fc (t.1 + c) (fun d => (d, t.2))
noncomputable def ty_iv (l : List (Nat × Int × Int)) (i : Nat) : Int × Int := List.rec (motive := fun _ => Int × Int) (-9223372036854775808, 9223372036854775807) (fun q _ ih => bif Nat.beq q.1 i then q.2 else ih) l
noncomputable def ty_hi (e : ty_E) (t : ty_t) : Int := List.rec (motive := fun _ => Int) t.1 (fun q _ ih => ih + (bif ty_nn q.2 then q.2 * (ty_iv e.2.1 q.1).2 else q.2 * (ty_iv e.2.1 q.1).1)) t.2
noncomputable def ty_lo (e : ty_E) (t : ty_t) : Int := List.rec (motive := fun _ => Int) t.1 (fun q _ ih => ih + (bif ty_nn q.2 then q.2 * (ty_iv e.2.1 q.1).1 else q.2 * (ty_iv e.2.1 q.1).2)) t.2
/-- a side condition that can help: an int of it stands in the term with the same sign -/
noncomputable def ty_sh (t c : List (Nat × Int)) : Bool := ex_any (fun q => ex_any (fun r => Nat.beq q.1 r.1 && (bif ty_nn q.2 then ty_nn r.2 else !(ty_nn r.2))) c) t
noncomputable def ty_e1 (e : ty_E) (u : ty_t) : Bool := ty_nn (-(ty_hi e u)) || ex_any (fun c => ty_sh u.2 c.2 && ty_nn (-(ty_hi e (ty_add u c (-1))))) e.2.2
/-- a term is 0 at most: by its range, or with one or two side conditions taken off -/
noncomputable def ty_ent (e : ty_E) (t : ty_t) : Bool := ty_nn (-(ty_hi e t)) || ex_any (fun c => ty_sh t.2 c.2 && ty_e1 e (ty_add t c (-1))) e.2.2
noncomputable def ty_in (e : ty_E) (t : ty_t) (l h : Int) : Bool := ty_ent e (ty_add (ty_k l) t (-1)) && ty_ent e (ty_pl t (-h))
def ty_two (l : List (Nat × Int)) : Bool := match l with
  | _ :: _ :: _ => true
  | _ => false
/-- ranges narrowed: w is what they were, L the least that the term may be -/
noncomputable def ty_nar (w : List (Nat × Int × Int)) (L : Int) (l : List (Nat × Int)) : Option (List (Nat × Int × Int)) := List.rec (motive := fun _ => Option (List (Nat × Int × Int))) (some w) (fun q _ ih => match ih with
  | none => none
  | some v => bif ty_le 1 q.2 then ty_fc ((ty_iv w q.1).1 + (-L) / q.2) (fun h => bif ty_le h ((ty_iv v q.1).2) then (bif ty_le (ty_iv v q.1).1 h then some ((q.1, (ty_iv v q.1).1, h) :: v) else none) else some v)
    else bif ty_le q.2 (-1) then ty_fc ((ty_iv w q.1).2 - (-L) / (-q.2)) (fun l' => bif ty_le ((ty_iv v q.1).1) l' then (bif ty_le l' (ty_iv v q.1).2 then some ((q.1, l', (ty_iv v q.1).2) :: v) else none) else some v)
    else some v) l
/-- d is 0 at most from here on; none: it can't be -/
noncomputable def ty_rf (e : ty_E) (d : ty_t) : Option ty_E := ty_fc (ty_lo e d) (fun L => bif ty_le 1 L then none else bif ty_nn (-(ty_hi e d)) then some e else bif ty_ent e (ty_add (ty_k 1) d (-1)) then none else (match ty_nar e.2.1 L d.2 with
  | none => none
  | some v => some (e.1, v, bif ty_two d.2 then d :: e.2.2 else e.2.2)))
noncomputable def ty_rl (e : ty_E) (d : ty_t) : List ty_E := match ty_rf e d with
  | none => []
  | some e' => [e']
noncomputable def ty_rl2 (e : ty_E) (d d' : ty_t) : List ty_E := match ty_rf e d with
  | none => []
  | some e' => ty_rl e' d'
/-- what follows where a compare is so, and where it is not -/
noncomputable def ty_br (c : ClassFile.Cond) (e : ty_E) (a b : ty_t) : List ty_E × List ty_E := match c with
  | .lt => (ty_rl e (ty_pl (ty_add a b (-1)) 1), ty_rl e (ty_add b a (-1)))
  | .ge => (ty_rl e (ty_add b a (-1)), ty_rl e (ty_pl (ty_add a b (-1)) 1))
  | .gt => (ty_rl e (ty_pl (ty_add b a (-1)) 1), ty_rl e (ty_add a b (-1)))
  | .le => (ty_rl e (ty_add a b (-1)), ty_rl e (ty_pl (ty_add b a (-1)) 1))
  | .eq => (ty_rl2 e (ty_add a b (-1)) (ty_add b a (-1)), ex_app (ty_rl e (ty_pl (ty_add a b (-1)) 1)) (ty_rl e (ty_pl (ty_add b a (-1)) 1)))
  | .ne => (ex_app (ty_rl e (ty_pl (ty_add a b (-1)) 1)) (ty_rl e (ty_pl (ty_add b a (-1)) 1)), ty_rl2 e (ty_add a b (-1)) (ty_add b a (-1)))
/-- side conditions held against the ranges once more -/
noncomputable def ty_prop (cs : List ty_t) (e : ty_E) : Option ty_E := List.rec (motive := fun _ => ty_E → Option ty_E) (fun e => some e) (fun c _ ih e => bif ty_le 1 (ty_lo e c) then none else bif ty_nn (-(ty_hi e c)) then ih e else (match ty_nar e.2.1 (ty_lo e c) c.2 with
  | none => none
  | some v => ih (e.1, v, e.2.2))) cs e
/-- a new named int -/
noncomputable def ty_fr (e : ty_E) (l h : Int) (cs : List ty_t) : ty_E := ty_fc l (fun l => ty_fc h (fun h => (e.1 + 1, (e.1, l, h) :: e.2.1, ex_app cs e.2.2)))
abbrev ty_MIN : Int := -2147483648
abbrev ty_MAX : Int := 2147483647
noncomputable def ty_full (e : ty_E) : ty_E × ty_t := (ty_fr e ty_MIN ty_MAX [], ty_s e.1)
noncomputable def ty_cst (e : ty_E) (t : ty_t) : Option Int := ty_fc (ty_lo e t) (fun l => bif ty_le (ty_hi e t) l then some l else none)
/-- an int with few values in a term -/
noncomputable def ty_few (w : Int) (e : ty_E) (t : ty_t) : Option Nat := List.rec (motive := fun _ => Option Nat) none (fun q _ ih => ty_fc ((ty_iv e.2.1 q.1).2 - (ty_iv e.2.1 q.1).1) (fun d => bif ty_le 1 d && ty_le d w then some q.1 else ih)) t.2
/-- a term that is an int, or a new one -/
noncomputable def ty_ok (e : ty_E) (t : ty_t) : ty_E × ty_t := bif ty_le ty_MIN (ty_lo e t) && ty_le (ty_hi e t) ty_MAX then (e, t) else ty_full e
abbrev ty_R : Type := Nat ⊕ (ty_t ⊕ (ty_E × ty_t))
abbrev ty_rv (x : ty_E × ty_t) : Option ty_R := some (.inr (.inr x))
def ty_wr (z : Int) : Int := (z + 2147483648) % 4294967296 - 2147483648
noncomputable def ty_new (e : ty_E) (l h : Int) : Option ty_R := ty_rv (ty_fr e l h [], ty_s e.1)
noncomputable def ty_cs (e : ty_E) (a : ty_t) : List ty_t := match a.2 with
  | [] => []
  | _ :: _ => [ty_add (ty_s e.1) a (-1)]
def ty_mn (a b : Int) : Int := bif ty_le a b then a else b
def ty_mx (a b : Int) : Int := bif ty_le a b then b else a
def ty_pw (h : Int) : Int := match h with
  | .ofNat n => bif Nat.beq n 0 then 0 else Int.ofNat (2 ^ (Nat.log2 n + 1) - 1)
  | .negSucc _ => 0
/-- a mask of ones -/
noncomputable def ty_ones (y : Int) : Bool := ex_any (fun k => ty_0 (y - (2 ^ k - 1))) [1, 2, 3, 4, 5, 6, 7, 8]
noncomputable def ty_a_add (e : ty_E) (a b : ty_t) : Option ty_R := ty_rv (ty_ok e (ty_add a b 1))
noncomputable def ty_a_sub (e : ty_E) (a b : ty_t) : Option ty_R := match ty_cst e a, ty_cst e b with
  | some x, some y => ty_rv (e, ty_k (ty_wr (x - y)))
  | none, some y => bif ty_0 (y - 1) && ty_le (ty_lo e a) ty_MIN && ty_le (ty_hi e a) (-1) then some (.inr (.inl (ty_pl a 2147483647))) else ty_rv (ty_ok e (ty_add a b (-1)))
  | _, _ => ty_rv (ty_ok e (ty_add a b (-1)))
noncomputable def ty_a_mul (e : ty_E) (a b : ty_t) : Option ty_R := match ty_cst e a with
  | some x => ty_rv (ty_ok e (ty_add (ty_k 0) b x))
  | none => (match ty_cst e b with
    | some y => ty_rv (ty_ok e (ty_add (ty_k 0) a y))
    | none => (match ty_few 8 e a with
      | some i => some (.inl i)
      | none => (match ty_few 8 e b with
        | some i => some (.inl i)
        | none => ty_rv (ty_full e))))
noncomputable def ty_a_div (e : ty_E) (a b : ty_t) : Option ty_R := match ty_cst e b with
  | some y => bif ty_le 1 y then (bif ty_nn (ty_lo e a) then ty_rv (ty_fr e (ty_lo e a / y) (ty_hi e a / y) [ty_add (ty_add (ty_k 0) (ty_s e.1) y) a (-1), ty_pl (ty_add a (ty_s e.1) (-y)) (1 - y)], ty_s e.1) else ty_rv (ty_full e)) else bif ty_le y (-1) then ty_rv (ty_full e) else none
  | none => (match ty_few 8 e b with
    | some i => some (.inl i)
    | none => bif ty_le 1 (ty_lo e b) || ty_le (ty_hi e b) (-1) then ty_rv (ty_full e) else none)
noncomputable def ty_a_rem (e : ty_E) (a b : ty_t) : Option ty_R := match ty_cst e b with
  | some y => bif ty_le 1 y then (bif ty_nn (ty_lo e a) then ty_new e 0 (ty_mn (y - 1) (ty_hi e a)) else ty_rv (ty_full e)) else bif ty_le y (-1) then ty_rv (ty_full e) else none
  | none => (match ty_few 8 e b with
    | some i => some (.inl i)
    | none => bif ty_le 1 (ty_lo e b) then (bif ty_nn (ty_lo e a) then ty_rv (ty_fr e 0 (ty_hi e b - 1) [ty_pl (ty_add (ty_s e.1) b (-1)) 1], ty_s e.1) else ty_rv (ty_full e)) else bif ty_le (ty_hi e b) (-1) then ty_rv (ty_full e) else none)
noncomputable def ty_a_and1 (e : ty_E) (a b : ty_t) : Option ty_R := bif ty_nn (ty_lo e a) then (bif ty_nn (ty_lo e b) then ty_rv (ty_fr e 0 (ty_mn (ty_hi e a) (ty_hi e b)) (ex_app (ty_cs e a) (ty_cs e b)), ty_s e.1) else ty_new e 0 (ty_hi e a)) else bif ty_nn (ty_lo e b) then ty_new e 0 (ty_hi e b) else bif ty_le (ty_hi e a) (-1) && ty_le (ty_hi e b) (-1) then ty_rv (ty_fr e ty_MIN (ty_mn (ty_hi e a) (ty_hi e b)) (ex_app (ty_cs e a) (ty_cs e b)), ty_s e.1) else ty_rv (ty_full e)
noncomputable def ty_a_and (e : ty_E) (a b : ty_t) : Option ty_R := match ty_cst e b with
  | some y => bif ty_ones y && ty_le (-(y + 1)) (ty_lo e a) && ty_le (ty_hi e a) y then (bif ty_nn (ty_lo e a) then ty_rv (e, a) else bif ty_le (ty_hi e a) (-1) then ty_rv (e, ty_pl a (y + 1)) else some (.inr (.inl a))) else ty_a_and1 e a b
  | none => ty_a_and1 e a b
noncomputable def ty_a_or (e : ty_E) (a b : ty_t) : Option ty_R := bif ty_nn (ty_lo e a) && ty_nn (ty_lo e b) then ty_new e 0 (ty_mx (ty_pw (ty_hi e a)) (ty_pw (ty_hi e b))) else ty_rv (ty_full e)
noncomputable def ty_a_shl (e : ty_E) (a b : ty_t) : Option ty_R := match ty_cst e a with
  | some x => bif ty_0 (x - 1) && ty_nn (ty_lo e b) && ty_le (ty_hi e b) 30 then ty_new e (2 ^ (ty_lo e b).toNat) (2 ^ (ty_hi e b).toNat) else ty_rv (ty_full e)
  | none => ty_rv (ty_full e)
noncomputable def ty_a_shr (e : ty_E) (a b : ty_t) : Option ty_R := match ty_cst e b with
  | some y => bif ty_nn y && ty_le y 31 && ty_nn (ty_lo e a) then ty_new e (ty_lo e a / 2 ^ y.toNat) (ty_hi e a / 2 ^ y.toNat) else ty_rv (ty_full e)
  | none => ty_rv (ty_full e)
/-- an int from 0 to 31 that is cut into its values -/
noncomputable def ty_t31 (e : ty_E) (a : ty_t) : Option Nat := match a.2 with
  | [(i, _)] => bif ty_0 (ty_iv e.2.1 i).1 && ty_0 ((ty_iv e.2.1 i).2 - 31) then some i else none
  | _ => none
noncomputable def ty_b_and (e : ty_E) (a b : ty_t) : Option ty_R := match ty_cst e a, ty_cst e b with
  | some (.ofNat x), some (.ofNat y) => ty_rv (e, ty_k (Int.ofNat (Nat.land x y)))
  | _, _ => ty_a_and e a b
noncomputable def ty_b_or (e : ty_E) (a b : ty_t) : Option ty_R := match ty_cst e a, ty_cst e b with
  | some (.ofNat x), some (.ofNat y) => ty_rv (e, ty_k (Int.ofNat (Nat.lor x y)))
  | none, some _ => (match ty_t31 e a with
    | some i => some (.inl i)
    | none => ty_a_or e a b)
  | _, _ => ty_a_or e a b
noncomputable def ty_b_shr (e : ty_E) (a b : ty_t) : Option ty_R := match ty_cst e b with
  | some _ => (match ty_t31 e a with
    | some i => some (.inl i)
    | none => ty_a_shr e a b)
  | none => ty_a_shr e a b
noncomputable def ty_ar (o : Instr) (e : ty_E) (a b : ty_t) : Option ty_R := match o with
  | .iadd => ty_a_add e a b
  | .isub => ty_a_sub e a b
  | .imul => ty_a_mul e a b
  | .idiv => ty_a_div e a b
  | .irem => ty_a_rem e a b
  | .iand => ty_b_and e a b
  | .ior => ty_b_or e a b
  | .ixor => ty_a_or e a b
  | .ishl => ty_a_shl e a b
  | .ishr => ty_b_shr e a b
  | .iushr => ty_rv (ty_full e)
  | _ => none
end
section
/-! what terms, ranges and side conditions say -/
theorem ty_fc_eq {α : Type} (x : Int) (f : Int → α) : ty_fc x f = f x := by
  cases x with
  | ofNat n => cases n <;> rfl
  | negSucc n => cases n <;> rfl
theorem ty_nn_t {x : Int} (h : ty_nn x = true) : 0 ≤ x := by
  cases x with
  | ofNat n => exact Int.natCast_nonneg n
  | negSucc n => cases h
theorem ty_nn_f {x : Int} (h : ty_nn x = false) : x < 0 := by
  cases x with
  | ofNat n => cases h
  | negSucc n => exact Int.negSucc_lt_zero n
theorem ty_nn_of {x : Int} (h : 0 ≤ x) : ty_nn x = true := by
  cases e : ty_nn x with
  | true => rfl
  | false => have := ty_nn_f e; omega
theorem ty_le_t {x y : Int} (h : ty_le x y = true) : x ≤ y := by have := ty_nn_t h; omega
theorem ty_le_f {x y : Int} (h : ty_le x y = false) : y < x := by have := ty_nn_f h; omega
theorem ty_le_of {x y : Int} (h : x ≤ y) : ty_le x y = true := ty_nn_of (by omega)
theorem ty_0_t {x : Int} (h : ty_0 x = true) : x = 0 := by
  cases x with
  | ofNat n => have := ex_beq h; subst this; rfl
  | negSucc n => cases h
def ty_el (ρ : Nat → Int) : List (Nat × Int) → Int
  | [] => 0
  | q :: l => q.2 * ρ q.1 + ty_el ρ l
def ty_ev (ρ : Nat → Int) (t : ty_t) : Int := t.1 + ty_el ρ t.2
def ty_sc (n : Nat) (t : ty_t) : Prop := ∀ q ∈ t.2, q.1 < n
theorem ty_ins_ev (ρ : Nat → Int) (i : Nat) (a : Int) (l : List (Nat × Int)) : ty_el ρ (ty_ins i a l) = a * ρ i + ty_el ρ l := by
  induction l with
  | nil => rfl
  | cons q t ih =>
    show ty_el ρ (bif Nat.beq q.1 i then ty_fc (q.2 + a) (fun b => bif ty_0 b then t else (i, b) :: t) else q :: ty_ins i a t) = a * ρ i + (q.2 * ρ q.1 + ty_el ρ t)
    cases hb : Nat.beq q.1 i with
    | false =>
      show q.2 * ρ q.1 + ty_el ρ (ty_ins i a t) = _
      rw [ih]; omega
    | true =>
      have e := ex_beq hb
      rw [ty_fc_eq]
      show ty_el ρ (bif ty_0 (q.2 + a) then t else (i, q.2 + a) :: t) = _
      rw [e]
      cases h0 : ty_0 (q.2 + a) with
      | true =>
        have := ty_0_t h0
        show ty_el ρ t = _
        have h2 : q.2 * ρ i + a * ρ i = 0 := by rw [← Int.add_mul, this, Int.zero_mul]
        omega
      | false =>
        show (q.2 + a) * ρ i + ty_el ρ t = _
        rw [Int.add_mul]; omega
theorem ty_adl_ev (ρ : Nat → Int) (k : Int) (l r : List (Nat × Int)) : ty_el ρ (ty_adl k l r) = ty_el ρ l + k * ty_el ρ r := by
  induction r with
  | nil =>
    show ty_el ρ l = ty_el ρ l + k * 0
    rw [Int.mul_zero, Int.add_zero]
  | cons q t ih =>
    show ty_el ρ (ty_ins q.1 (k * q.2) (ty_adl k l t)) = ty_el ρ l + k * (q.2 * ρ q.1 + ty_el ρ t)
    rw [ty_ins_ev, ih, Int.mul_add, Int.mul_assoc]; omega
theorem ty_add_ev (ρ : Nat → Int) (t u : ty_t) (k : Int) : ty_ev ρ (ty_add t u k) = ty_ev ρ t + k * ty_ev ρ u := by
  unfold ty_add
  rw [ty_fc_eq]
  show t.1 + k * u.1 + ty_el ρ (ty_adl k t.2 u.2) = t.1 + ty_el ρ t.2 + k * (u.1 + ty_el ρ u.2)
  rw [ty_adl_ev, Int.mul_add]; omega
theorem ty_sub_ev (ρ : Nat → Int) (t u : ty_t) : ty_ev ρ (ty_add t u (-1)) = ty_ev ρ t - ty_ev ρ u := by rw [ty_add_ev]; omega
theorem ty_pl_ev (ρ : Nat → Int) (t : ty_t) (c : Int) : ty_ev ρ (ty_pl t c) = ty_ev ρ t + c := by
  unfold ty_pl
  rw [ty_fc_eq]
  show t.1 + c + ty_el ρ t.2 = t.1 + ty_el ρ t.2 + c
  omega
theorem ty_k_ev (ρ : Nat → Int) (c : Int) : ty_ev ρ (ty_k c) = c := Int.add_zero c
theorem ty_s_ev (ρ : Nat → Int) (i : Nat) : ty_ev ρ (ty_s i) = ρ i := by
  show 0 + (1 * ρ i + 0) = ρ i
  omega
theorem ty_ins_sc {n i : Nat} {a : Int} {l : List (Nat × Int)} (hi : i < n) (h : ∀ q ∈ l, q.1 < n) : ∀ q ∈ ty_ins i a l, q.1 < n := by
  induction l with
  | nil =>
    intro q hq
    have hq : q ∈ [(i, a)] := hq
    rw [List.mem_singleton] at hq
    subst hq
    exact hi
  | cons p t ih =>
    intro q hq
    have ht : ∀ q ∈ t, q.1 < n := fun q hq => h q (List.mem_cons_of_mem _ hq)
    have hq : q ∈ (bif Nat.beq p.1 i then ty_fc (p.2 + a) (fun b => bif ty_0 b then t else (i, b) :: t) else p :: ty_ins i a t) := hq
    rw [ty_fc_eq] at hq
    cases hb : Nat.beq p.1 i with
    | false =>
      rw [hb] at hq
      have hq : q ∈ p :: ty_ins i a t := hq
      rcases List.mem_cons.mp hq with rfl | hq
      · exact h _ List.mem_cons_self
      · exact ih ht q hq
    | true =>
      rw [hb] at hq
      have hq : q ∈ (bif ty_0 (p.2 + a) then t else (i, p.2 + a) :: t) := hq
      cases h0 : ty_0 (p.2 + a) with
      | true => rw [h0] at hq; exact ht q hq
      | false =>
        rw [h0] at hq
        have hq : q ∈ (i, p.2 + a) :: t := hq
        rcases List.mem_cons.mp hq with rfl | hq
        · exact hi
        · exact ht q hq
theorem ty_adl_sc {n : Nat} {k : Int} {l r : List (Nat × Int)} (hl : ∀ q ∈ l, q.1 < n) (hr : ∀ q ∈ r, q.1 < n) : ∀ q ∈ ty_adl k l r, q.1 < n := by
  induction r with
  | nil => exact hl
  | cons p t ih => exact ty_ins_sc (hr p List.mem_cons_self) (ih (fun q hq => hr q (List.mem_cons_of_mem _ hq)))
theorem ty_add_sc {n : Nat} {t u : ty_t} {k : Int} (ht : ty_sc n t) (hu : ty_sc n u) : ty_sc n (ty_add t u k) := by
  unfold ty_add
  rw [ty_fc_eq]
  exact ty_adl_sc ht hu
theorem ty_pl_sc {n : Nat} {t : ty_t} {c : Int} (ht : ty_sc n t) : ty_sc n (ty_pl t c) := by
  unfold ty_pl
  rw [ty_fc_eq]
  exact ht
theorem ty_k_sc {n : Nat} {c : Int} : ty_sc n (ty_k c) := fun q hq => by cases hq
theorem ty_s_sc {n i : Nat} (h : i < n) : ty_sc n (ty_s i) := fun q hq => by
  have hq : q ∈ [(i, (1 : Int))] := hq
  rw [List.mem_singleton] at hq
  subst hq
  exact h
theorem ty_sc.mono {n n' : Nat} {t : ty_t} (h : ty_sc n t) (hn : n ≤ n') : ty_sc n' t := fun q hq => Nat.lt_of_lt_of_le (h q hq) hn
def ty_ag (n : Nat) (ρ ρ' : Nat → Int) : Prop := ∀ i, i < n → ρ i = ρ' i
theorem ty_ev_ag {n : Nat} {ρ ρ' : Nat → Int} (h : ty_ag n ρ ρ') {t : ty_t} (ht : ty_sc n t) : ty_ev ρ' t = ty_ev ρ t := by
  have key : ∀ l : List (Nat × Int), (∀ q ∈ l, q.1 < n) → ty_el ρ' l = ty_el ρ l := by
    intro l
    induction l with
    | nil => intro _; rfl
    | cons q l ih =>
      intro hl
      show q.2 * ρ' q.1 + ty_el ρ' l = q.2 * ρ q.1 + ty_el ρ l
      rw [ih (fun q hq => hl q (List.mem_cons_of_mem _ hq)), h q.1 (hl q List.mem_cons_self)]
  show t.1 + ty_el ρ' t.2 = t.1 + ty_el ρ t.2
  rw [key t.2 ht]
/-- the ranges hold -/
def ty_bd (ρ : Nat → Int) (v : List (Nat × Int × Int)) : Prop := ∀ i, (ty_iv v i).1 ≤ ρ i ∧ ρ i ≤ (ty_iv v i).2
def ty_er (ρ : Nat → Int) (e : ty_E) : Prop := ty_bd ρ e.2.1 ∧ ∀ c ∈ e.2.2, ty_sc e.1 c ∧ ty_ev ρ c ≤ 0
theorem ty_iv_cons (q : Nat × Int × Int) (v : List (Nat × Int × Int)) (i : Nat) : ty_iv (q :: v) i = bif Nat.beq q.1 i then q.2 else ty_iv v i := rfl
theorem ty_bd_cons {ρ : Nat → Int} {v : List (Nat × Int × Int)} (h : ty_bd ρ v) {i : Nat} {l u : Int} (h1 : l ≤ ρ i) (h2 : ρ i ≤ u) : ty_bd ρ ((i, l, u) :: v) := by
  intro j
  rw [ty_iv_cons]
  cases hb : Nat.beq i j with
  | false => exact h j
  | true =>
    have := ex_beq hb
    subst this
    exact ⟨h1, h2⟩
theorem ty_hi_ok {ρ : Nat → Int} {e : ty_E} (h : ty_bd ρ e.2.1) (t : ty_t) : ty_ev ρ t ≤ ty_hi e t := by
  have key : ∀ (l : List (Nat × Int)) (c : Int), c + ty_el ρ l ≤ List.rec (motive := fun _ => Int) c (fun q _ ih => ih + (bif ty_nn q.2 then q.2 * (ty_iv e.2.1 q.1).2 else q.2 * (ty_iv e.2.1 q.1).1)) l := by
    intro l c
    induction l with
    | nil => show c + 0 ≤ c; omega
    | cons q l ih =>
      have b := h q.1
      have m : q.2 * ρ q.1 ≤ (bif ty_nn q.2 then q.2 * (ty_iv e.2.1 q.1).2 else q.2 * (ty_iv e.2.1 q.1).1) := by
        cases hn : ty_nn q.2 with
        | true => exact Int.mul_le_mul_of_nonneg_left b.2 (ty_nn_t hn)
        | false => exact Int.mul_le_mul_of_nonpos_left (by have := ty_nn_f hn; omega) b.1
      show c + (q.2 * ρ q.1 + ty_el ρ l) ≤ _ + (bif ty_nn q.2 then q.2 * (ty_iv e.2.1 q.1).2 else q.2 * (ty_iv e.2.1 q.1).1)
      omega
  exact key t.2 t.1
theorem ty_lo_ok {ρ : Nat → Int} {e : ty_E} (h : ty_bd ρ e.2.1) (t : ty_t) : ty_lo e t ≤ ty_ev ρ t := by
  have key : ∀ (l : List (Nat × Int)) (c : Int), List.rec (motive := fun _ => Int) c (fun q _ ih => ih + (bif ty_nn q.2 then q.2 * (ty_iv e.2.1 q.1).1 else q.2 * (ty_iv e.2.1 q.1).2)) l ≤ c + ty_el ρ l := by
    intro l c
    induction l with
    | nil => show c ≤ c + 0; omega
    | cons q l ih =>
      have b := h q.1
      have m : (bif ty_nn q.2 then q.2 * (ty_iv e.2.1 q.1).1 else q.2 * (ty_iv e.2.1 q.1).2) ≤ q.2 * ρ q.1 := by
        cases hn : ty_nn q.2 with
        | true => exact Int.mul_le_mul_of_nonneg_left b.1 (ty_nn_t hn)
        | false => exact Int.mul_le_mul_of_nonpos_left (by have := ty_nn_f hn; omega) b.2
      show _ + (bif ty_nn q.2 then q.2 * (ty_iv e.2.1 q.1).1 else q.2 * (ty_iv e.2.1 q.1).2) ≤ c + (q.2 * ρ q.1 + ty_el ρ l)
      omega
  exact key t.2 t.1
theorem ty_any_t {α : Type} {f : α → Bool} {l : List α} (h : ex_any f l = true) : ∃ a ∈ l, f a = true := by
  induction l with
  | nil => cases h
  | cons a t ih =>
    rcases Bool.or_eq_true _ _ |>.mp (show (f a || ex_any f t) = true from h) with h1 | h1
    · exact ⟨a, List.mem_cons_self, h1⟩
    · obtain ⟨b, hb, h2⟩ := ih h1
      exact ⟨b, List.mem_cons_of_mem _ hb, h2⟩
theorem ty_ent_ok {ρ : Nat → Int} {e : ty_E} (h : ty_er ρ e) {t : ty_t} (hc : ty_ent e t = true) : ty_ev ρ t ≤ 0 := by
  unfold ty_ent at hc
  rcases Bool.or_eq_true _ _ |>.mp hc with hc | hc
  · have := ty_nn_t hc
    have := ty_hi_ok h.1 t
    omega
  · obtain ⟨c, h1, h2⟩ := ty_any_t hc
    obtain ⟨-, h2⟩ := ex_and h2
    have hc1 := (h.2 c h1).2
    unfold ty_e1 at h2
    rcases Bool.or_eq_true _ _ |>.mp h2 with h2 | h2
    · have h2 := ty_nn_t h2
      have h3 := ty_hi_ok h.1 (ty_add t c (-1))
      rw [ty_sub_ev] at h3
      omega
    · obtain ⟨c', h3, h4⟩ := ty_any_t h2
      obtain ⟨-, h4⟩ := ex_and h4
      have h4 := ty_nn_t h4
      have h5 := ty_hi_ok h.1 (ty_add (ty_add t c (-1)) c' (-1))
      rw [ty_sub_ev, ty_sub_ev] at h5
      have := (h.2 c' h3).2
      omega
theorem ty_in_ok {ρ : Nat → Int} {e : ty_E} (h : ty_er ρ e) {t : ty_t} {l u : Int} (hc : ty_in e t l u = true) : l ≤ ty_ev ρ t ∧ ty_ev ρ t ≤ u := by
  obtain ⟨h1, h2⟩ := ex_and hc
  have h1 := ty_ent_ok h h1
  have h2 := ty_ent_ok h h2
  rw [ty_sub_ev, ty_k_ev] at h1
  rw [ty_pl_ev] at h2
  omega
/-- a term's one part is at most what the whole is above its least -/
theorem ty_part {ρ : Nat → Int} {e : ty_E} (h : ty_bd ρ e.2.1) : ∀ (l : List (Nat × Int)) (c : Int) (q : Nat × Int), q ∈ l → q.2 * ρ q.1 - (bif ty_nn q.2 then q.2 * (ty_iv e.2.1 q.1).1 else q.2 * (ty_iv e.2.1 q.1).2) ≤ c + ty_el ρ l - List.rec (motive := fun _ => Int) c (fun q _ ih => ih + (bif ty_nn q.2 then q.2 * (ty_iv e.2.1 q.1).1 else q.2 * (ty_iv e.2.1 q.1).2)) l
  | [], _, _, hq => by cases hq
  | p :: l, c, q, hq => by
    have low : ∀ p : Nat × Int, (bif ty_nn p.2 then p.2 * (ty_iv e.2.1 p.1).1 else p.2 * (ty_iv e.2.1 p.1).2) ≤ p.2 * ρ p.1 := fun p => by
      have b := h p.1
      cases hn : ty_nn p.2 with
      | true => exact Int.mul_le_mul_of_nonneg_left b.1 (ty_nn_t hn)
      | false => exact Int.mul_le_mul_of_nonpos_left (by have := ty_nn_f hn; omega) b.2
    have lp := low p
    show _ ≤ c + (p.2 * ρ p.1 + ty_el ρ l) - (List.rec (motive := fun _ => Int) c (fun q _ ih => ih + (bif ty_nn q.2 then q.2 * (ty_iv e.2.1 q.1).1 else q.2 * (ty_iv e.2.1 q.1).2)) l + (bif ty_nn p.2 then p.2 * (ty_iv e.2.1 p.1).1 else p.2 * (ty_iv e.2.1 p.1).2))
    rcases List.mem_cons.mp hq with rfl | hq
    · have := ty_lo_ok (e := e) h (c, l)
      have : List.rec (motive := fun _ => Int) c (fun q _ ih => ih + (bif ty_nn q.2 then q.2 * (ty_iv e.2.1 q.1).1 else q.2 * (ty_iv e.2.1 q.1).2)) l ≤ c + ty_el ρ l := this
      omega
    · have := ty_part h l c q hq
      omega
theorem ty_nar_ok {ρ : Nat → Int} {w : List (Nat × Int × Int)} (hw : ty_bd ρ w) {L : Int} : ∀ (l : List (Nat × Int)), (∀ q ∈ l, (1 ≤ q.2 → q.2 * (ρ q.1 - (ty_iv w q.1).1) ≤ -L) ∧ (q.2 ≤ -1 → (-q.2) * ((ty_iv w q.1).2 - ρ q.1) ≤ -L)) → ∃ v, ty_nar w L l = some v ∧ ty_bd ρ v
  | [], _ => ⟨w, rfl, hw⟩
  | q :: l, hl => by
    obtain ⟨v, h1, h2⟩ := ty_nar_ok hw l (fun q hq => hl q (List.mem_cons_of_mem _ hq))
    obtain ⟨p1, p2⟩ := hl q List.mem_cons_self
    have b := h2 q.1
    have e0 : ty_nar w L (q :: l) = (match ty_nar w L l with
      | none => none
      | some v => bif ty_le 1 q.2 then ty_fc ((ty_iv w q.1).1 + (-L) / q.2) (fun h => bif ty_le h ((ty_iv v q.1).2) then (bif ty_le (ty_iv v q.1).1 h then some ((q.1, (ty_iv v q.1).1, h) :: v) else none) else some v)
        else bif ty_le q.2 (-1) then ty_fc ((ty_iv w q.1).2 - (-L) / (-q.2)) (fun l' => bif ty_le ((ty_iv v q.1).1) l' then (bif ty_le l' (ty_iv v q.1).2 then some ((q.1, l', (ty_iv v q.1).2) :: v) else none) else some v)
        else some v) := rfl
    rw [e0, h1]
    simp only [ty_fc_eq]
    cases c1 : ty_le 1 q.2 with
    | true =>
      have a1 := ty_le_t c1
      have g := p1 a1
      have g2 : ρ q.1 - (ty_iv w q.1).1 ≤ -L / q.2 := Int.le_ediv_of_mul_le (by omega) (by rw [Int.mul_comm]; exact g)
      show ∃ v', (bif ty_le ((ty_iv w q.1).1 + -L / q.2) (ty_iv v q.1).2 then (bif ty_le (ty_iv v q.1).1 ((ty_iv w q.1).1 + -L / q.2) then some ((q.1, (ty_iv v q.1).1, (ty_iv w q.1).1 + -L / q.2) :: v) else none) else some v) = some v' ∧ _
      cases c2 : ty_le ((ty_iv w q.1).1 + -L / q.2) (ty_iv v q.1).2 with
      | false => exact ⟨v, rfl, h2⟩
      | true =>
        rw [ty_le_of (show (ty_iv v q.1).1 ≤ (ty_iv w q.1).1 + -L / q.2 by omega)]
        exact ⟨_, rfl, ty_bd_cons h2 b.1 (by omega)⟩
    | false =>
      show ∃ v', (bif ty_le q.2 (-1) then (bif ty_le ((ty_iv v q.1).1) ((ty_iv w q.1).2 - -L / -q.2) then (bif ty_le ((ty_iv w q.1).2 - -L / -q.2) (ty_iv v q.1).2 then some ((q.1, (ty_iv w q.1).2 - -L / -q.2, (ty_iv v q.1).2) :: v) else none) else some v) else some v) = some v' ∧ _
      cases c2 : ty_le q.2 (-1) with
      | false => exact ⟨v, rfl, h2⟩
      | true =>
        have a1 := ty_le_t c2
        have g := p2 a1
        have g2 : (ty_iv w q.1).2 - ρ q.1 ≤ -L / -q.2 := Int.le_ediv_of_mul_le (by omega) (by rw [Int.mul_comm]; exact g)
        show ∃ v', (bif ty_le ((ty_iv v q.1).1) ((ty_iv w q.1).2 - -L / -q.2) then (bif ty_le ((ty_iv w q.1).2 - -L / -q.2) (ty_iv v q.1).2 then some ((q.1, (ty_iv w q.1).2 - -L / -q.2, (ty_iv v q.1).2) :: v) else none) else some v) = some v' ∧ _
        cases c3 : ty_le ((ty_iv v q.1).1) ((ty_iv w q.1).2 - -L / -q.2) with
        | false => exact ⟨v, rfl, h2⟩
        | true =>
          rw [ty_le_of (show (ty_iv w q.1).2 - -L / -q.2 ≤ (ty_iv v q.1).2 by omega)]
          exact ⟨_, rfl, ty_bd_cons h2 (by omega) b.2⟩
theorem ty_nar_of {ρ : Nat → Int} {e : ty_E} (h : ty_bd ρ e.2.1) {d : ty_t} (hd : ty_ev ρ d ≤ 0) : ∃ v, ty_nar e.2.1 (ty_lo e d) d.2 = some v ∧ ty_bd ρ v := by
  refine ty_nar_ok h d.2 (fun q hq => ?_)
  have p := ty_part h d.2 d.1 q hq
  have p : q.2 * ρ q.1 - (bif ty_nn q.2 then q.2 * (ty_iv e.2.1 q.1).1 else q.2 * (ty_iv e.2.1 q.1).2) ≤ ty_ev ρ d - ty_lo e d := p
  constructor
  · intro h1
    rw [ty_nn_of (show (0 : Int) ≤ q.2 by omega)] at p
    have p : q.2 * ρ q.1 - q.2 * (ty_iv e.2.1 q.1).1 ≤ ty_ev ρ d - ty_lo e d := p
    rw [Int.mul_sub]; omega
  · intro h1
    have hf : ty_nn q.2 = false := by
      cases hn : ty_nn q.2 with
      | false => rfl
      | true => have := ty_nn_t hn; omega
    rw [hf] at p
    have p : q.2 * ρ q.1 - q.2 * (ty_iv e.2.1 q.1).2 ≤ ty_ev ρ d - ty_lo e d := p
    rw [Int.neg_mul, Int.mul_sub]; omega
theorem ty_rf_ok {ρ : Nat → Int} {e : ty_E} (h : ty_er ρ e) {d : ty_t} (hs : ty_sc e.1 d) (hd : ty_ev ρ d ≤ 0) : ∃ e', ty_rf e d = some e' ∧ ty_er ρ e' ∧ e'.1 = e.1 := by
  unfold ty_rf
  rw [ty_fc_eq]
  have l := ty_lo_ok h.1 d
  have c1 : ty_le 1 (ty_lo e d) = false := by
    cases hc : ty_le 1 (ty_lo e d) with
    | false => rfl
    | true => have := ty_le_t hc; omega
  rw [c1]
  show ∃ e', (bif ty_nn (-(ty_hi e d)) then some e else bif ty_ent e (ty_add (ty_k 1) d (-1)) then none else (match ty_nar e.2.1 (ty_lo e d) d.2 with
    | none => none
    | some v => some (e.1, v, bif ty_two d.2 then d :: e.2.2 else e.2.2))) = some e' ∧ _
  cases c2 : ty_nn (-(ty_hi e d)) with
  | true => exact ⟨e, rfl, h, rfl⟩
  | false =>
    have c3 : ty_ent e (ty_add (ty_k 1) d (-1)) = false := by
      cases hc : ty_ent e (ty_add (ty_k 1) d (-1)) with
      | false => rfl
      | true =>
        have := ty_ent_ok h hc
        rw [ty_sub_ev, ty_k_ev] at this
        omega
    rw [c3]
    obtain ⟨v, h1, h2⟩ := ty_nar_of h.1 hd
    show ∃ e', (match ty_nar e.2.1 (ty_lo e d) d.2 with
      | none => none
      | some v => some (e.1, v, bif ty_two d.2 then d :: e.2.2 else e.2.2)) = some e' ∧ _
    rw [h1]
    refine ⟨_, rfl, ⟨h2, fun c hc => ?_⟩, rfl⟩
    have hc : c ∈ (bif ty_two d.2 then d :: e.2.2 else e.2.2) := hc
    cases ht : ty_two d.2 with
    | false => rw [ht] at hc; exact h.2 c hc
    | true =>
      rw [ht] at hc
      rcases List.mem_cons.mp hc with rfl | hc
      · exact ⟨hs, hd⟩
      · exact h.2 c hc
theorem ty_rl_ok {ρ : Nat → Int} {e : ty_E} (h : ty_er ρ e) {d : ty_t} (hs : ty_sc e.1 d) (hd : ty_ev ρ d ≤ 0) : ∃ e' ∈ ty_rl e d, ty_er ρ e' ∧ e'.1 = e.1 := by
  obtain ⟨e', h1, h2⟩ := ty_rf_ok h hs hd
  exact ⟨e', by unfold ty_rl; rw [h1]; exact List.mem_singleton.mpr rfl, h2⟩
theorem ty_rl2_ok {ρ : Nat → Int} {e : ty_E} (h : ty_er ρ e) {d d' : ty_t} (hs : ty_sc e.1 d) (hd : ty_ev ρ d ≤ 0) (hs' : ty_sc e.1 d') (hd' : ty_ev ρ d' ≤ 0) : ∃ e' ∈ ty_rl2 e d d', ty_er ρ e' ∧ e'.1 = e.1 := by
  obtain ⟨e', h1, h2, h3⟩ := ty_rf_ok h hs hd
  obtain ⟨e'', h4, h5, h6⟩ := ty_rl_ok h2 (h3 ▸ hs') hd'
  exact ⟨e'', by unfold ty_rl2; rw [h1]; exact h4, h5, h6.trans h3⟩
def ty_cm (c : ClassFile.Cond) (y z : Int) : Prop := match c with
  | .eq => y = z
  | .ne => ¬ y = z
  | .lt => y < z
  | .ge => ¬ y < z
  | .gt => z < y
  | .le => ¬ z < y
theorem ty_br_ok {ρ : Nat → Int} {e : ty_E} (h : ty_er ρ e) {c : ClassFile.Cond} {a b : ty_t} (ha : ty_sc e.1 a) (hb : ty_sc e.1 b) : (ty_cm c (ty_ev ρ a) (ty_ev ρ b) → ∃ e' ∈ (ty_br c e a b).1, ty_er ρ e' ∧ e'.1 = e.1) ∧ (¬ ty_cm c (ty_ev ρ a) (ty_ev ρ b) → ∃ e' ∈ (ty_br c e a b).2, ty_er ρ e' ∧ e'.1 = e.1) := by
  have lt : ∀ {x y : ty_t}, ty_sc e.1 x → ty_sc e.1 y → ty_ev ρ x < ty_ev ρ y → ∃ e' ∈ ty_rl e (ty_pl (ty_add x y (-1)) 1), ty_er ρ e' ∧ e'.1 = e.1 := fun hx hy hl => ty_rl_ok h (ty_pl_sc (ty_add_sc hx hy)) (by rw [ty_pl_ev, ty_sub_ev]; omega)
  have le : ∀ {x y : ty_t}, ty_sc e.1 x → ty_sc e.1 y → ty_ev ρ x ≤ ty_ev ρ y → ∃ e' ∈ ty_rl e (ty_add x y (-1)), ty_er ρ e' ∧ e'.1 = e.1 := fun hx hy hl => ty_rl_ok h (ty_add_sc hx hy) (by rw [ty_sub_ev]; omega)
  have eq : ty_ev ρ a = ty_ev ρ b → ∃ e' ∈ ty_rl2 e (ty_add a b (-1)) (ty_add b a (-1)), ty_er ρ e' ∧ e'.1 = e.1 := fun hl => ty_rl2_ok h (ty_add_sc ha hb) (by rw [ty_sub_ev]; omega) (ty_add_sc hb ha) (by rw [ty_sub_ev]; omega)
  have ne : ¬ ty_ev ρ a = ty_ev ρ b → ∃ e' ∈ ex_app (ty_rl e (ty_pl (ty_add a b (-1)) 1)) (ty_rl e (ty_pl (ty_add b a (-1)) 1)), ty_er ρ e' ∧ e'.1 = e.1 := fun hl => by
    rw [ex_app_eq]
    rcases Int.lt_or_gt_of_ne hl with q | q
    · obtain ⟨e', i1, i2⟩ := lt ha hb q
      exact ⟨e', List.mem_append_left _ i1, i2⟩
    · obtain ⟨e', i1, i2⟩ := lt hb ha q
      exact ⟨e', List.mem_append_right _ i1, i2⟩
  cases c with
  | eq => exact ⟨eq, ne⟩
  | ne => exact ⟨ne, fun q => eq (Classical.not_not.mp q)⟩
  | lt => exact ⟨lt ha hb, fun q => le hb ha (by have : ¬ ty_ev ρ a < ty_ev ρ b := q; omega)⟩
  | ge => exact ⟨fun q => le hb ha (by have : ¬ ty_ev ρ a < ty_ev ρ b := q; omega), fun q => lt ha hb (Classical.not_not.mp q)⟩
  | gt => exact ⟨lt hb ha, fun q => le ha hb (by have : ¬ ty_ev ρ b < ty_ev ρ a := q; omega)⟩
  | le => exact ⟨fun q => le ha hb (by have : ¬ ty_ev ρ b < ty_ev ρ a := q; omega), fun q => lt hb ha (Classical.not_not.mp q)⟩
theorem ty_prop_ok {ρ : Nat → Int} : ∀ (cs : List ty_t) (e : ty_E), ty_er ρ e → (∀ c ∈ cs, ty_ev ρ c ≤ 0) → ∃ e', ty_prop cs e = some e' ∧ ty_er ρ e' ∧ e'.1 = e.1
  | [], e, h, _ => ⟨e, rfl, h, rfl⟩
  | c :: cs, e, h, hc => by
    have h0 := hc c List.mem_cons_self
    have l := ty_lo_ok h.1 c
    have c1 : ty_le 1 (ty_lo e c) = false := by
      cases hc : ty_le 1 (ty_lo e c) with
      | false => rfl
      | true => have := ty_le_t hc; omega
    show ∃ e', (bif ty_le 1 (ty_lo e c) then none else bif ty_nn (-(ty_hi e c)) then ty_prop cs e else (match ty_nar e.2.1 (ty_lo e c) c.2 with
      | none => none
      | some v => ty_prop cs (e.1, v, e.2.2))) = some e' ∧ _
    rw [c1]
    have ih := ty_prop_ok (ρ := ρ) cs
    cases c2 : ty_nn (-(ty_hi e c)) with
    | true => exact ih e h (fun c hc' => hc c (List.mem_cons_of_mem _ hc'))
    | false =>
      obtain ⟨v, h1, h2⟩ := ty_nar_of h.1 h0
      show ∃ e', (match ty_nar e.2.1 (ty_lo e c) c.2 with
        | none => none
        | some v => ty_prop cs (e.1, v, e.2.2)) = some e' ∧ _
      rw [h1]
      exact ih (e.1, v, e.2.2) ⟨h2, h.2⟩ (fun c hc' => hc c (List.mem_cons_of_mem _ hc'))
def ty_up (ρ : Nat → Int) (n : Nat) (v : Int) : Nat → Int := fun i => if i = n then v else ρ i
theorem ty_up_ag (ρ : Nat → Int) (n : Nat) (v : Int) : ty_ag n ρ (ty_up ρ n v) := fun i hi => by
  show ρ i = if i = n then v else ρ i
  rw [if_neg (by omega)]
theorem ty_up_at (ρ : Nat → Int) (n : Nat) (v : Int) : ty_up ρ n v n = v := if_pos rfl
theorem ty_fr_ok {ρ : Nat → Int} {e : ty_E} (h : ty_er ρ e) {l u v : Int} (h1 : l ≤ v) (h2 : v ≤ u) {cs : List ty_t} (hc : ∀ c ∈ cs, ty_sc (e.1 + 1) c ∧ ty_ev (ty_up ρ e.1 v) c ≤ 0) : ty_er (ty_up ρ e.1 v) (ty_fr e l u cs) ∧ (ty_fr e l u cs).1 = e.1 + 1 := by
  unfold ty_fr
  rw [ty_fc_eq, ty_fc_eq]
  refine ⟨⟨?_, fun c hc' => ?_⟩, rfl⟩
  · intro i
    show (ty_iv ((e.1, l, u) :: e.2.1) i).1 ≤ _ ∧ _ ≤ (ty_iv ((e.1, l, u) :: e.2.1) i).2
    rw [ty_iv_cons]
    cases hb : Nat.beq e.1 i with
    | true =>
      have := ex_beq hb
      subst this
      rw [ty_up_at]
      exact ⟨h1, h2⟩
    | false =>
      have := ex_bne hb
      show (ty_iv e.2.1 i).1 ≤ (if i = e.1 then v else ρ i) ∧ (if i = e.1 then v else ρ i) ≤ (ty_iv e.2.1 i).2
      rw [if_neg (fun q => this q.symm)]
      exact h.1 i
  · have hc' : c ∈ ex_app cs e.2.2 := hc'
    rw [ex_app_eq] at hc'
    rcases List.mem_append.mp hc' with hc' | hc'
    · exact hc c hc'
    · obtain ⟨s1, s2⟩ := h.2 c hc'
      refine ⟨s1.mono (Nat.le_succ _), ?_⟩
      rw [ty_ev_ag (ty_up_ag ρ e.1 v) s1]
      exact s2
end
section
/-! what the int operations do to terms -/
def ty_is (n : Nat) (ρ : Nat → Int) (t : ty_t) (z : Int) : Prop := ty_sc n t ∧ ty_ev ρ t = z
theorem ty_is.mono {n n' : Nat} {ρ ρ' : Nat → Int} {t : ty_t} {z : Int} (h : ty_is n ρ t z) (ha : ty_ag n ρ ρ') (hn : n ≤ n') : ty_is n' ρ' t z := ⟨h.1.mono hn, by rw [ty_ev_ag ha h.1]; exact h.2⟩
theorem ty_is_k (n : Nat) (ρ : Nat → Int) (c : Int) : ty_is n ρ (ty_k c) c := ⟨ty_k_sc, ty_k_ev ρ c⟩
theorem ty_is_add {n : Nat} {ρ : Nat → Int} {a b : ty_t} {x y : Int} (ha : ty_is n ρ a x) (hb : ty_is n ρ b y) (k : Int) : ty_is n ρ (ty_add a b k) (x + k * y) := ⟨ty_add_sc ha.1 hb.1, by rw [ty_add_ev, ha.2, hb.2]⟩
theorem ty_is_pl {n : Nat} {ρ : Nat → Int} {a : ty_t} {x : Int} (ha : ty_is n ρ a x) (c : Int) : ty_is n ρ (ty_pl a c) (x + c) := ⟨ty_pl_sc ha.1, by rw [ty_pl_ev, ha.2]⟩
theorem ty_bm (z : Int) : z.bmod (2 ^ 32) = ty_wr z := by
  unfold ty_wr Int.bmod
  simp only [show ((2 ^ 32 : Nat) : Int) = 4294967296 from rfl]
  split <;> omega
theorem ty_wr_id {z : Int} (h1 : -2147483648 ≤ z) (h2 : z ≤ 2147483647) : ty_wr z = z := by
  unfold ty_wr; omega
theorem ty_rg (x : Int32) : -2147483648 ≤ x.toInt ∧ x.toInt ≤ 2147483647 := by
  have h1 := Int32.le_toInt x
  have h2 := Int32.toInt_lt x
  omega
theorem ty_rgL (x : Int64) : -9223372036854775808 ≤ x.toInt ∧ x.toInt ≤ 9223372036854775807 := by
  have h1 := Int64.le_toInt x
  have h2 := Int64.toInt_lt x
  omega
/-- a new int that holds z -/
theorem ty_res {ρ : Nat → Int} {e : ty_E} (h : ty_er ρ e) {l u z : Int} (h1 : l ≤ z) (h2 : z ≤ u) {cs : List ty_t} (hc : ∀ c ∈ cs, ty_sc (e.1 + 1) c ∧ ty_ev (ty_up ρ e.1 z) c ≤ 0) : ∃ ρ', ty_ag e.1 ρ ρ' ∧ ty_er ρ' (ty_fr e l u cs) ∧ e.1 ≤ (ty_fr e l u cs).1 ∧ ty_is (ty_fr e l u cs).1 ρ' (ty_s e.1) z := by
  obtain ⟨g1, g2⟩ := ty_fr_ok h h1 h2 hc
  exact ⟨_, ty_up_ag ρ e.1 z, g1, by omega, by rw [g2]; exact ⟨ty_s_sc (Nat.lt_succ_self _), by rw [ty_s_ev, ty_up_at]⟩⟩
theorem ty_res0 {ρ : Nat → Int} {e : ty_E} (h : ty_er ρ e) {l u z : Int} (h1 : l ≤ z) (h2 : z ≤ u) : ∃ ρ', ty_ag e.1 ρ ρ' ∧ ty_er ρ' (ty_fr e l u []) ∧ e.1 ≤ (ty_fr e l u []).1 ∧ ty_is (ty_fr e l u []).1 ρ' (ty_s e.1) z := ty_res h h1 h2 (fun c hc => by cases hc)
def ty_rr (ρ : Nat → Int) (e : ty_E) (z : Int) (r : ty_E × ty_t) : Prop := ∃ ρ', ty_ag e.1 ρ ρ' ∧ ty_er ρ' r.1 ∧ e.1 ≤ r.1.1 ∧ ty_is r.1.1 ρ' r.2 z
theorem ty_rr_id {ρ : Nat → Int} {e : ty_E} (h : ty_er ρ e) {z : Int} {t : ty_t} (ht : ty_is e.1 ρ t z) : ty_rr ρ e z (e, t) := ⟨ρ, fun _ _ => rfl, h, Nat.le_refl _, ht⟩
theorem ty_full_ok {ρ : Nat → Int} {e : ty_E} (h : ty_er ρ e) (z : Int32) : ty_rr ρ e z.toInt (ty_full e) := ty_res0 h (ty_rg z).1 (ty_rg z).2
theorem ty_ok_ok {ρ : Nat → Int} {e : ty_E} (h : ty_er ρ e) {t : ty_t} {z : Int32} {w : Int} (ht : ty_is e.1 ρ t w) (hz : z.toInt = ty_wr w) : ty_rr ρ e z.toInt (ty_ok e t) := by
  unfold ty_ok
  cases hc : (ty_le ty_MIN (ty_lo e t) && ty_le (ty_hi e t) ty_MAX) with
  | false => exact ty_full_ok h z
  | true =>
    obtain ⟨h1, h2⟩ := ex_and hc
    have h1 := ty_le_t h1
    have h2 := ty_le_t h2
    have l1 := ty_lo_ok h.1 t
    have l2 := ty_hi_ok h.1 t
    rw [ht.2] at l1 l2
    have e1 : ty_wr w = w := ty_wr_id (by have : ty_MIN = -2147483648 := rfl; omega) (by have : ty_MAX = 2147483647 := rfl; omega)
    rw [hz, e1]
    exact ty_rr_id h ht
theorem ty_cst_ok {ρ : Nat → Int} {e : ty_E} (h : ty_er ρ e) {t : ty_t} {c : Int} (hc : ty_cst e t = some c) : ty_ev ρ t = c := by
  unfold ty_cst at hc
  rw [ty_fc_eq] at hc
  obtain ⟨h1, h2⟩ := ex_bifs hc
  injection h2 with h2
  have h1 := ty_le_t h1
  have l1 := ty_lo_ok h.1 t
  have l2 := ty_hi_ok h.1 t
  omega
def ty_bv (o : Instr) (x y : Int32) : Option Int32 := match o with
  | .iadd => some (x + y)
  | .isub => some (x - y)
  | .imul => some (x * y)
  | .iand => some (x &&& y)
  | .ior => some (x ||| y)
  | .ixor => some (x ^^^ y)
  | .ishl => some (x <<< (y &&& 31))
  | .ishr => some (x >>> (y &&& 31))
  | .iushr => some (x.toUInt32 >>> (y.toUInt32 &&& Int32.toUInt32 31)).toInt32
  | .idiv => some (x / y)
  | .irem => some (x - x / y * y)
  | _ => none
/-- what an operation's answer says -/
def ty_an (ρ : Nat → Int) (e : ty_E) (o : Instr) (y z : Int32) (r : ty_R) : Prop := match r with
  | .inl _ => True
  | .inr (.inl d) => ty_sc e.1 d
  | .inr (.inr w) => ((o = .idiv ∨ o = .irem) → ¬ y = 0) ∧ ty_rr ρ e z.toInt w
theorem ty_N (x : Int32) : (x.toBitVec.toNat : Int) = if 0 ≤ x.toInt then x.toInt else x.toInt + 4294967296 := by
  have h := x.toBitVec.isLt
  have e : x.toInt = x.toBitVec.toInt := rfl
  rw [e, BitVec.toInt_eq_toNat_cond]
  split <;> split <;> omega
theorem ty_and_b (x y : Int32) : (0 ≤ x.toInt → 0 ≤ (x &&& y).toInt ∧ (x &&& y).toInt ≤ x.toInt) ∧ (0 ≤ y.toInt → 0 ≤ (x &&& y).toInt ∧ (x &&& y).toInt ≤ y.toInt) ∧ (x.toInt < 0 → y.toInt < 0 → (x &&& y).toInt < 0 ∧ (x &&& y).toInt ≤ x.toInt ∧ (x &&& y).toInt ≤ y.toInt) := by
  have n1 := ty_N x
  have n2 := ty_N y
  have n3 := ty_N (x &&& y)
  have r1 := ty_rg x
  have r2 := ty_rg y
  have r3 := ty_rg (x &&& y)
  have e : (x &&& y).toBitVec.toNat = x.toBitVec.toNat &&& y.toBitVec.toNat := by rw [Int32.toBitVec_and, BitVec.toNat_and]
  have l1 : x.toBitVec.toNat &&& y.toBitVec.toNat ≤ x.toBitVec.toNat := Nat.and_le_left
  have l2 : x.toBitVec.toNat &&& y.toBitVec.toNat ≤ y.toBitVec.toNat := Nat.and_le_right
  rw [← e] at l1 l2
  refine ⟨fun h => ?_, fun h => ?_, fun h1 h2 => ?_⟩
  · rw [if_pos h] at n1
    split at n3 <;> omega
  · rw [if_pos h] at n2
    split at n3 <;> omega
  · have m1 : x.toBitVec.msb = true := by rw [BitVec.msb_eq_toInt]; exact decide_eq_true h1
    have m2 : y.toBitVec.msb = true := by rw [BitVec.msb_eq_toInt]; exact decide_eq_true h2
    have m3 : (x &&& y).toBitVec.msb = true := by rw [Int32.toBitVec_and, BitVec.msb_and, m1, m2]; rfl
    rw [BitVec.msb_eq_toInt] at m3
    have m3 : (x &&& y).toInt < 0 := of_decide_eq_true m3
    rw [if_neg (by omega)] at n1 n2 n3
    omega
theorem ty_up_s (ρ : Nat → Int) (n : Nat) (v : Int) : ty_ev (ty_up ρ n v) (ty_s n) = v := by rw [ty_s_ev, ty_up_at]
theorem ty_up_t {ρ : Nat → Int} {n : Nat} {v : Int} {t : ty_t} {z : Int} (h : ty_is n ρ t z) : ty_ev (ty_up ρ n v) t = z := by rw [ty_ev_ag (ty_up_ag ρ n v) h.1]; exact h.2
theorem ty_cs_ok {ρ : Nat → Int} {e : ty_E} {a : ty_t} {x z : Int} (ha : ty_is e.1 ρ a x) (h : z ≤ x) : ∀ c ∈ ty_cs e a, ty_sc (e.1 + 1) c ∧ ty_ev (ty_up ρ e.1 z) c ≤ 0 := by
  intro c hc
  unfold ty_cs at hc
  split at hc
  · cases hc
  · rw [List.mem_singleton] at hc
    subst hc
    exact ⟨ty_add_sc (ty_s_sc (Nat.lt_succ_self _)) (ha.1.mono (Nat.le_succ _)), by rw [ty_sub_ev, ty_up_s, ty_up_t ha]; omega⟩
theorem ty_cs2_ok {ρ : Nat → Int} {e : ty_E} {a b : ty_t} {x y z : Int} (ha : ty_is e.1 ρ a x) (hb : ty_is e.1 ρ b y) (h1 : z ≤ x) (h2 : z ≤ y) : ∀ c ∈ ex_app (ty_cs e a) (ty_cs e b), ty_sc (e.1 + 1) c ∧ ty_ev (ty_up ρ e.1 z) c ≤ 0 := by
  intro c hc
  rw [ex_app_eq] at hc
  rcases List.mem_append.mp hc with hc | hc
  · exact ty_cs_ok ha h1 c hc
  · exact ty_cs_ok hb h2 c hc
theorem ty_mn_le (a b : Int) : ty_mn a b ≤ a ∧ ty_mn a b ≤ b ∧ (ty_mn a b = a ∨ ty_mn a b = b) := by
  unfold ty_mn
  cases h : ty_le a b with
  | true => have := ty_le_t h; exact ⟨Int.le_refl _, this, Or.inl rfl⟩
  | false => have := ty_le_f h; exact ⟨by show b ≤ a; omega, Int.le_refl _, Or.inr rfl⟩
theorem ty_mx_ge (a b : Int) : a ≤ ty_mx a b ∧ b ≤ ty_mx a b := by
  unfold ty_mx
  cases h : ty_le a b with
  | true => have := ty_le_t h; exact ⟨this, Int.le_refl _⟩
  | false => have := ty_le_f h; exact ⟨Int.le_refl _, by show b ≤ a; omega⟩
section TYO
variable {ρ : Nat → Int} {e : ty_E} {a b : ty_t} {x y : Int32} {r : ty_R}
theorem ty_no {o : Instr} (h : o ≠ .idiv) (h' : o ≠ .irem) {y : Int32} : (o = .idiv ∨ o = .irem) → ¬ y = 0 := fun q => by
  rcases q with q | q
  · exact absurd q h
  · exact absurd q h'
theorem ty_a_add_ok (h : ty_er ρ e) (ha : ty_is e.1 ρ a x.toInt) (hb : ty_is e.1 ρ b y.toInt) (hr : ty_a_add e a b = some r) : ty_an ρ e .iadd y (x + y) r := by
  injection hr with hr
  subst hr
  exact ⟨ty_no (by decide) (by decide), ty_ok_ok h (ty_is_add ha hb 1) (by rw [Int32.toInt_add, ty_bm, Int.one_mul])⟩
theorem ty_a_sub_ok (h : ty_er ρ e) (ha : ty_is e.1 ρ a x.toInt) (hb : ty_is e.1 ρ b y.toInt) (hr : ty_a_sub e a b = some r) : ty_an ρ e .isub y (x - y) r := by
  have gen : ty_rr ρ e (x - y).toInt (ty_ok e (ty_add a b (-1))) := ty_ok_ok h (ty_is_add ha hb (-1)) (by rw [Int32.toInt_sub, ty_bm]; congr 1; omega)
  unfold ty_a_sub at hr
  split at hr
  · rename_i u w hu hw
    injection hr with hr
    subst hr
    have e1 := ty_cst_ok h hu
    have e2 := ty_cst_ok h hw
    rw [ha.2] at e1
    rw [hb.2] at e2
    refine ⟨ty_no (by decide) (by decide), ty_rr_id h ?_⟩
    rw [Int32.toInt_sub, ty_bm, e1, e2]
    exact ty_is_k _ _ _
  · rename_i w hu hw
    rcases ex_bif (P := fun z => z = some r) hr with ⟨g1, g2⟩ | ⟨g1, g2⟩
    · injection g2 with g2
      subst g2
      exact ty_pl_sc ha.1
    · injection g2 with g2
      subst g2
      exact ⟨ty_no (by decide) (by decide), gen⟩
  · injection hr with hr
    subst hr
    exact ⟨ty_no (by decide) (by decide), gen⟩
theorem ty_a_mul_ok (h : ty_er ρ e) (ha : ty_is e.1 ρ a x.toInt) (hb : ty_is e.1 ρ b y.toInt) (hr : ty_a_mul e a b = some r) : ty_an ρ e .imul y (x * y) r := by
  unfold ty_a_mul at hr
  split at hr
  · rename_i u hu
    injection hr with hr
    subst hr
    have e1 := ty_cst_ok h hu
    rw [ha.2] at e1
    exact ⟨ty_no (by decide) (by decide), ty_ok_ok h (ty_is_add (ty_is_k _ _ 0) hb u) (by rw [Int32.toInt_mul, ty_bm, e1, Int.zero_add])⟩
  · split at hr
    · rename_i w hw
      injection hr with hr
      subst hr
      have e1 := ty_cst_ok h hw
      rw [hb.2] at e1
      exact ⟨ty_no (by decide) (by decide), ty_ok_ok h (ty_is_add (ty_is_k _ _ 0) ha w) (by rw [Int32.toInt_mul, ty_bm, e1, Int.zero_add, Int.mul_comm])⟩
    · split at hr
      · injection hr with hr
        subst hr
        exact trivial
      · split at hr
        · injection hr with hr
          subst hr
          exact trivial
        · injection hr with hr
          subst hr
          exact ⟨ty_no (by decide) (by decide), ty_full_ok h _⟩
theorem ty_un {x : Int32} (h : 0 ≤ x.toInt) : ((ex_u x - 2147483648 : Nat) : Int) = x.toInt := by
  have u1 := ex_u_int x
  omega
theorem ty_div_b {x y : Int32} (hx : 0 ≤ x.toInt) (hy : 1 ≤ y.toInt) : (x / y).toInt = x.toInt / y.toInt ∧ (x - x / y * y).toInt = x.toInt % y.toInt := by
  have u1 := ex_u_int x
  have u2 := ex_u_int y
  have e1 := ty_un hx
  have e2 := ty_un (x := y) (by omega)
  have d := ex_u_div (x := x) (y := y) (by omega) (by omega)
  have m := ex_u_rem (x := x) (y := y) (by omega) (by omega)
  have u3 := ex_u_int (x / y)
  have u4 := ex_u_int (x - x / y * y)
  have q1 : (((ex_u x - 2147483648) / (ex_u y - 2147483648) : Nat) : Int) = x.toInt / y.toInt := by rw [Int.natCast_ediv, e1, e2]
  have q2 : (((ex_u x - 2147483648) % (ex_u y - 2147483648) : Nat) : Int) = x.toInt % y.toInt := by rw [Int.natCast_emod, e1, e2]
  constructor <;> omega
theorem ty_y0 {y : Int32} (h : 1 ≤ y.toInt ∨ y.toInt ≤ -1) : ¬ y = 0 := fun q => by
  subst q
  have : (0 : Int32).toInt = 0 := rfl
  omega
theorem ty_a_div_ok (h : ty_er ρ e) (ha : ty_is e.1 ρ a x.toInt) (hb : ty_is e.1 ρ b y.toInt) (hr : ty_a_div e a b = some r) : ty_an ρ e .idiv y (x / y) r := by
  unfold ty_a_div at hr
  split at hr
  · rename_i c hc
    have ec := ty_cst_ok h hc
    rw [hb.2] at ec
    rcases ex_bif (P := fun z => z = some r) hr with ⟨g1, g2⟩ | ⟨g1, g2⟩
    · have g1 := ty_le_t g1
      have hy : ¬ y = 0 := ty_y0 (Or.inl (by omega))
      rcases ex_bif (P := fun z => z = some r) g2 with ⟨g3, g4⟩ | ⟨g3, g4⟩
      · have g3 := ty_nn_t g3
        injection g4 with g4
        subst g4
        have l1 := ty_lo_ok h.1 a
        have l2 := ty_hi_ok h.1 a
        rw [ha.2] at l1 l2
        have d := (ty_div_b (x := x) (y := y) (by omega) (by omega)).1
        rw [ec] at d
        have m1 : c * (x.toInt / c) ≤ x.toInt := Int.mul_ediv_self_le (by omega)
        have m2 : x.toInt < c * (x.toInt / c) + c := Int.lt_mul_ediv_self_add (by omega)
        refine ⟨fun _ => hy, ?_⟩
        rw [d]
        refine ty_res h (Int.ediv_le_ediv (by omega) l1) (Int.ediv_le_ediv (by omega) l2) (fun t ht => ?_)
        have sS : ty_sc (e.1 + 1) (ty_s e.1) := ty_s_sc (Nat.lt_succ_self _)
        have sA : ty_sc (e.1 + 1) a := ha.1.mono (Nat.le_succ _)
        rcases List.mem_cons.mp ht with rfl | ht
        · refine ⟨ty_add_sc (ty_add_sc ty_k_sc sS) sA, ?_⟩
          rw [ty_sub_ev, ty_add_ev, ty_k_ev, ty_up_s, ty_up_t ha]
          omega
        · rw [List.mem_singleton] at ht
          subst ht
          refine ⟨ty_pl_sc (ty_add_sc sA sS), ?_⟩
          rw [ty_pl_ev, ty_add_ev, ty_up_s, ty_up_t ha, Int.neg_mul]
          omega
      · injection g4 with g4
        subst g4
        exact ⟨fun _ => hy, ty_full_ok h _⟩
    · obtain ⟨g3, g4⟩ := ex_bifs g2
      injection g4 with g4
      subst g4
      have g3 := ty_le_t g3
      exact ⟨fun _ => ty_y0 (Or.inr (by omega)), ty_full_ok h _⟩
  · split at hr
    · injection hr with hr
      subst hr
      exact trivial
    · obtain ⟨g3, g4⟩ := ex_bifs hr
      injection g4 with g4
      subst g4
      have l1 := ty_lo_ok h.1 b
      have l2 := ty_hi_ok h.1 b
      rw [hb.2] at l1 l2
      refine ⟨fun _ => ?_, ty_full_ok h _⟩
      rcases Bool.or_eq_true _ _ |>.mp g3 with g | g
      · have g := ty_le_t g
        exact ty_y0 (Or.inl (by omega))
      · have g := ty_le_t g
        exact ty_y0 (Or.inr (by omega))
theorem ty_a_rem_ok (h : ty_er ρ e) (ha : ty_is e.1 ρ a x.toInt) (hb : ty_is e.1 ρ b y.toInt) (hr : ty_a_rem e a b = some r) : ty_an ρ e .irem y (x - x / y * y) r := by
  have l1 := ty_lo_ok h.1 a
  have l2 := ty_hi_ok h.1 a
  rw [ha.2] at l1 l2
  have k1 := ty_lo_ok h.1 b
  have k2 := ty_hi_ok h.1 b
  rw [hb.2] at k1 k2
  unfold ty_a_rem at hr
  split at hr
  · rename_i c hc
    have ec := ty_cst_ok h hc
    rw [hb.2] at ec
    rcases ex_bif (P := fun z => z = some r) hr with ⟨g1, g2⟩ | ⟨g1, g2⟩
    · have g1 := ty_le_t g1
      have hy : ¬ y = 0 := ty_y0 (Or.inl (by omega))
      rcases ex_bif (P := fun z => z = some r) g2 with ⟨g3, g4⟩ | ⟨g3, g4⟩
      · have g3 := ty_nn_t g3
        injection g4 with g4
        subst g4
        have d := (ty_div_b (x := x) (y := y) (by omega) (by omega)).2
        rw [ec] at d
        have m1 : 0 ≤ x.toInt % c := Int.emod_nonneg _ (by omega)
        have m2 : x.toInt % c < c := Int.emod_lt_of_pos _ (by omega)
        have m3 : x.toInt % c ≤ x.toInt := by
          have q1 : 0 ≤ c * (x.toInt / c) := Int.mul_nonneg (by omega) (Int.ediv_nonneg (by omega) (by omega))
          have q2 := Int.emod_add_mul_ediv x.toInt c
          omega
        obtain ⟨z1, z2, z3⟩ := ty_mn_le (c - 1) (ty_hi e a)
        refine ⟨fun _ => hy, ?_⟩
        rw [d]
        exact ty_res0 h m1 (by rcases z3 with z | z <;> omega)
      · injection g4 with g4
        subst g4
        exact ⟨fun _ => hy, ty_full_ok h _⟩
    · obtain ⟨g3, g4⟩ := ex_bifs g2
      injection g4 with g4
      subst g4
      have g3 := ty_le_t g3
      exact ⟨fun _ => ty_y0 (Or.inr (by omega)), ty_full_ok h _⟩
  · split at hr
    · injection hr with hr
      subst hr
      exact trivial
    · rcases ex_bif (P := fun z => z = some r) hr with ⟨g1, g2⟩ | ⟨g1, g2⟩
      · have g1 := ty_le_t g1
        have hy : ¬ y = 0 := ty_y0 (Or.inl (by omega))
        rcases ex_bif (P := fun z => z = some r) g2 with ⟨g3, g4⟩ | ⟨g3, g4⟩
        · have g3 := ty_nn_t g3
          injection g4 with g4
          subst g4
          have d := (ty_div_b (x := x) (y := y) (by omega) (by omega)).2
          have m1 : 0 ≤ x.toInt % y.toInt := Int.emod_nonneg _ (by omega)
          have m2 : x.toInt % y.toInt < y.toInt := Int.emod_lt_of_pos _ (by omega)
          refine ⟨fun _ => hy, ?_⟩
          rw [d]
          refine ty_res h m1 (by omega) (fun t ht => ?_)
          rw [List.mem_singleton] at ht
          subst ht
          refine ⟨ty_pl_sc (ty_add_sc (ty_s_sc (Nat.lt_succ_self _)) (hb.1.mono (Nat.le_succ _))), ?_⟩
          rw [ty_pl_ev, ty_sub_ev, ty_up_s, ty_up_t hb]
          omega
        · injection g4 with g4
          subst g4
          exact ⟨fun _ => hy, ty_full_ok h _⟩
      · obtain ⟨g3, g4⟩ := ex_bifs g2
        injection g4 with g4
        subst g4
        have g3 := ty_le_t g3
        exact ⟨fun _ => ty_y0 (Or.inr (by omega)), ty_full_ok h _⟩
theorem ty_a_and1_ok (h : ty_er ρ e) (ha : ty_is e.1 ρ a x.toInt) (hb : ty_is e.1 ρ b y.toInt) (hr : ty_a_and1 e a b = some r) : ty_an ρ e .iand y (x &&& y) r := by
  have l1 := ty_lo_ok h.1 a
  have l2 := ty_hi_ok h.1 a
  rw [ha.2] at l1 l2
  have k1 := ty_lo_ok h.1 b
  have k2 := ty_hi_ok h.1 b
  rw [hb.2] at k1 k2
  obtain ⟨b1, b2, b3⟩ := ty_and_b x y
  obtain ⟨z1, z2, z3⟩ := ty_mn_le (ty_hi e a) (ty_hi e b)
  have nd : ((Instr.iand = .idiv ∨ Instr.iand = .irem) → ¬ y = 0) := ty_no (by decide) (by decide)
  unfold ty_a_and1 at hr
  rcases ex_bif (P := fun z => z = some r) hr with ⟨g1, g2⟩ | ⟨g1, g2⟩
  · have g1 := ty_nn_t g1
    have b1 := b1 (by omega)
    rcases ex_bif (P := fun z => z = some r) g2 with ⟨g3, g4⟩ | ⟨g3, g4⟩
    · have g3 := ty_nn_t g3
      have b2 := b2 (by omega)
      injection g4 with g4
      subst g4
      exact ⟨nd, ty_res h b1.1 (by rcases z3 with z | z <;> omega) (ty_cs2_ok ha hb b1.2 b2.2)⟩
    · injection g4 with g4
      subst g4
      exact ⟨nd, ty_res0 h b1.1 (by omega)⟩
  · rcases ex_bif (P := fun z => z = some r) g2 with ⟨g3, g4⟩ | ⟨g3, g4⟩
    · have g3 := ty_nn_t g3
      have b2 := b2 (by omega)
      injection g4 with g4
      subst g4
      exact ⟨nd, ty_res0 h b2.1 (by omega)⟩
    · rcases ex_bif (P := fun z => z = some r) g4 with ⟨g5, g6⟩ | ⟨g5, g6⟩
      · obtain ⟨g5, g7⟩ := ex_and g5
        have g5 := ty_le_t g5
        have g7 := ty_le_t g7
        have b3 := b3 (by omega) (by omega)
        injection g6 with g6
        subst g6
        exact ⟨nd, ty_res h (ty_rg _).1 (by rcases z3 with z | z <;> omega) (ty_cs2_ok ha hb b3.2.1 b3.2.2)⟩
      · injection g6 with g6
        subst g6
        exact ⟨nd, ty_full_ok h _⟩
theorem ty_ones_ok {y : Int} (h : ty_ones y = true) : ∃ k : Nat, 1 ≤ k ∧ k ≤ 8 ∧ y = 2 ^ k - 1 := by
  obtain ⟨k, h1, h2⟩ := ty_any_t h
  have h2 := ty_0_t h2
  refine ⟨k, ?_, ?_, by omega⟩ <;> (simp only [List.mem_cons, List.not_mem_nil, or_false] at h1; omega)
theorem ty_mask {x y : Int32} {k : Nat} (h1 : 1 ≤ k) (h2 : k ≤ 8) (hy : y.toInt = 2 ^ k - 1) (l1 : -(2 ^ k : Int) ≤ x.toInt) (l2 : x.toInt ≤ 2 ^ k - 1) : (x &&& y).toInt = if 0 ≤ x.toInt then x.toInt else x.toInt + 2 ^ k := by
  have n1 := ty_N x
  have n2 := ty_N y
  have n3 := ty_N (x &&& y)
  have r3 := ty_rg (x &&& y)
  have e : (x &&& y).toBitVec.toNat = x.toBitVec.toNat &&& y.toBitVec.toNat := by rw [Int32.toBitVec_and, BitVec.toNat_and]
  have ey : y.toBitVec.toNat = 2 ^ k - 1 := by
    have p0 : 1 ≤ 2 ^ k := Nat.one_le_two_pow
    have p : (1 : Int) ≤ 2 ^ k := by exact_mod_cast p0
    rw [hy, if_pos (by omega)] at n2
    have q : ((2 ^ k - 1 : Nat) : Int) = 2 ^ k - 1 := by
      have : 1 ≤ 2 ^ k := Nat.one_le_two_pow
      push_cast [this]
      rfl
    omega
  rw [ey, Nat.and_two_pow_sub_one_eq_mod] at e
  rcases (show k = 1 ∨ k = 2 ∨ k = 3 ∨ k = 4 ∨ k = 5 ∨ k = 6 ∨ k = 7 ∨ k = 8 by omega) with rfl | rfl | rfl | rfl | rfl | rfl | rfl | rfl <;> (split at n1 <;> split at n3 <;> split <;> omega)
theorem ty_a_and_ok (h : ty_er ρ e) (ha : ty_is e.1 ρ a x.toInt) (hb : ty_is e.1 ρ b y.toInt) (hr : ty_a_and e a b = some r) : ty_an ρ e .iand y (x &&& y) r := by
  have nd : ((Instr.iand = .idiv ∨ Instr.iand = .irem) → ¬ y = 0) := ty_no (by decide) (by decide)
  unfold ty_a_and at hr
  split at hr
  · rename_i c hc
    have ec := ty_cst_ok h hc
    rw [hb.2] at ec
    rcases ex_bif (P := fun z => z = some r) hr with ⟨g1, g2⟩ | ⟨g1, g2⟩
    · obtain ⟨g1, c3⟩ := ex_and g1
      obtain ⟨c1, c2⟩ := ex_and g1
      obtain ⟨k, k1, k2, k3⟩ := ty_ones_ok c1
      have c2 := ty_le_t c2
      have c3 := ty_le_t c3
      have l1 := ty_lo_ok h.1 a
      have l2 := ty_hi_ok h.1 a
      rw [ha.2] at l1 l2
      have mk := ty_mask (x := x) (y := y) k1 k2 (by omega) (by omega) (by omega)
      rcases ex_bif (P := fun z => z = some r) g2 with ⟨g3, g4⟩ | ⟨g3, g4⟩
      · have g3 := ty_nn_t g3
        injection g4 with g4
        subst g4
        rw [if_pos (by omega)] at mk
        refine ⟨nd, ?_⟩
        rw [mk]
        exact ty_rr_id h ha
      · rcases ex_bif (P := fun z => z = some r) g4 with ⟨g5, g6⟩ | ⟨g5, g6⟩
        · have g5 := ty_le_t g5
          injection g6 with g6
          subst g6
          rw [if_neg (by omega)] at mk
          refine ⟨nd, ?_⟩
          rw [mk]
          have := ty_is_pl ha (c + 1)
          rw [show x.toInt + (c + 1) = x.toInt + 2 ^ k by omega] at this
          exact ty_rr_id h this
        · injection g6 with g6
          subst g6
          exact ha.1
    · exact ty_a_and1_ok h ha hb g2
  · exact ty_a_and1_ok h ha hb hr
theorem ty_pw_ok {n : Nat} {h : Int} (hn : (n : Int) ≤ h) (hh : h ≤ 2147483647) : ∃ k : Nat, k ≤ 31 ∧ n < 2 ^ k ∧ ty_pw h = ((2 ^ k - 1 : Nat) : Int) := by
  obtain ⟨m, rfl⟩ : ∃ m : Nat, h = (m : Int) := ⟨h.toNat, by omega⟩
  show ∃ k : Nat, k ≤ 31 ∧ n < 2 ^ k ∧ (bif Nat.beq m 0 then (0 : Int) else Int.ofNat (2 ^ (Nat.log2 m + 1) - 1)) = ((2 ^ k - 1 : Nat) : Int)
  cases hb : Nat.beq m 0 with
  | true =>
    have := ex_beq hb
    exact ⟨0, by omega, by omega, rfl⟩
  | false =>
    have h0 := ex_bne hb
    have h1 : m < 2 ^ (Nat.log2 m + 1) := Nat.lt_log2_self
    have h2 : Nat.log2 m < 31 := (Nat.log2_lt h0).mpr (by omega)
    exact ⟨Nat.log2 m + 1, by omega, by omega, rfl⟩
theorem ty_or_b {x y z : Int32} (hz : z.toBitVec.toNat = x.toBitVec.toNat ||| y.toBitVec.toNat ∨ z.toBitVec.toNat = x.toBitVec.toNat ^^^ y.toBitVec.toNat) (hx : 0 ≤ x.toInt) (hy : 0 ≤ y.toInt) {u v : Int} (h1 : x.toInt ≤ u) (h2 : y.toInt ≤ v) (h3 : u ≤ 2147483647) (h4 : v ≤ 2147483647) : 0 ≤ z.toInt ∧ z.toInt ≤ ty_mx (ty_pw u) (ty_pw v) := by
  have n1 := ty_N x
  have n2 := ty_N y
  have n3 := ty_N z
  rw [if_pos hx] at n1
  rw [if_pos hy] at n2
  obtain ⟨k, k1, k2, k3⟩ := ty_pw_ok (n := x.toBitVec.toNat) (h := u) (by omega) h3
  obtain ⟨j, j1, j2, j3⟩ := ty_pw_ok (n := y.toBitVec.toNat) (h := v) (by omega) h4
  have p1 : 2 ^ k ≤ 2 ^ max k j := Nat.pow_le_pow_right (by omega) (by omega)
  have p2 : 2 ^ j ≤ 2 ^ max k j := Nat.pow_le_pow_right (by omega) (by omega)
  have p3 : 2 ^ max k j ≤ 2 ^ 31 := Nat.pow_le_pow_right (by omega) (by omega)
  have p4 : z.toBitVec.toNat < 2 ^ max k j := by
    rcases hz with hz | hz <;> rw [hz]
    · exact Nat.or_lt_two_pow (by omega) (by omega)
    · exact Nat.xor_lt_two_pow (by omega) (by omega)
  have m := ty_mx_ge (ty_pw u) (ty_pw v)
  have r := ty_rg z
  have q : (z.toBitVec.toNat : Int) ≤ ty_mx (ty_pw u) (ty_pw v) := by
    rcases Nat.le_total k j with hkj | hkj
    · rw [Nat.max_eq_right hkj] at p4
      have m2 := m.2
      have m3 : ((2 ^ j - 1 : Nat) : Int) ≤ ty_mx (ty_pw u) (ty_pw v) := by rw [← j3]; exact m2
      omega
    · rw [Nat.max_eq_left hkj] at p4
      have m2 := m.1
      have m3 : ((2 ^ k - 1 : Nat) : Int) ≤ ty_mx (ty_pw u) (ty_pw v) := by rw [← k3]; exact m2
      omega
  split at n3 <;> omega
theorem ty_a_or_ok {o : Instr} {z : Int32} (ho : (o = .ior ∧ z = x ||| y) ∨ (o = .ixor ∧ z = x ^^^ y)) (h : ty_er ρ e) (ha : ty_is e.1 ρ a x.toInt) (hb : ty_is e.1 ρ b y.toInt) (hr : ty_a_or e a b = some r) : ty_an ρ e o y z r := by
  have nd : ((o = .idiv ∨ o = .irem) → ¬ y = 0) := by
    rcases ho with ⟨rfl, -⟩ | ⟨rfl, -⟩
    · exact ty_no (by decide) (by decide)
    · exact ty_no (by decide) (by decide)
  unfold ty_a_or at hr
  rcases ex_bif (P := fun z => z = some r) hr with ⟨g1, g2⟩ | ⟨g1, g2⟩
  · obtain ⟨g1, g3⟩ := ex_and g1
    have g1 := ty_nn_t g1
    have g3 := ty_nn_t g3
    have l1 := ty_lo_ok h.1 a
    have l2 := ty_hi_ok h.1 a
    rw [ha.2] at l1 l2
    have k1 := ty_lo_ok h.1 b
    have k2 := ty_hi_ok h.1 b
    rw [hb.2] at k1 k2
    injection g2 with g2
    subst g2
    refine ⟨nd, ?_⟩
    have hz : z.toBitVec.toNat = x.toBitVec.toNat ||| y.toBitVec.toNat ∨ z.toBitVec.toNat = x.toBitVec.toNat ^^^ y.toBitVec.toNat := by
      rcases ho with ⟨-, rfl⟩ | ⟨-, rfl⟩
      · exact Or.inl (by rw [Int32.toBitVec_or, BitVec.toNat_or])
      · exact Or.inr (by rw [Int32.toBitVec_xor, BitVec.toNat_xor])
    by_cases big : ty_hi e a ≤ 2147483647 ∧ ty_hi e b ≤ 2147483647
    · obtain ⟨q1, q2⟩ := ty_or_b hz (by omega) (by omega) l2 k2 big.1 big.2
      exact ty_res0 h q1 q2
    · -- a range above the ints: the answer is below it all the same
      have rx := ty_rg x
      have ry := ty_rg y
      obtain ⟨q1, q2⟩ := ty_or_b hz (by omega) (by omega) rx.2 ry.2 (Int.le_refl _) (Int.le_refl _)
      have m := ty_mx_ge (ty_pw (ty_hi e a)) (ty_pw (ty_hi e b))
      have pwb : ∀ w : Int, 2147483647 < w → (2147483647 : Int) ≤ ty_pw w := by
        intro w hw
        obtain ⟨m', rfl⟩ : ∃ m' : Nat, w = (m' : Int) := ⟨w.toNat, by omega⟩
        show (2147483647 : Int) ≤ (bif Nat.beq m' 0 then (0 : Int) else Int.ofNat (2 ^ (Nat.log2 m' + 1) - 1))
        cases hb : Nat.beq m' 0 with
        | true => have := ex_beq hb; omega
        | false =>
          have h1 : m' < 2 ^ (Nat.log2 m' + 1) := Nat.lt_log2_self
          show (2147483647 : Int) ≤ ((2 ^ (Nat.log2 m' + 1) - 1 : Nat) : Int)
          omega
      have t : ty_mx (ty_pw 2147483647) (ty_pw 2147483647) = 2147483647 := by decide
      rw [t] at q2
      refine ty_res0 h q1 ?_
      by_cases w : 2147483647 < ty_hi e a
      · have := pwb _ w; omega
      · have := pwb (ty_hi e b) (by omega); omega
  · injection g2 with g2
    subst g2
    exact ⟨nd, ty_full_ok h _⟩
theorem ty_one_shl : ∀ j, j < 31 → ((1 : Int32) <<< (nI j &&& 31)).toInt = 2 ^ j := by decide
theorem ty_asI {x : Int32} {j : Nat} (h : x.toInt = (j : Int)) (hj : j < 2 ^ 31) : x = nI j := Int32.toInt_inj.mp (by rw [nI_toInt hj]; exact h)
theorem ty_a_shl_ok (h : ty_er ρ e) (ha : ty_is e.1 ρ a x.toInt) (hb : ty_is e.1 ρ b y.toInt) (hr : ty_a_shl e a b = some r) : ty_an ρ e .ishl y (x <<< (y &&& 31)) r := by
  have nd : ((Instr.ishl = .idiv ∨ Instr.ishl = .irem) → ¬ y = 0) := ty_no (by decide) (by decide)
  unfold ty_a_shl at hr
  split at hr
  · rename_i c hc
    have ec := ty_cst_ok h hc
    rw [ha.2] at ec
    rcases ex_bif (P := fun z => z = some r) hr with ⟨g1, g2⟩ | ⟨g1, g2⟩
    · obtain ⟨g1, c3⟩ := ex_and g1
      obtain ⟨c1, c2⟩ := ex_and g1
      have c1 := ty_0_t c1
      have c2 := ty_nn_t c2
      have c3 := ty_le_t c3
      have k1 := ty_lo_ok h.1 b
      have k2 := ty_hi_ok h.1 b
      rw [hb.2] at k1 k2
      injection g2 with g2
      subst g2
      obtain ⟨j, hj⟩ : ∃ j : Nat, y.toInt = (j : Int) := ⟨y.toInt.toNat, by omega⟩
      have ex : x = 1 := ty_asI (j := 1) (by omega) (by decide)
      have ey : y = nI j := ty_asI hj (by omega)
      refine ⟨nd, ?_⟩
      have v : (x <<< (y &&& 31)).toInt = 2 ^ j := by rw [ex, ey]; exact ty_one_shl j (by omega)
      rw [v]
      have q1 : (2 ^ (ty_lo e b).toNat : Int) ≤ 2 ^ j := by
        have : 2 ^ (ty_lo e b).toNat ≤ 2 ^ j := Nat.pow_le_pow_right (by omega) (by omega)
        exact_mod_cast this
      have q2 : (2 ^ j : Int) ≤ 2 ^ (ty_hi e b).toNat := by
        have : 2 ^ j ≤ 2 ^ (ty_hi e b).toNat := Nat.pow_le_pow_right (by omega) (by omega)
        exact_mod_cast this
      exact ty_res0 h q1 q2
    · injection g2 with g2
      subst g2
      exact ⟨nd, ty_full_ok h _⟩
  · injection hr with hr
    subst hr
    exact ⟨nd, ty_full_ok h _⟩
theorem ty_shk : ∀ j, j < 32 → ((nI j &&& 31).toBitVec.smod 32).toNat = j := by decide
theorem ty_a_shr_ok (h : ty_er ρ e) (ha : ty_is e.1 ρ a x.toInt) (hb : ty_is e.1 ρ b y.toInt) (hr : ty_a_shr e a b = some r) : ty_an ρ e .ishr y (x >>> (y &&& 31)) r := by
  have nd : ((Instr.ishr = .idiv ∨ Instr.ishr = .irem) → ¬ y = 0) := ty_no (by decide) (by decide)
  unfold ty_a_shr at hr
  split at hr
  · rename_i c hc
    have ec := ty_cst_ok h hc
    rw [hb.2] at ec
    rcases ex_bif (P := fun z => z = some r) hr with ⟨g1, g2⟩ | ⟨g1, g2⟩
    · obtain ⟨g1, c3⟩ := ex_and g1
      obtain ⟨c1, c2⟩ := ex_and g1
      have c1 := ty_nn_t c1
      have c2 := ty_le_t c2
      have c3 := ty_nn_t c3
      have l1 := ty_lo_ok h.1 a
      have l2 := ty_hi_ok h.1 a
      rw [ha.2] at l1 l2
      injection g2 with g2
      subst g2
      obtain ⟨j, rfl⟩ : ∃ j : Nat, c = (j : Int) := ⟨c.toNat, by omega⟩
      have ey : y = nI j := ty_asI ec (by omega)
      refine ⟨nd, ?_⟩
      have v : (x >>> (y &&& 31)).toInt = x.toInt / 2 ^ j := by
        rw [ey, pk_shr x (nI j &&& 31) j (ty_shk j (by omega)), Int.shiftRight_eq_div_pow]
        rfl
      rw [v]
      have p : (0 : Int) < 2 ^ j := by
        have : 0 < 2 ^ j := Nat.two_pow_pos j
        exact_mod_cast this
      exact ty_res0 h (Int.ediv_le_ediv p l1) (Int.ediv_le_ediv p l2)
    · injection g2 with g2
      subst g2
      exact ⟨nd, ty_full_ok h _⟩
  · injection hr with hr
    subst hr
    exact ⟨nd, ty_full_ok h _⟩
theorem ty_nat {x : Int32} {n : Nat} (h : x.toInt = (n : Int)) : x.toBitVec.toNat = n ∧ n < 2 ^ 31 := by
  have h1 := ty_N x
  rw [if_pos (by omega)] at h1
  have h2 := ty_rg x
  exact ⟨by omega, by omega⟩
theorem ty_ofn {z : Int32} {n : Nat} (h : z.toBitVec.toNat = n) (hn : n < 2 ^ 31) : z.toInt = (n : Int) := by
  have h1 := ty_N z
  have h2 := ty_rg z
  split at h1 <;> omega
theorem ty_b_and_ok (h : ty_er ρ e) (ha : ty_is e.1 ρ a x.toInt) (hb : ty_is e.1 ρ b y.toInt) (hr : ty_b_and e a b = some r) : ty_an ρ e .iand y (x &&& y) r := by
  unfold ty_b_and at hr
  split at hr
  · rename_i X Y hX hY
    have eX := ty_cst_ok h hX
    have eY := ty_cst_ok h hY
    rw [ha.2] at eX
    rw [hb.2] at eY
    obtain ⟨x1, x2⟩ := ty_nat (x := x) (n := X) eX
    obtain ⟨y1, y2⟩ := ty_nat (x := y) (n := Y) eY
    injection hr with hr
    subst hr
    refine ⟨ty_no (by decide) (by decide), ?_⟩
    have hz : (x &&& y).toBitVec.toNat = Nat.land X Y := by rw [Int32.toBitVec_and, BitVec.toNat_and, x1, y1]; rfl
    have hl : Nat.land X Y ≤ X := Nat.and_le_left
    rw [ty_ofn hz (by omega)]
    exact ty_rr_id h (ty_is_k _ _ _)
  · exact ty_a_and_ok h ha hb hr
theorem ty_b_or_ok (h : ty_er ρ e) (ha : ty_is e.1 ρ a x.toInt) (hb : ty_is e.1 ρ b y.toInt) (hr : ty_b_or e a b = some r) : ty_an ρ e .ior y (x ||| y) r := by
  unfold ty_b_or at hr
  split at hr
  · rename_i X Y hX hY
    have eX := ty_cst_ok h hX
    have eY := ty_cst_ok h hY
    rw [ha.2] at eX
    rw [hb.2] at eY
    obtain ⟨x1, x2⟩ := ty_nat (x := x) (n := X) eX
    obtain ⟨y1, y2⟩ := ty_nat (x := y) (n := Y) eY
    injection hr with hr
    subst hr
    refine ⟨ty_no (by decide) (by decide), ?_⟩
    have hz : (x ||| y).toBitVec.toNat = Nat.lor X Y := by rw [Int32.toBitVec_or, BitVec.toNat_or, x1, y1]; rfl
    have hl : Nat.lor X Y < 2 ^ 31 := Nat.or_lt_two_pow x2 y2
    rw [ty_ofn hz hl]
    exact ty_rr_id h (ty_is_k _ _ _)
  · split at hr
    · injection hr with hr
      subst hr
      exact trivial
    · exact ty_a_or_ok (Or.inl ⟨rfl, rfl⟩) h ha hb hr
  · exact ty_a_or_ok (Or.inl ⟨rfl, rfl⟩) h ha hb hr
theorem ty_b_shr_ok (h : ty_er ρ e) (ha : ty_is e.1 ρ a x.toInt) (hb : ty_is e.1 ρ b y.toInt) (hr : ty_b_shr e a b = some r) : ty_an ρ e .ishr y (x >>> (y &&& 31)) r := by
  unfold ty_b_shr at hr
  split at hr
  · split at hr
    · injection hr with hr
      subst hr
      exact trivial
    · exact ty_a_shr_ok h ha hb hr
  · exact ty_a_shr_ok h ha hb hr
theorem ty_ar_ok {o : Instr} {z : Int32} (h : ty_er ρ e) (ha : ty_is e.1 ρ a x.toInt) (hb : ty_is e.1 ρ b y.toInt) (hz : ty_bv o x y = some z) (hr : ty_ar o e a b = some r) : ty_an ρ e o y z r := by
  cases o <;> first | (cases hz; done) | skip
  all_goals (injection hz with hz; subst hz)
  all_goals first
    | exact ty_a_add_ok h ha hb hr
    | exact ty_a_sub_ok h ha hb hr
    | exact ty_a_mul_ok h ha hb hr
    | exact ty_a_div_ok h ha hb hr
    | exact ty_a_rem_ok h ha hb hr
    | exact ty_b_and_ok h ha hb hr
    | exact ty_b_or_ok h ha hb hr
    | exact ty_a_or_ok (Or.inr ⟨rfl, rfl⟩) h ha hb hr
    | exact ty_a_shl_ok h ha hb hr
    | exact ty_b_shr_ok h ha hb hr
    | (injection (show some (Sum.inr (Sum.inr (ty_full e))) = some r from hr) with hr; subst hr; exact ⟨ty_no (by decide) (by decide), ty_full_ok h _⟩)
end TYO
end
section
/-! the cells behind the constructors: their kinds, what each kind keeps to, between which numbers a kind lies; rows of which single places are remembered -/
def ty_kl : List Nat := [0, 1, 2, 3, 4, 5, 6, 7, 8, 9, 10, 11, 12, 9, 10, 11, 12, 13, 14, 15, 16, 17, 18, 19, 20, 21, 22, 23, 24, 25, 26, 27, 24, 25, 26, 27, 28, 29, 30, 31, 32, 33, 34, 35, 28, 29, 30, 31, 32, 33, 34, 35, 36, 37, 38, 28, 29, 30, 31, 32, 33, 34, 35, 28, 29, 30, 31, 32, 33, 34, 35, 28, 29, 30, 31, 32, 33, 34, 35, 28, 29, 30, 31, 32, 33, 34, 35, 28, 29, 30, 31, 32, 33, 34, 35, 28, 29, 30, 31, 32, 33, 34, 35, 28, 29, 30, 31, 32, 33, 34, 35, 28, 29, 30, 31, 32, 33, 34, 35, 28, 29, 30, 31, 32, 33, 34, 35, 28, 29, 30, 31, 32, 33, 34, 35, 28, 29, 30, 31, 32, 33, 34, 35, 28, 29, 30, 31, 32, 33, 34, 35, 28, 29, 30, 31, 32, 33, 34, 35, 28, 29, 30, 31, 32, 33, 34, 35, 28, 29, 30, 31, 32, 33, 34, 35, 28, 29, 30, 31, 32, 33, 34, 35, 28, 29, 30, 31, 32, 33, 34, 35, 28, 29, 30, 31, 32, 33, 34, 35, 28, 29, 30, 31, 32, 33, 34, 35, 28, 29, 30, 31, 32, 33, 34, 35, 28, 29, 30, 31, 32, 33, 34, 35, 28, 29, 30, 31, 32, 33, 34, 35, 28, 29, 30, 31, 32, 33, 34, 35, 28, 29, 30, 31, 32, 33, 34, 35, 28, 29, 30, 31, 32, 33, 34, 35, 28, 29, 30, 31, 32, 33, 34, 35, 28, 29, 30, 31, 32, 33, 34, 35, 28, 29, 30, 31, 32, 33, 34, 35, 28, 29, 30, 31, 32, 33, 34, 35, 28, 29, 30, 31, 32, 33, 34, 35, 28, 29, 30, 31, 32, 33, 34, 35, 28, 29, 30, 31, 32, 33, 34, 35, 28, 29, 30, 31, 32, 33, 34, 35, 28, 29, 30, 31, 32, 33, 34, 35, 28, 29, 30, 31, 32, 33, 34, 35, 28, 29, 30, 31, 32, 33, 34, 35, 28, 29, 30, 31, 32, 33, 34, 35, 28, 29, 30, 31, 32, 33, 34, 35, 28, 29, 30, 31, 32, 33, 34, 35, 28, 29, 30, 31, 32, 33, 34, 35, 28, 29, 30, 31, 32, 33, 34, 35, 39, 40, 41, 42, 43, 44, 45, 46, 47, 48, 49, 50, 28, 29, 30, 31, 32, 33, 34, 35, 51, 52, 53, 28, 29, 30, 31, 32, 33, 34, 35, 28, 29, 30, 31, 32, 33, 34, 35, 28, 29, 30, 31, 32, 33, 34, 35, 28, 29, 30, 31, 32, 33, 34, 35, 28, 29, 30, 31, 32, 33, 34, 35, 28, 29, 30, 31, 32, 33, 34, 35, 28, 29, 30, 31, 32, 33, 34, 35, 28, 29, 30, 31, 32, 33, 34, 35, 28, 29, 30, 31, 32, 33, 34, 35, 28, 29, 30, 31, 32, 33, 34, 35, 28, 29, 30, 31, 32, 33, 34, 35, 54, 55, 56, 57, 58, 59, 60, 61, 62, 63, 64, 65, 66, 67, 68, 69, 70, 71, 72, 73, 74, 75, 76, 77, 78, 79, 80, 81, 82, 83, 84, 85, 86, 87, 88, 89, 90, 91, 92]
def ty_ct : List ty_C := [.inl (9, [.inr (.inr 1), .inr (.inr 3), .inr (.inr 19), .inr (.inr 28), .inr (.inr 28), .inr (.inr 36), .inr (.inr 37), .inr (.inr 39), .inr (.inr 40), .inr (.inr 41), .inr (.inr 51), .inr (.inr 52), .inr (.inr 53), .inl (0, 7), .inl (0, 100000)]), .inl (6, [.inr (.inr 2), .inl (0, 1600)]), .inr (1, 1600, .inl ((-128), 127)), .inl (3, [.inr (.inr 4), .inl ((-2147483648), 2147483647), .inl ((-2147483648), 2147483647), .inr (.inr 13), .inr (.inr 17), .inr (.inr 18), .inl (0, 1600), .inl ((-2147483648), 2147483647), .inl ((-2147483648), 2147483647), .inl ((-2147483648), 2147483647), .inl (0, 30), .inr (.inr 9)]), .inl (8, [.inl ((-2147483648), 2147483647), .inl (0, 8), .inl (0, 8), .inl ((-2147483648), 2147483647), .inl ((-2147483648), 2147483647), .inl ((-2147483648), 2147483647), .inl (0, 60), .inr (.inr 5), .inr (.inr 6), .inr (.inr 7), .inr (.inr 8), .inr (.inr 9), .inr (.inr 9)]), .inr (0, 8, .inl ((-2147483648), 2147483647)), .inr (0, 8, .inl ((-2147483648), 2147483647)), .inr (0, 8, .inl ((-2147483648), 2147483647)), .inr (0, 8, .inl (0, 255)), .inl (2, [.inr (.inr 10), .inr (.inr 11), .inr (.inr 12), .inl (0, 300)]), .inr (0, 300, .inl ((-2147483648), 2147483647)), .inr (0, 300, .inl ((-2147483648), 2147483647)), .inr (0, 48, .inl ((-2147483648), 2147483647)), .inl (7, [.inr (.inr 14), .inr (.inr 15), .inr (.inr 16), .inl (0, 1601)]), .inr (0, 1601, .inl ((-2147483648), 2147483647)), .inr (0, 1601, .inl ((-2147483648), 2147483647)), .inr (2, 1601, .inr (.inl ())), .inr (2, 8, .inr (.inl ())), .inr (2, 8, .inr (.inl ())), .inl (8, [.inl (0, 4), .inl (0, 8), .inl (0, 8), .inl ((-2147483648), 2147483647), .inl ((-2147483648), 2147483647), .inl ((-2147483648), 2147483647), .inl ((-2147483648), 2147483647), .inr (.inr 20), .inr (.inr 21), .inr (.inr 22), .inr (.inr 23), .inr (.inr 24), .inr (.inr 24)]), .inr (0, 8, .inl ((-2147483648), 2147483647)), .inr (0, 8, .inl ((-2147483648), 2147483647)), .inr (0, 8, .inl ((-2147483648), 2147483647)), .inr (0, 8, .inl (0, 255)), .inl (2, [.inr (.inr 25), .inr (.inr 26), .inr (.inr 27), .inl (0, 300)]), .inr (0, 300, .inl ((-2147483648), 2147483647)), .inr (0, 300, .inl ((-2147483648), 2147483647)), .inr (0, 48, .inl ((-2147483648), 2147483647)), .inl (4, [.inr (.inr 29), .inr (.inr 30), .inr (.inr 31), .inr (.inr 32), .inr (.inr 33), .inr (.inr 34), .inl ((-2147483648), 2147483647), .inl ((-2147483648), 2147483647), .inl ((-2147483648), 2147483647), .inl ((-2147483648), 2147483647), .inl ((-2147483648), 2147483647), .inr (.inr 19), .inr (.inr 35)]), .inr (0, 8, .inl ((-1), 3)), .inr (0, 8, .inl ((-2147483648), 2147483647)), .inr (0, 8, .inl ((-2147483648), 2147483647)), .inr (0, 8, .inl ((-2147483648), 2147483647)), .inr (0, 8, .inl ((-2147483648), 2147483647)), .inr (0, 4, .inl ((-2147483648), 2147483647)), .inl (1, [.inl ((-2147483648), 2147483647), .inl ((-2147483648), 2147483647), .inl ((-2147483648), 2147483647), .inl ((-2147483648), 2147483647), .inl ((-2147483648), 2147483647), .inl ((-2147483648), 2147483647)]), .inr (4, 8, .inr (.inr 28)), .inl (0, [.inl (0, 40), .inl (0, 40), .inr (.inr 38), .inl (0, 40)]), .inr (4, 41, .inr (.inr 28)), .inr (4, 3, .inr (.inr 28)), .inr (3, 3, .inl (0, 1)), .inl (5, [.inl (0, 30), .inr (.inr 42), .inr (.inr 19), .inr (.inr 28), .inr (.inr 43), .inr (.inr 44), .inr (.inr 45), .inr (.inr 46), .inr (.inr 47), .inr (.inr 48), .inr (.inr 49), .inl (0, 1), .inr (.inr 50)]), .inr (0, 100, .inl (0, 99)), .inr (0, 30, .inl (0, 20)), .inr (0, 30, .inl ((-2147483648), 2147483647)), .inr (3, 30, .inl (0, 1)), .inr (0, 30, .inl ((-2147483648), 2147483647)), .inr (0, 30, .inl ((-2147483648), 2147483647)), .inr (3, 30, .inl (0, 1)), .inr (0, 2100, .inl (0, 255)), .inr (0, 256, .inl ((-2147483648), 2147483647)), .inr (0, 7, .inl ((-2147483648), 2147483647)), .inr (0, 64, .inl ((-2147483648), 2147483647)), .inr (0, 64, .inl ((-2147483648), 2147483647)), .inl (10, [.inr (.inr 55), .inr (.inr 56), .inl (0, 1600), .inl (0, 1600), .inl ((-2147483648), 2147483647), .inl ((-2147483648), 2147483647), .inl (0, 1601), .inl (0, 1601), .inl ((-2147483648), 2147483647), .inl ((-2147483648), 2147483647), .inr (.inl ()), .inr (.inr 57), .inr (.inr 58), .inr (.inr 59), .inr (.inr 60), .inr (.inr 61), .inr (.inr 62), .inr (.inr 63), .inr (.inr 64), .inr (.inr 65), .inr (.inr 66), .inr (.inr 67), .inr (.inr 68), .inr (.inr 69), .inr (.inr 70), .inr (.inr 71), .inr (.inr 72), .inr (.inr 73), .inr (.inr 74), .inr (.inr 75), .inr (.inr 76), .inr (.inr 77), .inr (.inr 78), .inl (0, 1), .inl (0, 1), .inl (0, 1120), .inl ((-2147483648), 2147483647), .inl (0, 90), .inl (0, 30), .inl ((-2147483648), 2147483647), .inl ((-2147483648), 2147483647), .inl ((-2147483648), 2147483647), .inl ((-2147483648), 2147483647), .inr (.inr 79), .inl ((-2147483648), 2147483647), .inl ((-1), 7), .inl ((-2147483648), 2147483647), .inr (.inr 80), .inl (0, 40), .inl (0, 40), .inr (.inr 81), .inr (.inr 82), .inl (0, 7), .inl ((-2147483648), 2147483647), .inl ((-2147483648), 2147483647), .inl ((-2147483648), 2147483647), .inr (.inr 83), .inr (.inr 84), .inr (.inr 85), .inr (.inr 86), .inr (.inr 87), .inr (.inr 88), .inr (.inr 89), .inr (.inr 90), .inl (0, 30), .inl (0, 100000), .inr (.inr 91), .inr (.inr 92)]), .inr (1, 1620, .inl ((-128), 127)), .inr (1, 1600, .inl ((-128), 127)), .inr (0, 2, .inl (0, 4)), .inr (0, 2, .inl ((-2147483648), 2147483647)), .inr (0, 2, .inl (0, 8)), .inr (0, 2, .inl (0, 8)), .inr (0, 2, .inl (0, 60)), .inr (0, 2, .inl ((-2147483648), 2147483647)), .inr (0, 2, .inl ((-2147483648), 2147483647)), .inr (0, 2, .inl ((-2147483648), 2147483647)), .inr (0, 2, .inl (0, 31)), .inr (0, 16, .inl ((-2147483648), 2147483647)), .inr (0, 16, .inl ((-2147483648), 2147483647)), .inr (0, 16, .inl ((-2147483648), 2147483647)), .inr (0, 16, .inl (0, 255)), .inr (0, 4, .inl (0, 1120)), .inr (0, 4, .inl (0, 1120)), .inr (2, 16, .inr (.inl ())), .inr (2, 16, .inr (.inl ())), .inr (0, 1120, .inl ((-2147483648), 2147483647)), .inr (0, 1120, .inl ((-2147483648), 2147483647)), .inr (0, 90, .inl (0, 8)), .inr (0, 90, .inl ((-2147483648), 2147483647)), .inr (0, 60, .inl ((-2147483648), 2147483647)), .inr (0, 46, .inl ((-2147483648), 2147483647)), .inr (0, 1886, .inl ((-2147483648), 2147483647)), .inr (0, 46, .inl ((-2147483648), 2147483647)), .inr (0, 7, .inl ((-2147483648), 2147483647)), .inr (0, 128, .inl ((-2147483648), 2147483647)), .inr (0, 2100, .inl (0, 255)), .inr (0, 30, .inl (0, 20)), .inr (0, 30, .inl ((-2147483648), 2147483647)), .inr (0, 30, .inl ((-2147483648), 2147483647)), .inr (0, 30, .inl ((-2147483648), 2147483647)), .inr (0, 30, .inl ((-2147483648), 2147483647)), .inr (0, 256, .inl ((-2147483648), 2147483647)), .inr (0, 138, .inl ((-2147483648), 2147483647)), .inr (3, 3, .inl (0, 1))]
def ty_kr : List (Int × Int) := [(0, 0), (1, 1), (2, 2), (3, 3), (4, 4), (5, 5), (6, 6), (7, 7), (8, 8), (9, 13), (10, 14), (11, 15), (12, 16), (17, 17), (18, 18), (19, 19), (20, 20), (21, 21), (22, 22), (23, 23), (24, 24), (25, 25), (26, 26), (27, 27), (28, 32), (29, 33), (30, 34), (31, 35), (36, 486), (37, 487), (38, 488), (39, 489), (40, 490), (41, 491), (42, 492), (43, 493), (52, 52), (53, 53), (54, 54), (383, 383), (384, 384), (385, 385), (386, 386), (387, 387), (388, 388), (389, 389), (390, 390), (391, 391), (392, 392), (393, 393), (394, 394), (403, 403), (404, 404), (405, 405), (494, 494), (495, 495), (496, 496), (497, 497), (498, 498), (499, 499), (500, 500), (501, 501), (502, 502), (503, 503), (504, 504), (505, 505), (506, 506), (507, 507), (508, 508), (509, 509), (510, 510), (511, 511), (512, 512), (513, 513), (514, 514), (515, 515), (516, 516), (517, 517), (518, 518), (519, 519), (520, 520), (521, 521), (522, 522), (523, 523), (524, 524), (525, 525), (526, 526), (527, 527), (528, 528), (529, 529), (530, 530), (531, 531), (532, 532)]
def ty_tr : List Nat := [34, 40, 56, 57, 58, 59, 60, 61, 62, 63, 64, 65, 70, 71, 74, 76, 77, 84, 85, 86, 87, 88, 89, 92]
def ty_cW : Nat × Nat := (76, 516)
def ty_cS : Nat × Nat := (77, 517)
def ty_cC : Nat × Nat := (74, 514)
def ty_cT : Nat × Nat := (65, 505)
def ty_cF : Nat × Nat := (70, 510)
def ty_cO : Nat × Nat := (71, 511)
def ty_cB : Nat × Nat := (84, 524)
def ty_cH : Nat × Nat := (85, 525)
def ty_cP : Nat × Nat := (86, 526)
def ty_cI : Nat × Nat := (87, 527)
def ty_cA : Nat × Nat := (88, 528)
def ty_cU : Nat × Nat := (89, 529)
def ty_cM : Nat × Nat := (54, 494)
def ty_bs : Nat := 33
def ty_sn : Nat := 64
end
section
/-! a step of the checker -/
abbrev ty_O : Type := Option (List (ty_E × ty_S))
noncomputable def ty_ft (q : ex_P) (r : List ex_P) (e : ty_E) (lv : ty_L) (st : List ty_V) (K : ty_K) : ty_O := match r with
  | [] => none
  | q' :: r' => bif Nat.beq q'.1 (q.1 + q.2.2.1) then some [(e, (q' :: r', lv, st, K))] else none
def ty_gi (v : ty_V) : Option ty_t := match v with
  | .inl (.inl t) => some t
  | _ => none
def ty_isI (v : ty_V) : Bool := match v with
  | .inl (.inl _) => true
  | _ => false
def ty_isJ (v : ty_V) : Bool := match v with
  | .inl (.inr _) => true
  | _ => false
def ty_isR (v : ty_V) : Bool := match v with
  | .inr (.inl _) => true
  | .inr (.inr (.inr (.inl i))) => Nat.blt i 100
  | .inr (.inr (.inr (.inr _))) => true
  | _ => false
def ty_isK (v : ty_V) : Bool := match v with
  | .inl _ => true
  | .inr _ => false
def ty_cat (v : ty_V) : Nat := match v with
  | .inl (.inr _) => 2
  | _ => 1
noncomputable def ty_del (lv : ty_L) (i : Nat) : ty_L := List.rec (motive := fun _ => ty_L) [] (fun q _ ih => bif (!(Nat.beq q.1 i) && !(Nat.beq (q.1 + 1) i && Nat.beq (ty_cat q.2) 2)) then q :: ih else ih) lv
noncomputable def ty_del2 (lv : ty_L) (i : Nat) : ty_L := List.rec (motive := fun _ => ty_L) [] (fun q _ ih => bif (!(Nat.beq q.1 i) && (!(Nat.beq q.1 (i + 1)) && !(Nat.beq (q.1 + 1) i && Nat.beq (ty_cat q.2) 2))) then q :: ih else ih) lv
noncomputable def ty_ld (q : ex_P) (r : List ex_P) (e : ty_E) (lv : ty_L) (st : List ty_V) (K : ty_K) (ok : ty_V → Bool) : ty_O := match ex_lk lv q.2.2.2.1 with
  | some v => bif ok v then ty_ft q r e lv (v :: st) K else none
  | none => none
noncomputable def ty_st (mL : Nat) (q : ex_P) (r : List ex_P) (e : ty_E) (lv : ty_L) (st : List ty_V) (K : ty_K) (ok : ty_V → Bool) : ty_O := match st with
  | v :: rest => bif ok v && Nat.blt q.2.2.2.1 mL then ty_ft q r e ((q.2.2.2.1, v) :: ty_del lv q.2.2.2.1) rest K else none
  | [] => none
noncomputable def ty_st2 (mL : Nat) (q : ex_P) (r : List ex_P) (e : ty_E) (lv : ty_L) (st : List ty_V) (K : ty_K) : ty_O := match st with
  | v :: rest => bif ty_isJ v && Nat.blt (q.2.2.2.1 + 1) mL then ty_ft q r e ((q.2.2.2.1, v) :: ty_del2 lv q.2.2.2.1) rest K else none
  | [] => none
/-- a state cut by an int's values -/
def ty_oc (o : Option ty_E) (s : ty_S) (l : List (ty_E × ty_S)) : List (ty_E × ty_S) := match o with
  | none => l
  | some e' => (e', s) :: l
noncomputable def ty_spll (e : ty_E) (i : Nat) (s : ty_S) (l : Int) (ns : List Nat) : List (ty_E × ty_S) := List.rec (motive := fun _ => List (ty_E × ty_S)) [] (fun (j : Nat) _ ih => ty_fc (l + (j : Int)) (fun x => ty_oc (ty_prop e.2.2 (e.1, (i, x, x) :: e.2.1, e.2.2)) s ih)) ns
theorem ty_spll_cons (e : ty_E) (i : Nat) (s : ty_S) (l : Int) (a : Nat) (t : List Nat) : ty_spll e i s l (a :: t) = ty_oc (ty_prop e.2.2 (e.1, (i, l + (a : Int), l + (a : Int)) :: e.2.1, e.2.2)) s (ty_spll e i s l t) := by
  show ty_fc (l + (a : Int)) (fun x => ty_oc (ty_prop e.2.2 (e.1, (i, x, x) :: e.2.1, e.2.2)) s (ty_spll e i s l t)) = _
  rw [ty_fc_eq]
noncomputable def ty_spl (e : ty_E) (i : Nat) (s : ty_S) : ty_O := match ty_iv e.2.1 i with
  | (l, h) => some (ty_spll e i s l (ex_range ((h - l).toNat + 1) 0))
/-- a state cut by a term: below 0, from 0 on -/
noncomputable def ty_cut (e : ty_E) (d : ty_t) (s : ty_S) : List (ty_E × ty_S) := ex_app (ex_map (fun e' => (e', s)) (ty_rl e (ty_pl d 1))) (ex_map (fun e' => (e', s)) (ty_rl e (ty_add (ty_k 0) d (-1))))
/-- two terms are alike; they are not -/
noncomputable def ty_sm (e : ty_E) (a b : ty_t) : Bool := ty_nn (-(ty_hi e (ty_add a b (-1)))) && ty_nn (ty_lo e (ty_add a b (-1)))
noncomputable def ty_df (e : ty_E) (a b : ty_t) : Bool := ty_le (ty_hi e (ty_add a b (-1))) (-1) || ty_le 1 (ty_lo e (ty_add a b (-1)))
/-- a shift's and a bit's entries: 1008, 1009 -/
noncomputable def ty_fsh (e : ty_E) (a : ty_t) (K : ty_K) : Option (ty_t × ty_t) := List.rec (motive := fun _ => Option (ty_t × ty_t)) none (fun q _ ih => match q.2.2.2 with
  | .inl (.inl w) => bif Nat.beq q.1 1008 && ty_sm e w a then some (q.2.1, q.2.2.1) else ih
  | _ => ih) K
noncomputable def ty_gb (o : Instr) (e : ty_E) (K : ty_K) (a b z : ty_t) : ty_K := match o with
  | .ishr => (match ty_cst e b with
    | none => (1008, a, b, ty_i z) :: K
    | some _ => K)
  | .iand => (match ty_cst e b with
    | some (.ofNat 1) => (match ty_fsh e a K with
      | some p => (1009, p.1, p.2, ty_i z) :: K
      | none => K)
    | _ => K)
  | _ => K
noncomputable def ty_res1 (q : ex_P) (r : List ex_P) (e : ty_E) (lv : ty_L) (st rest : List ty_V) (K : ty_K) (Kf : ty_t → ty_K) (x : Option ty_R) : ty_O := match x with
  | none => none
  | some (.inl i) => ty_spl e i (q :: r, lv, st, K)
  | some (.inr (.inl d)) => some (ty_cut e d (q :: r, lv, st, K))
  | some (.inr (.inr w)) => ty_ft q r w.1 lv (ty_i w.2 :: rest) (Kf w.2)
noncomputable def ty_bin (q : ex_P) (r : List ex_P) (e : ty_E) (lv : ty_L) (st : List ty_V) (K : ty_K) : ty_O := match st with
  | .inl (.inl b) :: .inl (.inl a) :: rest => ty_res1 q r e lv st rest K (ty_gb q.2.1 e K a b) (ty_ar q.2.1 e a b)
  | _ => none
noncomputable def ty_ifs (pr : List ex_P) (q : ex_P) (r : List ex_P) (c : ClassFile.Cond) (e : ty_E) (lv : ty_L) (a b : ty_t) (rest : List ty_V) (K : ty_K) : ty_O := match ty_br c e a b with
  | (T, []) => some (ex_map (fun e => (e, (ex_jp pr q.2.2.2.1, lv, rest, K))) T)
  | (T, f0 :: fs) => (match r with
    | [] => none
    | q' :: r' => bif Nat.beq q'.1 (q.1 + q.2.2.1) then some (ex_app (ex_map (fun e => (e, (ex_jp pr q.2.2.2.1, lv, rest, K))) T) (ex_map (fun e => (e, (q' :: r', lv, rest, K))) (f0 :: fs))) else none)
noncomputable def ty_if1 (pr : List ex_P) (q : ex_P) (r : List ex_P) (c : ClassFile.Cond) (e : ty_E) (lv : ty_L) (st : List ty_V) (K : ty_K) : ty_O := match st with
  | .inl (.inl a) :: rest => ty_ifs pr q r c e lv a (ty_k 0) rest K
  | .inr (.inr (.inl (a, b))) :: rest => ty_ifs pr q r c e lv a b rest K
  | _ => none
noncomputable def ty_if2 (pr : List ex_P) (q : ex_P) (r : List ex_P) (c : ClassFile.Cond) (e : ty_E) (lv : ty_L) (st : List ty_V) (K : ty_K) : ty_O := match st with
  | .inl (.inl b) :: .inl (.inl a) :: rest => ty_ifs pr q r c e lv a b rest K
  | _ => none
noncomputable def ty_sw (pr : List ex_P) (q : ex_P) (e : ty_E) (lv : ty_L) (a : ty_t) (rest : List ty_V) (K : ty_K) (ts : List Nat) (lo : Int) : List (ty_E × ty_S) := List.rec (motive := fun _ => Int → List (ty_E × ty_S)) (fun lo => ex_map (fun e => (e, (ex_jp pr q.2.2.2.1, lv, rest, K))) (ty_rl e (ty_add (ty_k lo) a (-1)))) (fun t _ ih lo => ex_app (ex_map (fun e => (e, (ex_jp pr t, lv, rest, K))) (ty_rl2 e (ty_pl a (-lo)) (ty_add (ty_k lo) a (-1)))) (ih (lo + 1))) ts lo
noncomputable def ty_tsw (pr : List ex_P) (q : ex_P) (e : ty_E) (lv : ty_L) (st : List ty_V) (K : ty_K) : ty_O := match st with
  | .inl (.inl a) :: rest => some (ex_app (ex_map (fun e => (e, (ex_jp pr q.2.2.2.1, lv, rest, K))) (ty_rl e (ty_pl a (1 - ((q.2.2.2.2.1 : Int) - 2147483648))))) (ty_sw pr q e lv a rest K q.2.2.2.2.2.2 ((q.2.2.2.2.1 : Int) - 2147483648)))
  | _ => none
noncomputable def ty_lu (pr : List ex_P) (df : Nat) (lv : ty_L) (a : ty_t) (rest : List ty_V) (K : ty_K) (ps : List (Nat × Nat)) : ty_E → List (ty_E × ty_S) := List.rec (motive := fun _ => ty_E → List (ty_E × ty_S)) (fun e => [(e, (ex_jp pr df, lv, rest, K))]) (fun p _ ih e => match ty_br .eq e a (ty_k ((p.1 : Int) - 2147483648)) with
  | (T, F) => ex_app (ex_map (fun e => (e, (ex_jp pr p.2, lv, rest, K))) T) (List.rec (motive := fun _ => List (ty_E × ty_S)) [] (fun e' _ iF => ex_app (ih e') iF) F)) ps
noncomputable def ty_lsw (pr : List ex_P) (q : ex_P) (e : ty_E) (lv : ty_L) (st : List ty_V) (K : ty_K) : ty_O := match st with
  | .inl (.inl a) :: rest => some (ty_lu pr q.2.2.2.1 lv a rest K (ty_prs q.2.2.2.2.2.2) e)
  | _ => none
noncomputable def ty_kf (e : ty_E) (K : ty_K) (k : Nat) (c sl : ty_t) : Option ty_V := List.rec (motive := fun _ => Option ty_V) none (fun q _ ih => bif Nat.beq q.1 k && ty_sm e q.2.2.1 sl && ty_sm e q.2.1 c then some q.2.2.2 else ih) K
noncomputable def ty_nv (e : ty_E) (f : ty_F) : Option (ty_E × ty_V) := match f with
  | .inl (l, h) => some (ty_fr e l h [], ty_i (ty_s e.1))
  | .inr (.inl ()) => some (ty_fr e (-9223372036854775808) 9223372036854775807 [], ty_j (ty_s e.1))
  | .inr (.inr k) => (match ex_nth ty_kr k with
    | some (l, h) => bif ty_le h l then some (e, ty_r k (ty_k l)) else some (ty_fr e l h [], ty_r k (ty_s e.1))
    | none => none)
noncomputable def ty_rd (e : ty_E) (K : ty_K) (k : Nat) (c sl : ty_t) (f : ty_F) (keep : Bool) : Option (ty_E × ty_K × ty_V) := match ty_kf e K k c sl with
  | some v => some (e, K, v)
  | none => (match ty_nv e f with
    | some (e', v) => some (e', bif keep && ty_isK v then (k, c, sl, v) :: K else K, v)
    | none => none)
/-- entries from 1000 on speak of rows as wholes: which they hang on, and whether they outlast a write -/
def ty_isG (g : Nat) : Bool := Nat.ble 1000 g
def ty_fw : List (Nat × Nat) := [ty_cB, ty_cH, ty_cP, ty_cI, ty_cA, ty_cU, ty_cM]
def ty_wc (g : Nat) : List (Nat × Nat) := bif Nat.beq g 1000 then [ty_cW] else bif Nat.beq g 1001 then [ty_cC] else bif Nat.beq g 1002 then [ty_cC] else bif Nat.beq g 1003 then [ty_cT, ty_cF, ty_cO, ty_cC] else bif Nat.beq g 1004 then [ty_cC] else bif Nat.beq g 1006 then [ty_cW, ty_cS] else bif Nat.ble 1010 g then ty_fw else []
noncomputable def ty_wt (g k : Nat) : Bool := ex_any (fun p => Nat.beq p.1 k) (ty_wc g)
noncomputable def ty_gk (e : ty_E) (q : Nat × ty_t × ty_t × ty_V) (k : Nat) (u : ty_t) : Bool := bif Nat.ble 1008 q.1 then false else bif Nat.beq q.1 1003 then (bif Nat.beq k ty_cC.1 then (match q.2.2.2 with
  | .inl (.inl v) => ty_ent e (ty_add v u (-1))
  | _ => false) || ty_ent e (ty_pl (ty_add u q.2.1 (-560)) 1) else bif Nat.beq k ty_cT.1 then ty_df e q.2.1 u else ty_df e (ty_add q.2.2.1 q.2.1 2) u) else ty_ent e (ty_add q.2.2.1 u (-1))
noncomputable def ty_kd (e : ty_E) (k : Nat) (sl : Option ty_t) (q : Nat × ty_t × ty_t × ty_V) : Bool := bif ty_isG q.1 then ty_wt q.1 k && (match sl with
  | some u => !(ty_gk e q k u)
  | none => true) else Nat.beq q.1 k && (match sl with
  | some u => !(ty_df e q.2.2.1 u)
  | none => true)
noncomputable def ty_kw (e : ty_E) (K : ty_K) (k : Nat) (sl : Option ty_t) : ty_K := List.rec (motive := fun _ => ty_K) [] (fun q _ ih => bif ty_kd e k sl q then ih else q :: ih) K
noncomputable def ty_al (ms : ty_M) (k : Nat) (sl : Option Nat) : Bool := ex_any (fun q => Nat.beq q.1 k && (match q.2, sl with
  | none, _ => true
  | some a, some b => Nat.beq a b
  | some _, none => false)) ms
noncomputable def ty_in2 (e : ty_E) (t : ty_t) (l h : Int) : Bool := (ty_le l ty_MIN || ty_ent e (ty_add (ty_k l) t (-1))) && (ty_le ty_MAX h || ty_ent e (ty_pl t (-h)))
/-- a value may lie in a field: a3 is 0 for ints, 1 for references, 2 for booleans, 3 for longs -/
noncomputable def ty_okv (e : ty_E) (a3 : Nat) (f : ty_F) (v : ty_V) : Bool := match f, v with
  | .inl (l, h), .inl (.inl t) => ty_in2 e t l h && (Nat.beq a3 0 || (Nat.beq a3 2 && ty_nn l && ty_le h 1))
  | .inr (.inl ()), .inl (.inr _) => Nat.beq a3 3
  | .inr (.inr k), .inr (.inl (k', _)) => Nat.beq k k' && Nat.beq a3 1
  | _, _ => false
noncomputable def ty_gf (q : ex_P) (r : List ex_P) (e : ty_E) (lv : ty_L) (st : List ty_V) (K : ty_K) : ty_O := match st with
  | .inr (.inl (k, c)) :: rest => (match ex_nth ty_ct k with
    | some (.inl (ci, fs)) => (match ex_nth fs q.2.2.2.2.1 with
      | some f => bif Nat.beq ci q.2.2.2.1 then (match ty_rd e K k c (ty_k (q.2.2.2.2.1 : Int)) f true with
        | some (e', K', v) => ty_ft q r e' lv (v :: rest) K'
        | none => none) else none
      | none => none)
    | _ => none)
  | _ => none
noncomputable def ty_pf (ms : ty_M) (q : ex_P) (r : List ex_P) (e : ty_E) (lv : ty_L) (st : List ty_V) (K : ty_K) : ty_O := match st with
  | v :: .inr (.inl (k, c)) :: rest => (match ex_nth ty_ct k with
    | some (.inl (ci, fs)) => (match ex_nth fs q.2.2.2.2.1 with
      | some f => bif Nat.beq ci q.2.2.2.1 && ty_okv e q.2.2.2.2.2.1 f v && ty_al ms k (some q.2.2.2.2.1) then ty_ft q r e lv rest (bif ty_isK v then (k, c, ty_k (q.2.2.2.2.1 : Int), v) :: ty_kw e K k (some (ty_k (q.2.2.2.2.1 : Int))) else ty_kw e K k (some (ty_k (q.2.2.2.2.1 : Int)))) else none
      | none => none)
    | _ => none)
  | _ => none
noncomputable def ty_len (isl : Bool) (q : ex_P) (r : List ex_P) (e : ty_E) (lv : ty_L) (st : List ty_V) (K : ty_K) : ty_O := match st with
  | .inr (.inl (k, _)) :: rest => (match ex_nth ty_ct k with
    | some (.inr (_, N, _)) => bif Nat.ble N 100000 then ty_ft q r e lv (ty_i (ty_k (N : Int)) :: rest) K else none
    | _ => none)
  | .inr (.inr (.inr (.inr ()))) :: rest => bif isl && Nat.blt 0 e.1 then ty_ft q r e lv (ty_i (ty_s 0) :: rest) K else none
  | _ => none
noncomputable def ty_ald (isl : Bool) (ok : Nat → Bool) (q : ex_P) (r : List ex_P) (e : ty_E) (lv : ty_L) (st : List ty_V) (K : ty_K) : ty_O := match st with
  | .inl (.inl i) :: .inr (.inl (k, c)) :: rest => (match ex_nth ty_ct k with
    | some (.inr (t, N, f)) => bif ok t && ty_in e i 0 ((N : Int) - 1) then (match ty_rd e K k c i f (ex_any (Nat.beq k) ty_tr) with
      | some (e', K', v) => ty_ft q r e' lv (v :: rest) K'
      | none => none) else none
    | _ => none)
  | .inl (.inl i) :: .inr (.inr (.inr (.inr ()))) :: rest => bif isl && Nat.blt 0 e.1 && ok 0 && ty_ent e (ty_add (ty_k 0) i (-1)) && ty_ent e (ty_pl (ty_add i (ty_s 0) (-1)) 1) then ty_ft q r (ty_fr e ty_MIN ty_MAX []) lv (ty_i (ty_s e.1) :: rest) K else none
  | _ => none
/-- what a row takes: t its type, f its places' range -/
noncomputable def ty_okw (e : ty_E) (t : Nat) (f : ty_F) (v : ty_V) : Bool := match f, v with
  | .inl (l, h), .inl (.inl u) => (Nat.beq t 0 && ty_in2 e u l h) || (Nat.beq t 1 && ty_le l (-128) && ty_le 127 h) || (Nat.beq t 3 && ty_in e u 0 1 && ty_le l 0 && ty_le 1 h)
  | .inr (.inl ()), .inl (.inr _) => Nat.beq t 2
  | _, _ => false
noncomputable def ty_ast (ms : ty_M) (ok : Nat → Bool) (q : ex_P) (r : List ex_P) (e : ty_E) (lv : ty_L) (st : List ty_V) (K : ty_K) : ty_O := match st with
  | v :: .inl (.inl i) :: .inr (.inl (k, c)) :: rest => (match ex_nth ty_ct k with
    | some (.inr (t, N, f)) => bif ok t && ty_okw e t f v && ty_in e i 0 ((N : Int) - 1) && ty_al ms k none then ty_ft q r e lv rest (bif ex_any (Nat.beq k) ty_tr && Nat.beq t 0 then (k, c, i, v) :: ty_kw e K k (some i) else ty_kw e K k none) else none
    | _ => none)
  | _ => none
noncomputable def ty_acp (ms : ty_M) (q : ex_P) (r : List ex_P) (e : ty_E) (lv : ty_L) (st : List ty_V) (K : ty_K) : ty_O := match st with
  | .inl (.inl m) :: .inl (.inl dp) :: .inr (.inl (k', _)) :: .inl (.inl sp) :: .inr (.inl (k, _)) :: rest => (match ex_nth ty_ct k, ex_nth ty_ct k' with
    | some (.inr (t, N, .inl (l, h))), some (.inr (t', N', .inl (l', h'))) => bif Nat.beq t 0 && Nat.beq t' 0 && ty_ent e (ty_add (ty_k 0) m (-1)) && ty_ent e (ty_add (ty_k 0) sp (-1)) && ty_ent e (ty_add (ty_k 0) dp (-1)) && ty_ent e (ty_pl (ty_add sp m 1) (-(N : Int))) && ty_ent e (ty_pl (ty_add dp m 1) (-(N' : Int))) && ty_le l' l && ty_le h h' && Nat.ble (ex_len rest) 4 && ty_al ms k' none then ty_ft q r e lv rest (ty_kw e K k' none) else none
    | _, _ => none)
  | _ => none
noncomputable def ty_iinc (mL : Nat) (q : ex_P) (r : List ex_P) (e : ty_E) (lv : ty_L) (st : List ty_V) (K : ty_K) : ty_O := match ex_lk lv q.2.2.2.1 with
  | some (.inl (.inl a)) => bif Nat.blt q.2.2.2.1 mL then (match ty_ok e (ty_pl a (bif Nat.ble 2147483648 q.2.2.2.2.1 then (q.2.2.2.2.1 : Int) - 4294967296 else (q.2.2.2.2.1 : Int))) with
    | (e', t) => ty_ft q r e' ((q.2.2.2.1, ty_i t) :: ty_del lv q.2.2.2.1) st K) else none
  | _ => none
noncomputable def ty_i2 (l h : Int) (q : ex_P) (r : List ex_P) (e : ty_E) (lv : ty_L) (st : List ty_V) (K : ty_K) : ty_O := match st with
  | .inl (.inl a) :: rest => bif ty_in e a l h then ty_ft q r e lv st K else ty_ft q r (ty_fr e l h []) lv (ty_i (ty_s e.1) :: rest) K
  | _ => none
noncomputable def ty_i2l (q : ex_P) (r : List ex_P) (e : ty_E) (lv : ty_L) (st : List ty_V) (K : ty_K) : ty_O := match st with
  | .inl (.inl a) :: rest => ty_ft q r e lv (ty_j a :: rest) K
  | _ => none
noncomputable def ty_l2i (q : ex_P) (r : List ex_P) (e : ty_E) (lv : ty_L) (st : List ty_V) (K : ty_K) : ty_O := match st with
  | .inl (.inr _) :: rest => ty_ft q r (ty_fr e ty_MIN ty_MAX []) lv (ty_i (ty_s e.1) :: rest) K
  | _ => none
noncomputable def ty_lb (q : ex_P) (r : List ex_P) (e : ty_E) (lv : ty_L) (st : List ty_V) (K : ty_K) : ty_O := match st with
  | .inl (.inr _) :: .inl (.inr _) :: rest => ty_ft q r (ty_fr e (-9223372036854775808) 9223372036854775807 []) lv (ty_j (ty_s e.1) :: rest) K
  | _ => none
noncomputable def ty_lsh (q : ex_P) (r : List ex_P) (e : ty_E) (lv : ty_L) (st : List ty_V) (K : ty_K) : ty_O := match st with
  | .inl (.inl _) :: .inl (.inr _) :: rest => ty_ft q r (ty_fr e (-9223372036854775808) 9223372036854775807 []) lv (ty_j (ty_s e.1) :: rest) K
  | _ => none
noncomputable def ty_lc (q : ex_P) (r : List ex_P) (e : ty_E) (lv : ty_L) (st : List ty_V) (K : ty_K) : ty_O := match st with
  | .inl (.inr b) :: .inl (.inr a) :: rest => ty_ft q r e lv (ty_c a b :: rest) K
  | _ => none
noncomputable def ty_dup (q : ex_P) (r : List ex_P) (e : ty_E) (lv : ty_L) (st : List ty_V) (K : ty_K) : ty_O := match st with
  | v :: rest => bif Nat.beq (ty_cat v) 1 then ty_ft q r e lv (v :: v :: rest) K else none
  | [] => none
noncomputable def ty_dup2 (q : ex_P) (r : List ex_P) (e : ty_E) (lv : ty_L) (st : List ty_V) (K : ty_K) : ty_O := match st with
  | v :: w :: rest => bif Nat.beq (ty_cat v) 1 && Nat.beq (ty_cat w) 1 then ty_ft q r e lv (v :: w :: v :: w :: rest) K else none
  | _ => none
noncomputable def ty_pop (q : ex_P) (r : List ex_P) (e : ty_E) (lv : ty_L) (st : List ty_V) (K : ty_K) : ty_O := match st with
  | v :: rest => bif Nat.beq (ty_cat v) 1 then ty_ft q r e lv rest K else none
  | [] => none
/-- the more, the less of two -/
noncomputable def ty_mm (mx : Bool) (q : ex_P) (r : List ex_P) (e : ty_E) (lv : ty_L) (st : List ty_V) (K : ty_K) : ty_O := match st with
  | .inl (.inl b) :: .inl (.inl a) :: rest => (match r with
    | [] => none
    | q' :: r' => bif Nat.beq q'.1 (q.1 + 3) && Nat.ble (ex_len rest) 4 then (match ty_br .lt e (bif mx then a else b) (bif mx then b else a) with
      | (T, F) => some (ex_app (ex_map (fun e => (e, (q' :: r', lv, ty_i b :: rest, K))) T) (ex_map (fun e => (e, (q' :: r', lv, ty_i a :: rest, K))) F))) else none)
  | _ => none
noncomputable def ty_inv (ms : ty_M) (q : ex_P) (r : List ex_P) (e : ty_E) (lv : ty_L) (st : List ty_V) (K : ty_K) : ty_O := bif Nat.beq q.2.2.2.2.2.1 2 then ty_mm true q r e lv st K else bif Nat.beq q.2.2.2.2.2.1 3 then ty_mm false q r e lv st K else ty_acp ms q r e lv st K
def ty_bz (t : Nat) : Bool := Nat.beq t 1 || Nat.beq t 3
noncomputable def ty_step (pr : List ex_P) (isl : Bool) (mL : Nat) (ms : ty_M) (e : ty_E) (q : ex_P) (r : List ex_P) (lv : ty_L) (st : List ty_V) (K : ty_K) : ty_O := match q.2.1 with
  | .iconst _ => ty_ft q r e lv (ty_i (ty_k ((q.2.2.2.1 : Int) - 2147483648)) :: st) K
  | .bipush _ => ty_ft q r e lv (ty_i (ty_k ((q.2.2.2.1 : Int) - 2147483648)) :: st) K
  | .sipush _ => ty_ft q r e lv (ty_i (ty_k ((q.2.2.2.1 : Int) - 2147483648)) :: st) K
  | .ldc _ => ty_ft q r e lv (ty_i (ty_k ((q.2.2.2.1 : Int) - 2147483648)) :: st) K
  | .ldc_w _ => ty_ft q r e lv (ty_i (ty_k ((q.2.2.2.1 : Int) - 2147483648)) :: st) K
  | .ldc2_w _ => ty_ft q r e lv (ty_j (ty_k (q.2.2.2.1 : Int)) :: st) K
  | .lconst _ => ty_ft q r e lv (ty_j (ty_k (q.2.2.2.1 : Int)) :: st) K
  | .iload_n _ => ty_ld q r e lv st K ty_isI
  | .iload _ => ty_ld q r e lv st K ty_isI
  | .lload_n _ => ty_ld q r e lv st K ty_isJ
  | .lload _ => ty_ld q r e lv st K ty_isJ
  | .aload_n _ => ty_ld q r e lv st K ty_isR
  | .aload _ => ty_ld q r e lv st K ty_isR
  | .istore_n _ => ty_st mL q r e lv st K ty_isI
  | .istore _ => ty_st mL q r e lv st K ty_isI
  | .lstore_n _ => ty_st2 mL q r e lv st K
  | .lstore _ => ty_st2 mL q r e lv st K
  | .astore_n _ => ty_st mL q r e lv st K ty_isR
  | .astore _ => ty_st mL q r e lv st K ty_isR
  | .iinc _ _ => ty_iinc mL q r e lv st K
  | .iadd => ty_bin q r e lv st K
  | .isub => ty_bin q r e lv st K
  | .imul => ty_bin q r e lv st K
  | .iand => ty_bin q r e lv st K
  | .ior => ty_bin q r e lv st K
  | .ixor => ty_bin q r e lv st K
  | .ishl => ty_bin q r e lv st K
  | .ishr => ty_bin q r e lv st K
  | .iushr => ty_bin q r e lv st K
  | .idiv => ty_bin q r e lv st K
  | .irem => ty_bin q r e lv st K
  | .i2b => ty_i2 (-128) 127 q r e lv st K
  | .i2c => ty_i2 0 65535 q r e lv st K
  | .i2l => ty_i2l q r e lv st K
  | .l2i => ty_l2i q r e lv st K
  | .ladd => ty_lb q r e lv st K
  | .lmul => ty_lb q r e lv st K
  | .lor => ty_lb q r e lv st K
  | .lshl => ty_lsh q r e lv st K
  | .lcmp => ty_lc q r e lv st K
  | .dup => ty_dup q r e lv st K
  | .dup2 => ty_dup2 q r e lv st K
  | .pop => ty_pop q r e lv st K
  | .goto _ => some [(e, (ex_jp pr q.2.2.2.1, lv, st, K))]
  | .ifCond c _ => ty_if1 pr q r c e lv st K
  | .if_icmp c _ => ty_if2 pr q r c e lv st K
  | .tableswitch _ _ _ _ => ty_tsw pr q e lv st K
  | .lookupswitch _ _ => ty_lsw pr q e lv st K
  | .getfield _ => ty_gf q r e lv st K
  | .putfield _ => ty_pf ms q r e lv st K
  | .arraylength => ty_len isl q r e lv st K
  | .iaload => ty_ald isl (fun t => Nat.beq t 0) q r e lv st K
  | .baload => ty_ald false ty_bz q r e lv st K
  | .laload => ty_ald false (fun t => Nat.beq t 2) q r e lv st K
  | .aaload => ty_ald false (fun t => Nat.beq t 4) q r e lv st K
  | .iastore => ty_ast ms (fun t => Nat.beq t 0) q r e lv st K
  | .bastore => ty_ast ms ty_bz q r e lv st K
  | .lastore => ty_ast ms (fun t => Nat.beq t 2) q r e lv st K
  | .invokestatic _ => ty_inv ms q r e lv st K
  | _ => none
/-! texts: their numbers are 0 and 1, their bytes' 2 and 3 -/
noncomputable def ty_str (q : ex_P) (st : List ty_V) : Bool := match q.2.1, st with
  | .ldc _, _ => Nat.beq q.2.2.2.2.2.1 9
  | .getfield _, _ => Nat.beq q.2.2.2.1 99
  | .getstatic _, _ => true
  | .arraylength, .inr (.inr (.inr (.inl _))) :: _ => true
  | .baload, _ :: .inr (.inr (.inr (.inl _))) :: _ => true
  | _, _ => false
noncomputable def ty_sst (q : ex_P) (r : List ex_P) (e : ty_E) (lv : ty_L) (st : List ty_V) (K : ty_K) : ty_O := match q.2.1, st with
  | .ldc _, st => bif Nat.blt q.2.2.2.1 2 then ty_ft q r e lv (ty_x q.2.2.2.1 :: st) K else none
  | .getstatic _, st => bif Nat.beq q.2.2.2.1 0 then ty_ft q r e lv (ty_i (ty_k 1) :: st) K else ty_ft q r e lv (ty_x 100 :: st) K
  | .getfield _, .inr (.inr (.inr (.inl n))) :: rest => bif Nat.blt n 2 then (bif Nat.beq q.2.2.2.2.1 0 then ty_ft q r e lv (ty_x (n + 2) :: rest) K else ty_ft q r e lv (ty_i (ty_k 0) :: rest) K) else none
  | .arraylength, .inr (.inr (.inr (.inl n))) :: rest => bif Nat.beq n 2 then ty_ft q r e lv (ty_i (ty_k 11) :: rest) K else bif Nat.beq n 3 then ty_ft q r e lv (ty_i (ty_k 160) :: rest) K else none
  | .baload, .inl (.inl i) :: .inr (.inr (.inr (.inl n))) :: rest => bif (Nat.beq n 2 && ty_in e i 0 10) || (Nat.beq n 3 && ty_in e i 0 159) then ty_ft q r (ty_fr e ty_MIN ty_MAX []) lv (ty_i (ty_s e.1) :: rest) K else none
  | _, _ => none
end
section
/-! what a state of the checker says of the machine's -/
def ty_vr (b : Nat) (sa : Nat → Nat) (n : Nat) (ρ : Nat → Int) (ws : va_W) (v : ty_V) (x : Value) : Prop := match v with
  | .inl (.inl t) => ∃ y : Int32, x = .int y ∧ ty_is n ρ t y.toInt
  | .inl (.inr t) => ∃ y : Int64, x = .long y ∧ ty_is n ρ t y.toInt
  | .inr (.inl q) => ∃ (j a : Nat) (ev : va_E), ty_is n ρ q.2 (j : Int) ∧ ty_kl[j]? = some q.1 ∧ ws[j]? = some (a, ev) ∧ x = .ref a
  | .inr (.inr (.inl q)) => ∃ (y z : Int64), x = .int (lg_cmp y z) ∧ ty_is n ρ q.1 y.toInt ∧ ty_is n ρ q.2 z.toInt
  | .inr (.inr (.inr (.inl i))) => (i < 100 → x = .ref (sa i)) ∧ (x = .null ∨ ∃ a, x = .ref a)
  | .inr (.inr (.inr (.inr ()))) => x = .ref b
def ty_fo (ws : va_W) (f : ty_F) (x : Value) : Prop := match f with
  | .inl q => ∃ y : Int32, x = .int y ∧ q.1 ≤ y.toInt ∧ y.toInt ≤ q.2
  | .inr (.inl ()) => ∃ y : Int64, x = .long y
  | .inr (.inr k) => ∃ (j a : Nat) (ev : va_E), ty_kl[j]? = some k ∧ ws[j]? = some (a, ev) ∧ x = .ref a
def ty_co (tys : List (ClassId × FieldType)) (ws : va_W) (c : ty_C) (ev : va_E) : Prop := match c, ev with
  | .inl o, .inr w => o.1 = w.1 ∧ ∀ (i : Nat) (f : ty_F), o.2[i]? = some f → ∃ x, w.2[i]? = some x ∧ ty_fo ws f x
  | .inr o, .inl w => (w.1, ex_ty o.1) ∈ tys ∧ o.1 ≤ 4 ∧ w.2.1 = o.2.1 ∧ ex_ak o.1 w.2 ∧ ∀ j, j < o.2.1 → ty_fo ws o.2.2 (ex_ag w.2 j)
  | _, _ => False
/-- every cell keeps to its kind -/
def ty_th (tys : List (ClassId × FieldType)) (ws : va_W) : Prop := ∀ (j k : Nat), ty_kl[j]? = some k → ∃ (a : Nat) (ev : va_E) (c : ty_C), ws[j]? = some (a, ev) ∧ ty_ct[k]? = some c ∧ ty_co tys ws c ev
def ty_sl (ev : va_E) (i : Nat) : Option Value := match ev with
  | .inr o => o.2[i]?
  | .inl a => if i < a.2.1 then some (ex_ag a.2 i) else none
/-! rows as wholes -/
def ty_ia (ws : va_W) (j i : Nat) : Int := match ws[j]? with
  | some x => (match ty_sl x.2 i with
    | some (.int y) => y.toInt
    | _ => 0)
  | none => 0
/-- how many of the first are 3 or 7 -/
def ty_cnt (f : Nat → Int) : Nat → Nat
  | 0 => 0
  | i + 1 => ty_cnt f i + (if f i = 3 ∨ f i = 7 then 1 else 0)
def ty_dl (c : Int) : Int := if 97 ≤ c ∧ c ≤ 122 then 1 else if c = 126 then 0 else -1
/-- how high a pile is behind n codes from a on -/
def ty_htn (f : Nat → Int) (a : Nat) : Nat → Int
  | 0 => 0
  | n + 1 => ty_htn f a n + ty_dl (f (a + n))
def ty_ltn (f : Nat → Int) (a : Nat) : Nat → Nat
  | 0 => 0
  | n + 1 => ty_ltn f a n + (if 97 ≤ f (a + n) ∧ f (a + n) ≤ 122 then 1 else 0)
def ty_vl (f : Nat → Int) (a n : Nat) : Prop := ∀ m, m < n → 1 ≤ ty_htn f a (m + 1)
/-- a pushed sign is that of its rank -/
def ty_sg (j : Nat) (w s : Int) : Prop := (w = 3 → s = 126) ∧ (w ≤ 6 → w ≠ 3 → ¬ (97 ≤ s ∧ s ≤ 122) ∧ s ≠ 126) ∧ (1 ≤ j → w ≤ 7)
def ty_g1 (n : Nat) (ρ : Nat → Int) (ws : va_W) (q : Nat × ty_t × ty_t × ty_V) : Prop :=
  (q.1 = 1000 ∧ ∃ (i : Nat) (v : ty_t), ty_is n ρ q.2.2.1 (i : Int) ∧ q.2.2.2 = ty_i v ∧ ty_is n ρ v (ty_cnt (ty_ia ws ty_cW.2) i : Int)) ∨
  (q.1 = 1001 ∧ ∃ (a m : Nat) (v : ty_t), ty_is n ρ q.2.1 (a : Int) ∧ ty_is n ρ q.2.2.1 ((a + m : Nat) : Int) ∧ q.2.2.2 = ty_i v ∧ ty_is n ρ v (ty_htn (ty_ia ws ty_cC.2) a m) ∧ ty_vl (ty_ia ws ty_cC.2) a m) ∨
  (q.1 = 1002 ∧ ∃ (a m : Nat) (v : ty_t) (z : Int), ty_is n ρ q.2.1 (a : Int) ∧ ty_is n ρ q.2.2.1 ((a + m : Nat) : Int) ∧ q.2.2.2 = ty_i v ∧ ty_is n ρ v z ∧ (ty_ltn (ty_ia ws ty_cC.2) a m : Int) ≤ z) ∨
  (q.1 = 1003 ∧ ∃ (b r : Nat) (v : ty_t) (z : Int), ty_is n ρ q.2.1 (b : Int) ∧ ty_is n ρ q.2.2.1 (r : Int) ∧ q.2.2.2 = ty_i v ∧ ty_is n ρ v z ∧ ((ty_ia ws ty_cT.2 b / 2 ^ r) % 2 = 1 → ∃ a m : Nat, ty_ia ws ty_cF.2 (2 * b + r) = (a : Int) ∧ ty_ia ws ty_cO.2 (2 * b + r) = ((a + m : Nat) : Int) ∧ 560 * b ≤ a ∧ ((a + m : Nat) : Int) ≤ z ∧ ty_vl (ty_ia ws ty_cC.2) a m ∧ ty_ltn (ty_ia ws ty_cC.2) a m ≤ 30)) ∨
  (q.1 = 1004 ∧ ∃ a m : Nat, ty_is n ρ q.2.1 (a : Int) ∧ ty_is n ρ q.2.2.1 ((a + m : Nat) : Int) ∧ ty_vl (ty_ia ws ty_cC.2) a m ∧ ty_ltn (ty_ia ws ty_cC.2) a m ≤ 30) ∨
  (q.1 = 1006 ∧ ∃ i : Nat, ty_is n ρ q.2.2.1 (i : Int) ∧ ∀ j, j < i → ty_sg j (ty_ia ws ty_cW.2 j) (ty_ia ws ty_cS.2 j)) ∨
  (q.1 = 1007 ∧ ∃ z : Int, ty_is n ρ q.2.1 z ∧ ¬ (97 ≤ z ∧ z ≤ 122) ∧ z ≠ 126)
/-- a bit of an int; a row that is seen fits; all do -/
def ty_bt (x y : Int) : Int := ((Int32.ofInt x >>> (Int32.ofInt y &&& 31)) &&& 1).toInt
def ty_rw (ws : va_W) (V : Nat) (k : Int) (j : Nat) : Prop := k < ty_ia ws ty_cA.2 j ∨ (0 ≤ ty_ia ws ty_cU.2 j ∧ ty_ia ws ty_cU.2 j ≤ k) ∨ ty_bt (ty_ia ws ty_cB.2 (21 * V + (ty_ia ws ty_cH.2 j).toNat)) (ty_ia ws ty_cP.2 j) = ty_ia ws ty_cI.2 j
def ty_ff (ws : va_W) (V : Nat) (k : Int) : Prop := ∀ j : Nat, (j : Int) < ty_ia ws ty_cM.2 ty_sn → ty_rw ws V k j
def ty_g2 (n : Nat) (ρ : Nat → Int) (ws : va_W) (q : Nat × ty_t × ty_t × ty_V) : Prop :=
  (q.1 = 1008 ∧ ∃ (x y : Int32) (v : ty_t), ty_is n ρ q.2.1 x.toInt ∧ ty_is n ρ q.2.2.1 y.toInt ∧ q.2.2.2 = ty_i v ∧ ty_is n ρ v (x >>> (y &&& 31)).toInt) ∨
  (q.1 = 1009 ∧ ∃ (x y : Int32) (v : ty_t), ty_is n ρ q.2.1 x.toInt ∧ ty_is n ρ q.2.2.1 y.toInt ∧ q.2.2.2 = ty_i v ∧ ty_is n ρ v ((x >>> (y &&& 31)) &&& 1).toInt) ∨
  (q.1 = 1010 ∧ ∃ (V m : Nat) (v : ty_t) (k : Int), ty_is n ρ q.2.1 (V : Int) ∧ ty_is n ρ q.2.2.1 (m : Int) ∧ q.2.2.2 = ty_i v ∧ ty_is n ρ v k ∧ ∀ j, j < m → ty_rw ws V k j) ∨
  (q.1 = 1011 ∧ ∃ (V : Nat) (k : Int) (v : ty_t) (z : Int), ty_is n ρ q.2.1 (V : Int) ∧ ty_is n ρ q.2.2.1 k ∧ q.2.2.2 = ty_i v ∧ ty_is n ρ v z ∧ (z = 1 → ty_ff ws V k) ∧ (z = 0 → ¬ ty_ff ws V k)) ∨
  (q.1 = 1012 ∧ ∃ (k : Int) (u : Nat), ty_is n ρ q.2.1 k ∧ ty_is n ρ q.2.2.1 (u : Int) ∧ ∃ V, V < u ∧ ty_ff ws V k) ∨
  (q.1 = 1013 ∧ ∃ (k : Int) (u : Nat), ty_is n ρ q.2.1 k ∧ ty_is n ρ q.2.2.1 (u : Int) ∧ ∀ V, V < u → ¬ ty_ff ws V k) ∨
  (q.1 = 1014 ∧ ∃ (k u : Int), ty_is n ρ q.2.1 k ∧ ty_is n ρ q.2.2.1 u ∧ ∀ V : Nat, u < (V : Int) → V ≤ 99 → ¬ ty_ff ws V k)
def ty_gh (n : Nat) (ρ : Nat → Int) (ws : va_W) (q : Nat × ty_t × ty_t × ty_V) : Prop := ty_g1 n ρ ws q ∨ ty_g2 n ρ ws q
theorem ty_g2_1 {n : Nat} {ρ : Nat → Int} {ws : va_W} {q : Nat × ty_t × ty_t × ty_V} (h : ty_g2 n ρ ws q) : 1008 ≤ q.1 := by
  rcases h with ⟨e, -⟩ | ⟨e, -⟩ | ⟨e, -⟩ | ⟨e, -⟩ | ⟨e, -⟩ | ⟨e, -⟩ | ⟨e, -⟩ <;> omega
def ty_k1 (b : Nat) (sa : Nat → Nat) (n : Nat) (ρ : Nat → Int) (ws : va_W) (q : Nat × ty_t × ty_t × ty_V) : Prop := (ty_isG q.1 = false ∧ ∃ (j i a : Nat) (ev : va_E) (x : Value), ty_is n ρ q.2.1 (j : Int) ∧ ty_is n ρ q.2.2.1 (i : Int) ∧ ty_kl[j]? = some q.1 ∧ ws[j]? = some (a, ev) ∧ ty_sl ev i = some x ∧ ty_isK q.2.2.2 = true ∧ ty_vr b sa n ρ ws q.2.2.2 x) ∨ (ty_isG q.1 = true ∧ ty_gh n ρ ws q)
def ty_Kr (b : Nat) (sa : Nat → Nat) (n : Nat) (ρ : Nat → Int) (ws : va_W) (K : ty_K) : Prop := ∀ q ∈ K, ty_k1 b sa n ρ ws q
/-- what may not change has not -/
def ty_frm (ms : ty_M) (w0 ws : va_W) : Prop := ∀ (j k : Nat), ty_kl[j]? = some k → ∀ (a : Nat) (ev0 : va_E), w0[j]? = some (a, ev0) → ∃ ev, ws[j]? = some (a, ev) ∧ ∀ i, ty_al ms k (some i) = false → ty_sl ev i = ty_sl ev0 i
def ty_sr (b : Nat) (sa : Nat → Nat) (n : Nat) (ρ : Nat → Int) (ws : va_W) : List ty_V → List Value → Prop
  | [], [] => True
  | v :: s, x :: xs => ty_vr b sa n ρ ws v x ∧ ty_sr b sa n ρ ws s xs
  | _, _ => False
def ty_lr (b : Nat) (sa : Nat → Nat) (n : Nat) (ρ : Nat → Int) (ws : va_W) : ty_L → List (Nat × Value) → Prop
  | [], [] => True
  | q :: s, x :: xs => (q.1 = x.1 ∧ ty_vr b sa n ρ ws q.2 x.2) ∧ ty_lr b sa n ρ ws s xs
  | _, _ => False
section TYM
variable {b : Nat} {sa : Nat → Nat} {n n' : Nat} {ρ ρ' : Nat → Int} {tys : List (ClassId × FieldType)} {ws ws' : va_W} {ms : ty_M}
theorem ty_vr.mono (ha : ty_ag n ρ ρ') (hn : n ≤ n') (hx : ex_xt ws ws') {v : ty_V} {x : Value} (h : ty_vr b sa n ρ ws v x) : ty_vr b sa n' ρ' ws' v x := by
  rcases v with (t | t) | q | q | i | _
  · obtain ⟨y, h1, h2⟩ := h
    exact ⟨y, h1, h2.mono ha hn⟩
  · obtain ⟨y, h1, h2⟩ := h
    exact ⟨y, h1, h2.mono ha hn⟩
  · obtain ⟨j, a, ev, h1, h2, h3, h4⟩ := h
    obtain ⟨ev', h5⟩ := hx j a ev h3
    exact ⟨j, a, ev', h1.mono ha hn, h2, h5, h4⟩
  · obtain ⟨y, z, h1, h2, h3⟩ := h
    exact ⟨y, z, h1, h2.mono ha hn, h3.mono ha hn⟩
  · exact h
  · exact h
theorem ty_sr.mono (ha : ty_ag n ρ ρ') (hn : n ≤ n') (hx : ex_xt ws ws') : ∀ {st : List ty_V} {xs : List Value}, ty_sr b sa n ρ ws st xs → ty_sr b sa n' ρ' ws' st xs
  | [], [], _ => trivial
  | _ :: _, _ :: _, h => ⟨h.1.mono ha hn hx, ty_sr.mono ha hn hx h.2⟩
  | [], _ :: _, h => h.elim
  | _ :: _, [], h => h.elim
theorem ty_lr.mono (ha : ty_ag n ρ ρ') (hn : n ≤ n') (hx : ex_xt ws ws') : ∀ {lv : ty_L} {lw : List (Nat × Value)}, ty_lr b sa n ρ ws lv lw → ty_lr b sa n' ρ' ws' lv lw
  | [], [], _ => trivial
  | _ :: _, _ :: _, h => ⟨⟨h.1.1, h.1.2.mono ha hn hx⟩, ty_lr.mono ha hn hx h.2⟩
  | [], _ :: _, h => h.elim
  | _ :: _, [], h => h.elim
theorem ty_g1.mono (ha : ty_ag n ρ ρ') (hn : n ≤ n') {q : Nat × ty_t × ty_t × ty_V} (h : ty_g1 n ρ ws q) : ty_g1 n' ρ' ws q := by
  rcases h with ⟨e, i, v, h1, h2, h3⟩ | ⟨e, a, m, v, h1, h2, h3, h4, h5⟩ | ⟨e, a, m, v, z, h1, h2, h3, h4, h5⟩ | ⟨e, b, r, v, z, h1, h2, h3, h4, h5⟩ | ⟨e, a, m, h1, h2, h3⟩ | ⟨e, i, h1, h2⟩ | ⟨e, z, h1, h2⟩
  · exact Or.inl ⟨e, i, v, h1.mono ha hn, h2, h3.mono ha hn⟩
  · exact Or.inr (Or.inl ⟨e, a, m, v, h1.mono ha hn, h2.mono ha hn, h3, h4.mono ha hn, h5⟩)
  · exact Or.inr (Or.inr (Or.inl ⟨e, a, m, v, z, h1.mono ha hn, h2.mono ha hn, h3, h4.mono ha hn, h5⟩))
  · exact Or.inr (Or.inr (Or.inr (Or.inl ⟨e, b, r, v, z, h1.mono ha hn, h2.mono ha hn, h3, h4.mono ha hn, h5⟩)))
  · exact Or.inr (Or.inr (Or.inr (Or.inr (Or.inl ⟨e, a, m, h1.mono ha hn, h2.mono ha hn, h3⟩))))
  · exact Or.inr (Or.inr (Or.inr (Or.inr (Or.inr (Or.inl ⟨e, i, h1.mono ha hn, h2⟩)))))
  · exact Or.inr (Or.inr (Or.inr (Or.inr (Or.inr (Or.inr ⟨e, z, h1.mono ha hn, h2⟩)))))
theorem ty_g2.mono (ha : ty_ag n ρ ρ') (hn : n ≤ n') {q : Nat × ty_t × ty_t × ty_V} (h : ty_g2 n ρ ws q) : ty_g2 n' ρ' ws q := by
  rcases h with ⟨e, x, y, v, h1, h2, h3, h4⟩ | ⟨e, x, y, v, h1, h2, h3, h4⟩ | ⟨e, V, m, v, k, h1, h2, h3, h4, h5⟩ | ⟨e, V, k, v, z, h1, h2, h3, h4, h5⟩ | ⟨e, k, u, h1, h2, h3⟩ | ⟨e, k, u, h1, h2, h3⟩ | ⟨e, k, u, h1, h2, h3⟩
  · exact Or.inl ⟨e, x, y, v, h1.mono ha hn, h2.mono ha hn, h3, h4.mono ha hn⟩
  · exact Or.inr (Or.inl ⟨e, x, y, v, h1.mono ha hn, h2.mono ha hn, h3, h4.mono ha hn⟩)
  · exact Or.inr (Or.inr (Or.inl ⟨e, V, m, v, k, h1.mono ha hn, h2.mono ha hn, h3, h4.mono ha hn, h5⟩))
  · exact Or.inr (Or.inr (Or.inr (Or.inl ⟨e, V, k, v, z, h1.mono ha hn, h2.mono ha hn, h3, h4.mono ha hn, h5⟩)))
  · exact Or.inr (Or.inr (Or.inr (Or.inr (Or.inl ⟨e, k, u, h1.mono ha hn, h2.mono ha hn, h3⟩))))
  · exact Or.inr (Or.inr (Or.inr (Or.inr (Or.inr (Or.inl ⟨e, k, u, h1.mono ha hn, h2.mono ha hn, h3⟩)))))
  · exact Or.inr (Or.inr (Or.inr (Or.inr (Or.inr (Or.inr ⟨e, k, u, h1.mono ha hn, h2.mono ha hn, h3⟩)))))
theorem ty_gh.mono (ha : ty_ag n ρ ρ') (hn : n ≤ n') {q : Nat × ty_t × ty_t × ty_V} (h : ty_gh n ρ ws q) : ty_gh n' ρ' ws q := h.elim (fun h => Or.inl (h.mono ha hn)) (fun h => Or.inr (h.mono ha hn))
theorem ty_Kr.mono (ha : ty_ag n ρ ρ') (hn : n ≤ n') {K : ty_K} (h : ty_Kr b sa n ρ ws K) : ty_Kr b sa n' ρ' ws K := fun q hq => by
  rcases h q hq with ⟨h0, j, i, a, ev, x, h1, h2, h3, h4, h5, h6, h7⟩ | ⟨h0, h1⟩
  · exact Or.inl ⟨h0, j, i, a, ev, x, h1.mono ha hn, h2.mono ha hn, h3, h4, h5, h6, h7.mono ha hn ex_xt.rf⟩
  · exact Or.inr ⟨h0, h1.mono ha hn⟩
theorem ty_sr_cons {v : ty_V} {st : List ty_V} {xs : List Value} (h : ty_sr b sa n ρ ws (v :: st) xs) : ∃ x xr, xs = x :: xr ∧ ty_vr b sa n ρ ws v x ∧ ty_sr b sa n ρ ws st xr := by
  cases xs with
  | nil => exact h.elim
  | cons x xr => exact ⟨x, xr, rfl, h.1, h.2⟩
theorem ty_sr_nil {xs : List Value} (h : ty_sr b sa n ρ ws [] xs) : xs = [] := by
  cases xs with
  | nil => rfl
  | cons x xr => exact h.elim
theorem ty_sr_app : ∀ {s t : List ty_V} {xs ys : List Value}, ty_sr b sa n ρ ws s xs → ty_sr b sa n ρ ws t ys → ty_sr b sa n ρ ws (s ++ t) (xs ++ ys)
  | [], _, [], _, _, h => h
  | _ :: _, _, _ :: _, _, h, k => ⟨h.1, ty_sr_app h.2 k⟩
  | [], _, _ :: _, _, h, _ => h.elim
  | _ :: _, _, [], _, h, _ => h.elim
theorem ty_cat_ok {v : ty_V} {x : Value} (h : ty_vr b sa n ρ ws v x) : x.category = ty_cat v := by
  rcases v with (t | t) | q | q | i | _
  · obtain ⟨y, rfl, -⟩ := h; rfl
  · obtain ⟨y, rfl, -⟩ := h; rfl
  · obtain ⟨j, a, ev, -, -, -, rfl⟩ := h; rfl
  · obtain ⟨y, z, rfl, -⟩ := h; rfl
  · rcases h.2 with rfl | ⟨a, rfl⟩ <;> rfl
  · cases (show x = .ref b from h); rfl
theorem ty_isR_ok {v : ty_V} {x : Value} (h : ty_vr b sa n ρ ws v x) (hk : ty_isR v = true) : ∃ a, x = .ref a := by
  rcases v with (t | t) | q | q | i | _
  · cases hk
  · cases hk
  · obtain ⟨j, a, ev, -, -, -, rfl⟩ := h; exact ⟨a, rfl⟩
  · cases hk
  · exact ⟨_, h.1 (Nat.le_of_ble_eq_true hk)⟩
  · exact ⟨_, h⟩
theorem ty_isI_ok {v : ty_V} {x : Value} (h : ty_vr b sa n ρ ws v x) (hk : ty_isI v = true) : ∃ y : Int32, x = .int y := by
  rcases v with (t | t) | q | q | i | _
  · exact ⟨h.choose, h.choose_spec.1⟩
  all_goals cases hk
theorem ty_isJ_ok {v : ty_V} {x : Value} (h : ty_vr b sa n ρ ws v x) (hk : ty_isJ v = true) : ∃ y : Int64, x = .long y := by
  rcases v with (t | t) | q | q | i | _
  · cases hk
  · exact ⟨h.choose, h.choose_spec.1⟩
  all_goals cases hk
theorem ty_lr_lk : ∀ {lv : ty_L} {lw : List (Nat × Value)} {i : Nat} {v : ty_V}, ty_lr b sa n ρ ws lv lw → ex_lk lv i = some v → ∃ (k : Nat) (x : Value), lw[k]? = some (i, x) ∧ ty_vr b sa n ρ ws v x
  | [], _, _, _, _, hk => by cases hk
  | _ :: _, [], _, _, h, _ => h.elim
  | q :: s, x :: xs, i, v, h, hk => by
    rcases ex_bif (P := fun z => z = some v) (show (bif Nat.beq q.1 i then some q.2 else ex_lk s i) = some v from hk) with ⟨h1, h2⟩ | ⟨h1, h2⟩
    · cases h2
      have e := ex_beq h1
      refine ⟨0, x.2, ?_, h.1.2⟩
      show some x = some (i, x.2)
      rw [← e, h.1.1]
    · obtain ⟨k, y, h3, h4⟩ := ty_lr_lk h.2 h2
      exact ⟨k + 1, y, by rw [List.getElem?_cons_succ]; exact h3, h4⟩
theorem ty_lr_del (i : Nat) : ∀ {lv : ty_L} {lw : List (Nat × Value)}, ty_lr b sa n ρ ws lv lw → ty_lr b sa n ρ ws (ty_del lv i) (lw.filter (fun q => !(q.1 == i) && !(q.1 + 1 == i && q.2.category == 2)))
  | [], [], _ => trivial
  | [], _ :: _, h => h.elim
  | _ :: _, [], h => h.elim
  | q :: s, x :: xs, h => by
    have ih := ty_lr_del i h.2
    have e1 : (!(Nat.beq q.1 i) && !(Nat.beq (q.1 + 1) i && Nat.beq (ty_cat q.2) 2)) = (!(x.1 == i) && !(x.1 + 1 == i && x.2.category == 2)) := by
      rw [ty_cat_ok h.1.2, ← h.1.1, ex_beq_b, ex_beq_b, ex_beq_b]
    show ty_lr b sa n ρ ws (bif (!(Nat.beq q.1 i) && !(Nat.beq (q.1 + 1) i && Nat.beq (ty_cat q.2) 2)) then q :: ty_del s i else ty_del s i) _
    rw [e1, List.filter_cons]
    cases hc : (!(x.1 == i) && !(x.1 + 1 == i && x.2.category == 2)) with
    | true => exact ⟨h.1, ih⟩
    | false => exact ih
theorem ty_lr_del2 (i : Nat) : ∀ {lv : ty_L} {lw : List (Nat × Value)}, ty_lr b sa n ρ ws lv lw → ty_lr b sa n ρ ws (ty_del2 lv i) (lw.filter (fun q => !(q.1 == i) && (!(q.1 == i + 1) && !(q.1 + 1 == i && q.2.category == 2))))
  | [], [], _ => trivial
  | [], _ :: _, h => h.elim
  | _ :: _, [], h => h.elim
  | q :: s, x :: xs, h => by
    have ih := ty_lr_del2 i h.2
    have e1 : (!(Nat.beq q.1 i) && (!(Nat.beq q.1 (i + 1)) && !(Nat.beq (q.1 + 1) i && Nat.beq (ty_cat q.2) 2))) = (!(x.1 == i) && (!(x.1 == i + 1) && !(x.1 + 1 == i && x.2.category == 2))) := by
      rw [ty_cat_ok h.1.2, ← h.1.1, ex_beq_b, ex_beq_b, ex_beq_b, ex_beq_b]
    show ty_lr b sa n ρ ws (bif (!(Nat.beq q.1 i) && (!(Nat.beq q.1 (i + 1)) && !(Nat.beq (q.1 + 1) i && Nat.beq (ty_cat q.2) 2))) then q :: ty_del2 s i else ty_del2 s i) _
    rw [e1, List.filter_cons]
    cases hc : (!(x.1 == i) && (!(x.1 == i + 1) && !(x.1 + 1 == i && x.2.category == 2))) with
    | true => exact ⟨h.1, ih⟩
    | false => exact ih
theorem ty_sum_le : ∀ {st : List ty_V} {xs : List Value}, ty_sr b sa n ρ ws st xs → (xs.map fun v => v.category).sum ≤ 2 * st.length
  | [], [], _ => Nat.le_refl 0
  | [], _ :: _, h => h.elim
  | _ :: _, [], h => h.elim
  | v :: t, x :: r, h => by
    have ih := ty_sum_le h.2
    have := lv_cat x
    rw [List.map_cons, List.sum_cons, List.length_cons]
    omega
/-- cells by number -/
theorem ty_at {j : Nat} {a a' : Nat} {ev ev' : va_E} (h1 : ws[j]? = some (a, ev)) (h2 : ws[j]? = some (a', ev')) : a = a' ∧ ev = ev' := by
  rw [h1] at h2
  cases h2
  exact ⟨rfl, rfl⟩
theorem ty_fo.mono (hx : ex_xt ws ws') {f : ty_F} {x : Value} (h : ty_fo ws f x) : ty_fo ws' f x := by
  rcases f with q | _ | k
  · exact h
  · exact h
  · obtain ⟨j, a, ev, h1, h2, h3⟩ := h
    obtain ⟨ev', h4⟩ := hx j a ev h2
    exact ⟨j, a, ev', h1, h4, h3⟩
theorem ty_co.mono (hx : ex_xt ws ws') {c : ty_C} {ev : va_E} (h : ty_co tys ws c ev) : ty_co tys ws' c ev := by
  rcases c with o | o <;> rcases ev with w | w
  · exact h
  · exact ⟨h.1, fun i f hi => by obtain ⟨x, h1, h2⟩ := h.2 i f hi; exact ⟨x, h1, h2.mono hx⟩⟩
  · exact ⟨h.1, h.2.1, h.2.2.1, h.2.2.2.1, fun j hj => (h.2.2.2.2 j hj).mono hx⟩
  · exact h
/-- a cell's new content: every cell keeps to its kind still -/
theorem ty_th.put (h : ty_th tys ws) {j k a : Nat} {ev ev' : va_E} {c : ty_C} (hk : ty_kl[j]? = some k) (hj : ws[j]? = some (a, ev)) (hc : ty_ct[k]? = some c) (hv : ty_co tys (ws.set j (a, ev')) c ev') : ty_th tys (ws.set j (a, ev')) := by
  intro i k' hi
  have hx : ex_xt ws (ws.set j (a, ev')) := ex_xt.set hj
  by_cases e : j = i
  · subst e
    rw [hk] at hi
    cases hi
    exact ⟨a, ev', c, by rw [List.getElem?_set_self (List.getElem?_eq_some_iff.mp hj).1], hc, hv⟩
  · obtain ⟨a', ev'', c', h1, h2, h3⟩ := h i k' hi
    exact ⟨a', ev'', c', by rw [List.getElem?_set_ne e]; exact h1, h2, h3.mono hx⟩
theorem ty_frm.put {w0 : va_W} (h : ty_frm ms w0 ws) {j k a : Nat} {ev ev' : va_E} (hk : ty_kl[j]? = some k) (hj : ws[j]? = some (a, ev)) (hs : ∀ i, ty_al ms k (some i) = false → ty_sl ev' i = ty_sl ev i) : ty_frm ms w0 (ws.set j (a, ev')) := by
  intro i k' hi a0 ev0 h0
  obtain ⟨ev1, h1, h2⟩ := h i k' hi a0 ev0 h0
  by_cases e : j = i
  · subst e
    rw [hk] at hi
    cases hi
    obtain ⟨rfl, rfl⟩ := ty_at hj h1
    exact ⟨ev', by rw [List.getElem?_set_self (List.getElem?_eq_some_iff.mp hj).1], fun i hi => (hs i hi).trans (h2 i hi)⟩
  · exact ⟨ev1, by rw [List.getElem?_set_ne e]; exact h1, h2⟩
theorem ty_df_ok0 {e : ty_E} (h : ty_er ρ e) {t u : ty_t} {x y : Int} (hs : ty_df e t u = true) (ht : ty_is e.1 ρ t x) (hu : ty_is e.1 ρ u y) : x ≠ y := by
  have h3 := ty_hi_ok h.1 (ty_add t u (-1))
  have h4 := ty_lo_ok h.1 (ty_add t u (-1))
  rw [ty_sub_ev, ht.2, hu.2] at h3 h4
  rcases Bool.or_eq_true _ _ |>.mp hs with h1 | h1
  · have h1 := ty_le_t h1
    omega
  · have h1 := ty_le_t h1
    omega
theorem ty_ia_put {j j' i a : Nat} {ev ev' : va_E} (hj : ws[j]? = some (a, ev)) (h : j' = j → ty_sl ev' i = ty_sl ev i) : ty_ia (ws.set j (a, ev')) j' i = ty_ia ws j' i := by
  unfold ty_ia
  by_cases e : j = j'
  · subst e
    rw [List.getElem?_set_self (List.getElem?_eq_some_iff.mp hj).1, hj]
    dsimp only
    rw [h rfl]
  · rw [List.getElem?_set_ne e]
theorem ty_cnt_cg {f g : Nat → Int} : ∀ {i : Nat}, (∀ t, t < i → g t = f t) → ty_cnt g i = ty_cnt f i
  | 0, _ => rfl
  | i + 1, h => by
    show ty_cnt g i + _ = ty_cnt f i + _
    rw [ty_cnt_cg (fun t ht => h t (by omega)), h i (by omega)]
theorem ty_htn_cg {f g : Nat → Int} {a : Nat} : ∀ {n : Nat}, (∀ t, a ≤ t → t < a + n → g t = f t) → ty_htn g a n = ty_htn f a n
  | 0, _ => rfl
  | n + 1, h => by
    show ty_htn g a n + _ = ty_htn f a n + _
    rw [ty_htn_cg (fun t h1 h2 => h t h1 (by omega)), h (a + n) (by omega) (by omega)]
theorem ty_ltn_cg {f g : Nat → Int} {a : Nat} : ∀ {n : Nat}, (∀ t, a ≤ t → t < a + n → g t = f t) → ty_ltn g a n = ty_ltn f a n
  | 0, _ => rfl
  | n + 1, h => by
    show ty_ltn g a n + _ = ty_ltn f a n + _
    rw [ty_ltn_cg (fun t h1 h2 => h t h1 (by omega)), h (a + n) (by omega) (by omega)]
theorem ty_vl_cg {f g : Nat → Int} {a n : Nat} (h : ∀ t, a ≤ t → t < a + n → g t = f t) (hv : ty_vl f a n) : ty_vl g a n := fun m hm => by
  rw [ty_htn_cg (fun t h1 h2 => h t h1 (by omega))]
  exact hv m hm
/-- all that an entry hangs on is as it was -/
theorem ty_g1.cg {q : Nat × ty_t × ty_t × ty_V} (h : ty_g1 n ρ ws q) (hw : ∀ p ∈ ty_wc q.1, ∀ i, ty_ia ws' p.2 i = ty_ia ws p.2 i) : ty_g1 n ρ ws' q := by
  rcases h with ⟨e, i, v, h1, h2, h3⟩ | ⟨e, a, m, v, h1, h2, h3, h4, h5⟩ | ⟨e, a, m, v, z, h1, h2, h3, h4, h5⟩ | ⟨e, b, r, v, z, h1, h2, h3, h4, h5⟩ | ⟨e, a, m, h1, h2, h3⟩ | ⟨e, i, h1, h2⟩ | ⟨e, z, h1, h2⟩
  · have c := hw ty_cW (by rw [e]; exact List.mem_cons_self)
    exact Or.inl ⟨e, i, v, h1, h2, by rw [ty_cnt_cg (fun t _ => c t)]; exact h3⟩
  · have c := hw ty_cC (by rw [e]; exact List.mem_cons_self)
    exact Or.inr (Or.inl ⟨e, a, m, v, h1, h2, h3, by rw [ty_htn_cg (fun t _ _ => c t)]; exact h4, ty_vl_cg (fun t _ _ => c t) h5⟩)
  · have c := hw ty_cC (by rw [e]; exact List.mem_cons_self)
    exact Or.inr (Or.inr (Or.inl ⟨e, a, m, v, z, h1, h2, h3, h4, by rw [ty_ltn_cg (fun t _ _ => c t)]; exact h5⟩))
  · have c1 := hw ty_cT (by rw [e]; exact List.mem_cons_self)
    have c2 := hw ty_cF (by rw [e]; exact List.mem_cons_of_mem _ List.mem_cons_self)
    have c3 := hw ty_cO (by rw [e]; exact List.mem_cons_of_mem _ (List.mem_cons_of_mem _ List.mem_cons_self))
    have c4 := hw ty_cC (by rw [e]; exact List.mem_cons_of_mem _ (List.mem_cons_of_mem _ (List.mem_cons_of_mem _ List.mem_cons_self)))
    refine Or.inr (Or.inr (Or.inr (Or.inl ⟨e, b, r, v, z, h1, h2, h3, h4, fun hb => ?_⟩)))
    rw [c1] at hb
    obtain ⟨a, m, g1, g2, g3, g4, g5, g6⟩ := h5 hb
    exact ⟨a, m, by rw [c2]; exact g1, by rw [c3]; exact g2, g3, g4, ty_vl_cg (fun t _ _ => c4 t) g5, by rw [ty_ltn_cg (fun t _ _ => c4 t)]; exact g6⟩
  · have c := hw ty_cC (by rw [e]; exact List.mem_cons_self)
    exact Or.inr (Or.inr (Or.inr (Or.inr (Or.inl ⟨e, a, m, h1, h2, ty_vl_cg (fun t _ _ => c t) h3.1, by rw [ty_ltn_cg (fun t _ _ => c t)]; exact h3.2⟩))))
  · have c1 := hw ty_cW (by rw [e]; exact List.mem_cons_self)
    have c2 := hw ty_cS (by rw [e]; exact List.mem_cons_of_mem _ List.mem_cons_self)
    exact Or.inr (Or.inr (Or.inr (Or.inr (Or.inr (Or.inl ⟨e, i, h1, fun j hj => by rw [c1, c2]; exact h2 j hj⟩)))))
  · exact Or.inr (Or.inr (Or.inr (Or.inr (Or.inr (Or.inr ⟨e, z, h1, h2⟩)))))
theorem ty_ff_cg (hw : ∀ p ∈ ty_fw, ∀ i, ty_ia ws' p.2 i = ty_ia ws p.2 i) : ty_rw ws' = ty_rw ws ∧ ty_ff ws' = ty_ff ws := by
  have c1 := hw ty_cB List.mem_cons_self
  have c2 := hw ty_cH (List.mem_cons_of_mem _ List.mem_cons_self)
  have c3 := hw ty_cP (List.mem_cons_of_mem _ (List.mem_cons_of_mem _ List.mem_cons_self))
  have c4 := hw ty_cI (List.mem_cons_of_mem _ (List.mem_cons_of_mem _ (List.mem_cons_of_mem _ List.mem_cons_self)))
  have c5 := hw ty_cA (List.mem_cons_of_mem _ (List.mem_cons_of_mem _ (List.mem_cons_of_mem _ (List.mem_cons_of_mem _ List.mem_cons_self))))
  have c6 := hw ty_cU (List.mem_cons_of_mem _ (List.mem_cons_of_mem _ (List.mem_cons_of_mem _ (List.mem_cons_of_mem _ (List.mem_cons_of_mem _ List.mem_cons_self)))))
  have c7 := hw ty_cM (List.mem_cons_of_mem _ (List.mem_cons_of_mem _ (List.mem_cons_of_mem _ (List.mem_cons_of_mem _ (List.mem_cons_of_mem _ (List.mem_cons_of_mem _ List.mem_cons_self))))))
  have hr : ty_rw ws' = ty_rw ws := by
    funext V k j
    unfold ty_rw
    rw [c5, c6, c1, c2, c3, c4]
  refine ⟨hr, ?_⟩
  funext V k
  unfold ty_ff
  rw [hr, c7]
theorem ty_g2.cg {q : Nat × ty_t × ty_t × ty_V} (h : ty_g2 n ρ ws q) (hw : ∀ p ∈ ty_wc q.1, ∀ i, ty_ia ws' p.2 i = ty_ia ws p.2 i) : ty_g2 n ρ ws' q := by
  have key : ∀ g, q.1 = g → ty_wc g = ty_fw → ty_rw ws' = ty_rw ws ∧ ty_ff ws' = ty_ff ws := fun g e hg => ty_ff_cg (by rw [e, hg] at hw; exact hw)
  rcases h with h | h | ⟨e, V, m, v, k, h1, h2, h3, h4, h5⟩ | ⟨e, V, k, v, z, h1, h2, h3, h4, h5⟩ | ⟨e, k, u, h1, h2, h3⟩ | ⟨e, k, u, h1, h2, h3⟩ | ⟨e, k, u, h1, h2, h3⟩
  · exact Or.inl h
  · exact Or.inr (Or.inl h)
  · obtain ⟨k1, k2⟩ := key _ e rfl
    exact Or.inr (Or.inr (Or.inl ⟨e, V, m, v, k, h1, h2, h3, h4, by rw [k1]; exact h5⟩))
  · obtain ⟨k1, k2⟩ := key _ e rfl
    exact Or.inr (Or.inr (Or.inr (Or.inl ⟨e, V, k, v, z, h1, h2, h3, h4, by rw [k2]; exact h5⟩)))
  · obtain ⟨k1, k2⟩ := key _ e rfl
    exact Or.inr (Or.inr (Or.inr (Or.inr (Or.inl ⟨e, k, u, h1, h2, by rw [k2]; exact h3⟩))))
  · obtain ⟨k1, k2⟩ := key _ e rfl
    exact Or.inr (Or.inr (Or.inr (Or.inr (Or.inr (Or.inl ⟨e, k, u, h1, h2, by rw [k2]; exact h3⟩)))))
  · obtain ⟨k1, k2⟩ := key _ e rfl
    exact Or.inr (Or.inr (Or.inr (Or.inr (Or.inr (Or.inr ⟨e, k, u, h1, h2, by rw [k2]; exact h3⟩)))))
theorem ty_gh.cg {q : Nat × ty_t × ty_t × ty_V} (h : ty_gh n ρ ws q) (hw : ∀ p ∈ ty_wc q.1, ∀ i, ty_ia ws' p.2 i = ty_ia ws p.2 i) : ty_gh n ρ ws' q := h.elim (fun h => Or.inl (h.cg hw)) (fun h => Or.inr (h.cg hw))
/-- a place is written that the entry does not reach -/
theorem ty_g1.wr {q : Nat × ty_t × ty_t × ty_V} {ws' : va_W} {k i0 : Nat} {e : ty_E} {u : ty_t} (h : ty_g1 e.1 ρ ws q) (he : ty_er ρ e) (hu : ty_is e.1 ρ u (i0 : Int)) (hg : ty_gk e q k u = true) (hw : ∀ p ∈ ty_wc q.1, ∀ i, (p.1 = k → i ≠ i0) → ty_ia ws' p.2 i = ty_ia ws p.2 i) : ty_g1 e.1 ρ ws' q := by
  have hg2 : ty_gk e q k u = true → (bif Nat.beq q.1 1003 then (bif Nat.beq k ty_cC.1 then (match q.2.2.2 with
    | .inl (.inl v) => ty_ent e (ty_add v u (-1))
    | _ => false) || ty_ent e (ty_pl (ty_add u q.2.1 (-560)) 1) else bif Nat.beq k ty_cT.1 then ty_df e q.2.1 u else ty_df e (ty_add q.2.2.1 q.2.1 2) u) else ty_ent e (ty_add q.2.2.1 u (-1))) = true := fun hg => by
    unfold ty_gk at hg
    rcases ex_bif (P := fun z => z = true) hg with ⟨-, h⟩ | ⟨-, h⟩
    · cases h
    · exact h
  have hg1 : ∀ {i : Nat}, q.1 ≠ 1003 → ty_is e.1 ρ q.2.2.1 (i : Int) → i ≤ i0 := by
    intro i hne hi
    have hg := hg2 hg
    have hb : Nat.beq q.1 1003 = false := by
      cases hb : Nat.beq q.1 1003 with
      | false => rfl
      | true => exact absurd (ex_beq hb) hne
    rw [hb] at hg
    have hg := ty_ent_ok he (show ty_ent e (ty_add q.2.2.1 u (-1)) = true from hg)
    rw [ty_sub_ev, hi.2, hu.2] at hg
    omega
  rcases h with ⟨e1, i, v, h1, h2, h3⟩ | ⟨e1, a, m, v, h1, h2, h3, h4, h5⟩ | ⟨e1, a, m, v, z, h1, h2, h3, h4, h5⟩ | ⟨e1, b, r, v, z, h1, h2, h3, h4, h5⟩ | ⟨e1, a, m, h1, h2, h3⟩ | ⟨e1, i, h1, h2⟩ | ⟨e1, z, h1, h2⟩
  · have c := hw ty_cW (by rw [e1]; exact List.mem_cons_self)
    have l := hg1 (by omega) h1
    exact Or.inl ⟨e1, i, v, h1, h2, by rw [ty_cnt_cg (fun t _ => c t (fun _ => by omega))]; exact h3⟩
  · have c := hw ty_cC (by rw [e1]; exact List.mem_cons_self)
    have l := hg1 (by omega) h2
    exact Or.inr (Or.inl ⟨e1, a, m, v, h1, h2, h3, by rw [ty_htn_cg (fun t _ _ => c t (fun _ => by omega))]; exact h4, ty_vl_cg (fun t _ _ => c t (fun _ => by omega)) h5⟩)
  · have c := hw ty_cC (by rw [e1]; exact List.mem_cons_self)
    have l := hg1 (by omega) h2
    exact Or.inr (Or.inr (Or.inl ⟨e1, a, m, v, z, h1, h2, h3, h4, by rw [ty_ltn_cg (fun t _ _ => c t (fun _ => by omega))]; exact h5⟩))
  · have c1 := hw ty_cT (by rw [e1]; exact List.mem_cons_self)
    have c2 := hw ty_cF (by rw [e1]; exact List.mem_cons_of_mem _ List.mem_cons_self)
    have c3 := hw ty_cO (by rw [e1]; exact List.mem_cons_of_mem _ (List.mem_cons_of_mem _ List.mem_cons_self))
    have c4 := hw ty_cC (by rw [e1]; exact List.mem_cons_of_mem _ (List.mem_cons_of_mem _ (List.mem_cons_of_mem _ List.mem_cons_self)))
    have hg := hg2 hg
    rw [show Nat.beq q.1 1003 = true by rw [e1]; rfl, h3] at hg
    have hg : (bif Nat.beq k ty_cC.1 then ty_ent e (ty_add v u (-1)) || ty_ent e (ty_pl (ty_add u q.2.1 (-560)) 1) else bif Nat.beq k ty_cT.1 then ty_df e q.2.1 u else ty_df e (ty_add q.2.2.1 q.2.1 2) u) = true := hg
    refine Or.inr (Or.inr (Or.inr (Or.inl ⟨e1, b, r, v, z, h1, h2, h3, h4, fun hb => ?_⟩)))
    have n1 : ty_cC.1 ≠ ty_cT.1 ∧ ty_cC.1 ≠ ty_cF.1 ∧ ty_cC.1 ≠ ty_cO.1 ∧ ty_cT.1 ≠ ty_cF.1 ∧ ty_cT.1 ≠ ty_cO.1 := by decide
    rcases ex_bif (P := fun z => z = true) hg with ⟨d1, d2⟩ | ⟨d1, d2⟩
    · have d1 := ex_beq d1
      rw [c1 b (fun z => by omega)] at hb
      obtain ⟨a, m, g1, g2, g3, g4, g5, g6⟩ := h5 hb
      have hr : ∀ t, a ≤ t → t < a + m → ty_ia ws' ty_cC.2 t = ty_ia ws ty_cC.2 t := fun t t1 t2 => c4 t (fun _ => by
        rcases Bool.or_eq_true _ _ |>.mp d2 with d2 | d2
        · have d2 := ty_ent_ok he d2
          rw [ty_sub_ev, h4.2, hu.2] at d2
          omega
        · have d2 := ty_ent_ok he d2
          rw [ty_pl_ev, ty_add_ev, h1.2, hu.2] at d2
          omega)
      exact ⟨a, m, by rw [c2 _ (fun z => by omega)]; exact g1, by rw [c3 _ (fun z => by omega)]; exact g2, g3, g4, ty_vl_cg hr g5, by rw [ty_ltn_cg hr]; exact g6⟩
    · have d1 := ex_bne d1
      rcases ex_bif (P := fun z => z = true) d2 with ⟨d3, d4⟩ | ⟨d3, d4⟩
      · have d3 := ex_beq d3
        have d4 := ty_df_ok0 he d4 h1 hu
        rw [c1 b (fun _ => by omega)] at hb
        obtain ⟨a, m, g1, g2, g3, g4, g5, g6⟩ := h5 hb
        have hr : ∀ t, a ≤ t → t < a + m → ty_ia ws' ty_cC.2 t = ty_ia ws ty_cC.2 t := fun t t1 t2 => c4 t (fun z => absurd z.symm d1)
        exact ⟨a, m, by rw [c2 _ (fun z => by omega)]; exact g1, by rw [c3 _ (fun z => by omega)]; exact g2, g3, g4, ty_vl_cg hr g5, by rw [ty_ltn_cg hr]; exact g6⟩
      · have d3 := ex_bne d3
        have d4 := ty_df_ok0 he d4 (ty_is_add h2 h1 2) hu
        rw [c1 b (fun z => absurd z.symm d3)] at hb
        obtain ⟨a, m, g1, g2, g3, g4, g5, g6⟩ := h5 hb
        have hr : ∀ t, a ≤ t → t < a + m → ty_ia ws' ty_cC.2 t = ty_ia ws ty_cC.2 t := fun t t1 t2 => c4 t (fun z => absurd z.symm d1)
        exact ⟨a, m, by rw [c2 _ (fun z => by omega)]; exact g1, by rw [c3 _ (fun z => by omega)]; exact g2, g3, g4, ty_vl_cg hr g5, by rw [ty_ltn_cg hr]; exact g6⟩
  · have c := hw ty_cC (by rw [e1]; exact List.mem_cons_self)
    have l := hg1 (by omega) h2
    exact Or.inr (Or.inr (Or.inr (Or.inr (Or.inl ⟨e1, a, m, h1, h2, ty_vl_cg (fun t _ _ => c t (fun _ => by omega)) h3.1, by rw [ty_ltn_cg (fun t _ _ => c t (fun _ => by omega))]; exact h3.2⟩))))
  · have c1 := hw ty_cW (by rw [e1]; exact List.mem_cons_self)
    have c2 := hw ty_cS (by rw [e1]; exact List.mem_cons_of_mem _ List.mem_cons_self)
    have l := hg1 (by omega) h1
    exact Or.inr (Or.inr (Or.inr (Or.inr (Or.inr (Or.inl ⟨e1, i, h1, fun j hj => by rw [c1 j (fun _ => by omega), c2 j (fun _ => by omega)]; exact h2 j hj⟩)))))
  · exact Or.inr (Or.inr (Or.inr (Or.inr (Or.inr (Or.inr ⟨e1, z, h1, h2⟩)))))
theorem ty_gh.wr {q : Nat × ty_t × ty_t × ty_V} {ws' : va_W} {k i0 : Nat} {e : ty_E} {u : ty_t} (h : ty_gh e.1 ρ ws q) (he : ty_er ρ e) (hu : ty_is e.1 ρ u (i0 : Int)) (hg : ty_gk e q k u = true) (hw : ∀ p ∈ ty_wc q.1, ∀ i, (p.1 = k → i ≠ i0) → ty_ia ws' p.2 i = ty_ia ws p.2 i) : ty_gh e.1 ρ ws' q := by
  rcases h with h | h
  · exact Or.inl (h.wr he hu hg hw)
  · have := ty_g2_1 h
    unfold ty_gk at hg
    rw [show Nat.ble 1008 q.1 = true from Nat.ble_eq_true_of_le this] at hg
    cases hg
theorem ty_wc_kl (g : Nat) : ∀ p ∈ ty_wc g, ty_kl[p.2]? = some p.1 := by
  have h0 : ∀ p ∈ [ty_cW], ty_kl[p.2]? = some p.1 := by decide +kernel
  have h1 : ∀ p ∈ [ty_cC], ty_kl[p.2]? = some p.1 := by decide +kernel
  have h2 : ∀ p ∈ [ty_cT, ty_cF, ty_cO, ty_cC], ty_kl[p.2]? = some p.1 := by decide +kernel
  have h3 : ∀ p ∈ [ty_cW, ty_cS], ty_kl[p.2]? = some p.1 := by decide +kernel
  have h4 : ∀ p ∈ ty_fw, ty_kl[p.2]? = some p.1 := by decide +kernel
  intro p hp
  have hs : ∀ {a b : List (Nat × Nat)} {z : Bool}, p ∈ (bif z then a else b) → p ∈ a ∨ p ∈ b := fun {a b z} h => by
    cases z with
    | true => exact Or.inl h
    | false => exact Or.inr h
  rcases hs hp with hp | hp
  · exact h0 p hp
  rcases hs hp with hp | hp
  · exact h1 p hp
  rcases hs hp with hp | hp
  · exact h1 p hp
  rcases hs hp with hp | hp
  · exact h2 p hp
  rcases hs hp with hp | hp
  · exact h1 p hp
  rcases hs hp with hp | hp
  · exact h3 p hp
  rcases hs hp with hp | hp
  · exact h4 p hp
  · cases hp
end TYM
def ty_Rl (s : State) (D : va_G) (b : Nat) (sa : Nat → Nat) (A : Nat → Prop) (mL nr : Nat) (w0 : va_W) (tys : List (ClassId × FieldType)) (ms : ty_M) (ρ : Nat → Int) (e : ty_E) (lv : ty_L) (st : List ty_V) (K : ty_K) (ls : Array Slot) (xs : List Value) (ws : va_W) (H : Heap) (locs : List Loc) : Prop :=
  (∃ lw, lv_has ls mL lw ∧ ty_lr b sa e.1 ρ ws lv lw) ∧ ty_er ρ e ∧ ty_sr b sa e.1 ρ ws st xs ∧ ty_Kr b sa e.1 ρ ws K ∧ ty_th tys ws ∧ ty_frm ms w0 ws ∧ nr ≤ e.1 ∧ va_K D vwCl tys s ∧ va_P D vwCl ws H ∧ va_D A ws ∧ va_S A s.heap H locs ∧ ex_xt w0 ws
def ty_G (p : Program) (l : Launch) (en : Env) (R : Room) (s : State) (m : MethodId) (args : Array Value) (below : List Frame) (meth : Method) (c : Code) (k1 k2 : Nat) (Q : State → Prop) (D : va_G) (b : Nat) (sa : Nat → Nat) (A : Nat → Prop) (mL nr : Nat) (ρ0 : Nat → Int) (w0 : va_W) (tys : List (ClassId × FieldType)) (ms : ty_M) (pr : List ex_P) (e : ty_E) (S : ty_S) : Prop :=
  ∀ (ρ : Nat → Int), ty_ag nr ρ0 ρ → ∀ (pc : Nat) (ls : Array Slot) (xs : List Value) (ws : va_W) (H : Heap) (locs : List Loc), (∃ q r, S.1 = q :: r ∧ q.1 = pc) → (∀ q ∈ S.1, q ∈ pr) → ty_Rl s D b sa A mL nr w0 tys ms ρ e S.2.1 S.2.2.1 S.2.2.2 ls xs ws H locs →
    W p l en R s m args below meth c H locs k1 k2 Q (F0 m pc ls xs)
def ty_NN (p : Program) (l : Launch) (en : Env) (R : Room) (s : State) (m : MethodId) (args : Array Value) (below : List Frame) (meth : Method) (c : Code) (k1 k2 : Nat) (Q : State → Prop) (D : va_G) (b : Nat) (sa : Nat → Nat) (A : Nat → Prop) (mL nr : Nat) (ρ0 : Nat → Int) (w0 : va_W) (tys : List (ClassId × FieldType)) (ms : ty_M) (pr : List ex_P) (o : List (ty_E × ty_S)) : Prop := ∀ x ∈ o, x.2.1 ≠ [] ∧ ty_G p l en R s m args below meth c k1 k2 Q D b sa A mL nr ρ0 w0 tys ms pr x.1 x.2
section TYS
variable {p : Program} {l : Launch} {en : Env} {R : Room} {s : State} {m : MethodId} {args : Array Value} {below : List Frame} {meth : Method} {c : Code} {k1 k2 : Nat} {Q : State → Prop} {D : va_G} {b : Nat} {sa : Nat → Nat} {A : Nat → Prop} {mL nr : Nat} {ρ0 ρ : Nat → Int} {w0 : va_W} {tys : List (ClassId × FieldType)} {ms : ty_M} {pr : List ex_P}
variable {e : ty_E} {lv : ty_L} {st : List ty_V} {K : ty_K} {ls : Array Slot} {xs : List Value} {ws : va_W} {H : Heap} {locs : List Loc} {q : ex_P} {r : List ex_P} {o : List (ty_E × ty_S)}
theorem ty_Rl.er (h : ty_Rl s D b sa A mL nr w0 tys ms ρ e lv st K ls xs ws H locs) : ty_er ρ e := h.2.1
theorem ty_Rl.sr (h : ty_Rl s D b sa A mL nr w0 tys ms ρ e lv st K ls xs ws H locs) : ty_sr b sa e.1 ρ ws st xs := h.2.2.1
theorem ty_Rl.Kr (h : ty_Rl s D b sa A mL nr w0 tys ms ρ e lv st K ls xs ws H locs) : ty_Kr b sa e.1 ρ ws K := h.2.2.2.1
theorem ty_Rl.th (h : ty_Rl s D b sa A mL nr w0 tys ms ρ e lv st K ls xs ws H locs) : ty_th tys ws := h.2.2.2.2.1
theorem ty_Rl.fr (h : ty_Rl s D b sa A mL nr w0 tys ms ρ e lv st K ls xs ws H locs) : ty_frm ms w0 ws := h.2.2.2.2.2.1
theorem ty_Rl.nle (h : ty_Rl s D b sa A mL nr w0 tys ms ρ e lv st K ls xs ws H locs) : nr ≤ e.1 := h.2.2.2.2.2.2.1
theorem ty_Rl.hK (h : ty_Rl s D b sa A mL nr w0 tys ms ρ e lv st K ls xs ws H locs) : va_K D vwCl tys s := h.2.2.2.2.2.2.2.1
theorem ty_Rl.hP (h : ty_Rl s D b sa A mL nr w0 tys ms ρ e lv st K ls xs ws H locs) : va_P D vwCl ws H := h.2.2.2.2.2.2.2.2.1
theorem ty_Rl.hD (h : ty_Rl s D b sa A mL nr w0 tys ms ρ e lv st K ls xs ws H locs) : va_D A ws := h.2.2.2.2.2.2.2.2.2.1
theorem ty_Rl.hS (h : ty_Rl s D b sa A mL nr w0 tys ms ρ e lv st K ls xs ws H locs) : va_S A s.heap H locs := h.2.2.2.2.2.2.2.2.2.2.1
theorem ty_Rl.xt (h : ty_Rl s D b sa A mL nr w0 tys ms ρ e lv st K ls xs ws H locs) : ex_xt w0 ws := h.2.2.2.2.2.2.2.2.2.2.2
theorem ty_Rl.stk (h : ty_Rl s D b sa A mL nr w0 tys ms ρ e lv st K ls xs ws H locs) {st' : List ty_V} {xs' : List Value} (h' : ty_sr b sa e.1 ρ ws st' xs') : ty_Rl s D b sa A mL nr w0 tys ms ρ e lv st' K ls xs' ws H locs := ⟨h.1, h.2.1, h', h.2.2.2⟩
theorem ty_Rl.kn (h : ty_Rl s D b sa A mL nr w0 tys ms ρ e lv st K ls xs ws H locs) {K' : ty_K} (h' : ty_Kr b sa e.1 ρ ws K') : ty_Rl s D b sa A mL nr w0 tys ms ρ e lv st K' ls xs ws H locs := ⟨h.1, h.2.1, h.2.2.1, h', h.2.2.2.2⟩
theorem ty_Rl.loc (h : ty_Rl s D b sa A mL nr w0 tys ms ρ e lv st K ls xs ws H locs) {lv' : ty_L} {ls' : Array Slot} (h' : ∃ lw, lv_has ls' mL lw ∧ ty_lr b sa e.1 ρ ws lv' lw) : ty_Rl s D b sa A mL nr w0 tys ms ρ e lv' st K ls' xs ws H locs := ⟨h', h.2⟩
/-- more named ints, narrower ranges -/
theorem ty_Rl.env (h : ty_Rl s D b sa A mL nr w0 tys ms ρ e lv st K ls xs ws H locs) {ρ' : Nat → Int} {e' : ty_E} (ha : ty_ag e.1 ρ ρ') (hn : e.1 ≤ e'.1) (he : ty_er ρ' e') : ty_Rl s D b sa A mL nr w0 tys ms ρ' e' lv st K ls xs ws H locs := by
  obtain ⟨⟨lw, a1, a2⟩, a3, a4, a5, a6, a7, a8, a9⟩ := h
  exact ⟨⟨lw, a1, a2.mono ha hn ex_xt.rf⟩, he, a4.mono ha hn ex_xt.rf, a5.mono ha hn, a6, a7, Nat.le_trans a8 hn, a9⟩
theorem ty_Rl.nar (h : ty_Rl s D b sa A mL nr w0 tys ms ρ e lv st K ls xs ws H locs) {e' : ty_E} (hn : e'.1 = e.1) (he : ty_er ρ e') : ty_Rl s D b sa A mL nr w0 tys ms ρ e' lv st K ls xs ws H locs := h.env (fun _ _ => rfl) (by omega) he
theorem ty_Rl.push (h : ty_Rl s D b sa A mL nr w0 tys ms ρ e lv st K ls xs ws H locs) {v : ty_V} {x : Value} (h' : ty_vr b sa e.1 ρ ws v x) : ty_Rl s D b sa A mL nr w0 tys ms ρ e lv (v :: st) K ls (x :: xs) ws H locs := h.stk ⟨h', h.sr⟩
theorem ty_ag.tr {n n' : Nat} {ρ1 ρ2 ρ3 : Nat → Int} (h1 : ty_ag n ρ1 ρ2) (h2 : ty_ag n' ρ2 ρ3) (hn : n ≤ n') : ty_ag n ρ1 ρ3 := fun i hi => (h1 i hi).trans (h2 i (Nat.lt_of_lt_of_le hi hn))
theorem ty_NN.g (hN : ty_NN p l en R s m args below meth c k1 k2 Q D b sa A mL nr ρ0 w0 tys ms pr o) : ∀ x ∈ o, ty_G p l en R s m args below meth c k1 k2 Q D b sa A mL nr ρ0 w0 tys ms pr x.1 x.2 := fun x hx => (hN x hx).2
theorem ty_ft_ok (hf : ty_ft q r e lv st K = some o) (hG : ty_NN p l en R s m args below meth c k1 k2 Q D b sa A mL nr ρ0 w0 tys ms pr o) (hs : ∀ x ∈ q :: r, x ∈ pr) (ha : ty_ag nr ρ0 ρ) (hR : ty_Rl s D b sa A mL nr w0 tys ms ρ e lv st K ls xs ws H locs) : W p l en R s m args below meth c H locs k1 k2 Q (F0 m (q.1 + q.2.2.1) ls xs) := by
  unfold ty_ft at hf
  split at hf
  · cases hf
  · rename_i q' r'
    obtain ⟨h1, h2⟩ := ex_bifs hf
    cases h2
    have h1 := ex_beq h1
    exact (hG _ (List.mem_singleton.mpr rfl)).2 ρ ha _ ls xs ws H locs ⟨q', r', rfl, h1⟩ (fun x hx => hs x (List.mem_cons_of_mem _ hx)) hR
theorem ty_jp_ok {t : Nat} (hG : ex_jp pr t ≠ [] ∧ ty_G p l en R s m args below meth c k1 k2 Q D b sa A mL nr ρ0 w0 tys ms pr e (ex_jp pr t, lv, st, K)) (ha : ty_ag nr ρ0 ρ) (hR : ty_Rl s D b sa A mL nr w0 tys ms ρ e lv st K ls xs ws H locs) : W p l en R s m args below meth c H locs k1 k2 Q (F0 m t ls xs) :=
  hG.2 ρ ha t ls xs ws H locs (ex_jp_sub.2.resolve_left hG.1) ex_jp_sub.1 hR
/-- the same instruction again, in a state that says more -/
theorem ty_ag_ok {e' : ty_E} (hG : ty_G p l en R s m args below meth c k1 k2 Q D b sa A mL nr ρ0 w0 tys ms pr e' (q :: r, lv, st, K)) (hs : ∀ x ∈ q :: r, x ∈ pr) (ha : ty_ag nr ρ0 ρ) (hR : ty_Rl s D b sa A mL nr w0 tys ms ρ e' lv st K ls xs ws H locs) : W p l en R s m args below meth c H locs k1 k2 Q (F0 m q.1 ls xs) :=
  hG ρ ha q.1 ls xs ws H locs ⟨q, r, rfl, rfl⟩ hs hR
theorem ty_spl_ok {i : Nat} (hs : ty_spl e i (q :: r, lv, st, K) = some o) (hN : ty_NN p l en R s m args below meth c k1 k2 Q D b sa A mL nr ρ0 w0 tys ms pr o) (hsub : ∀ x ∈ q :: r, x ∈ pr) (ha : ty_ag nr ρ0 ρ) (hR : ty_Rl s D b sa A mL nr w0 tys ms ρ e lv st K ls xs ws H locs) : W p l en R s m args below meth c H locs k1 k2 Q (F0 m q.1 ls xs) := by
  have hb := hR.er.1 i
  have key : ∀ (S : ty_S) (l : Int) (j : Nat), ρ i = l + (j : Int) → ∀ (ns : List Nat), j ∈ ns → ∃ e', (e', S) ∈ ty_spll e i S l ns ∧ ty_er ρ e' ∧ e'.1 = e.1 := by
    intro S l j hv ns
    induction ns with
    | nil => intro hj; cases hj
    | cons a t ih =>
      intro hj
      rw [ty_spll_cons]
      rcases List.mem_cons.mp hj with rfl | hj
      · have her : ty_er ρ (e.1, (i, l + (j : Int), l + (j : Int)) :: e.2.1, e.2.2) := ⟨ty_bd_cons hR.er.1 (by omega) (by omega), hR.er.2⟩
        obtain ⟨e', h1, h2, h3⟩ := ty_prop_ok e.2.2 _ her (fun c hc => (hR.er.2 c hc).2)
        refine ⟨e', ?_, h2, h3⟩
        rw [h1]
        exact List.mem_cons_self
      · obtain ⟨e', h1, h2⟩ := ih hj
        refine ⟨e', ?_, h2⟩
        cases ty_prop e.2.2 (e.1, (i, l + (a : Int), l + (a : Int)) :: e.2.1, e.2.2) with
        | none => exact h1
        | some _ => exact List.mem_cons_of_mem _ h1
  unfold ty_spl at hs
  split at hs
  rename_i l' h' hlh
  rw [hlh] at hb
  dsimp only at hb
  injection hs with hs
  obtain ⟨e', g1, g2, g3⟩ := key (q :: r, lv, st, K) l' (ρ i - l').toNat (by omega) (ex_range ((h' - l').toNat + 1) 0) ((ex_range_mem _ _ _).mpr ⟨Nat.zero_le _, by omega⟩)
  rw [hs] at g1
  exact ty_ag_ok (hN _ g1).2 hsub ha (hR.nar g3 g2)
theorem ty_cut_ok {d : ty_t} (hd : ty_sc e.1 d) (hN : ty_NN p l en R s m args below meth c k1 k2 Q D b sa A mL nr ρ0 w0 tys ms pr (ty_cut e d (q :: r, lv, st, K))) (hsub : ∀ x ∈ q :: r, x ∈ pr) (ha : ty_ag nr ρ0 ρ) (hR : ty_Rl s D b sa A mL nr w0 tys ms ρ e lv st K ls xs ws H locs) : W p l en R s m args below meth c H locs k1 k2 Q (F0 m q.1 ls xs) := by
  unfold ty_cut at hN
  rw [ex_app_eq, ex_map_eq, ex_map_eq] at hN
  by_cases hz : ty_ev ρ d < 0
  · obtain ⟨e', i1, i2, i3⟩ := ty_rl_ok hR.er (d := ty_pl d 1) (ty_pl_sc hd) (by rw [ty_pl_ev]; omega)
    exact ty_ag_ok (hN (e', _) (List.mem_append_left _ (List.mem_map.mpr ⟨e', i1, rfl⟩))).2 hsub ha (hR.nar i3 i2)
  · obtain ⟨e', i1, i2, i3⟩ := ty_rl_ok hR.er (d := ty_add (ty_k 0) d (-1)) (ty_add_sc ty_k_sc hd) (by rw [ty_sub_ev, ty_k_ev]; omega)
    exact ty_ag_ok (hN (e', _) (List.mem_append_right _ (List.mem_map.mpr ⟨e', i1, rfl⟩))).2 hsub ha (hR.nar i3 i2)
end TYS
end
section
/-! flow: loads, stores, arithmetic, branches -/
abbrev ty_fl2 (i : Nat) (lw : List (Nat × Value)) : List (Nat × Value) := lw.filter (fun q => !(q.1 == i) && (!(q.1 == i + 1) && !(q.1 + 1 == i && q.2.category == 2)))
section TYF
variable {p : Program} {l : Launch} {en : Env} {R : Room} {s : State} {m : MethodId} {args : Array Value} {below : List Frame} {meth : Method} {c : Code} {k1 k2 : Nat} {Q : State → Prop} {D : va_G} {b : Nat} {sa : Nat → Nat} {A : Nat → Prop} {mL nr : Nat} {ρ0 ρ : Nat → Int} {w0 : va_W} {tys : List (ClassId × FieldType)} {ms : ty_M} {pr : List ex_P}
variable {e : ty_E} {lv : ty_L} {st : List ty_V} {K : ty_K} {ls : Array Slot} {xs : List Value} {ws : va_W} {H : Heap} {locs : List Loc} {q : ex_P} {r : List ex_P} {o : List (ty_E × ty_S)}
theorem ty_ld_ok {ok : ty_V → Bool} (hs : ty_ld q r e lv st K ok = some o) (hN : ty_NN p l en R s m args below meth c k1 k2 Q D b sa A mL nr ρ0 w0 tys ms pr o) (hsub : ∀ x ∈ q :: r, x ∈ pr) (ha : ty_ag nr ρ0 ρ) (hR : ty_Rl s D b sa A mL nr w0 tys ms ρ e lv st K ls xs ws H locs)
    (row : ∀ (v : ty_V) (x : Value), ok v = true → ty_vr b sa e.1 ρ ws v x → ls[q.2.2.2.1]? = some (.val x) → W p l en R s m args below meth c H locs k1 k2 Q (F0 m (q.1 + q.2.2.1) ls (x :: xs)) → W p l en R s m args below meth c H locs k1 k2 Q (F0 m q.1 ls xs)) : W p l en R s m args below meth c H locs k1 k2 Q (F0 m q.1 ls xs) := by
  unfold ty_ld at hs
  split at hs
  · rename_i v hv
    obtain ⟨h1, h2⟩ := ex_bifs hs
    obtain ⟨lw, hl, hr⟩ := hR.1
    obtain ⟨k, x, e1, e2⟩ := ty_lr_lk hr hv
    exact row v x h1 e2 (lv_at hl k e1) (ty_ft_ok h2 hN hsub ha (hR.push e2))
  · cases hs
theorem ty_st_ok {ok : ty_V → Bool} (hs : ty_st mL q r e lv st K ok = some o) (hN : ty_NN p l en R s m args below meth c k1 k2 Q D b sa A mL nr ρ0 w0 tys ms pr o) (hsub : ∀ x ∈ q :: r, x ∈ pr) (ha : ty_ag nr ρ0 ρ) (hR : ty_Rl s D b sa A mL nr w0 tys ms ρ e lv st K ls xs ws H locs)
    (row : ∀ (v : ty_V) (x : Value) (xr : List Value) (lw : List (Nat × Value)), ok v = true → ty_vr b sa e.1 ρ ws v x → lv_has ls mL lw → q.2.2.2.1 < mL → (∀ ls' : Array Slot, lv_has ls' mL ((q.2.2.2.1, x) :: ex_flt q.2.2.2.1 lw) → W p l en R s m args below meth c H locs k1 k2 Q (F0 m (q.1 + q.2.2.1) ls' xr)) → W p l en R s m args below meth c H locs k1 k2 Q (F0 m q.1 ls (x :: xr))) : W p l en R s m args below meth c H locs k1 k2 Q (F0 m q.1 ls xs) := by
  unfold ty_st at hs
  split at hs
  · rename_i v rest
    obtain ⟨h1, h2⟩ := ex_bifs hs
    obtain ⟨h3, h4⟩ := ex_and h1
    obtain ⟨x, xr, rfl, hv, hr⟩ := ty_sr_cons hR.sr
    obtain ⟨lw, hl, hlr⟩ := hR.1
    exact row v x xr lw h3 hv hl (ex_blt h4) (fun ls' hl' => ty_ft_ok h2 hN hsub ha ((hR.loc (lv' := (q.2.2.2.1, v) :: ty_del lv q.2.2.2.1) ⟨_, hl', (show ty_lr b sa e.1 ρ ws ((q.2.2.2.1, v) :: ty_del lv q.2.2.2.1) ((q.2.2.2.1, x) :: ex_flt q.2.2.2.1 lw) from ⟨⟨rfl, hv⟩, ty_lr_del _ hlr⟩)⟩).stk hr))
  · cases hs
theorem ty_st2_ok (hs : ty_st2 mL q r e lv st K = some o) (hN : ty_NN p l en R s m args below meth c k1 k2 Q D b sa A mL nr ρ0 w0 tys ms pr o) (hsub : ∀ x ∈ q :: r, x ∈ pr) (ha : ty_ag nr ρ0 ρ) (hR : ty_Rl s D b sa A mL nr w0 tys ms ρ e lv st K ls xs ws H locs)
    (row : ∀ (x : Int64) (xr : List Value) (lw : List (Nat × Value)), lv_has ls mL lw → q.2.2.2.1 + 1 < mL → (∀ ls' : Array Slot, lv_has ls' mL ((q.2.2.2.1, .long x) :: ty_fl2 q.2.2.2.1 lw) → W p l en R s m args below meth c H locs k1 k2 Q (F0 m (q.1 + q.2.2.1) ls' xr)) → W p l en R s m args below meth c H locs k1 k2 Q (F0 m q.1 ls (.long x :: xr))) : W p l en R s m args below meth c H locs k1 k2 Q (F0 m q.1 ls xs) := by
  unfold ty_st2 at hs
  split at hs
  · rename_i v rest
    obtain ⟨h1, h2⟩ := ex_bifs hs
    obtain ⟨h3, h4⟩ := ex_and h1
    obtain ⟨x, xr, rfl, hv, hr⟩ := ty_sr_cons hR.sr
    obtain ⟨y, rfl⟩ := ty_isJ_ok hv h3
    obtain ⟨lw, hl, hlr⟩ := hR.1
    exact row y xr lw hl (ex_blt h4) (fun ls' hl' => ty_ft_ok h2 hN hsub ha ((hR.loc (lv' := (q.2.2.2.1, v) :: ty_del2 lv q.2.2.2.1) ⟨_, hl', (show ty_lr b sa e.1 ρ ws ((q.2.2.2.1, v) :: ty_del2 lv q.2.2.2.1) ((q.2.2.2.1, .long y) :: ty_fl2 q.2.2.2.1 lw) from ⟨⟨rfl, hv⟩, ty_lr_del2 _ hlr⟩)⟩).stk hr))
  · cases hs
theorem ty_sm_o (h : ty_er ρ e) {t u : ty_t} {x y : Int} (hs : ty_sm e t u = true) (ht : ty_is e.1 ρ t x) (hu : ty_is e.1 ρ u y) : x = y := by
  obtain ⟨h1, h2⟩ := ex_and hs
  have h1 := ty_nn_t h1
  have h2 := ty_nn_t h2
  have h3 := ty_hi_ok h.1 (ty_add t u (-1))
  have h4 := ty_lo_ok h.1 (ty_add t u (-1))
  rw [ty_sub_ev, ht.2, hu.2] at h3 h4
  omega
theorem ty_fsh_ok {e : ty_E} {a : ty_t} {p : ty_t × ty_t} : ∀ {K : ty_K}, ty_fsh e a K = some p → ∃ w, (1008, p.1, p.2, ty_i w) ∈ K ∧ ty_sm e w a = true
  | [], h => by cases h
  | q :: K, h => by
    have ih := fun h' => ty_fsh_ok (e := e) (a := a) (p := p) (K := K) h'
    have h : (match q.2.2.2 with
      | .inl (.inl w) => bif Nat.beq q.1 1008 && ty_sm e w a then some (q.2.1, q.2.2.1) else ty_fsh e a K
      | _ => ty_fsh e a K) = some p := h
    split at h
    · rename_i w hw
      rcases ex_bif (P := fun z => z = some p) h with ⟨h1, h2⟩ | ⟨-, h2⟩
      · obtain ⟨h1, h3⟩ := ex_and h1
        injection h2 with h2
        subst h2
        refine ⟨w, ?_, h3⟩
        have e1 := ex_beq h1
        obtain ⟨q1, q2, q3, q4⟩ := q
        cases e1
        cases hw
        exact List.mem_cons_self
      · obtain ⟨w', h3, h4⟩ := ih h2
        exact ⟨w', List.mem_cons_of_mem _ h3, h4⟩
    · obtain ⟨w', h3, h4⟩ := ih h
      exact ⟨w', List.mem_cons_of_mem _ h3, h4⟩
theorem ty_gb_ok {o : Instr} {ta tb t : ty_t} {x y z : Int32} {n' : Nat} {ρ' : Nat → Int} (he : ty_er ρ e) (hA : ty_is e.1 ρ ta x.toInt) (hb : ty_is e.1 ρ tb y.toInt) (hz : ty_bv o x y = some z) (hK : ty_Kr b sa e.1 ρ ws K) (ha : ty_ag e.1 ρ ρ') (hn : e.1 ≤ n') (h5 : ty_is n' ρ' t z.toInt) : ty_Kr b sa n' ρ' ws (ty_gb o e K ta tb t) := by
  have hK' := hK.mono ha hn
  have put : ∀ q, ty_isG q.1 = true → ty_g2 n' ρ' ws q → ty_Kr b sa n' ρ' ws (q :: K) := fun q hg h r hr => by
    rcases List.mem_cons.mp hr with rfl | hr
    · exact Or.inr ⟨hg, Or.inr h⟩
    · exact hK' r hr
  unfold ty_gb
  split
  · injection hz with hz
    subst hz
    split
    · exact put _ rfl (Or.inl ⟨rfl, x, y, t, hA.mono ha hn, hb.mono ha hn, rfl, h5⟩)
    · exact hK'
  · injection hz with hz
    subst hz
    split
    · rename_i hc
      split
      · rename_i p hp
        obtain ⟨w, w1, w2⟩ := ty_fsh_ok hp
        rcases hK _ w1 with ⟨hg, -⟩ | ⟨-, hg⟩
        · cases hg
        rcases hg with hg | hg
        · rcases hg with ⟨g, -⟩ | ⟨g, -⟩ | ⟨g, -⟩ | ⟨g, -⟩ | ⟨g, -⟩ | ⟨g, -⟩ | ⟨g, -⟩ <;> exact absurd g (by dsimp only; decide)
        · rcases hg with ⟨-, x0, y0, v, g1, g2, g3, g4⟩ | ⟨g, -⟩ | ⟨g, -⟩ | ⟨g, -⟩ | ⟨g, -⟩ | ⟨g, -⟩ | ⟨g, -⟩
          · injection g3 with g3
            injection g3 with g3
            subst g3
            have e1 := ty_sm_o he w2 g4 hA
            have e1 := Int32.toInt_inj.mp e1
            have e2 := ty_cst_ok he hc
            rw [hb.2] at e2
            have e2 : y = 1 := Int32.toInt_inj.mp (e2.trans rfl)
            subst e2
            rw [← e1] at h5
            exact put _ rfl (Or.inr (Or.inl ⟨rfl, x0, y0, t, g1.mono ha hn, g2.mono ha hn, rfl, h5⟩))
          all_goals exact absurd g (by dsimp only; decide)
      · exact hK'
    · exact hK'
  · exact hK'
theorem ty_bin_ok (hs : ty_bin q r e lv st K = some o) (hN : ty_NN p l en R s m args below meth c k1 k2 Q D b sa A mL nr ρ0 w0 tys ms pr o) (hsub : ∀ x ∈ q :: r, x ∈ pr) (ha : ty_ag nr ρ0 ρ) (hR : ty_Rl s D b sa A mL nr w0 tys ms ρ e lv st K ls xs ws H locs)
    (row : ∀ (x y : Int32) (rest : List Value), ∃ z, ty_bv q.2.1 x y = some z ∧ (((q.2.1 = .idiv ∨ q.2.1 = .irem) → ¬ y = 0) → W p l en R s m args below meth c H locs k1 k2 Q (F0 m (q.1 + q.2.2.1) ls (.int z :: rest)) → W p l en R s m args below meth c H locs k1 k2 Q (F0 m q.1 ls (.int y :: .int x :: rest)))) : W p l en R s m args below meth c H locs k1 k2 Q (F0 m q.1 ls xs) := by
  unfold ty_bin at hs
  split at hs
  · rename_i tb ta rest
    obtain ⟨x0, x1, rfl, ⟨y, rfl, hb⟩, hr1⟩ := ty_sr_cons hR.sr
    obtain ⟨x2, x3, rfl, ⟨x, rfl, hA⟩, hr2⟩ := ty_sr_cons hr1
    obtain ⟨z, hz, hrow⟩ := row x y x3
    unfold ty_res1 at hs
    split at hs
    · cases hs
    · exact ty_spl_ok hs hN hsub ha hR
    · rename_i d hd
      have an := ty_ar_ok hR.er hA hb hz hd
      injection hs with hs
      subst hs
      exact ty_cut_ok an hN hsub ha hR
    · rename_i w hw
      obtain ⟨a1, ρ', a2, a3, a4, a5⟩ := ty_ar_ok hR.er hA hb hz hw
      exact hrow a1 (ty_ft_ok hs hN hsub (ha.tr a2 hR.nle) ((((hR.stk hr2).env a2 a4 a3).push (v := ty_i w.2) (x := .int z) ⟨z, rfl, a5⟩).kn (ty_gb_ok hR.er hA hb hz hR.Kr a2 a4 a5)))
  · cases hs
theorem ty_ifs_ok {cn : ClassFile.Cond} {ta tb : ty_t} {rest : List ty_V} {y z : Int} {xr : List Value} (hs : ty_ifs pr q r cn e lv ta tb rest K = some o) (hN : ty_NN p l en R s m args below meth c k1 k2 Q D b sa A mL nr ρ0 w0 tys ms pr o) (hsub : ∀ x ∈ q :: r, x ∈ pr) (ha : ty_ag nr ρ0 ρ) (hR : ty_Rl s D b sa A mL nr w0 tys ms ρ e lv rest K ls xr ws H locs) (h1 : ty_is e.1 ρ ta y) (h2 : ty_is e.1 ρ tb z) : (ty_cm cn y z → W p l en R s m args below meth c H locs k1 k2 Q (F0 m q.2.2.2.1 ls xr)) ∧ (¬ ty_cm cn y z → W p l en R s m args below meth c H locs k1 k2 Q (F0 m (q.1 + q.2.2.1) ls xr)) := by
  obtain ⟨g1, g2⟩ := ty_br_ok hR.er (c := cn) h1.1 h2.1
  rw [h1.2, h2.2] at g1 g2
  unfold ty_ifs at hs
  split at hs
  · rename_i T hT
    cases hs
    rw [hT] at g1 g2
    refine ⟨fun hc => ?_, fun hc => ?_⟩
    · obtain ⟨e', i1, i2, i3⟩ := g1 hc
      exact ty_jp_ok (hN (e', _) (by rw [ex_map_eq]; exact List.mem_map.mpr ⟨e', i1, rfl⟩)) ha (hR.nar i3 i2)
    · obtain ⟨e', i1, -⟩ := g2 hc
      cases i1
  · rename_i T f0 fs hT
    rw [hT] at g1 g2
    split at hs
    · cases hs
    · rename_i q' r'
      obtain ⟨b1, b2⟩ := ex_bifs hs
      cases b2
      refine ⟨fun hc => ?_, fun hc => ?_⟩
      · obtain ⟨e', i1, i2, i3⟩ := g1 hc
        exact ty_jp_ok (hN (e', _) (by rw [ex_app_eq, ex_map_eq]; exact List.mem_append_left _ (List.mem_map.mpr ⟨e', i1, rfl⟩))) ha (hR.nar i3 i2)
      · obtain ⟨e', i1, i2, i3⟩ := g2 hc
        exact (hN (e', _) (by rw [ex_app_eq, ex_map_eq, ex_map_eq]; exact List.mem_append_right _ (List.mem_map.mpr ⟨e', i1, rfl⟩))).2 ρ ha _ ls xr ws H locs ⟨q', r', rfl, ex_beq b1⟩ (fun x hx => hsub x (List.mem_cons_of_mem _ hx)) (hR.nar i3 i2)
theorem ty_cm_i {cn : ClassFile.Cond} {x y : Int32} : ty_cm cn x.toInt y.toInt ↔ ex_cm cn x y := by
  cases cn
  · exact Int32.toInt_inj
  · exact not_congr Int32.toInt_inj
  · exact Int32.lt_iff_toInt_lt.symm
  · exact not_congr Int32.lt_iff_toInt_lt.symm
  · exact Int32.lt_iff_toInt_lt.symm
  · exact not_congr Int32.lt_iff_toInt_lt.symm
theorem ty_cm_l {cn : ClassFile.Cond} {x y : Int64} : ty_cm cn x.toInt y.toInt ↔ ex_cm cn (lg_cmp x y) 0 := by
  cases cn
  · exact Int64.toInt_inj.trans (lg_cmp_eq x y).symm
  · exact not_congr (Int64.toInt_inj.trans (lg_cmp_eq x y).symm)
  · exact Int64.lt_iff_toInt_lt.symm.trans (lg_cmp_lt x y).symm
  · exact not_congr (Int64.lt_iff_toInt_lt.symm.trans (lg_cmp_lt x y).symm)
  · exact Int64.lt_iff_toInt_lt.symm.trans (lg_cmp_gt x y).symm
  · exact not_congr (Int64.lt_iff_toInt_lt.symm.trans (lg_cmp_gt x y).symm)
theorem ty_if1_ok {cn : ClassFile.Cond} (hs : ty_if1 pr q r cn e lv st K = some o) (hN : ty_NN p l en R s m args below meth c k1 k2 Q D b sa A mL nr ρ0 w0 tys ms pr o) (hsub : ∀ x ∈ q :: r, x ∈ pr) (ha : ty_ag nr ρ0 ρ) (hR : ty_Rl s D b sa A mL nr w0 tys ms ρ e lv st K ls xs ws H locs) : ∃ (x : Int32) (xr : List Value), xs = .int x :: xr ∧ (ex_cm cn x 0 → W p l en R s m args below meth c H locs k1 k2 Q (F0 m q.2.2.2.1 ls xr)) ∧ (¬ ex_cm cn x 0 → W p l en R s m args below meth c H locs k1 k2 Q (F0 m (q.1 + q.2.2.1) ls xr)) := by
  unfold ty_if1 at hs
  split at hs
  · rename_i ta rest
    obtain ⟨x, xr, rfl, ⟨y, rfl, hy⟩, hr⟩ := ty_sr_cons hR.sr
    have h0 : ty_is e.1 ρ (ty_k 0) (0 : Int32).toInt := ty_is_k _ _ _
    obtain ⟨g1, g2⟩ := ty_ifs_ok hs hN hsub ha (hR.stk hr) hy h0
    exact ⟨y, xr, rfl, fun h => g1 (ty_cm_i.mpr h), fun h => g2 (fun h' => h (ty_cm_i.mp h'))⟩
  · rename_i ta tb rest
    obtain ⟨x, xr, rfl, ⟨y, z, rfl, hy, hz⟩, hr⟩ := ty_sr_cons hR.sr
    obtain ⟨g1, g2⟩ := ty_ifs_ok hs hN hsub ha (hR.stk hr) hy hz
    exact ⟨lg_cmp y z, xr, rfl, fun h => g1 (ty_cm_l.mpr h), fun h => g2 (fun h' => h (ty_cm_l.mp h'))⟩
  · cases hs
theorem ty_if2_ok {cn : ClassFile.Cond} (hs : ty_if2 pr q r cn e lv st K = some o) (hN : ty_NN p l en R s m args below meth c k1 k2 Q D b sa A mL nr ρ0 w0 tys ms pr o) (hsub : ∀ x ∈ q :: r, x ∈ pr) (ha : ty_ag nr ρ0 ρ) (hR : ty_Rl s D b sa A mL nr w0 tys ms ρ e lv st K ls xs ws H locs) : ∃ (x y : Int32) (xr : List Value), xs = .int y :: .int x :: xr ∧ (ex_cm cn x y → W p l en R s m args below meth c H locs k1 k2 Q (F0 m q.2.2.2.1 ls xr)) ∧ (¬ ex_cm cn x y → W p l en R s m args below meth c H locs k1 k2 Q (F0 m (q.1 + q.2.2.1) ls xr)) := by
  unfold ty_if2 at hs
  split at hs
  · rename_i tb ta rest
    obtain ⟨x0, x1, rfl, ⟨y, rfl, hy⟩, hr1⟩ := ty_sr_cons hR.sr
    obtain ⟨x2, x3, rfl, ⟨x, rfl, hx⟩, hr2⟩ := ty_sr_cons hr1
    obtain ⟨g1, g2⟩ := ty_ifs_ok hs hN hsub ha (hR.stk hr2) hx hy
    exact ⟨x, y, x3, rfl, fun h => g1 (ty_cm_i.mpr h), fun h => g2 (fun h' => h (ty_cm_i.mp h'))⟩
  · cases hs
theorem ty_sw_ok {ta : ty_t} {rest : List ty_V} {y : Int} {xr : List Value} (ha : ty_ag nr ρ0 ρ) (hv : ty_is e.1 ρ ta y) (hR : ty_Rl s D b sa A mL nr w0 tys ms ρ e lv rest K ls xr ws H locs) : ∀ (ts : List Nat) (lo : Int), ty_NN p l en R s m args below meth c k1 k2 Q D b sa A mL nr ρ0 w0 tys ms pr (ty_sw pr q e lv ta rest K ts lo) →
    (∀ (j t : Nat), ts[j]? = some t → y = lo + (j : Int) → W p l en R s m args below meth c H locs k1 k2 Q (F0 m t ls xr)) ∧ (lo + (ts.length : Int) ≤ y → W p l en R s m args below meth c H locs k1 k2 Q (F0 m q.2.2.2.1 ls xr))
  | [], lo, hN => by
    refine ⟨(fun j t hh => by cases hh), (fun hx => ?_)⟩
    have hN1 : ty_NN p l en R s m args below meth c k1 k2 Q D b sa A mL nr ρ0 w0 tys ms pr (ex_map (fun e => (e, (ex_jp pr q.2.2.2.1, lv, rest, K))) (ty_rl e (ty_add (ty_k lo) ta (-1)))) := hN
    rw [ex_map_eq] at hN1
    have hx : lo + ((0 : Nat) : Int) ≤ y := hx
    obtain ⟨e', i1, i2, i3⟩ := ty_rl_ok hR.er (d := ty_add (ty_k lo) ta (-1)) (ty_add_sc ty_k_sc hv.1) (by rw [ty_sub_ev, ty_k_ev, hv.2]; omega)
    exact ty_jp_ok (hN1 (e', _) (List.mem_map.mpr ⟨e', i1, rfl⟩)) ha (hR.nar i3 i2)
  | t :: ts, lo, hN => by
    have hN1 : ty_NN p l en R s m args below meth c k1 k2 Q D b sa A mL nr ρ0 w0 tys ms pr (ex_app (ex_map (fun e => (e, (ex_jp pr t, lv, rest, K))) (ty_rl2 e (ty_pl ta (-lo)) (ty_add (ty_k lo) ta (-1)))) (ty_sw pr q e lv ta rest K ts (lo + 1))) := hN
    rw [ex_app_eq, ex_map_eq] at hN1
    have ih := ty_sw_ok ha hv hR ts (lo + 1) (fun x hx => hN1 x (List.mem_append_right _ hx))
    refine ⟨fun j t' hj hx => ?_, fun hx => ih.2 (by rw [List.length_cons] at hx; omega)⟩
    cases j with
    | zero =>
      cases hj
      obtain ⟨e', i1, i2, i3⟩ := ty_rl2_ok hR.er (d := ty_pl ta (-lo)) (d' := ty_add (ty_k lo) ta (-1)) (ty_pl_sc hv.1) (by rw [ty_pl_ev, hv.2]; omega) (ty_add_sc ty_k_sc hv.1) (by rw [ty_sub_ev, ty_k_ev, hv.2]; omega)
      exact ty_jp_ok (hN1 (e', _) (List.mem_append_left _ (List.mem_map.mpr ⟨e', i1, rfl⟩))) ha (hR.nar i3 i2)
    | succ j => exact ih.1 j t' (by rw [List.getElem?_cons_succ] at hj; exact hj) (by omega)
/-- where a lookup goes -/
def ty_luT (df : Nat) (ps : List (Nat × Nat)) (y : Int) : Nat := match ps with
  | [] => df
  | p :: r => if (p.1 : Int) - 2147483648 = y then p.2 else ty_luT df r y
theorem ty_luF {f : ty_E → List (ty_E × ty_S)} : ∀ {F : List ty_E}, ty_NN p l en R s m args below meth c k1 k2 Q D b sa A mL nr ρ0 w0 tys ms pr (List.rec (motive := fun _ => List (ty_E × ty_S)) [] (fun e' _ iF => ex_app (f e') iF) F) → ∀ e' ∈ F, ty_NN p l en R s m args below meth c k1 k2 Q D b sa A mL nr ρ0 w0 tys ms pr (f e')
  | [], _, e', he => by cases he
  | a :: t, hN, e', he => by
    have hN1 : ty_NN p l en R s m args below meth c k1 k2 Q D b sa A mL nr ρ0 w0 tys ms pr (ex_app (f a) (List.rec (motive := fun _ => List (ty_E × ty_S)) [] (fun e' _ iF => ex_app (f e') iF) t)) := hN
    rw [ex_app_eq] at hN1
    rcases List.mem_cons.mp he with rfl | he
    · exact fun x hx => hN1 x (List.mem_append_left _ hx)
    · exact ty_luF (fun x hx => hN1 x (List.mem_append_right _ hx)) e' he
theorem ty_lu_ok {df : Nat} {ta : ty_t} {rest : List ty_V} {y : Int} {xr : List Value} (ha : ty_ag nr ρ0 ρ) : ∀ (ps : List (Nat × Nat)) (e : ty_E), ty_is e.1 ρ ta y → ty_Rl s D b sa A mL nr w0 tys ms ρ e lv rest K ls xr ws H locs → ty_NN p l en R s m args below meth c k1 k2 Q D b sa A mL nr ρ0 w0 tys ms pr (ty_lu pr df lv ta rest K ps e) → W p l en R s m args below meth c H locs k1 k2 Q (F0 m (ty_luT df ps y) ls xr)
  | [], e, hv, hR, hN => ty_jp_ok (hN (e, (ex_jp pr df, lv, rest, K)) (List.mem_singleton.mpr rfl)) ha hR
  | p0 :: r0, e, hv, hR, hN => by
    obtain ⟨g1, g2⟩ := ty_br_ok hR.er (c := .eq) hv.1 (ty_k_sc (c := (p0.1 : Int) - 2147483648))
    rw [hv.2, ty_k_ev] at g1 g2
    have hN1 : ty_NN p l en R s m args below meth c k1 k2 Q D b sa A mL nr ρ0 w0 tys ms pr (ex_app (ex_map (fun e => (e, (ex_jp pr p0.2, lv, rest, K))) (ty_br .eq e ta (ty_k ((p0.1 : Int) - 2147483648))).1) (List.rec (motive := fun _ => List (ty_E × ty_S)) [] (fun e' _ iF => ex_app (ty_lu pr df lv ta rest K r0 e') iF) (ty_br .eq e ta (ty_k ((p0.1 : Int) - 2147483648))).2)) := hN
    rw [ex_app_eq, ex_map_eq] at hN1
    unfold ty_luT
    by_cases hc : (p0.1 : Int) - 2147483648 = y
    · rw [if_pos hc]
      obtain ⟨e', i1, i2, i3⟩ := g1 hc.symm
      exact ty_jp_ok (hN1 (e', _) (List.mem_append_left _ (List.mem_map.mpr ⟨e', i1, rfl⟩))) ha (hR.nar i3 i2)
    · rw [if_neg hc]
      obtain ⟨e', i1, i2, i3⟩ := g2 (fun h => hc h.symm)
      exact ty_lu_ok ha r0 e' (by rw [i3]; exact hv) (hR.nar i3 i2) (ty_luF (fun x hx => hN1 x (List.mem_append_right _ hx)) e' i1)
theorem ty_luO {pc df : Nat} {dflt : Int} (hd : (pc : Int) + dflt = (df : Int)) (y : Int) : ∀ (ps : List (Int × Int)) (qs : List (Nat × Nat)), ps.map (fun z => (z.1 + 2147483648, (pc : Int) + z.2)) = qs.map (fun t => ((t.1 : Int), (t.2 : Int))) → (pc : Int) + Op.lookupswitch.offset ps dflt y = (ty_luT df qs y : Int)
  | [], [], _ => hd
  | [], _ :: _, h => by cases h
  | _ :: _, [], h => by cases h
  | p0 :: ps, q0 :: qs, h => by
    rw [List.map_cons, List.map_cons] at h
    injection h with h1 h2
    injection h1 with h3 h4
    have ih := ty_luO hd y ps qs h2
    obtain ⟨p1, p2⟩ := p0
    rw [Op.lookupswitch.offset_cons]
    unfold ty_luT
    dsimp only at h3 h4
    by_cases hc : p1 = y
    · rw [if_pos hc, if_pos (by omega)]; exact h4
    · rw [if_neg hc, if_neg (by omega)]; exact ih
end TYF
end
section
/-! cells: what is read of them, what is written -/
theorem ty_lg (x : Int64) : -9223372036854775808 ≤ x.toInt ∧ x.toInt ≤ 9223372036854775807 := by
  have h := x.toBitVec.isLt
  have e : x.toInt = x.toBitVec.toInt := rfl
  rw [e, BitVec.toInt_eq_toNat_cond]
  split <;> omega
noncomputable def ty_krc (l : List Nat) (j : Int) : Bool := List.rec (motive := fun _ => Int → Bool) (fun _ => true) (fun k _ ih j => ty_fc j (fun j => (match ex_nth ty_kr k with
  | some p => ty_le p.1 j && ty_le j p.2
  | none => false) && ih (j + 1))) l j
theorem ty_krc_ok : ∀ (l : List Nat) (j : Int), ty_krc l j = true → ∀ (i k : Nat), l[i]? = some k → ∃ p, ex_nth ty_kr k = some p ∧ p.1 ≤ j + (i : Int) ∧ j + (i : Int) ≤ p.2
  | [], _, _, i, k, hi => by cases hi
  | a :: t, j, h, i, k, hi => by
    have h : ty_fc j (fun j => (match ex_nth ty_kr a with
      | some p => ty_le p.1 j && ty_le j p.2
      | none => false) && ty_krc t (j + 1)) = true := h
    rw [ty_fc_eq] at h
    obtain ⟨h1, h2⟩ := ex_and h
    cases i with
    | zero =>
      cases hi
      split at h1
      · rename_i p hp
        obtain ⟨h3, h4⟩ := ex_and h1
        exact ⟨p, hp, by have := ty_le_t h3; omega, by have := ty_le_t h4; omega⟩
      · cases h1
    | succ i =>
      obtain ⟨p, p1, p2, p3⟩ := ty_krc_ok t (j + 1) h2 i k (by rw [List.getElem?_cons_succ] at hi; exact hi)
      exact ⟨p, p1, by omega, by omega⟩
theorem ty_kr_all : ty_krc ty_kl 0 = true := by decide +kernel
theorem ty_kr_ok {j k : Nat} (h : ty_kl[j]? = some k) : ∃ p, ex_nth ty_kr k = some p ∧ p.1 ≤ (j : Int) ∧ (j : Int) ≤ p.2 := by
  obtain ⟨p, p1, p2, p3⟩ := ty_krc_ok ty_kl 0 ty_kr_all j k h
  exact ⟨p, p1, by omega, by omega⟩
theorem ty_kl_all : ty_kl.all (fun k => Nat.ble k 999) = true := by decide +kernel
theorem ty_kl_nG {j k : Nat} (h : ty_kl[j]? = some k) : ty_isG k = false := by
  have h1 := ex_ble (List.all_eq_true.mp ty_kl_all k (List.mem_of_getElem? h))
  cases hb : ty_isG k with
  | false => rfl
  | true => have := ex_ble hb; omega
theorem ty_any_i {α : Type} {f : α → Bool} : ∀ {l : List α} {a : α}, a ∈ l → f a = true → ex_any f l = true
  | [], _, h, _ => by cases h
  | x :: t, a, h, hf => by
    show (f x || ex_any f t) = true
    rcases List.mem_cons.mp h with rfl | h
    · rw [hf]; rfl
    · rw [ty_any_i h hf, Bool.or_true]
theorem ty_al_n {ms : ty_M} {k : Nat} (h : ty_al ms k none = true) (i : Nat) : ty_al ms k (some i) = true := by
  obtain ⟨q, h1, h2⟩ := ty_any_t h
  obtain ⟨q1, q2⟩ := q
  cases q2 with
  | none => exact ty_any_i h1 h2
  | some z =>
    obtain ⟨h3, h4⟩ := ex_and h2
    cases (show false = true from h4)
section TYH
variable {b : Nat} {sa : Nat → Nat} {ρ : Nat → Int} {tys : List (ClassId × FieldType)} {ws : va_W} {e : ty_E} {K : ty_K}
theorem ty_nv_ok {f : ty_F} {x : Value} {e' : ty_E} {v : ty_V} (h : ty_er ρ e) (hf : ty_fo ws f x) (hn : ty_nv e f = some (e', v)) : ∃ ρ', ty_ag e.1 ρ ρ' ∧ ty_er ρ' e' ∧ e.1 ≤ e'.1 ∧ ty_vr b sa e'.1 ρ' ws v x := by
  rcases f with ⟨l, u⟩ | _ | k
  · obtain ⟨y, rfl, h1, h2⟩ := hf
    have hn : some (ty_fr e l u [], ty_i (ty_s e.1)) = some (e', v) := hn
    cases hn
    obtain ⟨ρ', a1, a2, a3, a4⟩ := ty_res0 h h1 h2
    exact ⟨ρ', a1, a2, a3, y, rfl, a4⟩
  · obtain ⟨y, rfl⟩ := hf
    have hn : some (ty_fr e (-9223372036854775808) 9223372036854775807 [], ty_j (ty_s e.1)) = some (e', v) := hn
    cases hn
    obtain ⟨ρ', a1, a2, a3, a4⟩ := ty_res0 h (ty_lg y).1 (ty_lg y).2
    exact ⟨ρ', a1, a2, a3, y, rfl, a4⟩
  · obtain ⟨j, a, ev, h1, h2, rfl⟩ := hf
    obtain ⟨⟨l, u⟩, g1, g2, g3⟩ := ty_kr_ok h1
    dsimp only at g2 g3
    have hn : (match ex_nth ty_kr k with
      | some (l, h) => bif ty_le h l then some (e, ty_r k (ty_k l)) else some (ty_fr e l h [], ty_r k (ty_s e.1))
      | none => none) = some (e', v) := hn
    rw [g1] at hn
    rcases ex_bif (P := fun z => z = some (e', v)) hn with ⟨c1, c2⟩ | ⟨c1, c2⟩
    · cases c2
      have c1 := ty_le_t c1
      have ej : l = (j : Int) := by omega
      exact ⟨ρ, fun _ _ => rfl, h, Nat.le_refl _, j, a, ev, (by rw [ej]; exact ty_is_k _ _ _), h1, h2, rfl⟩
    · cases c2
      obtain ⟨ρ', a1, a2, a3, a4⟩ := ty_res0 h g2 g3
      exact ⟨ρ', a1, a2, a3, j, a, ev, a4, h1, h2, rfl⟩
theorem ty_sm_ok (h : ty_er ρ e) {t u : ty_t} {x y : Int} (hs : ty_sm e t u = true) (ht : ty_is e.1 ρ t x) (hu : ty_is e.1 ρ u y) : x = y := by
  obtain ⟨h1, h2⟩ := ex_and hs
  have h1 := ty_nn_t h1
  have h2 := ty_nn_t h2
  have h3 := ty_hi_ok h.1 (ty_add t u (-1))
  have h4 := ty_lo_ok h.1 (ty_add t u (-1))
  rw [ty_sub_ev, ht.2, hu.2] at h3 h4
  omega
theorem ty_df_ok (h : ty_er ρ e) {t u : ty_t} {x y : Int} (hs : ty_df e t u = true) (ht : ty_is e.1 ρ t x) (hu : ty_is e.1 ρ u y) : x ≠ y := by
  have h3 := ty_hi_ok h.1 (ty_add t u (-1))
  have h4 := ty_lo_ok h.1 (ty_add t u (-1))
  rw [ty_sub_ev, ht.2, hu.2] at h3 h4
  rcases Bool.or_eq_true _ _ |>.mp hs with h1 | h1
  · have h1 := ty_le_t h1
    omega
  · have h1 := ty_le_t h1
    omega
theorem ty_kf_ok {k : Nat} {c sl : ty_t} {v : ty_V} : ∀ {K : ty_K}, ty_kf e K k c sl = some v → ∃ q ∈ K, q.1 = k ∧ ty_sm e q.2.2.1 sl = true ∧ ty_sm e q.2.1 c = true ∧ q.2.2.2 = v
  | [], h => by cases h
  | p :: t, h => by
    rcases ex_bif (P := fun z => z = some v) (show (bif Nat.beq p.1 k && ty_sm e p.2.2.1 sl && ty_sm e p.2.1 c then some p.2.2.2 else ty_kf e t k c sl) = some v from h) with ⟨h1, h2⟩ | ⟨h1, h2⟩
    · obtain ⟨h1, h5⟩ := ex_and h1
      obtain ⟨h3, h4⟩ := ex_and h1
      injection h2 with h2
      exact ⟨p, List.mem_cons_self, ex_beq h3, h4, h5, h2⟩
    · obtain ⟨q, q1, q2⟩ := ty_kf_ok h2
      exact ⟨q, List.mem_cons_of_mem _ q1, q2⟩
theorem ty_rd_ok (h : ty_er ρ e) (hK : ty_Kr b sa e.1 ρ ws K) {k j i a : Nat} {ev : va_E} {x : Value} {f : ty_F} {c sl : ty_t} {keep : Bool} (hc : ty_is e.1 ρ c (j : Int)) (hi : ty_is e.1 ρ sl (i : Int)) (hk : ty_kl[j]? = some k) (hj : ws[j]? = some (a, ev)) (hx : ty_sl ev i = some x) (hf : ty_fo ws f x) {e' : ty_E} {K' : ty_K} {v : ty_V} (hr : ty_rd e K k c sl f keep = some (e', K', v)) : ∃ ρ', ty_ag e.1 ρ ρ' ∧ ty_er ρ' e' ∧ e.1 ≤ e'.1 ∧ ty_Kr b sa e'.1 ρ' ws K' ∧ ty_vr b sa e'.1 ρ' ws v x := by
  unfold ty_rd at hr
  split at hr
  · rename_i w hw
    cases hr
    obtain ⟨q, q1, q2, q3, q4, q5⟩ := ty_kf_ok hw
    have hnG : ty_isG q.1 = false := by rw [q2]; exact ty_kl_nG hk
    obtain ⟨j', i', a', ev', x', g1, g2, g3, g4, g5, g6, g7⟩ : ∃ (j i a : Nat) (ev : va_E) (x : Value), ty_is e.1 ρ q.2.1 (j : Int) ∧ ty_is e.1 ρ q.2.2.1 (i : Int) ∧ ty_kl[j]? = some q.1 ∧ ws[j]? = some (a, ev) ∧ ty_sl ev i = some x ∧ ty_isK q.2.2.2 = true ∧ ty_vr b sa e.1 ρ ws q.2.2.2 x := by
      rcases hK q q1 with ⟨-, z⟩ | ⟨z, -⟩
      · exact z
      · rw [hnG] at z; cases z
    have e1 := ty_sm_ok h q4 g1 hc
    have e2 := ty_sm_ok h q3 g2 hi
    have e1 : j' = j := by omega
    have e2 : i' = i := by omega
    subst e1
    subst e2
    obtain ⟨rfl, rfl⟩ := ty_at hj g4
    rw [hx] at g5
    cases g5
    rw [q5] at g7
    exact ⟨ρ, fun _ _ => rfl, h, Nat.le_refl _, hK, g7⟩
  · split at hr
    · rename_i e1 v1 hnv
      cases hr
      obtain ⟨ρ', a1, a2, a3, a4⟩ := ty_nv_ok (b := b) (sa := sa) h hf hnv
      refine ⟨ρ', a1, a2, a3, ?_, a4⟩
      have hK1 := hK.mono a1 a3
      cases hb : (keep && ty_isK v) with
      | false => exact hK1
      | true =>
        intro q hq
        have hq : q ∈ (k, c, sl, v) :: K := hq
        rcases List.mem_cons.mp hq with rfl | hq
        · exact Or.inl ⟨ty_kl_nG hk, j, i, a, ev, x, hc.mono a1 a3, hi.mono a1 a3, hk, hj, hx, (ex_and hb).2, a4⟩
        · exact hK1 q hq
    · cases hr
theorem ty_kw_m {k : Nat} {sl : Option ty_t} {q : Nat × ty_t × ty_t × ty_V} : ∀ {K : ty_K}, q ∈ ty_kw e K k sl → q ∈ K ∧ ty_kd e k sl q = false
  | [], h => by cases h
  | p0 :: t, h => by
    have h : q ∈ (bif ty_kd e k sl p0 then ty_kw e t k sl else p0 :: ty_kw e t k sl) := h
    cases hb : ty_kd e k sl p0 with
    | true =>
      rw [hb] at h
      have ih := ty_kw_m (K := t) h
      exact ⟨List.mem_cons_of_mem _ ih.1, ih.2⟩
    | false =>
      rw [hb] at h
      rcases List.mem_cons.mp (show q ∈ p0 :: ty_kw e t k sl from h) with rfl | h
      · exact ⟨List.mem_cons_self, hb⟩
      · have ih := ty_kw_m (K := t) h
        exact ⟨List.mem_cons_of_mem _ ih.1, ih.2⟩
theorem ty_wt_f {g k : Nat} (h : ty_wt g k = false) : ∀ p ∈ ty_wc g, p.1 ≠ k := fun p hp e => by
  have : ty_wt g k = true := ty_any_i hp (by rw [e]; exact Nat.beq_refl k)
  rw [this] at h
  cases h
/-- an entry of which nothing is written -/
theorem ty_k1.far {q : Nat × ty_t × ty_t × ty_V} (h : ty_k1 b sa e.1 ρ ws q) {j k a : Nat} {ev ev' : va_E} (hk : ty_kl[j]? = some k) (hj : ws[j]? = some (a, ev)) (hne : ty_isG q.1 = false → ∀ i : Nat, ty_is e.1 ρ q.2.1 (j : Int) → ty_is e.1 ρ q.2.2.1 (i : Int) → ty_kl[j]? = some q.1 → ty_sl ev' i = ty_sl ev i) (hg : ty_isG q.1 = true → ty_gh e.1 ρ ws q → ty_gh e.1 ρ (ws.set j (a, ev')) q) : ty_k1 b sa e.1 ρ (ws.set j (a, ev')) q := by
  have hx : ex_xt ws (ws.set j (a, ev')) := ex_xt.set hj
  rcases h with ⟨h0, j', i, a', ev1, x, h1, h2, h3, h4, h5, h6, h7⟩ | ⟨h0, h1⟩
  · have h7' := h7.mono (ρ' := ρ) (fun _ _ => rfl) (Nat.le_refl e.1) hx
    by_cases z : j = j'
    · subst z
      obtain ⟨rfl, rfl⟩ := ty_at hj h4
      exact Or.inl ⟨h0, j, i, a, ev', x, h1, h2, h3, by rw [List.getElem?_set_self (List.getElem?_eq_some_iff.mp hj).1], (hne h0 i h1 h2 h3).trans h5, h6, h7'⟩
    · exact Or.inl ⟨h0, j', i, a', ev1, x, h1, h2, h3, by rw [List.getElem?_set_ne z]; exact h4, h5, h6, h7'⟩
  · exact Or.inr ⟨h0, hg h0 h1⟩
theorem ty_gh.nw {q : Nat × ty_t × ty_t × ty_V} (h : ty_gh e.1 ρ ws q) {j k a : Nat} {ev ev' : va_E} (hk : ty_kl[j]? = some k) (hj : ws[j]? = some (a, ev)) (hw : ty_wt q.1 k = false) : ty_gh e.1 ρ (ws.set j (a, ev')) q := h.cg (fun p hp i => ty_ia_put hj (fun z => by
  have h1 := ty_wc_kl q.1 p hp
  rw [z, hk] at h1
  injection h1 with h1
  exact absurd h1.symm (ty_wt_f hw p hp)))
theorem ty_Kr.putn (hK : ty_Kr b sa e.1 ρ ws K) {j k a : Nat} {ev ev' : va_E} (hk : ty_kl[j]? = some k) (hj : ws[j]? = some (a, ev)) : ty_Kr b sa e.1 ρ (ws.set j (a, ev')) (ty_kw e K k none) := fun q hq => by
  obtain ⟨h1, h2⟩ := ty_kw_m hq
  refine (hK q h1).far hk hj (fun hG i _ _ h => ?_) (fun hG hg => ?_)
  · unfold ty_kd at h2
    rw [hG] at h2
    have h2 : (Nat.beq q.1 k && true) = false := h2
    rw [hk] at h
    injection h with h
    rw [h, Nat.beq_refl] at h2
    cases h2
  · unfold ty_kd at h2
    rw [hG] at h2
    have h2 : (ty_wt q.1 k && true) = false := h2
    rw [Bool.and_true] at h2
    exact hg.nw hk hj h2
theorem ty_Kr.puts (he : ty_er ρ e) (hK : ty_Kr b sa e.1 ρ ws K) {j k a i0 : Nat} {ev ev' : va_E} {u : ty_t} (hk : ty_kl[j]? = some k) (hj : ws[j]? = some (a, ev)) (hu : ty_is e.1 ρ u (i0 : Int)) (hs : ∀ i, i ≠ i0 → ty_sl ev' i = ty_sl ev i) : ty_Kr b sa e.1 ρ (ws.set j (a, ev')) (ty_kw e K k (some u)) := fun q hq => by
  obtain ⟨h1, h2⟩ := ty_kw_m hq
  refine (hK q h1).far hk hj (fun hG i _ hi h => ?_) (fun hG hg => ?_)
  · unfold ty_kd at h2
    rw [hG] at h2
    have h2 : (Nat.beq q.1 k && !(ty_df e q.2.2.1 u)) = false := h2
    rw [hk] at h
    injection h with h
    rw [h, Nat.beq_refl] at h2
    cases hd : ty_df e q.2.2.1 u with
    | true =>
      have := ty_df_ok he hd hi hu
      exact hs i (by omega)
    | false => rw [hd] at h2; cases h2
  · unfold ty_kd at h2
    rw [hG] at h2
    have h2 : (ty_wt q.1 k && !(ty_gk e q k u)) = false := h2
    cases hw : ty_wt q.1 k with
    | false => exact hg.nw hk hj hw
    | true =>
      rw [hw] at h2
      cases hd : ty_gk e q k u with
      | false => rw [hd] at h2; cases h2
      | true =>
        refine hg.wr he hu hd (fun p hp i hi => ty_ia_put hj (fun z => hs i (hi ?_)))
        have h3 := ty_wc_kl q.1 p hp
        rw [z, hk] at h3
        injection h3 with h3
        exact h3.symm
theorem ty_Kr.cons (hK : ty_Kr b sa e.1 ρ ws K) {j k a i0 : Nat} {ev : va_E} {c u : ty_t} {v : ty_V} {x : Value} (hk : ty_kl[j]? = some k) (hj : ws[j]? = some (a, ev)) (hc : ty_is e.1 ρ c (j : Int)) (hu : ty_is e.1 ρ u (i0 : Int)) (hx : ty_sl ev i0 = some x) (hv : ty_vr b sa e.1 ρ ws v x) (hI : ty_isK v = true) : ty_Kr b sa e.1 ρ ws ((k, c, u, v) :: K) := fun q hq => by
  rcases List.mem_cons.mp hq with rfl | hq
  · exact Or.inl ⟨ty_kl_nG hk, j, i0, a, ev, x, hc, hu, hk, hj, hx, hI, hv⟩
  · exact hK q hq
theorem ty_th.obj (h : ty_th tys ws) {j k a ci : Nat} {ev : va_E} {fs : List ty_F} (hk : ty_kl[j]? = some k) (hj : ws[j]? = some (a, ev)) (hc : ex_nth ty_ct k = some (.inl (ci, fs))) : ty_ct[k]? = some (.inl (ci, fs)) ∧ ∃ vs : List Value, ev = .inr (ci, vs) ∧ ∀ (i : Nat) (f : ty_F), fs[i]? = some f → ∃ x, vs[i]? = some x ∧ ty_fo ws f x := by
  obtain ⟨a', ev', c, h1, h2, h3⟩ := h j k hk
  obtain ⟨rfl, rfl⟩ := ty_at hj h1
  rw [ex_nth_get] at hc
  refine ⟨hc, ?_⟩
  rw [h2] at hc
  injection hc with hc
  subst hc
  rcases ev with w | w
  · exact h3.elim
  · obtain ⟨h4, h5⟩ := h3
    obtain ⟨w1, w2⟩ := w
    dsimp only at h4 h5
    subst h4
    exact ⟨w2, rfl, h5⟩
theorem ty_th.arr (h : ty_th tys ws) {j k a t N : Nat} {ev : va_E} {f : ty_F} (hk : ty_kl[j]? = some k) (hj : ws[j]? = some (a, ev)) (hc : ex_nth ty_ct k = some (.inr (t, N, f))) : ty_ct[k]? = some (.inr (t, N, f)) ∧ ∃ (cA : ClassId) (ar : vp_A), ev = .inl (cA, ar) ∧ (cA, ex_ty t) ∈ tys ∧ t ≤ 4 ∧ ar.1 = N ∧ ex_ak t ar ∧ ∀ i, i < N → ty_fo ws f (ex_ag ar i) := by
  obtain ⟨a', ev', c, h1, h2, h3⟩ := h j k hk
  obtain ⟨rfl, rfl⟩ := ty_at hj h1
  rw [ex_nth_get] at hc
  refine ⟨hc, ?_⟩
  rw [h2] at hc
  injection hc with hc
  subst hc
  rcases ev with w | w
  · exact ⟨w.1, w.2, rfl, h3⟩
  · exact h3.elim
theorem ty_in2_ok (h : ty_er ρ e) {t : ty_t} {l u : Int} {y : Int32} (ht : ty_is e.1 ρ t y.toInt) (hc : ty_in2 e t l u = true) : l ≤ y.toInt ∧ y.toInt ≤ u := by
  obtain ⟨h1, h2⟩ := ex_and hc
  have r := ty_rg y
  constructor
  · rcases Bool.or_eq_true _ _ |>.mp h1 with h1 | h1
    · have h3 : l ≤ -2147483648 := ty_le_t h1
      omega
    · have h1 := ty_ent_ok h h1
      rw [ty_sub_ev, ty_k_ev, ht.2] at h1
      omega
  · rcases Bool.or_eq_true _ _ |>.mp h2 with h2 | h2
    · have h3 : (2147483647 : Int) ≤ u := ty_le_t h2
      omega
    · have h2 := ty_ent_ok h h2
      rw [ty_pl_ev, ht.2] at h2
      omega
theorem ty_01 {y : Int32} (h1 : 0 ≤ y.toInt) (h2 : y.toInt ≤ 1) : y = 0 ∨ y = 1 := by
  rcases (show y.toInt = 0 ∨ y.toInt = 1 by omega) with h | h
  · exact Or.inl (Int32.toInt_inj.mp h)
  · exact Or.inr (Int32.toInt_inj.mp h)
/-- an index -/
theorem ty_ix {y : Int32} {N : Nat} (h1 : 0 ≤ y.toInt) (h2 : y.toInt ≤ (N : Int) - 1) : vp_in y N ∧ y.toNatClampNeg < N ∧ (y.toNatClampNeg : Int) = y.toInt ∧ ¬ y < 0 := by
  have e : (y.toNatClampNeg : Int) = y.toInt := by
    show ((y.toInt.toNat : Nat) : Int) = y.toInt
    omega
  have hn : ¬ y < 0 := by
    rw [Int32.lt_iff_toInt_lt]
    show ¬ y.toInt < 0
    omega
  exact ⟨fun hh => hh.elim hn (fun q => by omega), by omega, e, hn⟩
end TYH
abbrev ty_ft4 (ty : Nat) (ft : FieldType) : Prop := (ty = 0 ∧ ft = .int) ∨ (ty = 1 ∧ ((∃ C, ft = .object C) ∨ ∃ t, ft = .array t)) ∨ (ty = 2 ∧ ft = .boolean) ∨ (ty = 3 ∧ ft = .long)
theorem ty_tk_ok {ty : Nat} {dd : String} (hk : ty_tk ty dd = true) : ∃ ft, parseFieldDescriptor dd = some ft ∧ ty_ft4 ty ft := by
  unfold ty_tk at hk
  split at hk
  · rename_i hp
    exact ⟨_, hp, Or.inr (Or.inr (Or.inr ⟨ex_beq hk, rfl⟩))⟩
  · obtain ⟨ft, h1, h2⟩ := ex_tk_ok hk
    refine ⟨ft, h1, ?_⟩
    rcases h2 with h | h | h
    · exact Or.inl h
    · exact Or.inr (Or.inl h)
    · exact Or.inr (Or.inr (Or.inl h))
theorem ty_okv_ok {b : Nat} {sa : Nat → Nat} {ρ : Nat → Int} {ws : va_W} {e : ty_E} (h : ty_er ρ e) {ty : Nat} {f : ty_F} {v : ty_V} {x : Value} {ft : FieldType} (hk : ty_okv e ty f v = true) (hv : ty_vr b sa e.1 ρ ws v x) (hty : ty_ft4 ty ft) : narrow ft x = x ∧ fits ft x = true ∧ ty_fo ws f x := by
  unfold ty_okv at hk
  split at hk
  · rename_i l u t
    obtain ⟨y, rfl, hy⟩ := hv
    obtain ⟨h1, h2⟩ := ex_and hk
    have hb := ty_in2_ok h hy h1
    have hf : ty_fo ws (.inl (l, u)) (.int y) := ⟨y, rfl, hb⟩
    rcases Bool.or_eq_true _ _ |>.mp h2 with h3 | h3
    · have h3 := ex_beq h3
      rcases hty with ⟨-, rfl⟩ | ⟨z, -⟩ | ⟨z, -⟩ | ⟨z, -⟩
      · exact ⟨rfl, rfl, hf⟩
      all_goals omega
    · obtain ⟨h3, h5⟩ := ex_and h3
      obtain ⟨h3, h4⟩ := ex_and h3
      have h3 := ex_beq h3
      have h4 := ty_nn_t h4
      have h5 := ty_le_t h5
      rcases hty with ⟨z, -⟩ | ⟨z, -⟩ | ⟨-, rfl⟩ | ⟨z, -⟩
      · omega
      · omega
      · rcases ty_01 (y := y) (by omega) (by omega) with rfl | rfl <;> exact ⟨rfl, by decide, hf⟩
      · omega
  · obtain ⟨y, rfl, hy⟩ := hv
    have h3 := ex_beq hk
    rcases hty with ⟨z, -⟩ | ⟨z, -⟩ | ⟨z, -⟩ | ⟨-, rfl⟩
    · omega
    · omega
    · omega
    · exact ⟨rfl, rfl, y, rfl⟩
  · rename_i k k' t
    obtain ⟨j, a, ev, h1, h2, h3, rfl⟩ := hv
    obtain ⟨h4, h5⟩ := ex_and hk
    have h4 := ex_beq h4
    have h5 := ex_beq h5
    dsimp only at h2
    subst h4
    rcases hty with ⟨z, -⟩ | ⟨-, hf⟩ | ⟨z, -⟩ | ⟨z, -⟩
    · omega
    · rcases hf with ⟨C, rfl⟩ | ⟨t, rfl⟩ <;> exact ⟨rfl, rfl, j, a, ev, h2, h3, rfl⟩
    · omega
    · omega
  · cases hk
end
section
/-! the heap's rows -/
section TYR
variable {p : Program} {l : Launch} {en : Env} {R : Room} {s : State} {m : MethodId} {args : Array Value} {below : List Frame} {meth : Method} {c : Code} {k1 k2 : Nat} {Q : State → Prop} {D : va_G} {b : Nat} {sa : Nat → Nat} {A : Nat → Prop} {mL nr : Nat} {ρ0 ρ : Nat → Int} {w0 : va_W} {tys : List (ClassId × FieldType)} {ms : ty_M} {pr : List ex_P}
variable {e : ty_E} {lv : ty_L} {st : List ty_V} {K : ty_K} {ls : Array Slot} {xs : List Value} {ws : va_W} {H : Heap} {locs : List Loc} {q : ex_P} {r : List ex_P} {o : List (ty_E × ty_S)}
variable {σ : Nat → Int32} {L d : Nat} {own nm : String} {cd : ByteArray} {cap : Nat × Nat} {isl : Bool}
theorem ty_Rl.put (hR : ty_Rl s D b sa A mL nr w0 tys ms ρ e lv st K ls xs ws H locs) {j k a : Nat} {ev ev' : va_E} {cc : ty_C} (hk : ty_kl[j]? = some k) (hj : ws[j]? = some (a, ev)) (hc : ty_ct[k]? = some cc) (hv : ty_co tys (ws.set j (a, ev')) cc ev') (hf : ∀ i, ty_al ms k (some i) = false → ty_sl ev' i = ty_sl ev i) {K' : ty_K} (hK' : ty_Kr b sa e.1 ρ (ws.set j (a, ev')) K') {H1 : Heap} {locs1 : List Loc} (hP : va_P D vwCl (ws.set j (a, ev')) H1) (hD : va_D A (ws.set j (a, ev'))) (hS : va_S A s.heap H1 locs1) : ty_Rl s D b sa A mL nr w0 tys ms ρ e lv st K' ls xs (ws.set j (a, ev')) H1 locs1 := by
  have hx : ex_xt ws (ws.set j (a, ev')) := ex_xt.set hj
  obtain ⟨⟨lw, a1, a2⟩, a3, a4, a5, a6, a7, a8, a9, a10, a11, a12, a13⟩ := hR
  exact ⟨⟨lw, a1, a2.mono (fun _ _ => rfl) (Nat.le_refl _) hx⟩, a3, a4.mono (fun _ _ => rfl) (Nat.le_refl _) hx, hK', a6.put hk hj hc hv, a7.put hk hj hf, a8, a9, hP, hD, hS, a13.tr hx⟩
theorem ty_gf_ok {ix : Nat} {rc : vw_C} (hc : vwCl[q.2.2.2.1]? = some rc) (hk : q.2.2.2.2.1 < rc.2.2) (hl : Cond.fieldLink own ix (rc.2.1 q.2.2.2.2.1).1 (rc.2.1 q.2.2.2.2.1).2.1 (rc.2.1 q.2.2.2.2.1).2.2.1 ∈ ex_tb) (X : ex_X p R s m args meth c σ b L A own nm cd mL d cap isl) (hlen : q.2.2.1 = 3) (hdg : decode cd q.1 = .ok (.getfield ix, 3))
    (hs : ty_gf q r e lv st K = some o) (hN : ty_NN p l en R s m args below meth c k1 k2 Q D b sa A mL nr ρ0 w0 tys ms pr o) (hsub : ∀ x ∈ q :: r, x ∈ pr) (ha : ty_ag nr ρ0 ρ) (hR : ty_Rl s D b sa A mL nr w0 tys ms ρ e lv st K ls xs ws H locs) : W p l en R s m args below meth c H locs k1 k2 Q (F0 m q.1 ls xs) := by
  unfold ty_gf at hs
  split at hs
  · rename_i k tc rest
    split at hs
    · rename_i ci fs hct
      split at hs
      · rename_i f hf
        obtain ⟨h1, h2⟩ := ex_bifs hs
        have h1 := ex_beq h1
        subst h1
        obtain ⟨x, xr, rfl, ⟨j, a, ev, c1, c2, c3, rfl⟩, hr⟩ := ty_sr_cons hR.sr
        obtain ⟨-, vs, rfl, fv⟩ := hR.th.obj c2 c3 hct
        obtain ⟨y, g1, g2⟩ := fv _ f (by rw [← ex_nth_get]; exact hf)
        split at h2
        · rename_i e' K' v hrd
          obtain ⟨ρ', a1, a2, a3, a4, a5⟩ := ty_rd_ok (i := q.2.2.2.2.1) hR.er hR.Kr c1 (ty_is_k _ _ _) c2 c3 g1 g2 hrd
          obtain ⟨x1, x2, x3, x4, x5, x6⟩ := X
          have W1 := ty_ft_ok h2 hN hsub (ha.tr a1 hR.nle) ((((hR.stk hr).env a1 a3 a2).kn a4).push a5)
          rw [hlen] at W1
          exact va_get (C := rc.1) (T := rc.2.1) (N := rc.2.2) x1 x2 x5 (ex_cli hc).1 x4 hR.hK hR.hP j c3 hc _ hk (x5 _ hl) (fun _ h9 => h9) g1 hdg W1
        · cases h2
      · cases hs
    · cases hs
  · cases hs
theorem ty_pf_ok {ix : Nat} {rc : vw_C} (hc : vwCl[q.2.2.2.1]? = some rc) (hk : q.2.2.2.2.1 < rc.2.2) (hl : Cond.fieldLink own ix (rc.2.1 q.2.2.2.2.1).1 (rc.2.1 q.2.2.2.2.1).2.1 (rc.2.1 q.2.2.2.2.1).2.2.1 ∈ ex_tb) (hfin : (rc.2.1 q.2.2.2.2.1).2.2.2 = false) (htk : ty_tk q.2.2.2.2.2.1 (rc.2.1 q.2.2.2.2.1).2.2.1 = true) (X : ex_X p R s m args meth c σ b L A own nm cd mL d cap isl) (hlen : q.2.2.1 = 3) (hdg : decode cd q.1 = .ok (.putfield ix, 3))
    (hs : ty_pf ms q r e lv st K = some o) (hN : ty_NN p l en R s m args below meth c k1 k2 Q D b sa A mL nr ρ0 w0 tys ms pr o) (hsub : ∀ x ∈ q :: r, x ∈ pr) (ha : ty_ag nr ρ0 ρ) (hR : ty_Rl s D b sa A mL nr w0 tys ms ρ e lv st K ls xs ws H locs) : W p l en R s m args below meth c H locs k1 k2 Q (F0 m q.1 ls xs) := by
  unfold ty_pf at hs
  split at hs
  · rename_i v k tc rest
    split at hs
    · rename_i ci fs hct
      split at hs
      · rename_i f hf
        obtain ⟨h1, h2⟩ := ex_bifs hs
        obtain ⟨h1, h4⟩ := ex_and h1
        obtain ⟨h1, h3⟩ := ex_and h1
        have h1 := ex_beq h1
        subst h1
        obtain ⟨x, xr, rfl, hvr, hr⟩ := ty_sr_cons hR.sr
        obtain ⟨x', xr', rfl, ⟨j, a, ev, c1, c2, c3, rfl⟩, hr'⟩ := ty_sr_cons hr
        obtain ⟨hct', vs, rfl, fv⟩ := hR.th.obj c2 c3 hct
        have hf : fs[q.2.2.2.2.1]? = some f := by rw [← ex_nth_get]; exact hf
        obtain ⟨y, g1, g2⟩ := fv _ f hf
        obtain ⟨ft, t1, t2⟩ := ty_tk_ok htk
        obtain ⟨n1, n2, n3⟩ := ty_okv_ok hR.er h3 hvr t2
        have hlt : q.2.2.2.2.1 < vs.length := (List.getElem?_eq_some_iff.mp g1).1
        obtain ⟨cw, ⟨ty0, hty0⟩, hnm⟩ := ex_cli hc
        obtain ⟨x1, x2, x3, x4, x5, x6, x7, x8, x9, x10, x11⟩ := X
        have hx := ex_xt.set (e' := .inr (q.2.2.2.1, vs.set q.2.2.2.2.1 x)) c3
        have hco : ty_co tys (ws.set j (a, .inr (q.2.2.2.1, vs.set q.2.2.2.2.1 x))) (.inl (q.2.2.2.1, fs)) (.inr (q.2.2.2.1, vs.set q.2.2.2.2.1 x)) := by
          refine ⟨rfl, fun i f' hi => ?_⟩
          show ∃ z, (vs.set q.2.2.2.2.1 x)[i]? = some z ∧ _
          have hi : fs[i]? = some f' := hi
          by_cases hij : q.2.2.2.2.1 = i
          · subst hij
            rw [hf] at hi
            cases hi
            exact ⟨x, by rw [List.getElem?_set_self hlt], n3.mono hx⟩
          · obtain ⟨z, z1, z2⟩ := fv i f' hi
            exact ⟨z, by rw [List.getElem?_set_ne hij]; exact z1, z2.mono hx⟩
        have hsl : ∀ i, i ≠ q.2.2.2.2.1 → ty_sl (.inr (q.2.2.2.1, vs.set q.2.2.2.2.1 x)) i = ty_sl (.inr (q.2.2.2.1, vs)) i := fun i hi => by
          show (vs.set q.2.2.2.2.1 x)[i]? = vs[i]?
          rw [List.getElem?_set_ne (Ne.symm hi)]
        have hfr : ∀ i, ty_al ms k (some i) = false → ty_sl (.inr (q.2.2.2.1, vs.set q.2.2.2.2.1 x)) i = ty_sl (.inr (q.2.2.2.1, vs)) i := fun i hi => hsl i (fun z => by rw [z, h4] at hi; cases hi)
        have hKw := hR.Kr.puts (ev' := .inr (q.2.2.2.1, vs.set q.2.2.2.2.1 x)) hR.er c2 c3 (ty_is_k e.1 ρ (q.2.2.2.2.1 : Int)) hsl
        have hKr : ty_Kr b sa e.1 ρ (ws.set j (a, .inr (q.2.2.2.1, vs.set q.2.2.2.2.1 x))) (bif ty_isK v then (k, tc, ty_k (q.2.2.2.2.1 : Int), v) :: ty_kw e K k (some (ty_k (q.2.2.2.2.1 : Int))) else ty_kw e K k (some (ty_k (q.2.2.2.2.1 : Int)))) := by
          cases hb : ty_isK v with
          | false => exact hKw
          | true => exact hKw.cons (ev := .inr (q.2.2.2.1, vs.set q.2.2.2.2.1 x)) (a := a) (x := x) c2 (by rw [List.getElem?_set_self (List.getElem?_eq_some_iff.mp c3).1]) c1 (ty_is_k _ _ _) (show (vs.set q.2.2.2.2.1 x)[q.2.2.2.2.1]? = some x by rw [List.getElem?_set_self hlt]) (hvr.mono (fun _ _ => rfl) (Nat.le_refl _) hx) hb
        have W1 : ∀ (H1 : Heap) (locs1 : List Loc), va_P D vwCl (ws.set j (a, .inr (q.2.2.2.1, vs.set q.2.2.2.2.1 x))) H1 → va_D A (ws.set j (a, .inr (q.2.2.2.1, vs.set q.2.2.2.2.1 x))) → va_S A s.heap H1 locs1 → W p l en R s m args below meth c H1 locs1 k1 k2 Q (F0 m (q.1 + 3) ls xr') := fun H1 locs1 hP hD hS => by
          have W2 := ty_ft_ok h2 hN hsub ha ((hR.stk hr').put c2 c3 hct' hco hfr hKr hP hD hS)
          rw [hlen] at W2
          exact W2
        exact va_put (C := rc.1) (T := rc.2.1) (N := rc.2.2) x1 x2 x5 cw ty0 hty0 hnm x4 hR.hK hR.hP hR.hD hR.hS j c3 hc _ hk (x5 _ hl) (fun _ h9 => h9) hfin t1 n1 n2 hlt hdg W1
      · cases hs
    · cases hs
  · cases hs
theorem ty_len_ok (X : ex_X p R s m args meth c σ b L A own nm cd mL d cap isl) (hL : isl = true → ρ0 0 = (L : Int) ∧ 0 < nr ∧ L < 2147483648) (hlen : q.2.2.1 = 1) (hdg : decode cd q.1 = .ok (.arraylength, 1))
    (hs : ty_len isl q r e lv st K = some o) (hN : ty_NN p l en R s m args below meth c k1 k2 Q D b sa A mL nr ρ0 w0 tys ms pr o) (hsub : ∀ x ∈ q :: r, x ∈ pr) (ha : ty_ag nr ρ0 ρ) (hR : ty_Rl s D b sa A mL nr w0 tys ms ρ e lv st K ls xs ws H locs) : W p l en R s m args below meth c H locs k1 k2 Q (F0 m q.1 ls xs) := by
  obtain ⟨x1, x2, x3, x4, x5, x6, x7, x8, x9, x10, x11, x12⟩ := X
  unfold ty_len at hs
  split at hs
  · rename_i k tc rest
    split at hs
    · rename_i t N f hct
      obtain ⟨h1, h2⟩ := ex_bifs hs
      have h1 := ex_ble h1
      obtain ⟨x, xr, rfl, ⟨j, a, ev, c1, c2, c3, rfl⟩, hr⟩ := ty_sr_cons hR.sr
      obtain ⟨-, cA, ar, rfl, f2, f3, f4, f5, f6⟩ := hR.th.arr c2 c3 hct
      obtain ⟨tk, ht⟩ := ex_ty_in f2
      have hv : ty_vr b sa e.1 ρ ws (ty_i (ty_k (N : Int))) (.int (Int32.ofNat ar.1)) := ⟨Int32.ofNat ar.1, rfl, (by
        have : (Int32.ofNat ar.1).toInt = (N : Int) := by
          rw [f4]
          exact nI_toInt (by omega)
        rw [this]
        exact ty_is_k _ _ _)⟩
      have W1 := ty_ft_ok h2 hN hsub ha ((hR.stk hr).push hv)
      rw [hlen] at W1
      exact va_alen x1 x2 hR.hK hR.hP j tk c3 ht rfl hdg W1
    · cases hs
  · rename_i rest
    obtain ⟨h1, h2⟩ := ex_bifs hs
    obtain ⟨h1, h3⟩ := ex_and h1
    obtain ⟨x, xr, rfl, hvr, hr⟩ := ty_sr_cons hR.sr
    have hvr : x = .ref b := hvr
    subst hvr
    obtain ⟨hX, hbl, hbA⟩ := x9 h1
    obtain ⟨l1, l2, l3⟩ := hL h1
    have hv : ty_vr b sa e.1 ρ ws (ty_i (ty_s 0)) (.int (Int32.ofNat L)) := ⟨Int32.ofNat L, rfl, ty_s_sc (ex_blt h3), (by
      rw [ty_s_ev, ← ha 0 l2, l1]
      exact (nI_toInt (by omega)).symm)⟩
    have W1 := ty_ft_ok h2 hN hsub ha ((hR.stk hr).push hv)
    rw [hlen] at W1
    exact va_slen x1 x2 hX hbl hbA hR.hS hdg W1
  · cases hs
theorem ty_ald_ok {ok : Nat → Bool} {il : Bool} (hL : il = true → ρ0 0 = (L : Int) ∧ 0 < nr ∧ L < 2147483648) (hs : ty_ald il ok q r e lv st K = some o) (hN : ty_NN p l en R s m args below meth c k1 k2 Q D b sa A mL nr ρ0 w0 tys ms pr o) (hsub : ∀ x ∈ q :: r, x ∈ pr) (ha : ty_ag nr ρ0 ρ) (hR : ty_Rl s D b sa A mL nr w0 tys ms ρ e lv st K ls xs ws H locs)
    (row : ∀ (t j a N i tk : Nat) (cA : ClassId) (ar : vp_A) (y : Int32) (xr : List Value), ok t = true → ws[j]? = some (a, .inl (cA, ar)) → tys[tk]? = some (cA, ex_ty t) → t ≤ 4 → ar.1 = N → ex_ak t ar → vp_in y N → y.toNatClampNeg = i → W p l en R s m args below meth c H locs k1 k2 Q (F0 m (q.1 + q.2.2.1) ls (ex_ag ar i :: xr)) → W p l en R s m args below meth c H locs k1 k2 Q (F0 m q.1 ls (.int y :: .ref a :: xr)))
    (row2 : ∀ (i : Nat) (y : Int32) (xr : List Value), il = true → vp_in y L → y.toNatClampNeg = i → W p l en R s m args below meth c H locs k1 k2 Q (F0 m (q.1 + q.2.2.1) ls (.int (σ i) :: xr)) → W p l en R s m args below meth c H locs k1 k2 Q (F0 m q.1 ls (.int y :: .ref b :: xr))) : W p l en R s m args below meth c H locs k1 k2 Q (F0 m q.1 ls xs) := by
  unfold ty_ald at hs
  split at hs
  · rename_i ti k tc rest
    split at hs
    · rename_i t N f hct
      obtain ⟨h1, h2⟩ := ex_bifs hs
      obtain ⟨h1, h3⟩ := ex_and h1
      obtain ⟨x0, x1, rfl, ⟨y, rfl, hy⟩, hr1⟩ := ty_sr_cons hR.sr
      obtain ⟨x2, x3, rfl, ⟨j, a, ev, c1, c2, c3, rfl⟩, hr⟩ := ty_sr_cons hr1
      obtain ⟨-, cA, ar, rfl, f2, f3, f4, f5, f6⟩ := hR.th.arr c2 c3 hct
      have hb := ty_in_ok hR.er h3
      rw [hy.2] at hb
      obtain ⟨i1, i2, i3, i4⟩ := ty_ix hb.1 hb.2
      obtain ⟨tk, ht⟩ := ex_ty_in f2
      split at h2
      · rename_i e' K' v hrd
        obtain ⟨ρ', a1, a2, a3, a4, a5⟩ := ty_rd_ok (i := y.toNatClampNeg) (x := ex_ag ar y.toNatClampNeg) hR.er hR.Kr c1 (by rw [i3]; exact hy) c2 c3 (by
          show (if y.toNatClampNeg < ar.1 then some (ex_ag ar y.toNatClampNeg) else none) = _
          rw [if_pos (by rw [f4]; exact i2)]) (f6 _ i2) hrd
        exact row t j a N _ tk cA ar y x3 h1 c3 ht f3 f4 f5 i1 rfl (ty_ft_ok h2 hN hsub (ha.tr a1 hR.nle) ((((hR.stk hr).env a1 a3 a2).kn a4).push a5))
      · cases h2
    · cases hs
  · rename_i ti rest
    obtain ⟨h1, h2⟩ := ex_bifs hs
    obtain ⟨h1, h6⟩ := ex_and h1
    obtain ⟨h1, h5⟩ := ex_and h1
    obtain ⟨h1, h4⟩ := ex_and h1
    obtain ⟨h1, h3⟩ := ex_and h1
    obtain ⟨x0, x1, rfl, ⟨y, rfl, hy⟩, hr1⟩ := ty_sr_cons hR.sr
    obtain ⟨x2, x3, rfl, hvr, hr⟩ := ty_sr_cons hr1
    have hvr : x2 = .ref b := hvr
    subst hvr
    obtain ⟨l1, l2, l3⟩ := hL h1
    have h5 := ty_ent_ok hR.er h5
    have h6 := ty_ent_ok hR.er h6
    rw [ty_sub_ev, ty_k_ev, hy.2] at h5
    rw [ty_pl_ev, ty_sub_ev, hy.2, ty_s_ev, ← ha 0 l2, l1] at h6
    obtain ⟨i1, i2, i3, i4⟩ := ty_ix (y := y) (N := L) (by omega) (by omega)
    obtain ⟨ρ', a1, a2, a3, a4⟩ := ty_res0 hR.er (ty_rg (σ y.toNatClampNeg)).1 (ty_rg (σ y.toNatClampNeg)).2
    exact row2 _ y x3 h1 i1 rfl (ty_ft_ok h2 hN hsub (ha.tr a1 hR.nle) (((hR.stk hr).env a1 a3 a2).push ⟨_, rfl, a4⟩))
  · cases hs
theorem ty_okw_isK {t : Nat} {f : ty_F} {v : ty_V} (h : ty_okw e t f v = true) : ty_isK v = true := by
  unfold ty_okw at h
  split at h
  · rfl
  · rfl
  · cases h
theorem ty_ast_ok {ok : Nat → Bool} (hs : ty_ast ms ok q r e lv st K = some o) (hN : ty_NN p l en R s m args below meth c k1 k2 Q D b sa A mL nr ρ0 w0 tys ms pr o) (hsub : ∀ x ∈ q :: r, x ∈ pr) (ha : ty_ag nr ρ0 ρ) (hR : ty_Rl s D b sa A mL nr w0 tys ms ρ e lv st K ls xs ws H locs)
    (row : ∀ (t j a N i tk : Nat) (cA : ClassId) (ar : vp_A) (y : Int32) (v : ty_V) (f : ty_F) (x : Value) (xr : List Value), ok t = true → ty_okw e t f v = true → ty_vr b sa e.1 ρ ws v x → ws[j]? = some (a, .inl (cA, ar)) → tys[tk]? = some (cA, ex_ty t) → t ≤ 4 → ar.1 = N → ex_ak t ar → vp_in y N → y.toNatClampNeg = i →
      ∃ ar' : vp_A, ar'.1 = N ∧ ex_ak t ar' ∧ (∀ i', i' ≠ i → ex_ag ar' i' = ex_ag ar i') ∧ (∀ ws' : va_W, ty_fo ws' f (ex_ag ar' i)) ∧ (t = 0 → ex_ag ar' i = x) ∧ ((∀ (H1 : Heap) (locs1 : List Loc), va_P D vwCl (ws.set j (a, .inl (cA, ar'))) H1 → va_D A (ws.set j (a, .inl (cA, ar'))) → va_S A s.heap H1 locs1 → W p l en R s m args below meth c H1 locs1 k1 k2 Q (F0 m (q.1 + q.2.2.1) ls xr)) → W p l en R s m args below meth c H locs k1 k2 Q (F0 m q.1 ls (x :: .int y :: .ref a :: xr)))) : W p l en R s m args below meth c H locs k1 k2 Q (F0 m q.1 ls xs) := by
  unfold ty_ast at hs
  split at hs
  · rename_i v ti k tc rest
    split at hs
    · rename_i t N f hct
      obtain ⟨h1, h2⟩ := ex_bifs hs
      obtain ⟨h1, h5⟩ := ex_and h1
      obtain ⟨h1, h4⟩ := ex_and h1
      obtain ⟨h1, h3⟩ := ex_and h1
      obtain ⟨x, x0, rfl, hvr, hr0⟩ := ty_sr_cons hR.sr
      obtain ⟨x1, x2, rfl, ⟨y, rfl, hy⟩, hr1⟩ := ty_sr_cons hr0
      obtain ⟨x3, x4, rfl, ⟨j, a, ev, c1, c2, c3, rfl⟩, hr⟩ := ty_sr_cons hr1
      obtain ⟨hct', cA, ar, rfl, f2, f3, f4, f5, f6⟩ := hR.th.arr c2 c3 hct
      have hb := ty_in_ok hR.er h4
      rw [hy.2] at hb
      obtain ⟨i1, i2, i3, i4⟩ := ty_ix hb.1 hb.2
      obtain ⟨tk, ht⟩ := ex_ty_in f2
      obtain ⟨ar', g1, g2, g3, g4, g5, g6⟩ := row t j a N _ tk cA ar y v f x x4 h1 h3 hvr c3 ht f3 f4 f5 i1 rfl
      refine g6 (fun H1 locs1 hP hD hS => ?_)
      have hx := ex_xt.set (e' := .inl (cA, ar')) c3
      have hco : ty_co tys (ws.set j (a, .inl (cA, ar'))) (.inr (t, N, f)) (.inl (cA, ar')) := ⟨f2, f3, g1, g2, fun z hz => by
        show ty_fo _ f (ex_ag ar' z)
        by_cases hzj : z = y.toNatClampNeg
        · rw [hzj]; exact g4 _
        · rw [g3 z hzj]; exact (f6 z hz).mono hx⟩
      have hsl : ∀ i, i ≠ y.toNatClampNeg → ty_sl (.inl (cA, ar')) i = ty_sl (.inl (cA, ar)) i := fun i hi => by
        show (if i < ar'.1 then some (ex_ag ar' i) else none) = if i < ar.1 then some (ex_ag ar i) else none
        rw [g1, f4, g3 i hi]
      have hfr : ∀ i, ty_al ms k (some i) = false → ty_sl (.inl (cA, ar')) i = ty_sl (.inl (cA, ar)) i := fun i hi => by rw [ty_al_n h5 i] at hi; cases hi
      have hKr : ty_Kr b sa e.1 ρ (ws.set j (a, .inl (cA, ar'))) (bif ex_any (Nat.beq k) ty_tr && Nat.beq t 0 then (k, tc, ti, v) :: ty_kw e K k (some ti) else ty_kw e K k none) := by
        cases hb : (ex_any (Nat.beq k) ty_tr && Nat.beq t 0) with
        | false => exact hR.Kr.putn c2 c3
        | true =>
          have ht0 := ex_beq (ex_and hb).2
          have hi : ty_is e.1 ρ ti (y.toNatClampNeg : Int) := by rw [i3]; exact hy
          refine (hR.Kr.puts hR.er c2 c3 hi hsl).cons (ev := .inl (cA, ar')) (a := a) c2 (by rw [List.getElem?_set_self (List.getElem?_eq_some_iff.mp c3).1]) c1 hi (x := x) ?_ (hvr.mono (fun _ _ => rfl) (Nat.le_refl _) hx) (ty_okw_isK h3)
          show (if y.toNatClampNeg < ar'.1 then some (ex_ag ar' y.toNatClampNeg) else none) = some x
          rw [if_pos (by rw [g1]; exact i2), g5 ht0]
      exact ty_ft_ok h2 hN hsub ha ((hR.stk hr).put c2 c3 hct' hco hfr hKr hP hD hS)
    · cases hs
  · cases hs
theorem ty_acp_ok {ix : Nat} (hl : Cond.methodLink own ix arraycopyName ∈ ex_tb) (hw1 : Cond.native arraycopyName ∈ ex_tb) (hw2 : Cond.static arraycopyName ∈ ex_tb) (hw3 : Cond.initialized "java/lang/System" ∈ ex_tb) (X : ex_X p R s m args meth c σ b L A own nm cd mL d cap isl) (hlen : q.2.2.1 = 3) (hdg : decode cd q.1 = .ok (.invokestatic ix, 3))
    (hs : ty_acp ms q r e lv st K = some o) (hN : ty_NN p l en R s m args below meth c k1 k2 Q D b sa A mL nr ρ0 w0 tys ms pr o) (hsub : ∀ x ∈ q :: r, x ∈ pr) (ha : ty_ag nr ρ0 ρ) (hR : ty_Rl s D b sa A mL nr w0 tys ms ρ e lv st K ls xs ws H locs) : W p l en R s m args below meth c H locs k1 k2 Q (F0 m q.1 ls xs) := by
  obtain ⟨x1, x2, x3, x4, x5, x6, x7, x8, x9, x10, x11, x12, x13⟩ := X
  unfold ty_acp at hs
  split at hs
  · rename_i tm tdp k' tc' tsp k tc rest
    split at hs
    · rename_i t N lo hi t' N' lo' hi' g1 g2
      obtain ⟨h1, h2⟩ := ex_bifs hs
      obtain ⟨h1, h13⟩ := ex_and h1
      obtain ⟨h1, h12⟩ := ex_and h1
      obtain ⟨h1, h11⟩ := ex_and h1
      obtain ⟨h1, h10⟩ := ex_and h1
      obtain ⟨h1, h9⟩ := ex_and h1
      obtain ⟨h1, h8⟩ := ex_and h1
      obtain ⟨h1, h7⟩ := ex_and h1
      obtain ⟨h1, h6⟩ := ex_and h1
      obtain ⟨h1, h5⟩ := ex_and h1
      obtain ⟨h1, h4⟩ := ex_and h1
      have h1 := ex_beq h1
      have h4 := ex_beq h4
      subst h1
      subst h4
      have h5 := ty_ent_ok hR.er h5
      have h6 := ty_ent_ok hR.er h6
      have h7 := ty_ent_ok hR.er h7
      have h8 := ty_ent_ok hR.er h8
      have h9 := ty_ent_ok hR.er h9
      have h10 := ty_le_t h10
      have h11 := ty_le_t h11
      have h12 := ex_ble h12
      rw [ex_len_eq] at h12
      obtain ⟨y1, r1, rfl, ⟨z1, rfl, v1⟩, hr1⟩ := ty_sr_cons hR.sr
      obtain ⟨y2, r2, rfl, ⟨z2, rfl, v2⟩, hr2⟩ := ty_sr_cons hr1
      obtain ⟨y3, r3, rfl, ⟨jd, ad, evd, d1, d2, d3, rfl⟩, hr3⟩ := ty_sr_cons hr2
      obtain ⟨y4, r4, rfl, ⟨z4, rfl, v4⟩, hr4⟩ := ty_sr_cons hr3
      obtain ⟨y5, r5, rfl, ⟨js, as, evs, s1, s2, s3, rfl⟩, hr5⟩ := ty_sr_cons hr4
      dsimp only at d2 s2
      rw [ty_sub_ev, ty_k_ev, v1.2] at h5
      rw [ty_sub_ev, ty_k_ev, v4.2] at h6
      rw [ty_sub_ev, ty_k_ev, v2.2] at h7
      rw [ty_pl_ev, ty_add_ev, v4.2, v1.2] at h8
      rw [ty_pl_ev, ty_add_ev, v2.2, v1.2] at h9
      obtain ⟨-, cA, ar, rfl, f2, f3, f4, f5, f6⟩ := hR.th.arr s2 s3 g1
      obtain ⟨hct', cA', ar', rfl, f2', f3', f4', f5', f6'⟩ := hR.th.arr d2 d3 g2
      obtain ⟨tk, ht⟩ := ex_ty_in f2
      obtain ⟨tk', ht'⟩ := ex_ty_in f2'
      obtain ⟨N0, arv⟩ := ar
      obtain ⟨N0', arv'⟩ := ar'
      dsimp only at f4 f4'
      subst f4
      subst f4'
      obtain ⟨f, rfl⟩ : ∃ f, arv = .inl f := f5
      obtain ⟨g, rfl⟩ : ∃ f, arv' = .inl f := f5'
      obtain ⟨lw, hl1, hl2⟩ := hR.1
      have hsum := ty_sum_le hr5
      obtain ⟨-, -, i1, n1⟩ := ty_ix (y := z1) (N := 4294967296) (by omega) (by have := ty_rg z1; omega)
      obtain ⟨-, -, i2, n2⟩ := ty_ix (y := z2) (N := 4294967296) (by omega) (by have := ty_rg z2; omega)
      obtain ⟨-, -, i4, n4⟩ := ty_ix (y := z4) (N := 4294967296) (by omega) (by have := ty_rg z4; omega)
      refine va_copyi x1 x2 (x3.trans hl1.1.symm) x4 (x5 _ hl) (x5 _ hw1) (x5 _ hw2) (x5 _ hw3) hR.hK hR.hP hR.hD hR.hS js jd tk tk' s3 d3 ht ht' rfl n4 n2 n1 (by omega) (by omega) (fun _ _ => rfl) (by omega) (by
        have hnw : nativeFrameWords "java/lang/System" "arraycopy" 5 ≤ 41 := by decide
        omega) hdg (fun H1 locs1 hP hD hS => ?_)
      have hx := ex_xt.set (e' := .inl (cA', N0', .inl (va_cpy f g z4.toNatClampNeg z2.toNatClampNeg z1.toNatClampNeg))) d3
      have hco : ty_co tys (ws.set jd (ad, .inl (cA', N0', .inl (va_cpy f g z4.toNatClampNeg z2.toNatClampNeg z1.toNatClampNeg)))) (.inr (0, N0', .inl (lo', hi'))) (.inl (cA', N0', .inl (va_cpy f g z4.toNatClampNeg z2.toNatClampNeg z1.toNatClampNeg))) := by
        refine ⟨f2', f3', rfl, ⟨_, rfl⟩, fun z hz => ?_⟩
        have hz : z < N0' := hz
        show ty_fo _ (.inl (lo', hi')) (.int (va_cpy f g z4.toNatClampNeg z2.toNatClampNeg z1.toNatClampNeg z))
        by_cases hin : z2.toNatClampNeg ≤ z ∧ z < z2.toNatClampNeg + z1.toNatClampNeg
        · rw [pk_cpy_in hin.1 hin.2]
          obtain ⟨y, y1, y2, y3⟩ := f6 (z4.toNatClampNeg + (z - z2.toNatClampNeg)) (by omega)
          exact ⟨y, y1, by omega, by omega⟩
        · rw [pk_cpy_out (by omega)]
          exact (f6' z hz).mono hx
      have hfr : ∀ i, ty_al ms k' (some i) = false → ty_sl (.inl (cA', N0', .inl (va_cpy f g z4.toNatClampNeg z2.toNatClampNeg z1.toNatClampNeg))) i = ty_sl (.inl (cA', N0', .inl g)) i := fun i hi => by rw [ty_al_n h13 i] at hi; cases hi
      have W2 := ty_ft_ok h2 hN hsub ha ((hR.stk hr5).put d2 d3 hct' hco hfr (hR.Kr.putn d2 d3) hP hD hS)
      rw [hlen] at W2
      exact W2
    · cases hs
  · cases hs
end TYR
end
section
/-! texts: what is so of them, and steps on them -/
def ty_tx0 : String := ";()<>=+-*/%"
def ty_tx1 : String := "roads   word    moves   tires   comer   road    says    mood    worth   keeps   whim    draw    or      and     not     moved   many    waited  behind  hatch   "
abbrev ty_fmt : String := "Ljava/util/function/BiFunction;"
def ty_Z (sa : Nat → Nat) (A : Nat → Prop) (U : State) : Prop := (∃ byt, vk_S 2 [11, 160] byt sa (fun i => sa (i + 2)) A U U.heap) ∧ vk_R "HatchLights$Tokens" 59 ty_tx0 (sa 0) U ∧ vk_R "HatchLights$Tokens" 73 ty_tx1 (sa 1) U ∧ va_Z "java/lang/String" "COMPACT_STRINGS" "Z" (.int 1) A U U.heap ∧ (va_Z "jdk/internal/util/Preconditions" "SIOOBE_FORMATTER" ty_fmt .null A U U.heap ∨ ∃ t, va_Z "jdk/internal/util/Preconditions" "SIOOBE_FORMATTER" ty_fmt (.ref t) A U U.heap)
theorem ty_Z.go {sa : Nat → Nat} {A B : Nat → Prop} {s U : State} {H : Heap} {locs : List Loc} (h : ty_Z sa A s) (hW : s.WarmedH U.vm) (hU : U.heap = H) (hS : va_S A s.heap H locs) (hAB : ∀ q, B q → A q) : ty_Z sa B U := by
  obtain ⟨⟨byt, h1⟩, h2, h3, h4, h5⟩ := h
  subst hU
  have k : ∀ a : Nat, a < s.heap.size → ¬ A a → U.heap[a]? = s.heap[a]? := hS.2.1
  refine ⟨⟨byt, ((h1.kept k).moved hW.alike).narrow hAB⟩, h2.warm hW, h3.warm hW, ((h4.kept k).moved hW.alike).narrow hAB, ?_⟩
  rcases h5 with h5 | ⟨t, h5⟩
  · exact Or.inl (((h5.kept k).moved hW.alike).narrow hAB)
  · exact Or.inr ⟨t, ((h5.kept k).moved hW.alike).narrow hAB⟩
theorem ty_Z.same {sa : Nat → Nat} {A : Nat → Prop} {u U : State} (h : ty_Z sa A u) (hv : U.vm = u.vm) (hh : U.heap = u.heap) : ty_Z sa A U := by
  obtain ⟨⟨byt, h1⟩, h2, h3, h4, h5⟩ := h
  have hA : u.vm.Alike U.vm := by rw [hv]; exact Vm.Alike.refl _
  refine ⟨⟨byt, by rw [hh]; exact h1.moved hA⟩, h2.same hv, h3.same hv, by rw [hh]; exact h4.moved hA, ?_⟩
  rw [hh]
  rcases h5 with h5 | ⟨t, h5⟩
  · exact Or.inl (h5.moved hA)
  · exact Or.inr ⟨t, h5.moved hA⟩
section TYV
variable {p : Program} {l : Launch} {en : Env} {R : Room} {s : State} {m : MethodId} {args : Array Value} {below : List Frame} {meth : Method} {c : Code} {k1 k2 : Nat} {Q : State → Prop} {D : va_G} {b : Nat} {sa : Nat → Nat} {A : Nat → Prop} {mL nr : Nat} {ρ0 ρ : Nat → Int} {w0 : va_W} {tys : List (ClassId × FieldType)} {ms : ty_M} {pr : List ex_P}
variable {e : ty_E} {lv : ty_L} {st : List ty_V} {K : ty_K} {ls : Array Slot} {xs : List Value} {ws : va_W} {H : Heap} {locs : List Loc} {q : ex_P} {r : List ex_P} {o : List (ty_E × ty_S)}
variable {σ : Nat → Int32} {L d : Nat} {own nm : String} {cd : ByteArray} {cap : Nat × Nat} {isl : Bool}
theorem ty_bd8 {byt : List (List Int32)} {sv : Nat → Nat} (h : vk_S 2 [11, 160] byt sa sv A s s.heap) {i N : Nat} (hi : i < 2) (hN : [11, 160].getD i 0 = N) {y : Int32} (h0 : 0 ≤ y.toInt) (h1 : y.toInt ≤ (N : Int) - 1) : vp_in y N ∧ va_T .byte (sv i) N (fun j => .int ((byt.getD i []).getD j 0)) A s s.heap := by
  obtain ⟨i1, i2, i3, i4⟩ := ty_ix (y := y) (N := N) (by omega) (by omega)
  have := (h.1 i hi).2.2.2
  rw [hN] at this
  exact ⟨i1, this⟩
set_option maxHeartbeats 1000000 in
theorem ty_sst_ok (X : ex_X p R s m args meth c σ b L A own nm cd mL d cap isl) (Z : ty_Z sa A s) (hk : ty_pk own nm q = true) (hdg : decode cd q.1 = .ok (q.2.1, q.2.2.1)) (hst : ty_str q st = true)
    (hs : ty_sst q r e lv st K = some o) (hN : ty_NN p l en R s m args below meth c k1 k2 Q D b sa A mL nr ρ0 w0 tys ms pr o) (hsub : ∀ x ∈ q :: r, x ∈ pr) (ha : ty_ag nr ρ0 ρ) (hR : ty_Rl s D b sa A mL nr w0 tys ms ρ e lv st K ls xs ws H locs) : W p l en R s m args below meth c H locs k1 k2 Q (F0 m q.1 ls xs) := by
  obtain ⟨x1, x2, x3, x4, x5, x6, x7, x8, x9, x10, x11, x12, x13⟩ := id X
  obtain ⟨⟨byt, z1⟩, z2, z3, z4, z5⟩ := Z
  obtain ⟨pc, ins, len, a1, a2, a3, ts⟩ := q
  have hdg : decode cd pc = .ok (ins, len) := hdg
  unfold ty_sst at hs
  split at hs
  · rename_i st0 i0 stx ix hins
    have hins : ins = .ldc ix := hins
    subst hins
    have hst : Nat.beq a3 9 = true := hst
    obtain ⟨h1, h2⟩ := ex_bifs hs
    have h1 : a1 < 2 := Nat.le_of_ble_eq_true h1
    have hk : (bif Nat.beq a3 9 then Nat.beq len 2 && decide (ty_sk a1 = (own, ix)) else ex_pk own nm (pc, .ldc ix, len, a1, a2, a3, ts)) = true := hk
    rw [hst] at hk
    obtain ⟨k1', k2'⟩ := ex_and hk
    have k1' : len = 2 := ex_beq k1'
    subst k1'
    have k2' := of_decide_eq_true k2'
    have fin : ∀ tx, vk_R own ix tx (sa a1) s → W p l en R s m args below meth c H locs k1 k2 Q (F0 m pc ls xs) := fun tx hz => va_ldcS x1 x2 x4 hz hdg (ty_ft_ok h2 hN hsub ha (hR.push (v := ty_x a1) (x := .ref (sa a1)) ⟨fun _ => rfl, Or.inr ⟨_, rfl⟩⟩))
    match a1, h1, k2', fin with
    | 0, _, k2', fin =>
      have e1 : (("HatchLights$Tokens", 59) : String × Nat) = (own, ix) := k2'
      injection e1 with e1 e2
      subst e1
      subst e2
      exact fin _ z2
    | 1, _, k2', fin =>
      have e1 : (("HatchLights$Tokens", 73) : String × Nat) = (own, ix) := k2'
      injection e1 with e1 e2
      subst e1
      subst e2
      exact fin _ z3
    | k + 2, h, _, _ => exact absurd h (by omega)
  · rename_i st0 i0 stx ix hins
    have hins : ins = .getstatic ix := hins
    subst hins
    obtain ⟨k1', k2'⟩ := ex_and (show (Nat.beq len 3 && (bif Nat.beq a1 0 then ty_wf own ix ts "java/lang/String" "COMPACT_STRINGS" "Z" else ty_wf own ix ts "jdk/internal/util/Preconditions" "SIOOBE_FORMATTER" "Ljava/util/function/BiFunction;")) = true from hk)
    have k1' : len = 3 := ex_beq k1'
    subst k1'
    cases hb : Nat.beq a1 0 with
    | true =>
      rw [hb] at k2'
      have hs : (bif Nat.beq a1 0 then ty_ft (pc, .getstatic ix, 3, a1, a2, a3, ts) r e lv (ty_i (ty_k 1) :: st0) K else ty_ft (pc, .getstatic ix, 3, a1, a2, a3, ts) r e lv (ty_x 100 :: st0) K) = some o := hs
      rw [hb] at hs
      exact va_gets x1 x2 z4 hR.hS x4 (x5 _ (ty_wf_ok k2')) (fun _ h => h) hdg (ty_ft_ok (show ty_ft (pc, .getstatic ix, 3, a1, a2, a3, ts) r e lv (ty_i (ty_k 1) :: st0) K = some o from hs) hN hsub ha (hR.push (v := ty_i (ty_k 1)) (x := .int 1) ⟨1, rfl, ty_is_k _ _ _⟩))
    | false =>
      rw [hb] at k2'
      have hs : (bif Nat.beq a1 0 then ty_ft (pc, .getstatic ix, 3, a1, a2, a3, ts) r e lv (ty_i (ty_k 1) :: st0) K else ty_ft (pc, .getstatic ix, 3, a1, a2, a3, ts) r e lv (ty_x 100 :: st0) K) = some o := hs
      rw [hb] at hs
      have hs : ty_ft (pc, .getstatic ix, 3, a1, a2, a3, ts) r e lv (ty_x 100 :: st0) K = some o := hs
      rcases z5 with z5 | ⟨t, z5⟩
      · exact va_gets x1 x2 z5 hR.hS x4 (x5 _ (ty_wf_ok k2')) (fun _ h => h) hdg (ty_ft_ok hs hN hsub ha (hR.push (v := ty_x 100) (x := .null) ⟨fun z => absurd z (by decide), Or.inl rfl⟩))
      · exact va_gets x1 x2 z5 hR.hS x4 (x5 _ (ty_wf_ok k2')) (fun _ h => h) hdg (ty_ft_ok hs hN hsub ha (hR.push (v := ty_x 100) (x := .ref t) ⟨fun z => absurd z (by decide), Or.inr ⟨_, rfl⟩⟩))
  · rename_i ix n rest hins
    have hins : ins = .getfield ix := hins
    subst hins
    have hst : Nat.beq a1 99 = true := hst
    obtain ⟨h1, h2⟩ := ex_bifs hs
    have h1 : n < 2 := Nat.le_of_ble_eq_true h1
    have hk : (bif Nat.beq a1 99 then Nat.beq len 3 && (bif Nat.beq a2 0 then ty_wf own ix ts "java/lang/String" "value" "[B" else ty_wf own ix ts "java/lang/String" "coder" "B") else ex_pk own nm (pc, .getfield ix, len, a1, a2, a3, ts)) = true := hk
    rw [hst] at hk
    obtain ⟨k1', k2'⟩ := ex_and hk
    have k1' : len = 3 := ex_beq k1'
    subst k1'
    obtain ⟨x, xr, rfl, hv, hr⟩ := ty_sr_cons hR.sr
    have hv := hv.1 (by omega)
    subst hv
    have hz := z1.1 n h1
    have h2 : (bif Nat.beq a2 0 then ty_ft (pc, .getfield ix, 3, a1, a2, a3, ts) r e lv (ty_x (n + 2) :: rest) K else ty_ft (pc, .getfield ix, 3, a1, a2, a3, ts) r e lv (ty_i (ty_k 0) :: rest) K) = some o := h2
    cases hb : Nat.beq a2 0 with
    | true =>
      rw [hb] at k2' h2
      exact vk_getf x1 x2 hz.2.2.1 hR.hS x4 (x5 _ (ty_wf_ok k2')) (fun _ h => h) hdg (ty_ft_ok (show ty_ft (pc, .getfield ix, 3, a1, a2, a3, ts) r e lv (ty_x (n + 2) :: rest) K = some o from h2) hN hsub ha ((hR.stk hr).push (v := ty_x (n + 2)) (x := .ref (sa (n + 2))) ⟨fun _ => rfl, Or.inr ⟨_, rfl⟩⟩))
    | false =>
      rw [hb] at k2' h2
      exact vk_getf x1 x2 hz.2.1 hR.hS x4 (x5 _ (ty_wf_ok k2')) (fun _ h => h) hdg (ty_ft_ok (show ty_ft (pc, .getfield ix, 3, a1, a2, a3, ts) r e lv (ty_i (ty_k 0) :: rest) K = some o from h2) hN hsub ha ((hR.stk hr).push (v := ty_i (ty_k 0)) (x := .int 0) ⟨0, rfl, ty_is_k _ _ _⟩))
  · rename_i n rest hins
    have hins : ins = .arraylength := hins
    subst hins
    have hlen : len = 1 := ex_beq (show Nat.beq len 1 = true from hk)
    subst hlen
    obtain ⟨x, xr, rfl, hv, hr⟩ := ty_sr_cons hR.sr
    have fin : ∀ (i N : Nat), i < 2 → n = i + 2 → [11, 160].getD i 0 = N → N < 200 → ty_ft (pc, .arraylength, 1, a1, a2, a3, ts) r e lv (ty_i (ty_k (N : Int)) :: rest) K = some o → W p l en R s m args below meth c H locs k1 k2 Q (F0 m pc ls (x :: xr)) := fun i N hi hn hN' hlt hf => by
      have hv := hv.1 (by omega)
      subst hv
      have hT := (z1.1 i hi).2.2.2
      rw [hN'] at hT
      have hx : ty_vr b sa e.1 ρ ws (ty_i (ty_k (N : Int))) (.int (Int32.ofNat N)) := ⟨Int32.ofNat N, rfl, by
        have : (Int32.ofNat N).toInt = (N : Int) := nI_toInt (by omega)
        rw [this]
        exact ty_is_k _ _ _⟩
      subst hn
      exact va_tlen x1 x2 hT hR.hS rfl hdg (ty_ft_ok hf hN hsub ha ((hR.stk hr).push hx))
    have hs : (bif Nat.beq n 2 then ty_ft (pc, .arraylength, 1, a1, a2, a3, ts) r e lv (ty_i (ty_k 11) :: rest) K else bif Nat.beq n 3 then ty_ft (pc, .arraylength, 1, a1, a2, a3, ts) r e lv (ty_i (ty_k 160) :: rest) K else none) = some o := hs
    rcases ex_bif (P := fun z => z = some o) hs with ⟨g1, g2⟩ | ⟨-, hs⟩
    · exact fin 0 11 (by omega) (ex_beq g1) rfl (by omega) g2
    · obtain ⟨g1, g2⟩ := ex_bifs hs
      exact fin 1 160 (by omega) (ex_beq g1) rfl (by omega) g2
  · rename_i ti n rest hins
    have hins : ins = .baload := hins
    subst hins
    have hlen : len = 1 := ex_beq (show Nat.beq len 1 = true from hk)
    subst hlen
    obtain ⟨x0, x1', rfl, ⟨y, rfl, hy⟩, hr1⟩ := ty_sr_cons hR.sr
    obtain ⟨x2', xr, rfl, hv, hr⟩ := ty_sr_cons hr1
    obtain ⟨h1, h2⟩ := ex_bifs hs
    have fin : ∀ (i N : Nat), i < 2 → n = i + 2 → [11, 160].getD i 0 = N → ty_in e ti 0 ((N : Int) - 1) = true → W p l en R s m args below meth c H locs k1 k2 Q (F0 m pc ls (.int y :: x2' :: xr)) := fun i N hi hn hN' hin => by
      have hv := hv.1 (by omega)
      subst hv
      have hb := ty_in_ok hR.er hin
      rw [hy.2] at hb
      obtain ⟨t1, t2⟩ := ty_bd8 z1 hi hN' hb.1 hb.2
      subst hn
      obtain ⟨ρ', a1', a2', a3', a4'⟩ := ty_res0 hR.er (ty_rg ((byt.getD i []).getD y.toNatClampNeg 0)).1 (ty_rg ((byt.getD i []).getD y.toNatClampNeg 0)).2
      exact va_tb x1 x2 t2 hR.hS t1 rfl hdg (ty_ft_ok h2 hN hsub (ha.tr a1' hR.nle) (((hR.stk hr).env a1' a3' a2').push (v := ty_i (ty_s e.1)) ⟨_, rfl, a4'⟩))
    rcases Bool.or_eq_true _ _ |>.mp h1 with h1 | h1
    · obtain ⟨g1, g2⟩ := ex_and h1
      exact fin 0 11 (by omega) (ex_beq g1) rfl g2
    · obtain ⟨g1, g2⟩ := ex_and h1
      exact fin 1 160 (by omega) (ex_beq g1) rfl g2
  · cases hs
end TYV
end
section
/-! a step is sound -/
theorem ty_b8 (x : Int32) : -128 ≤ x.toInt8.toInt32.toInt ∧ x.toInt8.toInt32.toInt ≤ 127 ∧ (-128 ≤ x.toInt → x.toInt ≤ 127 → x.toInt8.toInt32 = x) := by
  have e : x.toInt8.toInt32.toInt = x.toInt.bmod 256 := by rw [Int8.toInt_toInt32, Int32.toInt_toInt8]
  have e2 : x.toInt.bmod 256 = if x.toInt % 256 < 128 then x.toInt % 256 else x.toInt % 256 - 256 := Int.bmod_def _ _
  rw [e2] at e
  refine ⟨by split at e <;> omega, by split at e <;> omega, fun h1 h2 => Int32.toInt_inj.mp ?_⟩
  split at e <;> omega
theorem ty_c16 (x : Int32) : 0 ≤ (x.toUInt32 % 65536).toInt32.toInt ∧ (x.toUInt32 % 65536).toInt32.toInt ≤ 65535 ∧ (0 ≤ x.toInt → x.toInt ≤ 65535 → (x.toUInt32 % 65536).toInt32 = x) := by
  have e : (x.toUInt32 % 65536).toInt32.toBitVec.toNat = x.toBitVec.toNat % 65536 := by
    show (x.toUInt32 % 65536).toNat = _
    rw [UInt32.toNat_mod]
    rfl
  have n1 := ty_N x
  have n2 := ty_N (x.toUInt32 % 65536).toInt32
  have r2 := ty_rg (x.toUInt32 % 65536).toInt32
  have l1 : x.toBitVec.toNat % 65536 < 65536 := Nat.mod_lt _ (by decide)
  refine ⟨by split at n2 <;> omega, by split at n2 <;> omega, fun h1 h2 => Int32.toInt_inj.mp ?_⟩
  rw [if_pos h1] at n1
  have : x.toBitVec.toNat % 65536 = x.toBitVec.toNat := Nat.mod_eq_of_lt (by omega)
  split at n2 <;> omega
theorem ty_wr_add (x y : Int32) : (x + y).toInt = ty_wr (x.toInt + y.toInt) := by rw [Int32.toInt_add, ty_bm]
theorem ty_kk {n a : Nat} {ρ : Nat → Int} {x : Int32} (h : ex_u x = a) : ty_is n ρ (ty_k ((a : Int) - 2147483648)) x.toInt := by
  have h1 := ex_u_int x
  have : x.toInt = (a : Int) - 2147483648 := by omega
  rw [this]
  exact ty_is_k _ _ _
section TYT
variable {p : Program} {l : Launch} {en : Env} {R : Room} {s : State} {m : MethodId} {args : Array Value} {below : List Frame} {meth : Method} {c : Code} {k1 k2 : Nat} {Q : State → Prop} {D : va_G} {b : Nat} {sa : Nat → Nat} {A : Nat → Prop} {mL nr : Nat} {ρ0 ρ : Nat → Int} {w0 : va_W} {tys : List (ClassId × FieldType)} {ms : ty_M} {pr : List ex_P}
variable {e : ty_E} {lv : ty_L} {st : List ty_V} {K : ty_K} {ls : Array Slot} {xs : List Value} {ws : va_W} {H : Heap} {locs : List Loc} {q : ex_P} {r : List ex_P} {o : List (ty_E × ty_S)}
variable {σ : Nat → Int32} {L d : Nat} {own nm : String} {cd : ByteArray} {cap : Nat × Nat} {isl : Bool}
theorem ty_i2_ok {lo hi : Int} (hs : ty_i2 lo hi q r e lv st K = some o) (hN : ty_NN p l en R s m args below meth c k1 k2 Q D b sa A mL nr ρ0 w0 tys ms pr o) (hsub : ∀ x ∈ q :: r, x ∈ pr) (ha : ty_ag nr ρ0 ρ) (hR : ty_Rl s D b sa A mL nr w0 tys ms ρ e lv st K ls xs ws H locs)
    (row : ∀ (x : Int32) (xr : List Value), ∃ z : Int32, lo ≤ z.toInt ∧ z.toInt ≤ hi ∧ (lo ≤ x.toInt → x.toInt ≤ hi → z = x) ∧ (W p l en R s m args below meth c H locs k1 k2 Q (F0 m (q.1 + q.2.2.1) ls (.int z :: xr)) → W p l en R s m args below meth c H locs k1 k2 Q (F0 m q.1 ls (.int x :: xr)))) : W p l en R s m args below meth c H locs k1 k2 Q (F0 m q.1 ls xs) := by
  unfold ty_i2 at hs
  split at hs
  · rename_i ta rest
    obtain ⟨x, xr, rfl, ⟨y, rfl, hy⟩, hr⟩ := ty_sr_cons hR.sr
    obtain ⟨z, z1, z2, z3, z4⟩ := row y xr
    rcases ex_bif (P := fun z => z = some o) hs with ⟨h1, h2⟩ | ⟨h1, h2⟩
    · have hb := ty_in_ok hR.er h1
      rw [hy.2] at hb
      have := z3 hb.1 hb.2
      subst this
      exact z4 (ty_ft_ok h2 hN hsub ha hR)
    · obtain ⟨ρ', a1, a2, a3, a4⟩ := ty_res0 hR.er z1 z2
      exact z4 (ty_ft_ok h2 hN hsub (ha.tr a1 hR.nle) (((hR.stk hr).env a1 a3 a2).push ⟨z, rfl, a4⟩))
  · cases hs
theorem ty_lb_ok (hs : ty_lb q r e lv st K = some o) (hN : ty_NN p l en R s m args below meth c k1 k2 Q D b sa A mL nr ρ0 w0 tys ms pr o) (hsub : ∀ x ∈ q :: r, x ∈ pr) (ha : ty_ag nr ρ0 ρ) (hR : ty_Rl s D b sa A mL nr w0 tys ms ρ e lv st K ls xs ws H locs)
    (row : ∀ (x y : Int64) (xr : List Value), ∃ z : Int64, (W p l en R s m args below meth c H locs k1 k2 Q (F0 m (q.1 + q.2.2.1) ls (.long z :: xr)) → W p l en R s m args below meth c H locs k1 k2 Q (F0 m q.1 ls (.long y :: .long x :: xr)))) : W p l en R s m args below meth c H locs k1 k2 Q (F0 m q.1 ls xs) := by
  unfold ty_lb at hs
  split at hs
  · rename_i tb ta rest
    obtain ⟨x0, x1, rfl, ⟨y, rfl, hy⟩, hr1⟩ := ty_sr_cons hR.sr
    obtain ⟨x2, x3, rfl, ⟨x, rfl, hx⟩, hr⟩ := ty_sr_cons hr1
    obtain ⟨z, hz⟩ := row x y x3
    obtain ⟨ρ', a1, a2, a3, a4⟩ := ty_res0 hR.er (ty_lg z).1 (ty_lg z).2
    exact hz (ty_ft_ok hs hN hsub (ha.tr a1 hR.nle) (((hR.stk hr).env a1 a3 a2).push (v := ty_j (ty_s e.1)) ⟨z, rfl, a4⟩))
  · cases hs
def ty_GW : Prop := (Cond.native arraycopyName ∈ ex_tb ∧ Cond.static arraycopyName ∈ ex_tb ∧ Cond.initialized "java/lang/System" ∈ ex_tb) ∧ Cond.initialized "java/lang/Math" ∈ ex_tb ∧ (Cond.static Lib.Math.max.name ∈ ex_tb ∧ Cond.code Lib.Math.max.name Lib.Math.max.code 2 (some .int) ∈ ex_tb) ∧ (Cond.static Lib.Math.min.name ∈ ex_tb ∧ Cond.code Lib.Math.min.name Lib.Math.min.code 2 (some .int) ∈ ex_tb)
theorem ty_mm_ok {mx : Bool} {pc ix a1 a2 a3 : Nat} {ts : List Nat} (hd : 60 * (d + 1) ≤ R.locals)
    (row : ∀ (x y : Int32) (xr : List Value), (xr.map fun v => v.category).sum + 13 ≤ R.locals → W p l en R s m args below meth c H locs k1 k2 Q (F0 m (pc + 3) ls (.int (if (if mx = true then x else y) < (if mx = true then y else x) then y else x) :: xr)) → W p l en R s m args below meth c H locs k1 k2 Q (F0 m pc ls (.int y :: .int x :: xr)))
    (hs : ty_mm mx (pc, .invokestatic ix, 3, a1, a2, a3, ts) r e lv st K = some o) (hN : ty_NN p l en R s m args below meth c k1 k2 Q D b sa A mL nr ρ0 w0 tys ms pr o) (hsub : ∀ x ∈ (pc, Instr.invokestatic ix, 3, a1, a2, a3, ts) :: r, x ∈ pr) (ha : ty_ag nr ρ0 ρ) (hR : ty_Rl s D b sa A mL nr w0 tys ms ρ e lv st K ls xs ws H locs) : W p l en R s m args below meth c H locs k1 k2 Q (F0 m pc ls xs) := by
  unfold ty_mm at hs
  split at hs
  · rename_i b0 a0 rest
    cases r with
    | nil => cases hs
    | cons q' r' =>
      obtain ⟨h1, h2⟩ := ex_bifs hs
      obtain ⟨h1, h3⟩ := ex_and h1
      have h1 : q'.1 = pc + 3 := ex_beq h1
      have h3 := ex_ble h3
      rw [ex_len_eq] at h3
      injection h2 with h2
      subst h2
      obtain ⟨x1, xr1, rfl, ⟨y, rfl, hy⟩, hr1⟩ := ty_sr_cons hR.sr
      obtain ⟨x2, xr, rfl, ⟨x, rfl, hx⟩, hr⟩ := ty_sr_cons hr1
      have hsum := ty_sum_le hr
      refine row x y xr (by omega) ?_
      rw [ex_app_eq, ex_map_eq, ex_map_eq] at hN
      have fin : ∀ (e' : ty_E) (v : ty_t) (z : Int32), (e', ((q' :: r', lv, ty_i v :: rest, K) : ty_S)) ∈ List.map (fun e => (e, ((q' :: r', lv, ty_i b0 :: rest, K) : ty_S))) (ty_br .lt e (bif mx then a0 else b0) (bif mx then b0 else a0)).1 ++ List.map (fun e => (e, ((q' :: r', lv, ty_i a0 :: rest, K) : ty_S))) (ty_br .lt e (bif mx then a0 else b0) (bif mx then b0 else a0)).2 → ty_er ρ e' → e'.1 = e.1 → ty_is e.1 ρ v z.toInt → W p l en R s m args below meth c H locs k1 k2 Q (F0 m (pc + 3) ls (.int z :: xr)) := fun e' v z hm he hn hv =>
        (hN _ hm).2 ρ ha (pc + 3) ls (.int z :: xr) ws H locs ⟨q', r', rfl, h1⟩ (fun w hw => hsub w (List.mem_cons_of_mem _ hw)) ((hR.stk (st' := ty_i v :: rest) (xs' := .int z :: xr) ⟨⟨z, rfl, hv⟩, hr⟩).nar hn he)
      cases mx with
      | true =>
        obtain ⟨j1, j2⟩ := ty_br_ok hR.er (c := .lt) hx.1 hy.1
        show W p l en R s m args below meth c H locs k1 k2 Q (F0 m (pc + 3) ls (.int (if x < y then y else x) :: xr))
        by_cases hc : x < y
        · rw [if_pos hc]
          obtain ⟨e', m1, m2, m3⟩ := j1 (by rw [hx.2, hy.2]; exact Int32.lt_iff_toInt_lt.mp hc)
          exact fin e' b0 y (List.mem_append_left _ (List.mem_map.mpr ⟨e', m1, rfl⟩)) m2 m3 hy
        · rw [if_neg hc]
          obtain ⟨e', m1, m2, m3⟩ := j2 (by rw [hx.2, hy.2]; exact fun z => hc (Int32.lt_iff_toInt_lt.mpr z))
          exact fin e' a0 x (List.mem_append_right _ (List.mem_map.mpr ⟨e', m1, rfl⟩)) m2 m3 hx
      | false =>
        obtain ⟨j1, j2⟩ := ty_br_ok hR.er (c := .lt) hy.1 hx.1
        show W p l en R s m args below meth c H locs k1 k2 Q (F0 m (pc + 3) ls (.int (if y < x then y else x) :: xr))
        by_cases hc : y < x
        · rw [if_pos hc]
          obtain ⟨e', m1, m2, m3⟩ := j1 (by rw [hx.2, hy.2]; exact Int32.lt_iff_toInt_lt.mp hc)
          exact fin e' b0 y (List.mem_append_left _ (List.mem_map.mpr ⟨e', m1, rfl⟩)) m2 m3 hy
        · rw [if_neg hc]
          obtain ⟨e', m1, m2, m3⟩ := j2 (by rw [hx.2, hy.2]; exact fun z => hc (Int32.lt_iff_toInt_lt.mpr z))
          exact fin e' a0 x (List.mem_append_right _ (List.mem_map.mpr ⟨e', m1, rfl⟩)) m2 m3 hx
  · cases hs
set_option maxHeartbeats 4000000 in
theorem ty_step_ok (hgw : ty_GW) (hkc : k1 ≤ R.cells ∧ k2 ≤ R.slots) (X : ex_X p R s m args meth c σ b L A own nm cd mL d cap isl) (hL : isl = true → ρ0 0 = (L : Int) ∧ 0 < nr ∧ L < 2147483648) (hns : ty_str q st = false) (hk : ty_pk own nm q = true) (hdg : decode cd q.1 = .ok (q.2.1, q.2.2.1))
    (hs : ty_step pr isl mL ms e q r lv st K = some o) (hN : ty_NN p l en R s m args below meth c k1 k2 Q D b sa A mL nr ρ0 w0 tys ms pr o) (hsub : ∀ x ∈ q :: r, x ∈ pr) (ha : ty_ag nr ρ0 ρ) (hR : ty_Rl s D b sa A mL nr w0 tys ms ρ e lv st K ls xs ws H locs) : W p l en R s m args below meth c H locs k1 k2 Q (F0 m q.1 ls xs) := by
  obtain ⟨x1, x2, x3, x4, x5, x6, x7, x8, x9, x10, x11, x12, x13⟩ := id X
  obtain ⟨pc, ins, len, a1, a2, a3, ts⟩ := q
  have hdg : decode cd pc = .ok (ins, len) := hdg
  cases ins with
  | iconst i =>
    obtain ⟨e1, e2⟩ := ex_and hk
    cases ex_beq e1
    exact lv_iconst x1 x2 hdg rfl (ty_ft_ok hs hN hsub ha (hR.push ⟨_, rfl, ty_kk (ex_beq e2)⟩))
  | bipush i =>
    obtain ⟨e1, e2⟩ := ex_and hk
    cases ex_beq e1
    exact lv_bipush x1 x2 hdg rfl (ty_ft_ok hs hN hsub ha (hR.push ⟨_, rfl, ty_kk (ex_beq e2)⟩))
  | sipush i =>
    obtain ⟨e1, e2⟩ := ex_and hk
    cases ex_beq e1
    exact lv_sipush x1 x2 hdg rfl (ty_ft_ok hs hN hsub ha (hR.push ⟨_, rfl, ty_kk (ex_beq e2)⟩))
  | ldc i =>
    have hns : Nat.beq a3 9 = false := hns
    have hk : (bif Nat.beq a3 9 then Nat.beq len 2 && decide (ty_sk a1 = (own, i)) else ex_pk own nm (pc, .ldc i, len, a1, a2, a3, ts)) = true := hk
    rw [hns] at hk
    obtain ⟨e1, e3⟩ := ex_and hk
    obtain ⟨e1, e2⟩ := ex_and e1
    cases ex_beq e1
    exact lv_ldc x1 x2 x4 (x5 _ (ex_wd_ok e3)) hdg (ty_ft_ok hs hN hsub ha (hR.push ⟨_, rfl, ty_kk (ex_beq e2)⟩))
  | ldc_w i =>
    obtain ⟨e1, e3⟩ := ex_and hk
    obtain ⟨e1, e2⟩ := ex_and e1
    cases ex_beq e1
    exact lv_ldcw x1 x2 x4 (x5 _ (ex_wd_ok e3)) hdg (ty_ft_ok hs hN hsub ha (hR.push ⟨_, rfl, ty_kk (ex_beq e2)⟩))
  | ldc2_w i =>
    obtain ⟨e1, e3⟩ := ex_and hk
    obtain ⟨e1, e2⟩ := ex_and e1
    cases ex_beq e1
    have e2 := of_decide_eq_true e2
    exact lv_ldc2 x1 x2 x4 (x5 _ (ex_wd_ok e3)) hdg (ty_ft_ok hs hN hsub ha (hR.push (v := ty_j (ty_k (a1 : Int))) ⟨_, rfl, by rw [e2]; exact ty_is_k _ _ _⟩))
  | lconst k =>
    obtain ⟨e1, e3⟩ := ex_and hk
    obtain ⟨e1, e2⟩ := ex_and e1
    cases ex_beq e1
    have e3 := of_decide_eq_true e3
    exact lv_lconst x1 x2 hdg (by rw [ex_beq e2]) (ty_ft_ok hs hN hsub ha (hR.push (v := ty_j (ty_k (a1 : Int))) ⟨_, rfl, by rw [e3]; exact ty_is_k _ _ _⟩))
  | iload_n k =>
    obtain ⟨e1, e2⟩ := ex_and hk
    cases ex_beq e1
    refine ty_ld_ok hs hN hsub ha hR (fun v x ok hv hl W1 => ?_)
    obtain ⟨y, rfl⟩ := ty_isI_ok hv ok
    exact lv_iload_n x1 x2 hdg (ex_beq e2) hl W1
  | iload k =>
    obtain ⟨e1, e2⟩ := ex_and hk
    cases ex_beq e1
    cases ex_beq e2
    refine ty_ld_ok hs hN hsub ha hR (fun v x ok hv hl W1 => ?_)
    obtain ⟨y, rfl⟩ := ty_isI_ok hv ok
    exact lv_iload x1 x2 hdg hl W1
  | lload_n k =>
    obtain ⟨e1, e2⟩ := ex_and hk
    cases ex_beq e1
    refine ty_ld_ok hs hN hsub ha hR (fun v x ok hv hl W1 => ?_)
    obtain ⟨y, rfl⟩ := ty_isJ_ok hv ok
    exact lv_lload_n x1 x2 hdg (ex_beq e2) hl W1
  | lload k =>
    obtain ⟨e1, e2⟩ := ex_and hk
    cases ex_beq e1
    cases ex_beq e2
    refine ty_ld_ok hs hN hsub ha hR (fun v x ok hv hl W1 => ?_)
    obtain ⟨y, rfl⟩ := ty_isJ_ok hv ok
    exact lv_lload x1 x2 hdg hl W1
  | aload_n k =>
    obtain ⟨e1, e2⟩ := ex_and hk
    cases ex_beq e1
    refine ty_ld_ok hs hN hsub ha hR (fun v x ok hv hl W1 => ?_)
    obtain ⟨y, rfl⟩ := ty_isR_ok hv ok
    exact lv_aload_n x1 x2 hdg (ex_beq e2) hl W1
  | aload k =>
    obtain ⟨e1, e2⟩ := ex_and hk
    cases ex_beq e1
    cases ex_beq e2
    refine ty_ld_ok hs hN hsub ha hR (fun v x ok hv hl W1 => ?_)
    obtain ⟨y, rfl⟩ := ty_isR_ok hv ok
    exact lv_aload x1 x2 hdg hl W1
  | istore_n k =>
    obtain ⟨e1, e2⟩ := ex_and hk
    cases ex_beq e1
    refine ty_st_ok hs hN hsub ha hR (fun v x xr lw ok hv hl hn W1 => ?_)
    obtain ⟨y, rfl⟩ := ty_isI_ok hv ok
    exact lv_istore_n x1 x2 hdg (ex_beq e2) hl hn rfl W1
  | istore k =>
    obtain ⟨e1, e2⟩ := ex_and hk
    cases ex_beq e1
    cases ex_beq e2
    refine ty_st_ok hs hN hsub ha hR (fun v x xr lw ok hv hl hn W1 => ?_)
    obtain ⟨y, rfl⟩ := ty_isI_ok hv ok
    exact lv_istore x1 x2 hdg hl hn rfl W1
  | lstore_n k =>
    obtain ⟨e1, e2⟩ := ex_and hk
    cases ex_beq e1
    exact ty_st2_ok hs hN hsub ha hR (fun x xr lw hl hn W1 => lv_lstore_n x1 x2 hdg (ex_beq e2) hl hn rfl W1)
  | lstore k =>
    obtain ⟨e1, e2⟩ := ex_and hk
    cases ex_beq e1
    cases ex_beq e2
    exact ty_st2_ok hs hN hsub ha hR (fun x xr lw hl hn W1 => lv_lstore x1 x2 hdg hl hn rfl W1)
  | astore_n k =>
    obtain ⟨e1, e2⟩ := ex_and hk
    cases ex_beq e1
    refine ty_st_ok hs hN hsub ha hR (fun v x xr lw ok hv hl hn W1 => ?_)
    obtain ⟨y, rfl⟩ := ty_isR_ok hv ok
    exact lv_astore_n x1 x2 hdg (ex_beq e2) hl hn rfl W1
  | astore k =>
    obtain ⟨e1, e2⟩ := ex_and hk
    cases ex_beq e1
    cases ex_beq e2
    refine ty_st_ok hs hN hsub ha hR (fun v x xr lw ok hv hl hn W1 => ?_)
    obtain ⟨y, rfl⟩ := ty_isR_ok hv ok
    exact lv_astore x1 x2 hdg hl hn rfl W1
  | iinc k i =>
    obtain ⟨e1, e3⟩ := ex_and hk
    obtain ⟨e1, e2⟩ := ex_and e1
    cases ex_beq e1
    cases ex_beq e2
    have e3 := ex_beq e3
    have hs : ty_iinc mL (pc, .iinc a1 i, 3, a1, a2, a3, ts) r e lv st K = some o := hs
    unfold ty_iinc at hs
    split at hs
    · rename_i t hv
      obtain ⟨g1, g2⟩ := ex_bifs hs
      obtain ⟨lw, hl, hlr⟩ := hR.1
      obtain ⟨j, x, f1, y, rfl, f2⟩ := ty_lr_lk hlr hv
      have hz : (y + Int32.ofInt i).toInt = ty_wr (y.toInt + (bif Nat.ble 2147483648 a2 then (a2 : Int) - 4294967296 else (a2 : Int))) := by
        have n1 := ty_N (Int32.ofInt i)
        rw [e3] at n1
        have r1 := ty_rg (Int32.ofInt i)
        have hd : (Int32.ofInt i).toInt = (bif Nat.ble 2147483648 a2 then (a2 : Int) - 4294967296 else (a2 : Int)) := by
          cases hb : Nat.ble 2147483648 a2 with
          | true =>
            have := ex_ble hb
            show _ = (a2 : Int) - 4294967296
            split at n1 <;> omega
          | false =>
            have : ¬ 2147483648 ≤ a2 := fun h => by rw [Nat.ble_eq_true_of_le h] at hb; cases hb
            show _ = (a2 : Int)
            split at n1 <;> omega
        rw [← hd]
        exact ty_wr_add y (Int32.ofInt i)
      obtain ⟨ρ', b1, b2, b3, b4⟩ := ty_ok_ok hR.er (ty_is_pl f2 (bif Nat.ble 2147483648 a2 then (a2 : Int) - 4294967296 else (a2 : Int))) hz
      refine lv_iinc x1 x2 hdg hl f1 rfl (ex_blt g1) rfl (fun ls' hl' => ?_)
      have hR' := hR.env b1 b3 b2
      exact ty_ft_ok g2 hN hsub (ha.tr b1 hR.nle) (hR'.loc (lv' := (a1, ty_i (ty_ok e (ty_pl t (bif Nat.ble 2147483648 a2 then (a2 : Int) - 4294967296 else (a2 : Int)))).2) :: ty_del lv a1) ⟨_, hl', (show ty_lr b sa _ ρ' ws ((a1, ty_i (ty_ok e (ty_pl t (bif Nat.ble 2147483648 a2 then (a2 : Int) - 4294967296 else (a2 : Int)))).2) :: ty_del lv a1) ((a1, .int (y + Int32.ofInt i)) :: ex_flt a1 lw) from ⟨⟨rfl, _, rfl, b4⟩, ty_lr_del _ (hlr.mono b1 b3 ex_xt.rf)⟩)⟩)
    · cases hs
  | iadd =>
    cases ex_beq hk
    exact ty_bin_ok hs hN hsub ha hR (fun x y rest => ⟨_, rfl, fun hz W1 => lv_iadd x1 x2 hdg W1⟩)
  | isub =>
    cases ex_beq hk
    exact ty_bin_ok hs hN hsub ha hR (fun x y rest => ⟨_, rfl, fun hz W1 => lv_isub x1 x2 hdg W1⟩)
  | imul =>
    cases ex_beq hk
    exact ty_bin_ok hs hN hsub ha hR (fun x y rest => ⟨_, rfl, fun hz W1 => lv_imul x1 x2 hdg W1⟩)
  | iand =>
    cases ex_beq hk
    exact ty_bin_ok hs hN hsub ha hR (fun x y rest => ⟨_, rfl, fun hz W1 => lv_iand x1 x2 hdg W1⟩)
  | ior =>
    cases ex_beq hk
    exact ty_bin_ok hs hN hsub ha hR (fun x y rest => ⟨_, rfl, fun hz W1 => lv_ior x1 x2 hdg W1⟩)
  | ixor =>
    cases ex_beq hk
    exact ty_bin_ok hs hN hsub ha hR (fun x y rest => ⟨_, rfl, fun hz W1 => lv_ixor x1 x2 hdg W1⟩)
  | ishl =>
    cases ex_beq hk
    exact ty_bin_ok hs hN hsub ha hR (fun x y rest => ⟨_, rfl, fun hz W1 => lv_ishl x1 x2 hdg W1⟩)
  | ishr =>
    cases ex_beq hk
    exact ty_bin_ok hs hN hsub ha hR (fun x y rest => ⟨_, rfl, fun hz W1 => lv_ishr x1 x2 hdg W1⟩)
  | iushr =>
    cases ex_beq hk
    exact ty_bin_ok hs hN hsub ha hR (fun x y rest => ⟨_, rfl, fun hz W1 => lv_iushr x1 x2 hdg rfl W1⟩)
  | idiv =>
    cases ex_beq hk
    exact ty_bin_ok hs hN hsub ha hR (fun x y rest => ⟨_, rfl, fun hz W1 => lv_idiv x1 x2 hdg (hz (Or.inl rfl)) W1⟩)
  | irem =>
    cases ex_beq hk
    exact ty_bin_ok hs hN hsub ha hR (fun x y rest => ⟨_, rfl, fun hz W1 => lv_irem x1 x2 hdg (hz (Or.inr rfl)) W1⟩)
  | i2b =>
    cases ex_beq hk
    exact ty_i2_ok hs hN hsub ha hR (fun x xr => ⟨_, (ty_b8 x).1, (ty_b8 x).2.1, (ty_b8 x).2.2, fun W1 => lv_i2b x1 x2 hdg rfl W1⟩)
  | i2c =>
    cases ex_beq hk
    exact ty_i2_ok hs hN hsub ha hR (fun x xr => ⟨_, (ty_c16 x).1, (ty_c16 x).2.1, (ty_c16 x).2.2, fun W1 => lv_i2c x1 x2 hdg rfl W1⟩)
  | i2l =>
    cases ex_beq hk
    have hs : ty_i2l (pc, .i2l, 1, a1, a2, a3, ts) r e lv st K = some o := hs
    unfold ty_i2l at hs
    split at hs
    · obtain ⟨x, xr, rfl, ⟨y, rfl, hy⟩, hr⟩ := ty_sr_cons hR.sr
      exact lv_i2l x1 x2 hdg rfl (ty_ft_ok hs hN hsub ha ((hR.stk hr).push ⟨y.toInt64, rfl, by rw [Int32.toInt_toInt64]; exact hy⟩))
    · cases hs
  | l2i =>
    cases ex_beq hk
    have hs : ty_l2i (pc, .l2i, 1, a1, a2, a3, ts) r e lv st K = some o := hs
    unfold ty_l2i at hs
    split at hs
    · obtain ⟨x, xr, rfl, ⟨y, rfl, hy⟩, hr⟩ := ty_sr_cons hR.sr
      obtain ⟨ρ', b1, b2, b3, b4⟩ := ty_res0 hR.er (ty_rg y.toInt32).1 (ty_rg y.toInt32).2
      exact lv_l2i x1 x2 hdg rfl (ty_ft_ok hs hN hsub (ha.tr b1 hR.nle) (((hR.stk hr).env b1 b3 b2).push ⟨_, rfl, b4⟩))
    · cases hs
  | ladd =>
    cases ex_beq hk
    exact ty_lb_ok hs hN hsub ha hR (fun x y xr => ⟨_, fun W1 => lv_ladd x1 x2 hdg W1⟩)
  | lmul =>
    cases ex_beq hk
    exact ty_lb_ok hs hN hsub ha hR (fun x y xr => ⟨_, fun W1 => lv_lmul x1 x2 hdg W1⟩)
  | lor =>
    cases ex_beq hk
    exact ty_lb_ok hs hN hsub ha hR (fun x y xr => ⟨_, fun W1 => lv_lor x1 x2 hdg W1⟩)
  | lshl =>
    cases ex_beq hk
    have hs : ty_lsh (pc, .lshl, 1, a1, a2, a3, ts) r e lv st K = some o := hs
    unfold ty_lsh at hs
    split at hs
    · obtain ⟨w0, w1, rfl, ⟨y, rfl, hy⟩, hr1⟩ := ty_sr_cons hR.sr
      obtain ⟨w2, w3, rfl, ⟨x, rfl, hx⟩, hr⟩ := ty_sr_cons hr1
      obtain ⟨ρ', b1, b2, b3, b4⟩ := ty_res0 hR.er (ty_lg (x <<< (y.toInt64 &&& 63))).1 (ty_lg (x <<< (y.toInt64 &&& 63))).2
      exact lv_lshl x1 x2 hdg rfl (ty_ft_ok hs hN hsub (ha.tr b1 hR.nle) (((hR.stk hr).env b1 b3 b2).push (v := ty_j (ty_s e.1)) ⟨_, rfl, b4⟩))
    · cases hs
  | lcmp =>
    cases ex_beq hk
    have hs : ty_lc (pc, .lcmp, 1, a1, a2, a3, ts) r e lv st K = some o := hs
    unfold ty_lc at hs
    split at hs
    · obtain ⟨w0, w1, rfl, ⟨y, rfl, hy⟩, hr1⟩ := ty_sr_cons hR.sr
      obtain ⟨w2, w3, rfl, ⟨x, rfl, hx⟩, hr⟩ := ty_sr_cons hr1
      exact W.lcmp x1 x2 hdg (ty_ft_ok hs hN hsub ha ((hR.stk hr).push ⟨x, y, rfl, hx, hy⟩))
    · cases hs
  | dup =>
    cases ex_beq hk
    cases st with
    | nil => cases (show none = some o from hs)
    | cons v rest =>
      obtain ⟨g1, g2⟩ := ex_bifs (show (bif Nat.beq (ty_cat v) 1 then ty_ft (pc, .dup, 1, a1, a2, a3, ts) r e lv (v :: v :: rest) K else none) = some o from hs)
      obtain ⟨x, xr, rfl, hvr, hr⟩ := ty_sr_cons hR.sr
      exact lv_dup x1 x2 hdg ((ty_cat_ok hvr).trans (ex_beq g1)) (ty_ft_ok g2 hN hsub ha (hR.stk ⟨hvr, hvr, hr⟩))
  | dup2 =>
    cases ex_beq hk
    match st, hs, hR with
    | [], hs, hR => cases (show none = some o from hs)
    | [v], hs, hR => cases (show none = some o from hs)
    | v :: w :: rest, hs, hR =>
      obtain ⟨g1, g2⟩ := ex_bifs (show (bif Nat.beq (ty_cat v) 1 && Nat.beq (ty_cat w) 1 then ty_ft (pc, .dup2, 1, a1, a2, a3, ts) r e lv (v :: w :: v :: w :: rest) K else none) = some o from hs)
      obtain ⟨g1, g3⟩ := ex_and g1
      obtain ⟨x, xr, rfl, hvr, hr⟩ := ty_sr_cons hR.sr
      obtain ⟨x', xr', rfl, hvr', hr'⟩ := ty_sr_cons hr
      exact lv_dup2_11 x1 x2 hdg ((ty_cat_ok hvr).trans (ex_beq g1)) ((ty_cat_ok hvr').trans (ex_beq g3)) (ty_ft_ok g2 hN hsub ha (hR.stk ⟨hvr, hvr', hvr, hvr', hr'⟩))
  | pop =>
    cases ex_beq hk
    cases st with
    | nil => cases (show none = some o from hs)
    | cons v rest =>
      obtain ⟨g1, g2⟩ := ex_bifs (show (bif Nat.beq (ty_cat v) 1 then ty_ft (pc, .pop, 1, a1, a2, a3, ts) r e lv rest K else none) = some o from hs)
      obtain ⟨x, xr, rfl, hvr, hr⟩ := ty_sr_cons hR.sr
      exact lv_pop x1 x2 hdg ((ty_cat_ok hvr).trans (ex_beq g1)) (ty_ft_ok g2 hN hsub ha (hR.stk hr))
  | goto off =>
    obtain ⟨e1, e2⟩ := ex_and hk
    cases ex_beq e1
    have hs : some [(e, (ex_jp pr a1, lv, st, K))] = some o := hs
    cases hs
    exact lv_goto x1 x2 hdg (of_decide_eq_true e2) (ty_jp_ok (hN _ (List.mem_singleton.mpr rfl)) ha hR)
  | ifCond cn off =>
    obtain ⟨e1, e2⟩ := ex_and hk
    cases ex_beq e1
    obtain ⟨y, xr, rfl, kt, kf⟩ := ty_if1_ok (q := (pc, .ifCond cn off, 3, a1, a2, a3, ts)) hs hN hsub ha hR
    cases cn with
    | eq => exact lv_if_eq x1 x2 hdg (of_decide_eq_true e2) kt kf
    | ne => exact lv_if_ne x1 x2 hdg (of_decide_eq_true e2) kt (fun z => kf (fun w => w z))
    | lt => exact lv_if_lt x1 x2 hdg (of_decide_eq_true e2) kt kf
    | ge => exact lv_if_ge x1 x2 hdg (of_decide_eq_true e2) (fun z => kt (ex_nlt.mpr z)) (fun z => kf (fun w => z (ex_nlt.mp w)))
    | gt => exact lv_if_gt x1 x2 hdg (of_decide_eq_true e2) kt kf
    | le => exact lv_if_le x1 x2 hdg (of_decide_eq_true e2) (fun z => kt (ex_nlt.mpr z)) (fun z => kf (fun w => z (ex_nlt.mp w)))
  | if_icmp cn off =>
    obtain ⟨e1, e2⟩ := ex_and hk
    cases ex_beq e1
    obtain ⟨y', y, xr, rfl, kt, kf⟩ := ty_if2_ok (q := (pc, .if_icmp cn off, 3, a1, a2, a3, ts)) hs hN hsub ha hR
    cases cn with
    | eq => exact lv_icmp_eq x1 x2 hdg (of_decide_eq_true e2) kt kf
    | ne => exact lv_icmp_ne x1 x2 hdg (of_decide_eq_true e2) kt (fun z => kf (fun w => w z))
    | lt => exact lv_icmp_lt x1 x2 hdg (of_decide_eq_true e2) kt kf
    | ge => exact lv_icmp_ge x1 x2 hdg (of_decide_eq_true e2) (fun z => kt (ex_nlt.mpr z)) (fun z => kf (fun w => z (ex_nlt.mp w)))
    | gt => exact lv_icmp_gt x1 x2 hdg (of_decide_eq_true e2) kt kf
    | le => exact lv_icmp_le x1 x2 hdg (of_decide_eq_true e2) (fun z => kt (ex_nlt.mpr z)) (fun z => kf (fun w => z (ex_nlt.mp w)))
  | tableswitch df' lo hi offs =>
    obtain ⟨e1, e4⟩ := ex_and hk
    obtain ⟨e1, e3⟩ := ex_and e1
    obtain ⟨e1, e2⟩ := ex_and e1
    have e1 := of_decide_eq_true e1
    have e2 := of_decide_eq_true e2
    have e3 := of_decide_eq_true e3
    have e4 := of_decide_eq_true e4
    have hs : ty_tsw pr (pc, .tableswitch df' lo hi offs, len, a1, a2, a3, ts) e lv st K = some o := hs
    unfold ty_tsw at hs
    split at hs
    · rename_i ta rest
      injection hs with hs
      subst hs
      rw [ex_app_eq, ex_map_eq] at hN
      obtain ⟨x, xr, rfl, ⟨y, rfl, hy⟩, hr⟩ := ty_sr_cons hR.sr
      obtain ⟨s1, s2⟩ := ty_sw_ok (pr := pr) (q := (pc, .tableswitch df' lo hi offs, len, a1, a2, a3, ts)) ha hy (hR.stk hr) ts ((a2 : Int) - 2147483648) (fun z hz => hN z (List.mem_append_right _ hz))
      by_cases c1 : y.toInt < lo
      · refine lv_tableOut x1 x2 hdg (Or.inl c1) e1 ?_
        obtain ⟨e', i1, i2, i3⟩ := ty_rl_ok hR.er (d := ty_pl _ (1 - ((a2 : Int) - 2147483648))) (ty_pl_sc hy.1) (by rw [ty_pl_ev, hy.2]; omega)
        exact ty_jp_ok (hN (e', _) (List.mem_append_left _ (List.mem_map.mpr ⟨e', i1, rfl⟩))) ha ((hR.stk hr).nar i3 i2)
      · by_cases c2 : hi < y.toInt
        · exact lv_tableOut x1 x2 hdg (Or.inr c2) e1 (s2 (by omega))
        · have hj : (y.toInt - lo).toNat < ts.length := by omega
          obtain ⟨t, ht⟩ : ∃ t, ts[(y.toInt - lo).toNat]? = some t := ⟨_, List.getElem?_eq_getElem hj⟩
          have h9 : (offs.toList.map (fun z => (pc : Int) + z))[(y.toInt - lo).toNat]? = some (t : Int) := by rw [e4, List.getElem?_map, ht]; rfl
          rw [List.getElem?_map] at h9
          obtain ⟨off, ho, ho2⟩ := Option.map_eq_some_iff.mp h9
          exact lv_tableIn x1 x2 hdg c1 c2 (by rw [← Array.getElem?_toList]; exact ho) ho2 (s1 _ _ ht (by omega))
    · cases hs
  | lookupswitch df' ps =>
    obtain ⟨e1, e3⟩ := ex_and hk
    obtain ⟨e1, e2⟩ := ex_and e1
    have e1 := of_decide_eq_true e1
    have e2 := of_decide_eq_true e2
    have hs : ty_lsw pr (pc, .lookupswitch df' ps, len, a1, a2, a3, ts) e lv st K = some o := hs
    unfold ty_lsw at hs
    split at hs
    · rename_i ta rest
      injection hs with hs
      subst hs
      obtain ⟨x, xr, rfl, ⟨y, rfl, hy⟩, hr⟩ := ty_sr_cons hR.sr
      exact lv_lookup x1 x2 hdg e3 rfl (ty_luO e1 y.toInt _ _ e2) (ty_lu_ok ha (ty_prs ts) e hy (hR.stk hr) hN)
    · cases hs
  | getfield ix =>
    have hns : Nat.beq a1 99 = false := hns
    have hk : (bif Nat.beq a1 99 then Nat.beq len 3 && (bif Nat.beq a2 0 then ty_wf own ix ts "java/lang/String" "value" "[B" else ty_wf own ix ts "java/lang/String" "coder" "B") else ex_pk own nm (pc, .getfield ix, len, a1, a2, a3, ts)) = true := hk
    rw [hns] at hk
    obtain ⟨e1, e2⟩ := ex_and hk
    cases ex_beq e1
    split at e2
    · rename_i rc wi hc hts
      obtain ⟨e2, e3⟩ := ex_and e2
      exact ty_gf_ok (q := (pc, .getfield ix, 3, a1, a2, a3, [wi])) hc (ex_blt e2) (ex_wd_ok e3) X rfl hdg hs hN hsub ha hR
    · cases e2
  | putfield ix =>
    obtain ⟨e1, e2⟩ := ex_and hk
    cases ex_beq e1
    split at e2
    · rename_i rc wi hc
      obtain ⟨e2, e5⟩ := ex_and e2
      obtain ⟨e2, e4⟩ := ex_and e2
      obtain ⟨e2, e3⟩ := ex_and e2
      have hfin : (rc.2.1 a2).2.2.2 = false := by
        cases hf : (rc.2.1 a2).2.2.2 with
        | false => rfl
        | true => rw [hf] at e4; cases e4
      exact ty_pf_ok (q := (pc, .putfield ix, 3, a1, a2, a3, [wi])) hc (ex_blt e2) (ex_wd_ok e3) hfin e5 X rfl hdg hs hN hsub ha hR
    · cases e2
  | arraylength =>
    cases ex_beq hk
    exact ty_len_ok (q := (pc, .arraylength, 1, a1, a2, a3, ts)) X hL rfl hdg hs hN hsub ha hR
  | iaload =>
    cases ex_beq hk
    refine ty_ald_ok (q := (pc, .iaload, 1, a1, a2, a3, ts)) (σ := σ) (il := isl) hL hs hN hsub ha hR (fun t j a N i tk cA ar y xr ok f1 ht f3 f4 f5 hin hj W1 => ?_) (fun i y xr hil hin hj W1 => ?_)
    · have ht0 := ex_beq ok
      subst ht0
      obtain ⟨N0, arv⟩ := ar
      cases f4
      obtain ⟨f, rfl⟩ : ∃ f, arv = .inl f := f5
      subst hj
      exact va_iald x1 x2 hR.hK hR.hP j tk f1 ht hin hdg W1
    · obtain ⟨hX, hbl, hbA⟩ := x9 hil
      subst hj
      exact va_sld x1 x2 hX hbl hbA hR.hS hin hdg W1
  | baload =>
    cases ex_beq hk
    refine ty_ald_ok (q := (pc, .baload, 1, a1, a2, a3, ts)) (σ := σ) (L := L) (il := false) (fun z => by cases z) hs hN hsub ha hR (fun t j a N i tk cA ar y xr ok f1 ht f3 f4 f5 hin hj W1 => ?_) (fun i y xr hil hin hj W1 => by cases hil)
    obtain ⟨N0, arv⟩ := ar
    cases f4
    subst hj
    rcases Bool.or_eq_true _ _ |>.mp ok with ok | ok
    · have ht0 := ex_beq ok
      subst ht0
      obtain ⟨f, rfl⟩ : ∃ f, arv = .inl f := f5
      exact va_bald x1 x2 hR.hK hR.hP j tk f1 ht hin hdg W1
    · have ht0 := ex_beq ok
      subst ht0
      obtain ⟨f, rfl⟩ : ∃ f, arv = .inl f := f5
      exact va_zald x1 x2 hR.hK hR.hP j tk f1 ht hin hdg W1
  | laload =>
    cases ex_beq hk
    refine ty_ald_ok (q := (pc, .laload, 1, a1, a2, a3, ts)) (σ := σ) (L := L) (il := false) (fun z => by cases z) hs hN hsub ha hR (fun t j a N i tk cA ar y xr ok f1 ht f3 f4 f5 hin hj W1 => ?_) (fun i y xr hil hin hj W1 => by cases hil)
    obtain ⟨N0, arv⟩ := ar
    cases f4
    subst hj
    have ht0 := ex_beq ok
    subst ht0
    obtain ⟨f, rfl⟩ : ∃ f, arv = .inr (.inl f) := f5
    exact va_lald x1 x2 hR.hK hR.hP j tk f1 ht hin hdg W1
  | aaload =>
    cases ex_beq hk
    refine ty_ald_ok (q := (pc, .aaload, 1, a1, a2, a3, ts)) (σ := σ) (L := L) (il := false) (fun z => by cases z) hs hN hsub ha hR (fun t j a N i tk cA ar y xr ok f1 ht f3 f4 f5 hin hj W1 => ?_) (fun i y xr hil hin hj W1 => by cases hil)
    obtain ⟨N0, arv⟩ := ar
    cases f4
    subst hj
    have ht0 := ex_beq ok
    subst ht0
    obtain ⟨f, rfl⟩ : ∃ f, arv = .inr (.inr (.inr (.inr f))) := f5
    exact va_aldq x1 x2 hR.hK hR.hP j tk f1 ht hin hdg W1
  | iastore =>
    cases ex_beq hk
    refine ty_ast_ok (q := (pc, .iastore, 1, a1, a2, a3, ts)) hs hN hsub ha hR (fun t j a N i tk cA ar y v f0 x xr ok okw hv f1 ht f3 f4 f5 hin hj => ?_)
    have ht0 := ex_beq ok
    subst ht0
    unfold ty_okw at okw
    split at okw
    · obtain ⟨z, rfl, hz⟩ := hv
      rename_i lo hi u
      have hb : lo ≤ z.toInt ∧ z.toInt ≤ hi := by
        rcases Bool.or_eq_true _ _ |>.mp okw with w | w
        · rcases Bool.or_eq_true _ _ |>.mp w with w | w
          · exact ty_in2_ok hR.er hz (ex_and w).2
          · cases (ex_and (ex_and w).1).1
        · cases (ex_and (ex_and (ex_and w).1).1).1
      obtain ⟨N0, arv⟩ := ar
      cases f4
      subst hj
      obtain ⟨f, rfl⟩ : ∃ f, arv = .inl f := f5
      exact ⟨(N0, .inl (upd f y.toNatClampNeg z)), rfl, ⟨_, rfl⟩, fun i' hi => by show Value.int (upd f y.toNatClampNeg z i') = .int (f i'); rw [pk_un hi], fun ws' => ⟨z, by show Value.int (upd f y.toNatClampNeg z y.toNatClampNeg) = .int z; rw [pk_us], hb⟩, fun _ => by show Value.int (upd f y.toNatClampNeg z y.toNatClampNeg) = .int z; rw [pk_us], fun W1 => va_iast x1 x2 hR.hK hR.hP hR.hD hR.hS j tk f1 ht hin hdg W1⟩
    · cases okw
    · cases okw
  | bastore =>
    cases ex_beq hk
    refine ty_ast_ok (q := (pc, .bastore, 1, a1, a2, a3, ts)) hs hN hsub ha hR (fun t j a N i tk cA ar y v f0 x xr ok okw hv f1 ht f3 f4 f5 hin hj => ?_)
    obtain ⟨N0, arv⟩ := ar
    cases f4
    subst hj
    rcases Bool.or_eq_true _ _ |>.mp ok with ok | ok
    · have ht0 := ex_beq ok
      subst ht0
      unfold ty_okw at okw
      split at okw
      · obtain ⟨z, rfl, hz⟩ := hv
        rename_i lo hi u
        have hb : lo ≤ -128 ∧ 127 ≤ hi := by
          rcases Bool.or_eq_true _ _ |>.mp okw with w | w
          · rcases Bool.or_eq_true _ _ |>.mp w with w | w
            · cases (ex_and w).1
            · exact ⟨ty_le_t (ex_and (ex_and w).1).2, ty_le_t (ex_and w).2⟩
          · cases (ex_and (ex_and (ex_and w).1).1).1
        obtain ⟨f, rfl⟩ : ∃ f, arv = .inl f := f5
        have hz8 : vp_nar .byte z = z.toInt8.toInt32 := rfl
        have z8 := ty_b8 z
        exact ⟨(N0, .inl (upd f y.toNatClampNeg (vp_nar .byte z))), rfl, ⟨_, rfl⟩, fun i' hi => by show Value.int (upd f y.toNatClampNeg _ i') = .int (f i'); rw [pk_un hi], fun ws' => ⟨vp_nar .byte z, by show Value.int (upd f y.toNatClampNeg _ y.toNatClampNeg) = _; rw [pk_us], by rw [hz8]; omega, by rw [hz8]; omega⟩, (fun h0 => by cases h0), fun W1 => va_bast x1 x2 hR.hK hR.hP hR.hD hR.hS j tk f1 ht hin hdg W1⟩
      · cases okw
      · cases okw
    · have ht0 := ex_beq ok
      subst ht0
      unfold ty_okw at okw
      split at okw
      · obtain ⟨z, rfl, hz⟩ := hv
        rename_i lo hi u
        have hb : (0 ≤ z.toInt ∧ z.toInt ≤ 1) ∧ lo ≤ 0 ∧ 1 ≤ hi := by
          rcases Bool.or_eq_true _ _ |>.mp okw with w | w
          · rcases Bool.or_eq_true _ _ |>.mp w with w | w
            · cases (ex_and w).1
            · cases (ex_and (ex_and w).1).1
          · have h1 := ty_in_ok hR.er (ex_and (ex_and (ex_and w).1).1).2
            rw [hz.2] at h1
            exact ⟨h1, ty_le_t (ex_and (ex_and w).1).2, ty_le_t (ex_and w).2⟩
        have hnar : vp_nar .boolean z = z := by rcases ty_01 hb.1.1 hb.1.2 with rfl | rfl <;> decide
        obtain ⟨f, rfl⟩ : ∃ f, arv = .inl f := f5
        exact ⟨(N0, .inl (upd f y.toNatClampNeg (vp_nar .boolean z))), rfl, ⟨_, rfl⟩, fun i' hi => by show Value.int (upd f y.toNatClampNeg _ i') = .int (f i'); rw [pk_un hi], fun ws' => ⟨z, by show Value.int (upd f y.toNatClampNeg _ y.toNatClampNeg) = _; rw [pk_us, hnar], by omega, by omega⟩, (fun h0 => by cases h0), fun W1 => va_zast x1 x2 hR.hK hR.hP hR.hD hR.hS j tk f1 ht hin hdg W1⟩
      · cases okw
      · cases okw
  | lastore =>
    cases ex_beq hk
    refine ty_ast_ok (q := (pc, .lastore, 1, a1, a2, a3, ts)) hs hN hsub ha hR (fun t j a N i tk cA ar y v f0 x xr ok okw hv f1 ht f3 f4 f5 hin hj => ?_)
    have ht0 := ex_beq ok
    subst ht0
    unfold ty_okw at okw
    split at okw
    · rcases Bool.or_eq_true _ _ |>.mp okw with w | w
      · rcases Bool.or_eq_true _ _ |>.mp w with w | w
        · cases (ex_and w).1
        · cases (ex_and (ex_and w).1).1
      · cases (ex_and (ex_and (ex_and w).1).1).1
    · obtain ⟨z, rfl, hz⟩ := hv
      obtain ⟨N0, arv⟩ := ar
      cases f4
      subst hj
      obtain ⟨f, rfl⟩ : ∃ f, arv = .inr (.inl f) := f5
      exact ⟨(N0, .inr (.inl (vp_updL f y.toNatClampNeg z))), rfl, ⟨_, rfl⟩, fun i' hi => by show Value.long (vp_updL f y.toNatClampNeg z i') = .long (f i'); rw [pk_uLn hi], fun ws' => ⟨z, by show Value.long (vp_updL f y.toNatClampNeg z y.toNatClampNeg) = .long z; rw [pk_uLs]⟩, (fun h0 => by cases h0), fun W1 => va_last x1 x2 hR.hK hR.hP hR.hD hR.hS j tk f1 ht hin hdg W1⟩
    · cases okw
  | invokestatic ix =>
    obtain ⟨lw, hl1, hl2⟩ := id hR.1
    have hs : (bif Nat.beq a3 2 then ty_mm true (pc, .invokestatic ix, len, a1, a2, a3, ts) r e lv st K else bif Nat.beq a3 3 then ty_mm false (pc, .invokestatic ix, len, a1, a2, a3, ts) r e lv st K else ty_acp ms (pc, .invokestatic ix, len, a1, a2, a3, ts) r e lv st K) = some o := hs
    have hk : (bif Nat.beq a3 2 then Nat.beq len 3 && ty_wm own ix ts Lib.Math.max.name else bif Nat.beq a3 3 then Nat.beq len 3 && ty_wm own ix ts Lib.Math.min.name else ex_pk own nm (pc, .invokestatic ix, len, a1, a2, a3, ts)) = true := hk
    obtain ⟨hg, hgm, hgx, hgn⟩ := hgw
    cases hb2 : Nat.beq a3 2 with
    | true =>
      rw [hb2] at hs hk
      obtain ⟨e1, e3⟩ := ex_and hk
      cases ex_beq e1
      · exact ty_mm_ok (d := d) (mx := true) x13 (fun x y xr hl kk => va_mmax x1 x2 (by rw [x3]; exact hl1.1.symm) x4 (x5 _ (ty_wm_ok e3)) (x5 _ hgx.1) (x5 _ hgm) (x5 _ hgx.2) (by omega) hl hkc.1 hkc.2 hdg kk) hs hN hsub ha hR
    | false =>
      rw [hb2] at hs hk
      cases hb3 : Nat.beq a3 3 with
      | true =>
        rw [hb3] at hs hk
        obtain ⟨e1, e3⟩ := ex_and hk
        cases ex_beq e1
        · exact ty_mm_ok (d := d) (mx := false) x13 (fun x y xr hl kk => va_mmin x1 x2 (by rw [x3]; exact hl1.1.symm) x4 (x5 _ (ty_wm_ok e3)) (x5 _ hgn.1) (x5 _ hgm) (x5 _ hgn.2) (by omega) hl hkc.1 hkc.2 hdg kk) hs hN hsub ha hR
      | false =>
        rw [hb3] at hs hk
        obtain ⟨e1, e3⟩ := ex_and hk
        cases ex_beq e1
        split at e3
        · exact ty_acp_ok (q := (pc, .invokestatic ix, 3, a1, a2, a3, _)) (ex_wd_ok e3) hg.1 hg.2.1 hg.2.2 X rfl hdg hs hN hsub ha hR
        · cases e3
  | _ => exact absurd (show none = some o from hs) (by intro h; cases h)
end TYT
end
section
/-! a state held against a head or a contract: the names of the one by terms of the other -/
abbrev ty_H : Type := List (Nat × ty_t)
abbrev ty_A : Type := ty_E × List ty_V × ty_K
abbrev ty_Q : Type := Nat × ty_t × ty_t × ty_V
noncomputable def ty_tm (th : ty_H) (i : Nat) : ty_t := match ex_lk th i with
  | some u => u
  | none => ty_k 0
noncomputable def ty_sb (th : ty_H) (t : ty_t) : ty_t := List.rec (motive := fun _ => ty_t) (ty_k t.1) (fun q _ ih => ty_add ih (ty_tm th q.1) q.2) t.2
noncomputable def ty_scb (n : Nat) (t : ty_t) : Bool := ty_every (fun q => Nat.blt q.1 n) t.2
def ty_tq (n : Nat) (th : ty_H) (m : Nat) (ρ σ : Nat → Int) : Prop := ∀ i, i < n → ty_sc m (ty_tm th i) ∧ ty_ev ρ (ty_tm th i) = σ i
theorem ty_scb_t {n : Nat} {t : ty_t} (h : ty_scb n t = true) : ty_sc n t := fun q hq => Nat.le_of_ble_eq_true (ty_every_t h q hq)
section TYT
variable {n m : Nat} {th : ty_H} {ρ σ : Nat → Int} {b : Nat} {sa : Nat → Nat} {ws ws' : va_W} {e : ty_E}
theorem ty_sb_ok (h : ty_tq n th m ρ σ) {t : ty_t} (ht : ty_sc n t) : ty_sc m (ty_sb th t) ∧ ty_ev ρ (ty_sb th t) = ty_ev σ t := by
  obtain ⟨c, l⟩ := t
  have key : ∀ l : List (Nat × Int), (∀ q ∈ l, q.1 < n) → ty_sc m (ty_sb th (c, l)) ∧ ty_ev ρ (ty_sb th (c, l)) = c + ty_el σ l := by
    intro l
    induction l with
    | nil => exact fun _ => ⟨ty_k_sc, by show ty_ev ρ (ty_k c) = _; rw [ty_k_ev]; show c = c + 0; omega⟩
    | cons q r ih =>
      intro hl
      obtain ⟨i1, i2⟩ := ih (fun z hz => hl z (List.mem_cons_of_mem _ hz))
      obtain ⟨j1, j2⟩ := h q.1 (hl q List.mem_cons_self)
      refine ⟨ty_add_sc i1 j1, ?_⟩
      show ty_ev ρ (ty_add (ty_sb th (c, r)) (ty_tm th q.1) q.2) = c + (q.2 * σ q.1 + ty_el σ r)
      rw [ty_add_ev, i2, j2]
      omega
  exact key l ht
theorem ty_sb_is (h : ty_tq n th m ρ σ) {t : ty_t} {z : Int} (ht : ty_is n σ t z) : ty_is m ρ (ty_sb th t) z := ⟨(ty_sb_ok h ht.1).1, (ty_sb_ok h ht.1).2.trans ht.2⟩
theorem ty_is_sb (h : ty_tq n th m ρ σ) {t : ty_t} {z : Int} (hs : ty_sc n t) (ht : ty_ev ρ (ty_sb th t) = z) : ty_is n σ t z := ⟨hs, (ty_sb_ok h hs).2.symm.trans ht⟩
noncomputable def ty_sbv (th : ty_H) (v : ty_V) : ty_V := match v with
  | .inl (.inl t) => ty_i (ty_sb th t)
  | .inl (.inr t) => ty_j (ty_sb th t)
  | .inr (.inl q) => ty_r q.1 (ty_sb th q.2)
  | .inr (.inr (.inl q)) => ty_c (ty_sb th q.1) (ty_sb th q.2)
  | .inr (.inr (.inr v)) => .inr (.inr (.inr v))
theorem ty_sbv_ok (h : ty_tq n th m ρ σ) {v : ty_V} {x : Value} (hv : ty_vr b sa n σ ws v x) : ty_vr b sa m ρ ws (ty_sbv th v) x := by
  rcases v with (t | t) | q | q | i | u
  · obtain ⟨y, h1, h2⟩ := hv
    exact ⟨y, h1, ty_sb_is h h2⟩
  · obtain ⟨y, h1, h2⟩ := hv
    exact ⟨y, h1, ty_sb_is h h2⟩
  · obtain ⟨j, a, ev, h1, h2, h3, h4⟩ := hv
    exact ⟨j, a, ev, ty_sb_is h h1, h2, h3, h4⟩
  · obtain ⟨y, z, h1, h2, h3⟩ := hv
    exact ⟨y, z, h1, ty_sb_is h h2, ty_sb_is h h3⟩
  · exact hv
  · exact hv
noncomputable def ty_eqv (e : ty_E) (a b : ty_t) : Bool := ty_ent e (ty_add a b (-1)) && ty_ent e (ty_add b a (-1))
theorem ty_eqv_ok (he : ty_er ρ e) {a b : ty_t} (h : ty_eqv e a b = true) : ty_ev ρ a = ty_ev ρ b := by
  obtain ⟨h1, h2⟩ := ex_and h
  have h1 := ty_ent_ok he h1
  have h2 := ty_ent_ok he h2
  rw [ty_sub_ev] at h1 h2
  omega
noncomputable def ty_vm (e : ty_E) (th : ty_H) (n : Nat) (tv v : ty_V) : Bool := match tv, v with
  | .inl (.inl t), .inl (.inl u) => ty_scb n t && ty_eqv e (ty_sb th t) u
  | .inl (.inr t), .inl (.inr u) => ty_scb n t && ty_eqv e (ty_sb th t) u
  | .inr (.inl q), .inr (.inl r) => Nat.beq q.1 r.1 && (ty_scb n q.2 && ty_eqv e (ty_sb th q.2) r.2)
  | .inr (.inr (.inr (.inl i))), .inr (.inr (.inr (.inl j))) => Nat.beq i j
  | .inr (.inr (.inr (.inr ()))), .inr (.inr (.inr (.inr ()))) => true
  | _, _ => false
theorem ty_tv_ok (he : ty_er ρ e) (h : ty_tq n th e.1 ρ σ) {t u : ty_t} {z : Int} (hm : (ty_scb n t && ty_eqv e (ty_sb th t) u) = true) (hu : ty_is e.1 ρ u z) : ty_is n σ t z := by
  obtain ⟨h1, h2⟩ := ex_and hm
  exact ty_is_sb h (ty_scb_t h1) ((ty_eqv_ok he h2).trans hu.2)
theorem ty_vm_ok (he : ty_er ρ e) (h : ty_tq n th e.1 ρ σ) {tv v : ty_V} {x : Value} (hm : ty_vm e th n tv v = true) (hv : ty_vr b sa e.1 ρ ws v x) : ty_vr b sa n σ ws tv x := by
  unfold ty_vm at hm
  split at hm
  · obtain ⟨y, h1, h2⟩ := hv
    exact ⟨y, h1, ty_tv_ok he h hm h2⟩
  · obtain ⟨y, h1, h2⟩ := hv
    exact ⟨y, h1, ty_tv_ok he h hm h2⟩
  · rename_i q r
    obtain ⟨h0, hm⟩ := ex_and hm
    obtain ⟨j, a, ev, h1, h2, h3, h4⟩ := hv
    exact ⟨j, a, ev, ty_tv_ok he h hm h1, by rw [ex_beq h0]; exact h2, h3, h4⟩
  · have := ex_beq hm
    subst this
    exact hv
  · exact hv
  · cases hm
noncomputable def ty_ro (ρ : Nat → Int) (th : ty_H) (n : Nat) : Nat → Int := fun i => if i < n then ty_ev ρ (ty_tm th i) else 0
noncomputable def ty_rgE (e : ty_E) (t : ty_t) (p : Int × Int) : Bool := ty_ent e (ty_add (ty_k p.1) t (-1)) && ty_ent e (ty_pl t (-p.2))
noncomputable def ty_insE (e : ty_E) (th : ty_H) (E : ty_E) : Bool := ty_every (fun q => Nat.blt q.1 E.1) E.2.1 && (ty_every (fun i => ty_scb e.1 (ty_tm th i) && ty_rgE e (ty_tm th i) (ty_iv E.2.1 i)) (ex_range E.1 0) && ty_every (fun t => ty_scb E.1 t && ty_ent e (ty_sb th t)) E.2.2)
theorem ty_iv_far {i : Nat} : ∀ {v : List (Nat × Int × Int)}, (∀ q ∈ v, q.1 ≠ i) → ty_iv v i = (-9223372036854775808, 9223372036854775807)
  | [], _ => rfl
  | q :: v, h => by
    rw [ty_iv_cons]
    have hb : Nat.beq q.1 i = false := by
      cases hb : Nat.beq q.1 i with
      | false => rfl
      | true => exact absurd (ex_beq hb) (h q List.mem_cons_self)
    rw [hb]
    exact ty_iv_far (fun z hz => h z (List.mem_cons_of_mem _ hz))
theorem ty_insE_ok (he : ty_er ρ e) {E : ty_E} (h : ty_insE e th E = true) : ty_tq E.1 th e.1 ρ (ty_ro ρ th E.1) ∧ ty_er (ty_ro ρ th E.1) E := by
  obtain ⟨h1, h2⟩ := ex_and h
  obtain ⟨h2, h3⟩ := ex_and h2
  have h1 := ty_every_t h1
  have h2 := ty_every_t h2
  have h3 := ty_every_t h3
  have k2 : ∀ i, i < E.1 → ty_sc e.1 (ty_tm th i) ∧ (ty_iv E.2.1 i).1 ≤ ty_ev ρ (ty_tm th i) ∧ ty_ev ρ (ty_tm th i) ≤ (ty_iv E.2.1 i).2 := fun i hi => by
    obtain ⟨g1, g2⟩ := ex_and (h2 i ((ex_range_mem _ _ _).mpr ⟨Nat.zero_le _, by omega⟩))
    obtain ⟨g2, g3⟩ := ex_and g2
    have g2 := ty_ent_ok he g2
    have g3 := ty_ent_ok he g3
    rw [ty_sub_ev, ty_k_ev] at g2
    rw [ty_pl_ev] at g3
    exact ⟨ty_scb_t g1, by omega, by omega⟩
  have ht : ty_tq E.1 th e.1 ρ (ty_ro ρ th E.1) := fun i hi => ⟨(k2 i hi).1, by unfold ty_ro; rw [if_pos hi]⟩
  refine ⟨ht, fun i => ?_, fun c hc => ?_⟩
  · by_cases hi : i < E.1
    · unfold ty_ro
      rw [if_pos hi]
      exact (k2 i hi).2
    · unfold ty_ro
      rw [if_neg hi, ty_iv_far (fun q hq z => by
        have := Nat.le_of_ble_eq_true (h1 q hq)
        omega)]
      decide
  · obtain ⟨g1, g2⟩ := ex_and (h3 c hc)
    refine ⟨ty_scb_t g1, ?_⟩
    rw [← (ty_sb_ok ht (ty_scb_t g1)).2]
    exact ty_ent_ok he g2
noncomputable def ty_gm (e : ty_E) (th : ty_H) (n : Nat) (K : ty_K) (q : ty_Q) : Bool := ex_any (fun r => Nat.beq r.1 q.1 && (ty_eqv e (ty_sb th q.2.1) r.2.1 && (ty_eqv e (ty_sb th q.2.2.1) r.2.2.1 && ty_vm e th n q.2.2.2 r.2.2.2))) K
/-- entries that are so at once -/
noncomputable def ty_trv (e : ty_E) (th : ty_H) (n : Nat) (q : ty_Q) : Bool := bif Nat.beq q.1 1010 then ty_ent e (ty_add (ty_k 0) (ty_sb th q.2.1) (-1)) && (ty_sm e (ty_sb th q.2.2.1) (ty_k 0) && (match q.2.2.2 with
  | .inl (.inl v) => ty_scb n v
  | _ => false)) else bif Nat.beq q.1 1013 then ty_sm e (ty_sb th q.2.2.1) (ty_k 0) else bif Nat.beq q.1 1014 then ty_sm e (ty_sb th q.2.2.1) (ty_k 99) else false
noncomputable def ty_km (e : ty_E) (th : ty_H) (n : Nat) (K : ty_K) (q : ty_Q) : Bool := ty_scb n q.2.1 && (ty_scb n q.2.2.1 && (bif ty_isG q.1 then ty_gm e th n K q || ty_trv e th n q else ty_isK q.2.2.2 && (match ty_kf e K q.1 (ty_sb th q.2.1) (ty_sb th q.2.2.1) with
  | some w => ty_vm e th n q.2.2.2 w
  | none => false)))
theorem ty_g1.tr {n' : Nat} {q r : ty_Q} (h : ty_g1 m ρ ws r) (h0 : r.1 = q.1) (h1 : ∀ z, ty_is m ρ r.2.1 z → ty_is n' σ q.2.1 z) (h2 : ∀ z, ty_is m ρ r.2.2.1 z → ty_is n' σ q.2.2.1 z) (h3 : ∀ v', r.2.2.2 = ty_i v' → ∃ v, q.2.2.2 = ty_i v ∧ ∀ z, ty_is m ρ v' z → ty_is n' σ v z) : ty_g1 n' σ ws q := by
  rcases h with ⟨e, i, v, g1, g2, g3⟩ | ⟨e, a, k, v, g1, g2, g3, g4, g5⟩ | ⟨e, a, k, v, z, g1, g2, g3, g4, g5⟩ | ⟨e, b, r', v, z, g1, g2, g3, g4, g5⟩ | ⟨e, a, k, g1, g2, g3⟩ | ⟨e, i, g1, g2⟩ | ⟨e, z, g1, g2⟩
  · obtain ⟨v', k1, k2⟩ := h3 _ g2
    exact Or.inl ⟨h0.symm.trans e, i, v', h2 _ g1, k1, k2 _ g3⟩
  · obtain ⟨v', k1, k2⟩ := h3 _ g3
    exact Or.inr (Or.inl ⟨h0.symm.trans e, a, k, v', h1 _ g1, h2 _ g2, k1, k2 _ g4, g5⟩)
  · obtain ⟨v', k1, k2⟩ := h3 _ g3
    exact Or.inr (Or.inr (Or.inl ⟨h0.symm.trans e, a, k, v', z, h1 _ g1, h2 _ g2, k1, k2 _ g4, g5⟩))
  · obtain ⟨v', k1, k2⟩ := h3 _ g3
    exact Or.inr (Or.inr (Or.inr (Or.inl ⟨h0.symm.trans e, b, r', v', z, h1 _ g1, h2 _ g2, k1, k2 _ g4, g5⟩)))
  · exact Or.inr (Or.inr (Or.inr (Or.inr (Or.inl ⟨h0.symm.trans e, a, k, h1 _ g1, h2 _ g2, g3⟩))))
  · exact Or.inr (Or.inr (Or.inr (Or.inr (Or.inr (Or.inl ⟨h0.symm.trans e, i, h2 _ g1, g2⟩)))))
  · exact Or.inr (Or.inr (Or.inr (Or.inr (Or.inr (Or.inr ⟨h0.symm.trans e, z, h1 _ g1, g2⟩)))))
theorem ty_g2.tr {n' : Nat} {q r : ty_Q} (h : ty_g2 m ρ ws r) (h0 : r.1 = q.1) (h1 : ∀ z, ty_is m ρ r.2.1 z → ty_is n' σ q.2.1 z) (h2 : ∀ z, ty_is m ρ r.2.2.1 z → ty_is n' σ q.2.2.1 z) (h3 : ∀ v', r.2.2.2 = ty_i v' → ∃ v, q.2.2.2 = ty_i v ∧ ∀ z, ty_is m ρ v' z → ty_is n' σ v z) : ty_g2 n' σ ws q := by
  rcases h with ⟨e, x, y, v, g1, g2, g3, g4⟩ | ⟨e, x, y, v, g1, g2, g3, g4⟩ | ⟨e, V, k, v, z, g1, g2, g3, g4, g5⟩ | ⟨e, V, k, v, z, g1, g2, g3, g4, g5⟩ | ⟨e, k, u, g1, g2, g3⟩ | ⟨e, k, u, g1, g2, g3⟩ | ⟨e, k, u, g1, g2, g3⟩
  · obtain ⟨v', k1, k2⟩ := h3 _ g3
    exact Or.inl ⟨h0.symm.trans e, x, y, v', h1 _ g1, h2 _ g2, k1, k2 _ g4⟩
  · obtain ⟨v', k1, k2⟩ := h3 _ g3
    exact Or.inr (Or.inl ⟨h0.symm.trans e, x, y, v', h1 _ g1, h2 _ g2, k1, k2 _ g4⟩)
  · obtain ⟨v', k1, k2⟩ := h3 _ g3
    exact Or.inr (Or.inr (Or.inl ⟨h0.symm.trans e, V, k, v', z, h1 _ g1, h2 _ g2, k1, k2 _ g4, g5⟩))
  · obtain ⟨v', k1, k2⟩ := h3 _ g3
    exact Or.inr (Or.inr (Or.inr (Or.inl ⟨h0.symm.trans e, V, k, v', z, h1 _ g1, h2 _ g2, k1, k2 _ g4, g5⟩)))
  · exact Or.inr (Or.inr (Or.inr (Or.inr (Or.inl ⟨h0.symm.trans e, k, u, h1 _ g1, h2 _ g2, g3⟩))))
  · exact Or.inr (Or.inr (Or.inr (Or.inr (Or.inr (Or.inl ⟨h0.symm.trans e, k, u, h1 _ g1, h2 _ g2, g3⟩)))))
  · exact Or.inr (Or.inr (Or.inr (Or.inr (Or.inr (Or.inr ⟨h0.symm.trans e, k, u, h1 _ g1, h2 _ g2, g3⟩)))))
theorem ty_gh.tr {n' : Nat} {q r : ty_Q} (h : ty_gh m ρ ws r) (h0 : r.1 = q.1) (h1 : ∀ z, ty_is m ρ r.2.1 z → ty_is n' σ q.2.1 z) (h2 : ∀ z, ty_is m ρ r.2.2.1 z → ty_is n' σ q.2.2.1 z) (h3 : ∀ v', r.2.2.2 = ty_i v' → ∃ v, q.2.2.2 = ty_i v ∧ ∀ z, ty_is m ρ v' z → ty_is n' σ v z) : ty_gh n' σ ws q := h.elim (fun h => Or.inl (h.tr h0 h1 h2 h3)) (fun h => Or.inr (h.tr h0 h1 h2 h3))
theorem ty_trv_ok (he : ty_er ρ e) (h : ty_tq n th e.1 ρ σ) {q : ty_Q} (g1 : ty_sc n q.2.1) (g2 : ty_sc n q.2.2.1) (hm : ty_trv e th n q = true) : ty_g2 n σ ws q := by
  obtain ⟨y1, y2⟩ := ty_sb_ok h g1
  obtain ⟨w1, w2⟩ := ty_sb_ok h g2
  rcases ex_bif (P := fun z => z = true) hm with ⟨e0, hm⟩ | ⟨-, hm⟩
  · obtain ⟨m1, hm⟩ := ex_and hm
    obtain ⟨m2, m3⟩ := ex_and hm
    have m1 := ty_ent_ok he m1
    rw [ty_sub_ev, ty_k_ev, y2] at m1
    have m2 := ty_sm_ok he m2 ⟨w1, w2⟩ (ty_is_k _ _ _)
    split at m3
    · rename_i v hv
      exact Or.inr (Or.inr (Or.inl ⟨ex_beq e0, (ty_ev σ q.2.1).toNat, 0, v, ty_ev σ v, ⟨g1, by omega⟩, ⟨g2, m2⟩, hv, ⟨ty_scb_t m3, rfl⟩, fun j hj => absurd hj (Nat.not_lt_zero _)⟩))
    · cases m3
  rcases ex_bif (P := fun z => z = true) hm with ⟨e0, hm⟩ | ⟨-, hm⟩
  · have m2 := ty_sm_ok he hm ⟨w1, w2⟩ (ty_is_k _ _ _)
    exact Or.inr (Or.inr (Or.inr (Or.inr (Or.inr (Or.inl ⟨ex_beq e0, ty_ev σ q.2.1, 0, ⟨g1, rfl⟩, ⟨g2, m2⟩, fun V hV => absurd hV (Nat.not_lt_zero _)⟩)))))
  rcases ex_bif (P := fun z => z = true) hm with ⟨e0, hm⟩ | ⟨-, hm⟩
  · have m2 := ty_sm_ok he hm ⟨w1, w2⟩ (ty_is_k _ _ _)
    exact Or.inr (Or.inr (Or.inr (Or.inr (Or.inr (Or.inr ⟨ex_beq e0, ty_ev σ q.2.1, 99, ⟨g1, rfl⟩, ⟨g2, m2⟩, fun V h1 h2 => by omega⟩)))))
  · cases hm
theorem ty_km_ok (he : ty_er ρ e) (h : ty_tq n th e.1 ρ σ) {K : ty_K} (hK : ty_Kr b sa e.1 ρ ws K) {q : ty_Q} (hm : ty_km e th n K q = true) : ty_k1 b sa n σ ws q := by
  obtain ⟨g1, hm⟩ := ex_and hm
  obtain ⟨g2, hm⟩ := ex_and hm
  have g1 := ty_scb_t g1
  have g2 := ty_scb_t g2
  rcases ex_bif (P := fun z => z = true) hm with ⟨hg, hm⟩ | ⟨hg, hm⟩
  · rcases Bool.or_eq_true _ _ |>.mp hm with hm | hm
    case inr => exact Or.inr ⟨hg, Or.inr (ty_trv_ok he h g1 g2 hm)⟩
    obtain ⟨r, r1, r2⟩ := ty_any_t hm
    obtain ⟨r2, r3⟩ := ex_and r2
    obtain ⟨r3, r4⟩ := ex_and r3
    obtain ⟨r4, r5⟩ := ex_and r4
    have r2 := ex_beq r2
    refine Or.inr ⟨hg, ?_⟩
    rcases hK r r1 with ⟨z, -⟩ | ⟨-, z⟩
    · rw [r2, hg] at z; cases z
    refine z.tr r2 (fun y hy => ty_is_sb h g1 ((ty_eqv_ok he r3).trans hy.2)) (fun y hy => ty_is_sb h g2 ((ty_eqv_ok he r4).trans hy.2)) (fun v' hv' => ?_)
    rw [hv'] at r5
    obtain ⟨q1, q2, q3, qv⟩ := q
    rcases qv with (t | t) | t | t | t | t
    · exact ⟨t, rfl, fun y hy => ty_tv_ok he h r5 hy⟩
    all_goals cases r5
  · obtain ⟨k1, k2⟩ := ex_and hm
    split at k2
    · rename_i w hw
      obtain ⟨r, r1, r2, r3, r4, r5⟩ := ty_kf_ok hw
      rcases hK r r1 with ⟨-, j, i, a, ev, x, z1, z2, z3, z4, z5, z6, z7⟩ | ⟨z, -⟩
      · refine Or.inl ⟨hg, j, i, a, ev, x, ?_, ?_, by rw [← r2]; exact z3, z4, z5, k1, ?_⟩
        · obtain ⟨y1, y2⟩ := ty_sb_ok h g1
          exact ty_is_sb h g1 (ty_sm_ok he r4 z1 ⟨y1, rfl⟩).symm
        · obtain ⟨y1, y2⟩ := ty_sb_ok h g2
          exact ty_is_sb h g2 (ty_sm_ok he r3 z2 ⟨y1, rfl⟩).symm
        · rw [r5] at z7
          exact ty_vm_ok he h k2 z7
      · rw [r2, hg] at z; cases z
    · cases k2
noncomputable def ty_kms (e : ty_E) (th : ty_H) (n : Nat) (K : ty_K) (T : ty_K) : Bool := ty_every (ty_km e th n K) T
theorem ty_kms_ok (he : ty_er ρ e) (h : ty_tq n th e.1 ρ σ) {K : ty_K} (hK : ty_Kr b sa e.1 ρ ws K) {T : ty_K} (hm : ty_kms e th n K T = true) : ty_Kr b sa n σ ws T := fun q hq => ty_km_ok he h hK (ty_every_t hm q hq)
/-- values in a row -/
noncomputable def ty_vms (e : ty_E) (th : ty_H) (n : Nat) : List ty_V → List ty_V → Bool := fun l => List.rec (motive := fun _ => List ty_V → Bool) (fun r => match r with
  | [] => true
  | _ :: _ => false) (fun tv _ ih r => match r with
  | [] => false
  | v :: t => ty_vm e th n tv v && ih t) l
theorem ty_vms_ok (he : ty_er ρ e) (h : ty_tq n th e.1 ρ σ) : ∀ {l r : List ty_V} {xs : List Value}, ty_vms e th n l r = true → ty_sr b sa e.1 ρ ws r xs → ty_sr b sa n σ ws l xs
  | [], [], [], _, _ => trivial
  | [], [], _ :: _, _, hs => hs.elim
  | [], _ :: _, _, hm, _ => by cases hm
  | _ :: _, [], _, hm, _ => by cases hm
  | _ :: _, _ :: _, [], _, hs => hs.elim
  | tv :: l, v :: r, x :: xs, hm, hs => by
    obtain ⟨h1, h2⟩ := ex_and (show (ty_vm e th n tv v && ty_vms e th n l r) = true from hm)
    exact ⟨ty_vm_ok he h h1 hs.1, ty_vms_ok he h h2 hs.2⟩
theorem ty_sbvs_ok (h : ty_tq n th m ρ σ) : ∀ {l : List ty_V} {xs : List Value}, ty_sr b sa n σ ws l xs → ty_sr b sa m ρ ws (l.map (ty_sbv th)) xs
  | [], [], _ => trivial
  | [], _ :: _, hs => hs.elim
  | _ :: _, [], hs => hs.elim
  | _ :: _, _ :: _, hs => ⟨ty_sbv_ok h hs.1, ty_sbvs_ok h hs.2⟩
noncomputable def ty_sbk (th : ty_H) (q : ty_Q) : ty_Q := (q.1, ty_sb th q.2.1, ty_sb th q.2.2.1, ty_sbv th q.2.2.2)
theorem ty_sbv_isK {th : ty_H} {v : ty_V} (h : ty_isK v = true) : ty_isK (ty_sbv th v) = true := by
  rcases v with (t | t) | t
  · rfl
  · rfl
  · cases h
theorem ty_sbk_ok (h : ty_tq n th m ρ σ) {q : ty_Q} (hq : ty_k1 b sa n σ ws q) : ty_k1 b sa m ρ ws (ty_sbk th q) := by
  rcases hq with ⟨hg, j, i, a, ev, x, z1, z2, z3, z4, z5, z6, z7⟩ | ⟨hg, z⟩
  · exact Or.inl ⟨hg, j, i, a, ev, x, ty_sb_is h z1, ty_sb_is h z2, z3, z4, z5, ty_sbv_isK z6, ty_sbv_ok h z7⟩
  · exact Or.inr ⟨hg, z.tr rfl (fun y hy => ty_sb_is h hy) (fun y hy => ty_sb_is h hy) (fun v' hv' => ⟨ty_sb th v', by show ty_sbv th q.2.2.2 = _; rw [hv']; rfl, fun y hy => ty_sb_is h hy⟩)⟩
/-- what is known behind a call that changes some -/
noncomputable def ty_hits (ms : ty_M) (k : Nat) : Bool := ex_any (fun p => Nat.beq p.1 k) ms
noncomputable def ty_kst (ms : ty_M) (q : ty_Q) : Bool := bif ty_isG q.1 then ty_every (fun p => !(ty_hits ms p.1)) (ty_wc q.1) else !(ty_hits ms q.1) || (match q.2.2.1 with
  | (.ofNat i, []) => !(ty_al ms q.1 (some i))
  | _ => false)
noncomputable def ty_kfm (ms : ty_M) (K : ty_K) : ty_K := List.rec (motive := fun _ => ty_K) [] (fun q _ ih => bif ty_kst ms q then q :: ih else ih) K
theorem ty_kfm_m {ms : ty_M} {q : ty_Q} : ∀ {K : ty_K}, q ∈ ty_kfm ms K → q ∈ K ∧ ty_kst ms q = true
  | [], h => by cases h
  | r :: K, h => by
    rcases ex_bif (P := fun z => q ∈ z) (show q ∈ (bif ty_kst ms r then r :: ty_kfm ms K else ty_kfm ms K) from h) with ⟨h1, h2⟩ | ⟨h1, h2⟩
    · rcases List.mem_cons.mp h2 with rfl | h2
      · exact ⟨List.mem_cons_self, h1⟩
      · exact ⟨List.mem_cons_of_mem _ (ty_kfm_m h2).1, (ty_kfm_m h2).2⟩
    · exact ⟨List.mem_cons_of_mem _ (ty_kfm_m h2).1, (ty_kfm_m h2).2⟩
theorem ty_hits_f {ms : ty_M} {k : Nat} (h : ty_hits ms k = false) (i : Nat) : ty_al ms k (some i) = false := by
  cases hb : ty_al ms k (some i) with
  | false => rfl
  | true =>
    obtain ⟨q, h1, h2⟩ := ty_any_t hb
    have := ty_any_i (f := fun p : Nat × Option Nat => Nat.beq p.1 k) h1 (ex_and h2).1
    rw [show ex_any (fun p : Nat × Option Nat => Nat.beq p.1 k) ms = ty_hits ms k from rfl, h] at this
    cases this
theorem ty_not_t {z : Bool} (h : (!z) = true) : z = false := by cases z with
  | false => rfl
  | true => cases h
theorem ty_Kr.call {tys : List (ClassId × FieldType)} {ms : ty_M} {K : ty_K} (hK : ty_Kr b sa m ρ ws K) (hth : ty_th tys ws) (hf : ty_frm ms ws ws') (hx : ex_xt ws ws') : ty_Kr b sa m ρ ws' (ty_kfm ms K) := fun q hq => by
  obtain ⟨hq, hs⟩ := ty_kfm_m hq
  rcases hK q hq with ⟨hg, j, i, a, ev, x, z1, z2, z3, z4, z5, z6, z7⟩ | ⟨hg, z⟩
  · refine Or.inl ⟨hg, ?_⟩
    obtain ⟨ev', y1, y2⟩ := hf j q.1 z3 a ev z4
    refine ⟨j, i, a, ev', x, z1, z2, z3, y1, ?_, z6, z7.mono (fun _ _ => rfl) (Nat.le_refl _) hx⟩
    rw [y2 i, z5]
    unfold ty_kst at hs
    rw [hg] at hs
    rcases Bool.or_eq_true _ _ |>.mp hs with hs | hs
    · exact ty_hits_f (ty_not_t hs) i
    · split at hs
      · rename_i i' hi'
        rw [hi'] at z2
        have := z2.2
        rw [show ((Int.ofNat i', []) : ty_t) = ty_k (i' : Int) from rfl, ty_k_ev] at this
        have : i' = i := by omega
        subst this
        exact ty_not_t hs
      · cases hs
  · refine Or.inr ⟨hg, z.cg (fun p hp i => ?_)⟩
    unfold ty_kst at hs
    rw [hg] at hs
    have hh := ty_not_t (ty_every_t (show ty_every (fun p : Nat × Nat => !(ty_hits ms p.1)) (ty_wc q.1) = true from hs) p hp)
    have hk := ty_wc_kl q.1 p hp
    obtain ⟨a, ev, c, w1, -, -⟩ := hth p.2 p.1 hk
    obtain ⟨ev', y1, y2⟩ := hf p.2 p.1 hk a ev w1
    unfold ty_ia
    rw [w1, y1]
    dsimp only
    rw [y2 i (ty_hits_f hh i)]
end TYT
/-- what a contract asks of cells is looked up ahead -/
noncomputable def ty_fe (k i : Nat) : Option ty_F := match ex_nth ty_ct k with
  | some (.inl o) => ex_nth o.2 i
  | some (.inr o) => bif Nat.blt i o.2.1 then some o.2.2 else none
  | none => none
noncomputable def ty_en1 (e : ty_E) (K : ty_K) (q : ty_Q) : ty_E × ty_K := match q.2.1, q.2.2.1 with
  | (.ofNat j, []), (.ofNat i, []) => (match ex_nth ty_kl j, ty_fe q.1 i with
    | some k, some f => bif Nat.beq k q.1 then (match ty_rd e K q.1 (ty_k (j : Int)) (ty_k (i : Int)) f true with
      | some r => (r.1, r.2.1)
      | none => (e, K)) else (e, K)
    | _, _ => (e, K))
  | _, _ => (e, K)
noncomputable def ty_ens (l : ty_K) : ty_E → ty_K → ty_E × ty_K := List.rec (motive := fun _ => ty_E → ty_K → ty_E × ty_K) (fun e K => (e, K)) (fun q _ ih e K => match ty_en1 e K q with
  | (e', K') => ih e' K') l
section TYU
variable {n m : Nat} {th : ty_H} {ρ σ : Nat → Int} {b : Nat} {sa : Nat → Nat} {ws ws' : va_W} {tys : List (ClassId × FieldType)}
theorem ty_en1_ok {e : ty_E} {K : ty_K} (q : ty_Q) (he : ty_er ρ e) (hK : ty_Kr b sa e.1 ρ ws K) (ht : ty_th tys ws) : ∃ ρ', ty_ag e.1 ρ ρ' ∧ ty_er ρ' (ty_en1 e K q).1 ∧ e.1 ≤ (ty_en1 e K q).1.1 ∧ ty_Kr b sa (ty_en1 e K q).1.1 ρ' ws (ty_en1 e K q).2 := by
  have triv : ∃ ρ', ty_ag e.1 ρ ρ' ∧ ty_er ρ' (e, K).1 ∧ e.1 ≤ (e, K).1.1 ∧ ty_Kr b sa (e, K).1.1 ρ' ws (e, K).2 := ⟨ρ, fun _ _ => rfl, he, Nat.le_refl _, hK⟩
  unfold ty_en1
  split
  · rename_i j i hj hi
    split
    · rename_i k f hk hf
      cases hb : Nat.beq k q.1 with
      | false => exact triv
      | true =>
        have hb := ex_beq hb
        subst hb
        rw [ex_nth_get] at hk
        obtain ⟨a, ev, c, w1, w2, w3⟩ := ht j q.1 hk
        have hx : ∃ x, ty_sl ev i = some x ∧ ty_fo ws f x := by
          unfold ty_fe at hf
          split at hf
          · rename_i o ho
            obtain ⟨-, vs, rfl, y⟩ := ht.obj hk w1 (ci := o.1) (fs := o.2) ho
            rw [ex_nth_get] at hf
            exact y i f hf
          · rename_i o ho
            obtain ⟨hlt, hf⟩ := ex_bifs hf
            cases hf
            obtain ⟨-, cA, ar, rfl, y1, y2, y3, y4, y5⟩ := ht.arr hk w1 (t := o.1) (N := o.2.1) (f := o.2.2) ho
            have hlt : i < o.2.1 := Nat.le_of_ble_eq_true hlt
            refine ⟨ex_ag ar i, ?_, y5 i hlt⟩
            show (if i < ar.1 then some (ex_ag ar i) else none) = _
            rw [if_pos (by omega)]
          · cases hf
        obtain ⟨x, x1, x2⟩ := hx
        show ∃ ρ', ty_ag e.1 ρ ρ' ∧ ty_er ρ' (match ty_rd e K q.1 (ty_k (j : Int)) (ty_k (i : Int)) f true with
          | some r => (r.1, r.2.1)
          | none => (e, K)).1 ∧ _
        cases hr : ty_rd e K q.1 (ty_k (j : Int)) (ty_k (i : Int)) f true with
        | none => exact triv
        | some r =>
          obtain ⟨e', K', v⟩ := r
          obtain ⟨ρ', a1, a2, a3, a4, -⟩ := ty_rd_ok he hK (ty_is_k _ _ _) (ty_is_k _ _ _) hk w1 x1 x2 hr
          exact ⟨ρ', a1, a2, a3, a4⟩
    · exact triv
  · exact triv
theorem ty_ens_ok : ∀ (l : ty_K) {e : ty_E} {K : ty_K} {ρ : Nat → Int}, ty_er ρ e → ty_Kr b sa e.1 ρ ws K → ty_th tys ws → ∃ ρ', ty_ag e.1 ρ ρ' ∧ ty_er ρ' (ty_ens l e K).1 ∧ e.1 ≤ (ty_ens l e K).1.1 ∧ ty_Kr b sa (ty_ens l e K).1.1 ρ' ws (ty_ens l e K).2
  | [], e, K, ρ, he, hK, _ => ⟨ρ, fun _ _ => rfl, he, Nat.le_refl _, hK⟩
  | q :: l, e, K, ρ, he, hK, ht => by
    obtain ⟨ρ1, a1, a2, a3, a4⟩ := ty_en1_ok q he hK ht
    obtain ⟨ρ2, b1, b2, b3, b4⟩ := ty_ens_ok l a2 a4 ht
    exact ⟨ρ2, a1.tr b1 a3, b2, Nat.le_trans a3 b3, b4⟩
/-- new names behind a call -/
noncomputable def ty_pfr (v : List (Nat × Int × Int)) (ns : List Nat) : ty_E → ty_H → ty_E × ty_H := List.rec (motive := fun _ => ty_E → ty_H → ty_E × ty_H) (fun e th => (e, th)) (fun i _ ih e th => ih (ty_fr e (ty_iv v i).1 (ty_iv v i).2 []) ((i, ty_s e.1) :: th)) ns
theorem ty_pfr_ok {v : List (Nat × Int × Int)} (hb : ty_bd σ v) : ∀ (k n : Nat) {e : ty_E} {th : ty_H} {ρ : Nat → Int}, ty_er ρ e → ty_tq n th e.1 ρ σ → ∃ ρ', ty_ag e.1 ρ ρ' ∧ ty_er ρ' (ty_pfr v (ex_range k n) e th).1 ∧ e.1 ≤ (ty_pfr v (ex_range k n) e th).1.1 ∧ ty_tq (n + k) (ty_pfr v (ex_range k n) e th).2 (ty_pfr v (ex_range k n) e th).1.1 ρ' σ
  | 0, n, e, th, ρ, he, ht => ⟨ρ, fun _ _ => rfl, he, Nat.le_refl _, ht⟩
  | k + 1, n, e, th, ρ, he, ht => by
    obtain ⟨h1, h2⟩ := ty_fr_ok he (hb n).1 (hb n).2 (cs := []) (fun c hc => by cases hc)
    have ha := ty_up_ag ρ e.1 (σ n)
    have ht' : ty_tq (n + 1) ((n, ty_s e.1) :: th) (ty_fr e (ty_iv v n).1 (ty_iv v n).2 []).1 (ty_up ρ e.1 (σ n)) σ := fun i hi => by
      rw [h2]
      unfold ty_tm
      rcases ex_bif (P := fun z => z = ex_lk ((n, ty_s e.1) :: th) i) (show (bif Nat.beq n i then some (ty_s e.1) else ex_lk th i) = ex_lk ((n, ty_s e.1) :: th) i from rfl) with ⟨g1, g2⟩ | ⟨g1, g2⟩
      · rw [← g2]
        have := ex_beq g1
        subst this
        exact ⟨ty_s_sc (Nat.lt_succ_self _), by rw [ty_s_ev, ty_up_at]⟩
      · rw [← g2]
        have g1 := ex_bne g1
        obtain ⟨k1, k2⟩ := ht i (by omega)
        exact ⟨k1.mono (Nat.le_succ _), (ty_ev_ag ha k1).trans k2⟩
    obtain ⟨ρ', b1, b2, b3, b4⟩ := ty_pfr_ok hb k (n + 1) h1 ht'
    refine ⟨ρ', ha.tr b1 (by rw [h2]; exact Nat.le_succ _), b2, ?_, ?_⟩
    · have : e.1 + 1 ≤ _ := h2 ▸ b3
      exact Nat.le_trans (Nat.le_succ _) this
    · rw [show n + (k + 1) = n + 1 + k by omega]
      exact b4
noncomputable def ty_rfs (cs : List ty_t) : ty_E → Option ty_E := List.rec (motive := fun _ => ty_E → Option ty_E) (fun e => some e) (fun c _ ih e => match ty_rf e c with
  | none => none
  | some e' => ih e') cs
theorem ty_rfs_ok : ∀ (cs : List ty_t) {e : ty_E}, ty_er ρ e → (∀ c ∈ cs, ty_sc e.1 c ∧ ty_ev ρ c ≤ 0) → ∃ e', ty_rfs cs e = some e' ∧ ty_er ρ e' ∧ e'.1 = e.1
  | [], e, he, _ => ⟨e, rfl, he, rfl⟩
  | c :: cs, e, he, h => by
    obtain ⟨e1, a1, a2, a3⟩ := ty_rf_ok he (h c List.mem_cons_self).1 (h c List.mem_cons_self).2
    obtain ⟨e2, b1, b2, b3⟩ := ty_rfs_ok cs a2 (fun z hz => by rw [a3]; exact h z (List.mem_cons_of_mem _ hz))
    refine ⟨e2, ?_, b2, b3.trans a3⟩
    show (match ty_rf e c with
      | none => none
      | some e' => ty_rfs cs e') = some e2
    rw [a1]
    exact b1
end TYU
end
section
/-! whole rows: what follows from what is known of them -/
noncomputable def ty_kt (e : ty_E) (K : ty_K) (kc : Nat × Nat) (sl : ty_t) : Option ty_t := match ty_kf e K kc.1 (ty_k (kc.2 : Int)) sl with
  | some (.inl (.inl t)) => some t
  | _ => none
/-- letters 1, the sign of not 0, others 2 -/
noncomputable def ty_cls (e : ty_E) (K : ty_K) (v : ty_t) : Option Nat := bif ty_le 97 (ty_lo e v) && ty_le (ty_hi e v) 122 then some 1 else bif ty_le 126 (ty_lo e v) && ty_le (ty_hi e v) 126 then some 0 else bif ty_le (ty_hi e v) 96 || ((ty_le 123 (ty_lo e v) && ty_le (ty_hi e v) 125) || ty_le 127 (ty_lo e v)) then some 2 else bif ex_any (fun q => Nat.beq q.1 1007 && ty_sm e q.2.1 v) K then some 2 else none
def ty_clP (k : Nat) (z : Int) : Prop := (k = 1 ∧ 97 ≤ z ∧ z ≤ 122) ∨ (k = 0 ∧ z = 126) ∨ (k = 2 ∧ ¬ (97 ≤ z ∧ z ≤ 122) ∧ z ≠ 126)
def ty_dk (k : Nat) : Int := bif Nat.beq k 1 then 1 else bif Nat.beq k 0 then 0 else -1
/-- 3 and 7 are counted -/
noncomputable def ty_cw (e : ty_E) (x : ty_t) : Option Nat := bif (ty_le 3 (ty_lo e x) && ty_le (ty_hi e x) 3) || (ty_le 7 (ty_lo e x) && ty_le (ty_hi e x) 7) then some 1 else bif ty_le (ty_hi e x) 2 || ((ty_le 4 (ty_lo e x) && ty_le (ty_hi e x) 6) || ty_le 8 (ty_lo e x)) then some 0 else none
noncomputable def ty_put (e : ty_E) (K : ty_K) (q : ty_Q) : ty_K := bif ex_any (fun r => Nat.beq r.1 q.1 && (ty_sm e q.2.1 r.2.1 && ty_sm e q.2.2.1 r.2.2.1)) K then K else q :: K
noncomputable def ty_cs1 (e : ty_E) (t : ty_t) : ty_E := bif ty_ent e t then e else (match ty_rf e t with
  | some e' => e'
  | none => e)
abbrev ty_X : Type := ty_E × ty_K
/-- counted ones are fewer than all, as the first is an 8 -/
noncomputable def ty_s1 (q : ty_Q) (w : ty_t) (x : ty_X) : ty_X := (bif ty_ent x.1 (ty_add (ty_k 1) q.2.2.1 (-1)) && (match ty_kt x.1 x.2 ty_cW (ty_k 0) with
  | some t => ty_le 8 (ty_lo x.1 t)
  | none => false) then ty_cs1 (ty_cs1 x.1 (ty_add (ty_k 0) w (-1))) (ty_pl (ty_add w q.2.2.1 (-1)) 1) else ty_cs1 x.1 (ty_add (ty_k 0) w (-1)), x.2)
noncomputable def ty_s2 (q : ty_Q) (w : ty_t) (x : ty_X) : ty_X := match ty_kt x.1 x.2 ty_cW q.2.2.1 with
  | some t => (match ty_cw x.1 t with
    | some k => (x.1, ty_put x.1 x.2 (1000, q.2.1, ty_pl q.2.2.1 1, ty_i (ty_pl w (k : Int))))
    | none => x)
  | none => x
noncomputable def ty_s3 (q : ty_Q) (w : ty_t) (x : ty_X) : ty_X := bif ty_ent x.1 (ty_add (ty_k 1) q.2.2.1 (-1)) then (match ty_kt x.1 x.2 ty_cW (ty_pl q.2.2.1 (-1)) with
  | some t => (match ty_cw x.1 t with
    | some k => (x.1, ty_put x.1 x.2 (1000, q.2.1, ty_pl q.2.2.1 (-1), ty_i (ty_pl w (-(k : Int)))))
    | none => x)
  | none => x) else x
/-- heights -/
noncomputable def ty_s4 (q : ty_Q) (w : ty_t) (x : ty_X) : ty_X := match ty_kt x.1 x.2 ty_cC q.2.2.1 with
  | some t => (match ty_cls x.1 x.2 t with
    | some k => bif ty_ent x.1 (ty_add (ty_k (1 - ty_dk k)) w (-1)) then (x.1, ty_put x.1 x.2 (1001, q.2.1, ty_pl q.2.2.1 1, ty_i (ty_pl w (ty_dk k)))) else x
    | none => x)
  | none => x
noncomputable def ty_s5 (q : ty_Q) (w : ty_t) (x : ty_X) : ty_X := bif ex_any (fun r => Nat.beq r.1 1004 && (ty_sm x.1 r.2.1 q.2.1 && ty_ent x.1 (ty_pl (ty_add q.2.2.1 r.2.2.1 (-1)) 1))) x.2 then (match ty_kt x.1 x.2 ty_cC q.2.2.1 with
  | some t => (match ty_cls x.1 x.2 t with
    | some k => (bif Nat.beq k 1 then ty_cs1 (ty_cs1 x.1 (ty_pl w (-29))) (ty_add (ty_k 0) w (-1)) else bif Nat.beq k 0 then ty_cs1 x.1 (ty_add (ty_k 1) w (-1)) else ty_cs1 x.1 (ty_add (ty_k 2) w (-1)), x.2)
    | none => x)
  | none => x) else x
/-- letters -/
noncomputable def ty_s6 (q : ty_Q) (w : ty_t) (x : ty_X) : ty_X := match ty_kt x.1 x.2 ty_cC q.2.2.1 with
  | some t => (match ty_cls x.1 x.2 t with
    | some k => (x.1, ty_put x.1 x.2 (1002, q.2.1, ty_pl q.2.2.1 1, ty_i (ty_pl w (bif Nat.beq k 1 then 1 else 0))))
    | none => x)
  | none => x
/-- signs -/
noncomputable def ty_sgb (e : ty_E) (K : ty_K) (j x s : ty_t) : Bool := (ty_le (ty_hi e x) 7 || ty_ent e j) && (ty_le 7 (ty_lo e x) || ((ty_le 3 (ty_lo e x) && ty_le (ty_hi e x) 3 && (match ty_cls e K s with
  | some k => Nat.beq k 0
  | none => false)) || ((ty_le (ty_hi e x) 2 || (ty_le 4 (ty_lo e x) && ty_le (ty_hi e x) 6)) && (match ty_cls e K s with
  | some k => Nat.beq k 2
  | none => false))))
noncomputable def ty_s7 (q : ty_Q) (x : ty_X) : ty_X := match ty_kt x.1 x.2 ty_cW q.2.2.1, ty_kt x.1 x.2 ty_cS q.2.2.1 with
  | some t, some s => bif ty_sgb x.1 x.2 q.2.2.1 t s then (x.1, ty_put x.1 x.2 (1006, q.2.1, ty_pl q.2.2.1 1, q.2.2.2)) else x
  | _, _ => x
noncomputable def ty_s8 (q : ty_Q) (s : ty_t) (x : ty_X) : ty_X := bif ty_sm x.1 q.2.1 (ty_k (ty_cS.2 : Int)) && ex_any (fun r => Nat.beq r.1 1006 && ty_ent x.1 (ty_pl (ty_add q.2.2.1 r.2.2.1 (-1)) 1)) x.2 then (match ty_kt x.1 x.2 ty_cW q.2.2.1 with
  | some t => bif ty_le 3 (ty_lo x.1 t) && ty_le (ty_hi x.1 t) 3 then (ty_cs1 (ty_cs1 x.1 (ty_pl s (-126))) (ty_add (ty_k 126) s (-1)), x.2) else bif ty_le (ty_hi x.1 t) 2 || (ty_le 4 (ty_lo x.1 t) && ty_le (ty_hi x.1 t) 6) then (x.1, ty_put x.1 x.2 (1007, s, ty_k 0, ty_z)) else x
  | none => x) else x
/-- what is no 8 is not the first -/
noncomputable def ty_s9 (q : ty_Q) (t : ty_t) (x : ty_X) : ty_X := bif ty_sm x.1 q.2.1 (ty_k (ty_cW.2 : Int)) && ty_le (ty_hi x.1 t) 7 && (match ty_kt x.1 x.2 ty_cW (ty_k 0) with
  | some u => ty_le 8 (ty_lo x.1 u)
  | none => false) then (ty_cs1 x.1 (ty_add (ty_k 1) q.2.2.1 (-1)), x.2) else x
/-- an 8 is the first -/
noncomputable def ty_s16 (q : ty_Q) (t : ty_t) (x : ty_X) : ty_X := bif ty_sm x.1 q.2.1 (ty_k (ty_cW.2 : Int)) && ty_le 8 (ty_lo x.1 t) && ex_any (fun r => Nat.beq r.1 1006 && ty_ent x.1 (ty_pl (ty_add q.2.2.1 r.2.2.1 (-1)) 1)) x.2 then (ty_cs1 x.1 q.2.2.1, x.2) else x
/-- rules: what is told and good, what is not told, what is good -/
def ty_bit (t r : Nat) : Bool := Nat.beq (t / 2 ^ r % 2) 1
noncomputable def ty_s10 (q : ty_Q) (w : ty_t) (x : ty_X) : ty_X := match ty_cst x.1 q.2.2.1 with
  | some (.ofNat r) => (match ty_kt x.1 x.2 ty_cT q.2.1, ty_kt x.1 x.2 ty_cF (ty_add q.2.2.1 q.2.1 2), ty_kt x.1 x.2 ty_cO (ty_add q.2.2.1 q.2.1 2) with
    | some t, some F, some T => (match ty_cst x.1 t with
      | some (.ofNat c) => bif ty_bit c r then (ty_cs1 (ty_cs1 x.1 (ty_add (ty_add (ty_k 0) q.2.1 560) F (-1))) (ty_add T w (-1)), ty_put x.1 x.2 (1004, F, T, ty_z)) else x
      | _ => x)
    | _, _, _ => x)
  | _ => x
noncomputable def ty_s11 (r : Nat) (q : ty_Q) (t : ty_t) (x : ty_X) : ty_X := bif ty_sm x.1 q.2.1 (ty_k (ty_cT.2 : Int)) then (match ty_cst x.1 t with
  | some (.ofNat c) => bif ty_bit c r then x else (x.1, ty_put x.1 x.2 (1003, q.2.2.1, ty_k (r : Int), ty_i (ty_k 0)))
  | _ => x) else x
noncomputable def ty_okS (x : ty_X) (F T : ty_t) : Bool := ex_any (fun r => Nat.beq r.1 1004 && (ty_sm x.1 r.2.1 F && ty_sm x.1 r.2.2.1 T)) x.2 || (ex_any (fun r => Nat.beq r.1 1001 && (ty_sm x.1 r.2.1 F && ty_sm x.1 r.2.2.1 T)) x.2 && ex_any (fun r => Nat.beq r.1 1002 && (ty_sm x.1 r.2.1 F && (ty_sm x.1 r.2.2.1 T && (match r.2.2.2 with
  | .inl (.inl z) => ty_ent x.1 (ty_pl z (-30))
  | _ => false)))) x.2)
noncomputable def ty_s12 (q : ty_Q) (T : ty_t) (x : ty_X) : ty_X := bif ty_sm x.1 q.2.1 (ty_k (ty_cO.2 : Int)) then (match ty_cst x.1 q.2.2.1, ty_kt x.1 x.2 ty_cF q.2.2.1 with
  | some (.ofNat s), some F => bif ty_okS x F T && ty_ent x.1 (ty_add (ty_k (560 * (s / 2 : Nat))) F (-1)) then (x.1, ty_put x.1 x.2 (1003, ty_k ((s / 2 : Nat) : Int), ty_k ((s % 2 : Nat) : Int), ty_i T)) else x
  | _, _ => x) else x
noncomputable def ty_s13 (q : ty_Q) (x : ty_X) : ty_X := bif ty_ent x.1 (ty_add (ty_k 1) q.2.2.1 (-1)) then (match ty_kt x.1 x.2 ty_cW (ty_pl q.2.2.1 (-1)) with
  | some _ => (x.1, ty_put x.1 x.2 (1006, q.2.1, ty_pl q.2.2.1 (-1), q.2.2.2))
  | none => x) else x
noncomputable def ty_s14 (F : ty_t) (x : ty_X) : ty_X := bif ty_ent x.1 (ty_add (ty_k 0) F (-1)) then (x.1, ty_put x.1 (ty_put x.1 x.2 (1001, F, F, ty_i (ty_k 0))) (1002, F, F, ty_i (ty_k 0))) else x
noncomputable def ty_s15 (q : ty_Q) (x : ty_X) : ty_X := match ty_cst x.1 q.2.2.1 with
  | some (.ofNat 0) => (x.1, ty_put x.1 (ty_put x.1 x.2 (1000, ty_k 0, ty_k 0, ty_i (ty_k 0))) (1006, ty_k 0, ty_k 0, ty_z))
  | _ => x
noncomputable def ty_sq (q : ty_Q) (x : ty_X) : ty_X := match q.2.2.2 with
  | .inl (.inl w) => bif Nat.beq q.1 1000 then ty_s3 q w (ty_s2 q w (ty_s1 q w x)) else bif Nat.beq q.1 1001 then ty_s4 q w (ty_s5 q w x) else bif Nat.beq q.1 1002 then ty_s6 q w x else bif Nat.beq q.1 1003 then ty_s10 q w x else bif Nat.beq q.1 ty_cW.1 then ty_s15 q (ty_s16 q w (ty_s9 q w x)) else bif Nat.beq q.1 ty_cF.1 then ty_s14 w x else bif Nat.beq q.1 ty_cS.1 then ty_s8 q w x else bif Nat.beq q.1 ty_cT.1 then ty_s11 1 q w (ty_s11 0 q w x) else bif Nat.beq q.1 ty_cO.1 then ty_s12 q w x else x
  | _ => bif Nat.beq q.1 1006 then ty_s13 q (ty_s7 q x) else x
section TYG
variable {b : Nat} {sa : Nat → Nat} {n : Nat} {ρ : Nat → Int} {ws : va_W}
def ty_SO (b : Nat) (sa : Nat → Nat) (n : Nat) (ρ : Nat → Int) (ws : va_W) (x : ty_X) : Prop := ty_er ρ x.1 ∧ x.1.1 = n ∧ ty_Kr b sa n ρ ws x.2
theorem ty_cs1_ok {e : ty_E} (he : ty_er ρ e) {t : ty_t} (hs : ty_sc e.1 t) (ht : ty_ev ρ t ≤ 0) : ty_er ρ (ty_cs1 e t) ∧ (ty_cs1 e t).1 = e.1 := by
  unfold ty_cs1
  cases ty_ent e t with
  | true => exact ⟨he, rfl⟩
  | false =>
    obtain ⟨e', h1, h2, h3⟩ := ty_rf_ok he hs ht
    show ty_er ρ (match ty_rf e t with
      | some e' => e'
      | none => e) ∧ (match ty_rf e t with
      | some e' => e'
      | none => e).1 = e.1
    rw [h1]
    exact ⟨h2, h3⟩
theorem ty_SO.cs {x : ty_X} (h : ty_SO b sa n ρ ws x) {t : ty_t} (hs : ty_sc n t) (ht : ty_ev ρ t ≤ 0) : ty_SO b sa n ρ ws (ty_cs1 x.1 t, x.2) := by
  obtain ⟨h1, h2⟩ := ty_cs1_ok h.1 (by rw [h.2.1]; exact hs) ht
  exact ⟨h1, h2.trans h.2.1, h.2.2⟩
theorem ty_SO.put {x : ty_X} (h : ty_SO b sa n ρ ws x) {q : ty_Q} (hq : ty_k1 b sa n ρ ws q) : ty_SO b sa n ρ ws (x.1, ty_put x.1 x.2 q) := by
  refine ⟨h.1, h.2.1, ?_⟩
  show ty_Kr b sa n ρ ws (bif _ then x.2 else q :: x.2)
  cases ex_any (fun r => Nat.beq r.1 q.1 && (ty_sm x.1 q.2.1 r.2.1 && ty_sm x.1 q.2.2.1 r.2.2.1)) x.2 with
  | true => exact h.2.2
  | false =>
    intro r hr
    rcases List.mem_cons.mp hr with rfl | hr
    · exact hq
    · exact h.2.2 r hr
theorem ty_SO.put1 {x : ty_X} (h : ty_SO b sa n ρ ws x) {q : ty_Q} (hq : ty_isG q.1 = true ∧ ty_g1 n ρ ws q) : ty_SO b sa n ρ ws (x.1, ty_put x.1 x.2 q) := h.put (Or.inr ⟨hq.1, Or.inl hq.2⟩)
theorem ty_SO.put2 {x : ty_X} (h : ty_SO b sa n ρ ws x) {q : ty_Q} (hq : ty_isG q.1 = true ∧ ty_g2 n ρ ws q) : ty_SO b sa n ρ ws (x.1, ty_put x.1 x.2 q) := h.put (Or.inr ⟨hq.1, Or.inr hq.2⟩)
theorem ty_kt_ok {x : ty_X} (h : ty_SO b sa n ρ ws x) {kc : Nat × Nat} (hk : ty_kl[kc.2]? = some kc.1) {sl t : ty_t} (ht : ty_kt x.1 x.2 kc sl = some t) {i : Nat} (hi : ty_is n ρ sl (i : Int)) : ty_is n ρ t (ty_ia ws kc.2 i) := by
  unfold ty_kt at ht
  split at ht
  · rename_i u hu
    cases ht
    obtain ⟨q, q1, q2, q3, q4, q5⟩ := ty_kf_ok hu
    obtain ⟨h1, h2, h3⟩ := h
    subst h2
    rcases h3 q q1 with ⟨hg, j, i', a, ev, y, z1, z2, z3, z4, z5, z6, z7⟩ | ⟨hg, -⟩
    · have e1 := ty_sm_ok h1 q4 z1 (ty_is_k _ _ _)
      have e2 := ty_sm_ok h1 q3 z2 hi
      have e1 : j = kc.2 := by omega
      have e2 : i' = i := by omega
      subst e1
      subst e2
      rw [q5] at z7
      obtain ⟨w, rfl, hw⟩ := z7
      unfold ty_ia
      rw [z4]
      dsimp only
      rw [z5]
      exact hw
    · rw [q2] at hg
      rw [ty_kl_nG hk] at hg
      cases hg
  · cases ht
theorem ty_lh {e : ty_E} (he : ty_er ρ e) {t : ty_t} {z : Int} (ht : ty_ev ρ t = z) : ty_lo e t ≤ z ∧ z ≤ ty_hi e t := by
  rw [← ht]
  exact ⟨ty_lo_ok he.1 t, ty_hi_ok he.1 t⟩
theorem ty_cls_ok {x : ty_X} (h : ty_SO b sa n ρ ws x) {v : ty_t} {z : Int} (hv : ty_is n ρ v z) {k : Nat} (hc : ty_cls x.1 x.2 v = some k) : ty_clP k z := by
  obtain ⟨h1, h2, h3⟩ := h
  subst h2
  obtain ⟨l1, l2⟩ := ty_lh h1 hv.2
  rcases ex_bif (P := fun w => w = some k) hc with ⟨c1, c2⟩ | ⟨-, hc⟩
  · cases c2
    obtain ⟨c1, c3⟩ := ex_and c1
    have c1 := ty_le_t c1
    have c3 := ty_le_t c3
    exact Or.inl ⟨rfl, by omega, by omega⟩
  rcases ex_bif (P := fun w => w = some k) hc with ⟨c1, c2⟩ | ⟨-, hc⟩
  · cases c2
    obtain ⟨c1, c3⟩ := ex_and c1
    have c1 := ty_le_t c1
    have c3 := ty_le_t c3
    exact Or.inr (Or.inl ⟨rfl, by omega⟩)
  rcases ex_bif (P := fun w => w = some k) hc with ⟨c1, c2⟩ | ⟨-, hc⟩
  · cases c2
    refine Or.inr (Or.inr ⟨rfl, ?_⟩)
    rcases Bool.or_eq_true _ _ |>.mp c1 with c1 | c1
    · have c1 := ty_le_t c1
      omega
    rcases Bool.or_eq_true _ _ |>.mp c1 with c1 | c1
    · obtain ⟨c1, c3⟩ := ex_and c1
      have c1 := ty_le_t c1
      have c3 := ty_le_t c3
      omega
    · have c1 := ty_le_t c1
      omega
  rcases ex_bif (P := fun w => w = some k) hc with ⟨c1, c2⟩ | ⟨-, hc⟩
  · cases c2
    obtain ⟨q, q1, q2⟩ := ty_any_t c1
    obtain ⟨q2, q3⟩ := ex_and q2
    have q2 := ex_beq q2
    rcases h3 q q1 with ⟨hg, -⟩ | ⟨-, hg⟩
    · rw [q2] at hg; cases hg
    · rcases hg with hg | hg
      case inr => exact absurd (ty_g2_1 hg) (by omega)
      rcases hg with ⟨g, -⟩ | ⟨g, -⟩ | ⟨g, -⟩ | ⟨g, -⟩ | ⟨g, -⟩ | ⟨g, -⟩ | ⟨-, z', g1, g2⟩
      · omega
      · omega
      · omega
      · omega
      · omega
      · omega
      · have := ty_sm_ok h1 q3 g1 hv
        subst this
        exact Or.inr (Or.inr ⟨rfl, g2⟩)
  · cases hc
theorem ty_dk_ok {k : Nat} {z : Int} (h : ty_clP k z) : ty_dl z = ty_dk k := by
  unfold ty_dl
  rcases h with ⟨rfl, h1, h2⟩ | ⟨rfl, h1⟩ | ⟨rfl, h1, h2⟩
  · rw [if_pos ⟨h1, h2⟩]; rfl
  · rw [if_neg (by omega), if_pos h1]; rfl
  · rw [if_neg h1, if_neg h2]; rfl
theorem ty_cw_ok {e : ty_E} (he : ty_er ρ e) {x : ty_t} {z : Int} (hx : ty_ev ρ x = z) {k : Nat} (hc : ty_cw e x = some k) : (if z = 3 ∨ z = 7 then 1 else 0) = k := by
  obtain ⟨l1, l2⟩ := ty_lh he hx
  rcases ex_bif (P := fun w => w = some k) hc with ⟨c1, c2⟩ | ⟨-, hc⟩
  · cases c2
    rw [if_pos]
    rcases Bool.or_eq_true _ _ |>.mp c1 with c1 | c1
    · obtain ⟨c1, c3⟩ := ex_and c1
      have c1 := ty_le_t c1
      have c3 := ty_le_t c3
      exact Or.inl (by omega)
    · obtain ⟨c1, c3⟩ := ex_and c1
      have c1 := ty_le_t c1
      have c3 := ty_le_t c3
      exact Or.inr (by omega)
  rcases ex_bif (P := fun w => w = some k) hc with ⟨c1, c2⟩ | ⟨-, hc⟩
  · cases c2
    rw [if_neg]
    rcases Bool.or_eq_true _ _ |>.mp c1 with c1 | c1
    · have c1 := ty_le_t c1
      omega
    rcases Bool.or_eq_true _ _ |>.mp c1 with c1 | c1
    · obtain ⟨c1, c3⟩ := ex_and c1
      have c1 := ty_le_t c1
      have c3 := ty_le_t c3
      omega
    · have c1 := ty_le_t c1
      omega
  · cases hc
theorem ty_cnt_le (f : Nat → Int) : ∀ i : Nat, ty_cnt f i ≤ i
  | 0 => Nat.le_refl _
  | i + 1 => by
    have := ty_cnt_le f i
    show ty_cnt f i + (if f i = 3 ∨ f i = 7 then 1 else 0) ≤ i + 1
    split <;> omega
theorem ty_cnt_lt {f : Nat → Int} (h : f 0 = 8) : ∀ i : Nat, 1 ≤ i → ty_cnt f i + 1 ≤ i
  | 0, h1 => by omega
  | 1, _ => by
    show 0 + (if f 0 = 3 ∨ f 0 = 7 then 1 else 0) + 1 ≤ 1
    rw [if_neg (by omega)]
    omega
  | i + 2, _ => by
    have := ty_cnt_lt h (i + 1) (by omega)
    show ty_cnt f (i + 1) + (if f (i + 1) = 3 ∨ f (i + 1) = 7 then 1 else 0) + 1 ≤ i + 2
    split <;> omega
theorem ty_htn_le (f : Nat → Int) (a : Nat) : ∀ m : Nat, ty_htn f a m ≤ (ty_ltn f a m : Int)
  | 0 => Int.le_refl _
  | m + 1 => by
    have := ty_htn_le f a m
    show ty_htn f a m + ty_dl (f (a + m)) ≤ ((ty_ltn f a m + (if 97 ≤ f (a + m) ∧ f (a + m) ≤ 122 then 1 else 0) : Nat) : Int)
    unfold ty_dl
    by_cases hc : 97 ≤ f (a + m) ∧ f (a + m) ≤ 122
    · rw [if_pos hc, if_pos hc]
      omega
    · rw [if_neg hc, if_neg hc]
      split <;> omega
theorem ty_ltn_mono (f : Nat → Int) (a m : Nat) : ∀ k : Nat, ty_ltn f a m ≤ ty_ltn f a (m + k)
  | 0 => Nat.le_refl _
  | k + 1 => by
    have := ty_ltn_mono f a m k
    show ty_ltn f a m ≤ ty_ltn f a (m + k) + _
    omega
theorem ty_sgh {q : ty_Q} (h : ty_k1 b sa n ρ ws q) (hg : ty_isG q.1 = true) (hl : q.1 < 1008) : ty_g1 n ρ ws q := by
  rcases h with ⟨z, -⟩ | ⟨-, z⟩
  · rw [hg] at z; cases z
  · rcases z with z | z
    · exact z
    · exact absurd (ty_g2_1 z) (by omega)
theorem ty_g1000 {q : ty_Q} (h : ty_k1 b sa n ρ ws q) (hq : q.1 = 1000) : ∃ (i : Nat) (v : ty_t), ty_is n ρ q.2.2.1 (i : Int) ∧ q.2.2.2 = ty_i v ∧ ty_is n ρ v (ty_cnt (ty_ia ws ty_cW.2) i : Int) := by
  rcases ty_sgh h (by rw [hq]; rfl) (by omega) with ⟨g, i, v, h1, h2, h3⟩ | ⟨g, -⟩ | ⟨g, -⟩ | ⟨g, -⟩ | ⟨g, -⟩ | ⟨g, -⟩ | ⟨g, -⟩
  · exact ⟨i, v, h1, h2, h3⟩
  all_goals omega
theorem ty_g1001 {q : ty_Q} (h : ty_k1 b sa n ρ ws q) (hq : q.1 = 1001) : ∃ (a m : Nat) (v : ty_t), ty_is n ρ q.2.1 (a : Int) ∧ ty_is n ρ q.2.2.1 ((a + m : Nat) : Int) ∧ q.2.2.2 = ty_i v ∧ ty_is n ρ v (ty_htn (ty_ia ws ty_cC.2) a m) ∧ ty_vl (ty_ia ws ty_cC.2) a m := by
  rcases ty_sgh h (by rw [hq]; rfl) (by omega) with ⟨g, -⟩ | ⟨-, g⟩ | ⟨g, -⟩ | ⟨g, -⟩ | ⟨g, -⟩ | ⟨g, -⟩ | ⟨g, -⟩
  · omega
  · exact g
  all_goals omega
theorem ty_g1002 {q : ty_Q} (h : ty_k1 b sa n ρ ws q) (hq : q.1 = 1002) : ∃ (a m : Nat) (v : ty_t) (z : Int), ty_is n ρ q.2.1 (a : Int) ∧ ty_is n ρ q.2.2.1 ((a + m : Nat) : Int) ∧ q.2.2.2 = ty_i v ∧ ty_is n ρ v z ∧ (ty_ltn (ty_ia ws ty_cC.2) a m : Int) ≤ z := by
  rcases ty_sgh h (by rw [hq]; rfl) (by omega) with ⟨g, -⟩ | ⟨g, -⟩ | ⟨-, g⟩ | ⟨g, -⟩ | ⟨g, -⟩ | ⟨g, -⟩ | ⟨g, -⟩
  · omega
  · omega
  · exact g
  all_goals omega
theorem ty_g1004 {q : ty_Q} (h : ty_k1 b sa n ρ ws q) (hq : q.1 = 1004) : ∃ a m : Nat, ty_is n ρ q.2.1 (a : Int) ∧ ty_is n ρ q.2.2.1 ((a + m : Nat) : Int) ∧ ty_vl (ty_ia ws ty_cC.2) a m ∧ ty_ltn (ty_ia ws ty_cC.2) a m ≤ 30 := by
  rcases ty_sgh h (by rw [hq]; rfl) (by omega) with ⟨g, -⟩ | ⟨g, -⟩ | ⟨g, -⟩ | ⟨g, -⟩ | ⟨-, g⟩ | ⟨g, -⟩ | ⟨g, -⟩
  · omega
  · omega
  · omega
  · omega
  · exact g
  all_goals omega
theorem ty_g1006 {q : ty_Q} (h : ty_k1 b sa n ρ ws q) (hq : q.1 = 1006) : ∃ i : Nat, ty_is n ρ q.2.2.1 (i : Int) ∧ ∀ j, j < i → ty_sg j (ty_ia ws ty_cW.2 j) (ty_ia ws ty_cS.2 j) := by
  rcases ty_sgh h (by rw [hq]; rfl) (by omega) with ⟨g, -⟩ | ⟨g, -⟩ | ⟨g, -⟩ | ⟨g, -⟩ | ⟨g, -⟩ | ⟨-, g⟩ | ⟨g, -⟩
  · omega
  · omega
  · omega
  · omega
  · omega
  · exact g
  · omega
theorem ty_wk : ty_kl[ty_cW.2]? = some ty_cW.1 ∧ ty_kl[ty_cS.2]? = some ty_cS.1 ∧ ty_kl[ty_cC.2]? = some ty_cC.1 ∧ ty_kl[ty_cT.2]? = some ty_cT.1 ∧ ty_kl[ty_cF.2]? = some ty_cF.1 ∧ ty_kl[ty_cO.2]? = some ty_cO.1 := by decide +kernel
/-- the first is an 8 -/
theorem ty_w0 {x : ty_X} (h : ty_SO b sa n ρ ws x) (hm : (match ty_kt x.1 x.2 ty_cW (ty_k 0) with
  | some t => ty_le 8 (ty_lo x.1 t)
  | none => false) = true) (hr : ∀ i, ty_ia ws ty_cW.2 i ≤ 8) : ty_ia ws ty_cW.2 0 = 8 := by
  split at hm
  · rename_i t ht
    have h1 := ty_kt_ok h ty_wk.1 ht (i := 0) (ty_is_k _ _ _)
    have h2 := (ty_lh h.1 h1.2).1
    have h3 := ty_le_t hm
    have h4 := hr 0
    omega
  · cases hm
theorem ty_s1_ok {x : ty_X} (h : ty_SO b sa n ρ ws x) (hr : ∀ i, ty_ia ws ty_cW.2 i ≤ 8) {q : ty_Q} (hq : ty_k1 b sa n ρ ws q) (h0 : q.1 = 1000) {w : ty_t} (hw : q.2.2.2 = ty_i w) : ty_SO b sa n ρ ws (ty_s1 q w x) := by
  obtain ⟨i, v, h1, h2, h3⟩ := ty_g1000 hq h0
  rw [hw] at h2
  injection h2 with h2
  injection h2 with h2
  subst h2
  have base := h.cs (t := ty_add (ty_k 0) w (-1)) (ty_add_sc ty_k_sc h3.1) (by rw [ty_sub_ev, ty_k_ev, h3.2]; omega)
  unfold ty_s1
  cases hb : (ty_ent x.1 (ty_add (ty_k 1) q.2.2.1 (-1)) && (match ty_kt x.1 x.2 ty_cW (ty_k 0) with
    | some t => ty_le 8 (ty_lo x.1 t)
    | none => false)) with
  | false => exact base
  | true =>
    obtain ⟨b1, b2⟩ := ex_and hb
    have b1 := ty_ent_ok h.1 b1
    rw [ty_sub_ev, ty_k_ev, h1.2] at b1
    have b3 := ty_cnt_lt (ty_w0 h b2 hr) i (by omega)
    exact base.cs (t := ty_pl (ty_add w q.2.2.1 (-1)) 1) (ty_pl_sc (ty_add_sc h3.1 h1.1)) (by rw [ty_pl_ev, ty_sub_ev, h3.2, h1.2]; omega)
theorem ty_s2_ok {x : ty_X} (h : ty_SO b sa n ρ ws x) {q : ty_Q} (hq : ty_k1 b sa n ρ ws q) (h0 : q.1 = 1000) {w : ty_t} (hw : q.2.2.2 = ty_i w) : ty_SO b sa n ρ ws (ty_s2 q w x) := by
  obtain ⟨i, v, h1, h2, h3⟩ := ty_g1000 hq h0
  rw [hw] at h2
  injection h2 with h2
  injection h2 with h2
  subst h2
  unfold ty_s2
  split
  · rename_i t ht
    split
    · rename_i k hk
      have g1 := ty_kt_ok h ty_wk.1 ht h1
      have g2 := ty_cw_ok h.1 g1.2 hk
      refine h.put1 (⟨rfl, Or.inl ⟨rfl, i + 1, _, ?_, rfl, ?_⟩⟩)
      · have := ty_is_pl h1 1
        exact ⟨this.1, this.2.trans (by omega)⟩
      · have := ty_is_pl h3 (k : Int)
        refine ⟨this.1, this.2.trans ?_⟩
        show (ty_cnt _ i : Int) + (k : Int) = ((ty_cnt (ty_ia ws ty_cW.2) i + (if ty_ia ws ty_cW.2 i = 3 ∨ ty_ia ws ty_cW.2 i = 7 then 1 else 0) : Nat) : Int)
        rw [g2]
        omega
    · exact h
  · exact h
theorem ty_s3_ok {x : ty_X} (h : ty_SO b sa n ρ ws x) {q : ty_Q} (hq : ty_k1 b sa n ρ ws q) (h0 : q.1 = 1000) {w : ty_t} (hw : q.2.2.2 = ty_i w) : ty_SO b sa n ρ ws (ty_s3 q w x) := by
  obtain ⟨i, v, h1, h2, h3⟩ := ty_g1000 hq h0
  rw [hw] at h2
  injection h2 with h2
  injection h2 with h2
  subst h2
  unfold ty_s3
  cases hb : ty_ent x.1 (ty_add (ty_k 1) q.2.2.1 (-1)) with
  | false => exact h
  | true =>
    have b1 := ty_ent_ok h.1 hb
    rw [ty_sub_ev, ty_k_ev, h1.2] at b1
    cases i with
    | zero => exact absurd b1 (by decide)
    | succ i =>
      have h1' : ty_is n ρ (ty_pl q.2.2.1 (-1)) (i : Int) := by
        have := ty_is_pl h1 (-1)
        exact ⟨this.1, this.2.trans (by omega)⟩
      show ty_SO b sa n ρ ws (match ty_kt x.1 x.2 ty_cW (ty_pl q.2.2.1 (-1)) with
        | some t => (match ty_cw x.1 t with
          | some k => (x.1, ty_put x.1 x.2 (1000, q.2.1, ty_pl q.2.2.1 (-1), ty_i (ty_pl w (-(k : Int)))))
          | none => x)
        | none => x)
      split
      · rename_i t ht
        split
        · rename_i k hk
          have g1 := ty_kt_ok h ty_wk.1 ht h1'
          have g2 := ty_cw_ok h.1 g1.2 hk
          refine h.put1 (⟨rfl, Or.inl ⟨rfl, i, _, h1', rfl, ?_⟩⟩)
          have := ty_is_pl h3 (-(k : Int))
          refine ⟨this.1, this.2.trans ?_⟩
          show ((ty_cnt (ty_ia ws ty_cW.2) i + (if ty_ia ws ty_cW.2 i = 3 ∨ ty_ia ws ty_cW.2 i = 7 then 1 else 0) : Nat) : Int) + -(k : Int) = _
          rw [g2]
          omega
        · exact h
      · exact h
theorem ty_s4_ok {x : ty_X} (h : ty_SO b sa n ρ ws x) {q : ty_Q} (hq : ty_k1 b sa n ρ ws q) (h0 : q.1 = 1001) {w : ty_t} (hw : q.2.2.2 = ty_i w) : ty_SO b sa n ρ ws (ty_s4 q w x) := by
  obtain ⟨a, m, v, h1, h2, h3, h4, h5⟩ := ty_g1001 hq h0
  rw [hw] at h3
  injection h3 with h3
  injection h3 with h3
  subst h3
  unfold ty_s4
  split
  · rename_i t ht
    split
    · rename_i k hk
      have g1 := ty_kt_ok h ty_wk.2.2.1 ht h2
      have g2 := ty_dk_ok (ty_cls_ok h g1 hk)
      cases hb : ty_ent x.1 (ty_add (ty_k (1 - ty_dk k)) w (-1)) with
      | false => exact h
      | true =>
        have b1 := ty_ent_ok h.1 hb
        rw [ty_sub_ev, ty_k_ev, h4.2] at b1
        have e1 : ty_htn (ty_ia ws ty_cC.2) a (m + 1) = ty_htn (ty_ia ws ty_cC.2) a m + ty_dk k := by
          show ty_htn (ty_ia ws ty_cC.2) a m + ty_dl (ty_ia ws ty_cC.2 (a + m)) = _
          rw [g2]
        refine h.put1 (⟨rfl, Or.inr (Or.inl ⟨rfl, a, m + 1, _, h1, ?_, rfl, ?_, fun m' hm' => ?_⟩)⟩)
        · have := ty_is_pl h2 1
          exact ⟨this.1, this.2.trans (by omega)⟩
        · have := ty_is_pl h4 (ty_dk k)
          exact ⟨this.1, this.2.trans e1.symm⟩
        · by_cases e : m' = m
          · subst e
            rw [e1]
            omega
          · exact h5 m' (by omega)
    · exact h
  · exact h
theorem ty_s5_ok {x : ty_X} (h : ty_SO b sa n ρ ws x) {q : ty_Q} (hq : ty_k1 b sa n ρ ws q) (h0 : q.1 = 1001) {w : ty_t} (hw : q.2.2.2 = ty_i w) : ty_SO b sa n ρ ws (ty_s5 q w x) := by
  obtain ⟨a, m, v, h1, h2, h3, h4, h5⟩ := ty_g1001 hq h0
  rw [hw] at h3
  injection h3 with h3
  injection h3 with h3
  subst h3
  unfold ty_s5
  cases hb : ex_any (fun r => Nat.beq r.1 1004 && (ty_sm x.1 r.2.1 q.2.1 && ty_ent x.1 (ty_pl (ty_add q.2.2.1 r.2.2.1 (-1)) 1))) x.2 with
  | false => exact h
  | true =>
    obtain ⟨r, r1, r2⟩ := ty_any_t hb
    obtain ⟨r2, r3⟩ := ex_and r2
    obtain ⟨r3, r4⟩ := ex_and r3
    obtain ⟨a', M, k1, k2, k3, k4⟩ := ty_g1004 (h.2.2 r r1) (ex_beq r2)
    have hn := h.2.1
    have e1 := ty_sm_ok h.1 r3 (by rw [hn]; exact k1) (by rw [hn]; exact h1)
    have e1 : a' = a := by omega
    subst e1
    have r4 := ty_ent_ok h.1 r4
    rw [ty_pl_ev, ty_sub_ev, h2.2, k2.2] at r4
    have hlt : m + 1 ≤ M := by omega
    have hv := k3 m (by omega)
    have hl := ty_ltn_mono (ty_ia ws ty_cC.2) a' (m + 1) (M - (m + 1))
    rw [show m + 1 + (M - (m + 1)) = M by omega] at hl
    have hh := ty_htn_le (ty_ia ws ty_cC.2) a' m
    show ty_SO b sa n ρ ws (match ty_kt x.1 x.2 ty_cC q.2.2.1 with
      | some t => (match ty_cls x.1 x.2 t with
        | some k => (bif Nat.beq k 1 then ty_cs1 (ty_cs1 x.1 (ty_pl w (-29))) (ty_add (ty_k 0) w (-1)) else bif Nat.beq k 0 then ty_cs1 x.1 (ty_add (ty_k 1) w (-1)) else ty_cs1 x.1 (ty_add (ty_k 2) w (-1)), x.2)
        | none => x)
      | none => x)
    split
    · rename_i t ht
      split
      · rename_i k hk
        have g1 := ty_kt_ok h ty_wk.2.2.1 ht h2
        have g0 := ty_cls_ok h g1 hk
        have g2 := ty_dk_ok g0
        have e2 : 1 ≤ ty_htn (ty_ia ws ty_cC.2) a' m + ty_dk k := by
          have : ty_htn (ty_ia ws ty_cC.2) a' (m + 1) = ty_htn (ty_ia ws ty_cC.2) a' m + ty_dl (ty_ia ws ty_cC.2 (a' + m)) := rfl
          rw [g2] at this
          omega
        rcases g0 with ⟨rfl, c1, c2⟩ | ⟨rfl, c1⟩ | ⟨rfl, c1, c2⟩
        · have e3 : ty_ltn (ty_ia ws ty_cC.2) a' (m + 1) = ty_ltn (ty_ia ws ty_cC.2) a' m + 1 := by
            show ty_ltn (ty_ia ws ty_cC.2) a' m + (if 97 ≤ ty_ia ws ty_cC.2 (a' + m) ∧ ty_ia ws ty_cC.2 (a' + m) ≤ 122 then 1 else 0) = _
            rw [if_pos ⟨c1, c2⟩]
          have e4 : 1 ≤ ty_htn (ty_ia ws ty_cC.2) a' m + 1 := e2
          exact (h.cs (t := ty_pl w (-29)) (ty_pl_sc h4.1) (by rw [ty_pl_ev, h4.2]; omega)).cs (t := ty_add (ty_k 0) w (-1)) (ty_add_sc ty_k_sc h4.1) (by rw [ty_sub_ev, ty_k_ev, h4.2]; omega)
        · have e4 : 1 ≤ ty_htn (ty_ia ws ty_cC.2) a' m + 0 := e2
          exact h.cs (t := ty_add (ty_k 1) w (-1)) (ty_add_sc ty_k_sc h4.1) (by rw [ty_sub_ev, ty_k_ev, h4.2]; omega)
        · have e4 : 1 ≤ ty_htn (ty_ia ws ty_cC.2) a' m + -1 := e2
          exact h.cs (t := ty_add (ty_k 2) w (-1)) (ty_add_sc ty_k_sc h4.1) (by rw [ty_sub_ev, ty_k_ev, h4.2]; omega)
      · exact h
    · exact h
theorem ty_s6_ok {x : ty_X} (h : ty_SO b sa n ρ ws x) {q : ty_Q} (hq : ty_k1 b sa n ρ ws q) (h0 : q.1 = 1002) {w : ty_t} (hw : q.2.2.2 = ty_i w) : ty_SO b sa n ρ ws (ty_s6 q w x) := by
  obtain ⟨a, m, v, z, h1, h2, h3, h4, h5⟩ := ty_g1002 hq h0
  rw [hw] at h3
  injection h3 with h3
  injection h3 with h3
  subst h3
  unfold ty_s6
  split
  · rename_i t ht
    split
    · rename_i k hk
      have g1 := ty_kt_ok h ty_wk.2.2.1 ht h2
      have g0 := ty_cls_ok h g1 hk
      refine h.put1 (⟨rfl, Or.inr (Or.inr (Or.inl ⟨rfl, a, m + 1, _, z + (bif Nat.beq k 1 then 1 else 0), h1, ?_, rfl, ty_is_pl h4 _, ?_⟩))⟩)
      · have := ty_is_pl h2 1
        exact ⟨this.1, this.2.trans (by omega)⟩
      · show ((ty_ltn (ty_ia ws ty_cC.2) a m + (if 97 ≤ ty_ia ws ty_cC.2 (a + m) ∧ ty_ia ws ty_cC.2 (a + m) ≤ 122 then 1 else 0) : Nat) : Int) ≤ _
        rcases g0 with ⟨rfl, c1, c2⟩ | ⟨rfl, c1⟩ | ⟨rfl, c1, c2⟩
        · rw [if_pos ⟨c1, c2⟩]
          show _ ≤ z + 1
          omega
        · rw [if_neg (by omega)]
          show _ ≤ z + 0
          omega
        · rw [if_neg c1]
          show _ ≤ z + 0
          omega
    · exact h
  · exact h
theorem ty_s9_ok {x : ty_X} (h : ty_SO b sa n ρ ws x) (hr : ∀ i, ty_ia ws ty_cW.2 i ≤ 8) {q : ty_Q} (hq : ty_k1 b sa n ρ ws q) (h0 : q.1 = ty_cW.1) {t : ty_t} (hw : q.2.2.2 = ty_i t) : ty_SO b sa n ρ ws (ty_s9 q t x) := by
  unfold ty_s9
  cases hb : (ty_sm x.1 q.2.1 (ty_k (ty_cW.2 : Int)) && ty_le (ty_hi x.1 t) 7 && (match ty_kt x.1 x.2 ty_cW (ty_k 0) with
    | some u => ty_le 8 (ty_lo x.1 u)
    | none => false)) with
  | false => exact h
  | true =>
    obtain ⟨b1, b2⟩ := ex_and hb
    obtain ⟨b1, b3⟩ := ex_and b1
    have b3 := ty_le_t b3
    have e0 := ty_w0 h b2 hr
    rcases hq with ⟨hg, j, i, a, ev, y, z1, z2, z3, z4, z5, z6, z7⟩ | ⟨hg, -⟩
    · have hn := h.2.1
      have e1 := ty_sm_ok h.1 b1 (by rw [hn]; exact z1) (ty_is_k _ _ _)
      have e1 : j = ty_cW.2 := by omega
      subst e1
      rw [hw] at z7
      obtain ⟨w, rfl, hw'⟩ := z7
      have e2 : ty_ia ws ty_cW.2 i = w.toInt := by
        unfold ty_ia
        rw [z4]
        dsimp only
        rw [z5]
      have e3 := (ty_lh h.1 hw'.2).2
      have hi : i ≠ 0 := fun z => by
        subst z
        omega
      exact h.cs (t := ty_add (ty_k 1) q.2.2.1 (-1)) (ty_add_sc ty_k_sc z2.1) (by rw [ty_sub_ev, ty_k_ev, z2.2]; omega)
    · rw [h0] at hg; cases hg
theorem ty_sg_ok {x : ty_X} (h : ty_SO b sa n ρ ws x) {tj t s : ty_t} {i : Nat} {z y : Int} (hj : ty_is n ρ tj (i : Int)) (ht : ty_is n ρ t z) (hs : ty_is n ρ s y) (hb : ty_sgb x.1 x.2 tj t s = true) : ty_sg i z y := by
  obtain ⟨l1, l2⟩ := ty_lh h.1 ht.2
  have ks : ∀ k0 : Nat, (match ty_cls x.1 x.2 s with
    | some k => Nat.beq k k0
    | none => false) = true → ty_clP k0 y := fun k0 hk => by
    split at hk
    · rename_i k hc
      have := ex_beq hk
      subst this
      exact ty_cls_ok h hs hc
    · cases hk
  obtain ⟨hj0, hb⟩ := ex_and hb
  have h3 : 1 ≤ i → z ≤ 7 := fun hi => by
    rcases Bool.or_eq_true _ _ |>.mp hj0 with c1 | c1
    · have c1 := ty_le_t c1
      omega
    · have c1 := ty_ent_ok h.1 c1
      rw [hj.2] at c1
      omega
  rcases Bool.or_eq_true _ _ |>.mp hb with c1 | hb
  · have c1 := ty_le_t c1
    exact ⟨fun _ => by omega, fun _ _ => by omega, h3⟩
  rcases Bool.or_eq_true _ _ |>.mp hb with c1 | c1
  · obtain ⟨c1, c2⟩ := ex_and c1
    obtain ⟨c1, c3⟩ := ex_and c1
    have c1 := ty_le_t c1
    have c3 := ty_le_t c3
    rcases ks 0 c2 with ⟨g, -⟩ | ⟨-, g⟩ | ⟨g, -⟩
    · cases g
    · exact ⟨fun _ => g, fun _ _ => by omega, h3⟩
    · cases g
  · obtain ⟨c1, c2⟩ := ex_and c1
    rcases ks 2 c2 with ⟨g, -⟩ | ⟨g, -⟩ | ⟨-, g⟩
    · cases g
    · cases g
    · refine ⟨fun e => ?_, fun _ _ => g, h3⟩
      rcases Bool.or_eq_true _ _ |>.mp c1 with c1 | c1
      · have c1 := ty_le_t c1
        omega
      · obtain ⟨c1, c3⟩ := ex_and c1
        have c1 := ty_le_t c1
        omega
theorem ty_s16_ok {x : ty_X} (h : ty_SO b sa n ρ ws x) {q : ty_Q} (hq : ty_k1 b sa n ρ ws q) (h0 : q.1 = ty_cW.1) {t : ty_t} (hw : q.2.2.2 = ty_i t) : ty_SO b sa n ρ ws (ty_s16 q t x) := by
  unfold ty_s16
  cases hb : (ty_sm x.1 q.2.1 (ty_k (ty_cW.2 : Int)) && ty_le 8 (ty_lo x.1 t) && ex_any (fun r => Nat.beq r.1 1006 && ty_ent x.1 (ty_pl (ty_add q.2.2.1 r.2.2.1 (-1)) 1)) x.2) with
  | false => exact h
  | true =>
    obtain ⟨b1, b2⟩ := ex_and hb
    obtain ⟨b1, b3⟩ := ex_and b1
    have b3 := ty_le_t b3
    rcases hq with ⟨hg, j, i, a, ev, y, z1, z2, z3, z4, z5, z6, z7⟩ | ⟨hg, -⟩
    · have hn := h.2.1
      have e1 := ty_sm_ok h.1 b1 (by rw [hn]; exact z1) (ty_is_k _ _ _)
      have e1 : j = ty_cW.2 := by omega
      subst e1
      rw [hw] at z7
      obtain ⟨w, rfl, hw'⟩ := z7
      have e2 : ty_ia ws ty_cW.2 i = w.toInt := by
        unfold ty_ia
        rw [z4]
        dsimp only
        rw [z5]
      have e3 := (ty_lh h.1 hw'.2).1
      obtain ⟨r, r1, r2⟩ := ty_any_t b2
      obtain ⟨r2, r3⟩ := ex_and r2
      obtain ⟨m, k1, k2⟩ := ty_g1006 (h.2.2 r r1) (ex_beq r2)
      have r3 := ty_ent_ok h.1 r3
      rw [ty_pl_ev, ty_sub_ev, z2.2, k1.2] at r3
      have k3 := (k2 i (by omega)).2.2
      have hi : i = 0 := by
        by_cases e : i = 0
        · exact e
        · have := k3 (by omega)
          omega
      exact h.cs (t := q.2.2.1) z2.1 (by rw [z2.2]; omega)
    · rw [h0] at hg; cases hg
theorem ty_s7_ok {x : ty_X} (h : ty_SO b sa n ρ ws x) {q : ty_Q} (hq : ty_k1 b sa n ρ ws q) (h0 : q.1 = 1006) : ty_SO b sa n ρ ws (ty_s7 q x) := by
  obtain ⟨i, h1, h2⟩ := ty_g1006 hq h0
  unfold ty_s7
  split
  · rename_i t s ht hs
    have g1 := ty_kt_ok h ty_wk.1 ht h1
    have g2 := ty_kt_ok h ty_wk.2.1 hs h1
    cases hb : ty_sgb x.1 x.2 q.2.2.1 t s with
    | false => exact h
    | true =>
      have g3 := ty_sg_ok h h1 g1 g2 hb
      refine h.put1 (⟨rfl, Or.inr (Or.inr (Or.inr (Or.inr (Or.inr (Or.inl ⟨rfl, i + 1, ?_, fun j hj => ?_⟩)))))⟩)
      · have := ty_is_pl h1 1
        exact ⟨this.1, this.2.trans (by omega)⟩
      · by_cases e : j = i
        · subst e
          exact g3
        · exact h2 j (by omega)
  · exact h
theorem ty_s13_ok {x : ty_X} (h : ty_SO b sa n ρ ws x) {q : ty_Q} (hq : ty_k1 b sa n ρ ws q) (h0 : q.1 = 1006) : ty_SO b sa n ρ ws (ty_s13 q x) := by
  obtain ⟨i, h1, h2⟩ := ty_g1006 hq h0
  unfold ty_s13
  cases hb : ty_ent x.1 (ty_add (ty_k 1) q.2.2.1 (-1)) with
  | false => exact h
  | true =>
    have b1 := ty_ent_ok h.1 hb
    rw [ty_sub_ev, ty_k_ev, h1.2] at b1
    show ty_SO b sa n ρ ws (match ty_kt x.1 x.2 ty_cW (ty_pl q.2.2.1 (-1)) with
      | some _ => (x.1, ty_put x.1 x.2 (1006, q.2.1, ty_pl q.2.2.1 (-1), q.2.2.2))
      | none => x)
    split
    · refine h.put1 (⟨rfl, Or.inr (Or.inr (Or.inr (Or.inr (Or.inr (Or.inl ⟨rfl, i - 1, ?_, fun j hj => h2 j (by omega)⟩)))))⟩)
      have := ty_is_pl h1 (-1)
      exact ⟨this.1, this.2.trans (by omega)⟩
    · exact h
theorem ty_s8_ok {x : ty_X} (h : ty_SO b sa n ρ ws x) {q : ty_Q} (hq : ty_k1 b sa n ρ ws q) (h0 : q.1 = ty_cS.1) {s : ty_t} (hw : q.2.2.2 = ty_i s) : ty_SO b sa n ρ ws (ty_s8 q s x) := by
  unfold ty_s8
  cases hb : (ty_sm x.1 q.2.1 (ty_k (ty_cS.2 : Int)) && ex_any (fun r => Nat.beq r.1 1006 && ty_ent x.1 (ty_pl (ty_add q.2.2.1 r.2.2.1 (-1)) 1)) x.2) with
  | false => exact h
  | true =>
    obtain ⟨b1, b2⟩ := ex_and hb
    rcases hq with ⟨hg, j, i, a, ev, y, z1, z2, z3, z4, z5, z6, z7⟩ | ⟨hg, -⟩
    · have hn := h.2.1
      have e1 := ty_sm_ok h.1 b1 (by rw [hn]; exact z1) (ty_is_k _ _ _)
      have e1 : j = ty_cS.2 := by omega
      subst e1
      rw [hw] at z7
      obtain ⟨w, rfl, hw'⟩ := z7
      have e2 : ty_ia ws ty_cS.2 i = w.toInt := by
        unfold ty_ia
        rw [z4]
        dsimp only
        rw [z5]
      obtain ⟨r, r1, r2⟩ := ty_any_t b2
      obtain ⟨r2, r3⟩ := ex_and r2
      obtain ⟨m, k1, k2⟩ := ty_g1006 (h.2.2 r r1) (ex_beq r2)
      have r3 := ty_ent_ok h.1 r3
      rw [ty_pl_ev, ty_sub_ev, z2.2, k1.2] at r3
      have k3 := k2 i (by omega)
      rw [e2] at k3
      show ty_SO b sa n ρ ws (match ty_kt x.1 x.2 ty_cW q.2.2.1 with
        | some t => bif ty_le 3 (ty_lo x.1 t) && ty_le (ty_hi x.1 t) 3 then (ty_cs1 (ty_cs1 x.1 (ty_pl s (-126))) (ty_add (ty_k 126) s (-1)), x.2) else bif ty_le (ty_hi x.1 t) 2 || (ty_le 4 (ty_lo x.1 t) && ty_le (ty_hi x.1 t) 6) then (x.1, ty_put x.1 x.2 (1007, s, ty_k 0, ty_z)) else x
        | none => x)
      split
      · rename_i t ht
        have g1 := ty_kt_ok h ty_wk.1 ht z2
        obtain ⟨l1, l2⟩ := ty_lh h.1 g1.2
        cases hc : (ty_le 3 (ty_lo x.1 t) && ty_le (ty_hi x.1 t) 3) with
        | true =>
          obtain ⟨c1, c2⟩ := ex_and hc
          have c1 := ty_le_t c1
          have c2 := ty_le_t c2
          have c3 := k3.1 (by omega)
          exact (h.cs (t := ty_pl s (-126)) (ty_pl_sc hw'.1) (by rw [ty_pl_ev, hw'.2]; omega)).cs (t := ty_add (ty_k 126) s (-1)) (ty_add_sc ty_k_sc hw'.1) (by rw [ty_sub_ev, ty_k_ev, hw'.2]; omega)
        | false =>
          show ty_SO b sa n ρ ws (bif ty_le (ty_hi x.1 t) 2 || (ty_le 4 (ty_lo x.1 t) && ty_le (ty_hi x.1 t) 6) then (x.1, ty_put x.1 x.2 (1007, s, ty_k 0, ty_z)) else x)
          cases hd : (ty_le (ty_hi x.1 t) 2 || (ty_le 4 (ty_lo x.1 t) && ty_le (ty_hi x.1 t) 6)) with
          | false => exact h
          | true =>
            have c4 : ty_ia ws ty_cW.2 i ≤ 6 ∧ ty_ia ws ty_cW.2 i ≠ 3 := by
              rcases Bool.or_eq_true _ _ |>.mp hd with c2 | c2
              · have c2 := ty_le_t c2
                omega
              · obtain ⟨c2, c3⟩ := ex_and c2
                have c2 := ty_le_t c2
                have c3 := ty_le_t c3
                omega
            exact h.put1 (⟨rfl, Or.inr (Or.inr (Or.inr (Or.inr (Or.inr (Or.inr ⟨rfl, w.toInt, hw', k3.2.1 c4.1 c4.2⟩)))))⟩)
      · exact h
    · rw [h0] at hg; cases hg
theorem ty_g1003 {q : ty_Q} (h : ty_k1 b sa n ρ ws q) (hq : q.1 = 1003) : ∃ (b r : Nat) (v : ty_t) (z : Int), ty_is n ρ q.2.1 (b : Int) ∧ ty_is n ρ q.2.2.1 (r : Int) ∧ q.2.2.2 = ty_i v ∧ ty_is n ρ v z ∧ ((ty_ia ws ty_cT.2 b / 2 ^ r) % 2 = 1 → ∃ a m : Nat, ty_ia ws ty_cF.2 (2 * b + r) = (a : Int) ∧ ty_ia ws ty_cO.2 (2 * b + r) = ((a + m : Nat) : Int) ∧ 560 * b ≤ a ∧ ((a + m : Nat) : Int) ≤ z ∧ ty_vl (ty_ia ws ty_cC.2) a m ∧ ty_ltn (ty_ia ws ty_cC.2) a m ≤ 30) := by
  rcases ty_sgh h (by rw [hq]; rfl) (by omega) with ⟨g, -⟩ | ⟨g, -⟩ | ⟨g, -⟩ | ⟨-, g⟩ | ⟨g, -⟩ | ⟨g, -⟩ | ⟨g, -⟩
  · omega
  · omega
  · omega
  · exact g
  all_goals omega
theorem ty_bit_i (c r : Nat) : ((c : Int) / 2 ^ r) % 2 = ((c / 2 ^ r % 2 : Nat) : Int) := by
  have h1 : ((2 ^ r : Nat) : Int) = (2 : Int) ^ r := by
    rw [Int.natCast_pow]
    rfl
  rw [← h1]
  omega
theorem ty_cstv {x : ty_X} (h : ty_SO b sa n ρ ws x) {t : ty_t} {c : Nat} (hc : ty_cst x.1 t = some (.ofNat c)) {z : Int} (ht : ty_is n ρ t z) : z = (c : Int) := by
  have := ty_cst_ok h.1 hc
  rw [ht.2] at this
  exact this
theorem ty_s10_ok {x : ty_X} (h : ty_SO b sa n ρ ws x) {q : ty_Q} (hq : ty_k1 b sa n ρ ws q) (h0 : q.1 = 1003) {w : ty_t} (hw : q.2.2.2 = ty_i w) : ty_SO b sa n ρ ws (ty_s10 q w x) := by
  obtain ⟨bb, r, v, zz, h1, h2, hv, hz, h3⟩ := ty_g1003 hq h0
  rw [hw] at hv
  injection hv with hv
  injection hv with hv
  subst hv
  unfold ty_s10
  split
  · rename_i r' hr'
    have er := ty_cstv h hr' h2
    have er : r = r' := by omega
    subst er
    split
    · rename_i t F T ht hF hT
      split
      · rename_i c hc
        cases hb : ty_bit c r with
        | false => exact h
        | true =>
          have hb := ex_beq hb
          have g1 := ty_kt_ok h ty_wk.2.2.2.1 ht h1
          have hsl : ty_is n ρ (ty_add q.2.2.1 q.2.1 2) ((2 * bb + r : Nat) : Int) := by
            have := ty_is_add h2 h1 2
            exact ⟨this.1, this.2.trans (by omega)⟩
          have g2 := ty_kt_ok h ty_wk.2.2.2.2.1 hF hsl
          have g3 := ty_kt_ok h ty_wk.2.2.2.2.2 hT hsl
          have ec := ty_cstv h hc g1
          obtain ⟨a, m, k1, k2, k3, k4, k5, k6⟩ := h3 (by rw [ec, ty_bit_i, hb]; rfl)
          rw [k1] at g2
          rw [k2] at g3
          have hp := h.put1 (q := (1004, F, T, ty_z)) (⟨rfl, Or.inr (Or.inr (Or.inr (Or.inr (Or.inl ⟨rfl, a, m, g2, g3, k5, k6⟩))))⟩)
          exact (hp.cs (t := ty_add (ty_add (ty_k 0) q.2.1 560) F (-1)) (ty_add_sc (ty_add_sc ty_k_sc h1.1) g2.1) (by rw [ty_sub_ev, ty_add_ev, ty_k_ev, h1.2, g2.2]; omega)).cs (t := ty_add T w (-1)) (ty_add_sc g3.1 hz.1) (by rw [ty_sub_ev, hz.2, g3.2]; omega)
      · exact h
    · exact h
  · exact h
theorem ty_s11_ok {x : ty_X} (h : ty_SO b sa n ρ ws x) (r : Nat) {q : ty_Q} (hq : ty_k1 b sa n ρ ws q) (h0 : q.1 = ty_cT.1) {t : ty_t} (hw : q.2.2.2 = ty_i t) : ty_SO b sa n ρ ws (ty_s11 r q t x) := by
  unfold ty_s11
  cases hb : ty_sm x.1 q.2.1 (ty_k (ty_cT.2 : Int)) with
  | false => exact h
  | true =>
    rcases hq with ⟨hg, j, i, a, ev, y, z1, z2, z3, z4, z5, z6, z7⟩ | ⟨hg, -⟩
    · have hn := h.2.1
      have e1 := ty_sm_ok h.1 hb (by rw [hn]; exact z1) (ty_is_k _ _ _)
      have e1 : j = ty_cT.2 := by omega
      subst e1
      rw [hw] at z7
      obtain ⟨w, rfl, hw'⟩ := z7
      have e2 : ty_ia ws ty_cT.2 i = w.toInt := by
        unfold ty_ia
        rw [z4]
        dsimp only
        rw [z5]
      show ty_SO b sa n ρ ws (match ty_cst x.1 t with
        | some (.ofNat c) => bif ty_bit c r then x else (x.1, ty_put x.1 x.2 (1003, q.2.2.1, ty_k (r : Int), ty_i (ty_k 0)))
        | _ => x)
      split
      · rename_i c hc
        have ec := ty_cstv h hc hw'
        cases hd : ty_bit c r with
        | true => exact h
        | false =>
          have hd := ex_bne hd
          refine h.put1 (⟨rfl, Or.inr (Or.inr (Or.inr (Or.inl ⟨rfl, i, r, ty_k 0, 0, z2, ty_is_k _ _ _, rfl, ty_is_k _ _ _, fun hx => ?_⟩)))⟩)
          rw [e2, ec, ty_bit_i] at hx
          exact absurd (show c / 2 ^ r % 2 = 1 by omega) hd
      · exact h
    · rw [h0] at hg; cases hg
theorem ty_okS_ok {x : ty_X} (h : ty_SO b sa n ρ ws x) {F T : ty_t} {z y : Int} (hF : ty_is n ρ F z) (hT : ty_is n ρ T y) (hb : ty_okS x F T = true) : ∃ a m : Nat, z = (a : Int) ∧ y = ((a + m : Nat) : Int) ∧ ty_vl (ty_ia ws ty_cC.2) a m ∧ ty_ltn (ty_ia ws ty_cC.2) a m ≤ 30 := by
  have hn := h.2.1
  rcases Bool.or_eq_true _ _ |>.mp hb with hb | hb
  · obtain ⟨r, r1, r2⟩ := ty_any_t hb
    obtain ⟨r2, r3⟩ := ex_and r2
    obtain ⟨r3, r4⟩ := ex_and r3
    obtain ⟨a, m, k1, k2, k3, k4⟩ := ty_g1004 (h.2.2 r r1) (ex_beq r2)
    exact ⟨a, m, (ty_sm_ok h.1 r3 (by rw [hn]; exact k1) (by rw [hn]; exact hF)).symm, (ty_sm_ok h.1 r4 (by rw [hn]; exact k2) (by rw [hn]; exact hT)).symm, k3, k4⟩
  · obtain ⟨hb, hb'⟩ := ex_and hb
    obtain ⟨r, r1, r2⟩ := ty_any_t hb
    obtain ⟨r2, r3⟩ := ex_and r2
    obtain ⟨r3, r4⟩ := ex_and r3
    obtain ⟨a, m, v, k1, k2, -, -, k3⟩ := ty_g1001 (h.2.2 r r1) (ex_beq r2)
    obtain ⟨r', p1, p2⟩ := ty_any_t hb'
    obtain ⟨p2, p3⟩ := ex_and p2
    obtain ⟨p3, p4⟩ := ex_and p3
    obtain ⟨p4, p5⟩ := ex_and p4
    obtain ⟨a', m', v', z', j1, j2, j3, j4, j5⟩ := ty_g1002 (h.2.2 r' p1) (ex_beq p2)
    rw [j3] at p5
    have p5 := ty_ent_ok h.1 (show ty_ent x.1 (ty_pl v' (-30)) = true from p5)
    rw [ty_pl_ev, j4.2] at p5
    have e1 := ty_sm_ok h.1 r3 (by rw [hn]; exact k1) (by rw [hn]; exact hF)
    have e2 := ty_sm_ok h.1 r4 (by rw [hn]; exact k2) (by rw [hn]; exact hT)
    have e3 := ty_sm_ok h.1 p3 (by rw [hn]; exact j1) (by rw [hn]; exact hF)
    have e4 := ty_sm_ok h.1 p4 (by rw [hn]; exact j2) (by rw [hn]; exact hT)
    have e5 : a' = a := by omega
    have e6 : m' = m := by omega
    subst e5
    subst e6
    exact ⟨a', m', e1.symm, e2.symm, k3, by omega⟩
theorem ty_s12_ok {x : ty_X} (h : ty_SO b sa n ρ ws x) {q : ty_Q} (hq : ty_k1 b sa n ρ ws q) (h0 : q.1 = ty_cO.1) {T : ty_t} (hw : q.2.2.2 = ty_i T) : ty_SO b sa n ρ ws (ty_s12 q T x) := by
  unfold ty_s12
  cases hb : ty_sm x.1 q.2.1 (ty_k (ty_cO.2 : Int)) with
  | false => exact h
  | true =>
    rcases hq with ⟨hg, j, i, a, ev, y, z1, z2, z3, z4, z5, z6, z7⟩ | ⟨hg, -⟩
    · have hn := h.2.1
      have e1 := ty_sm_ok h.1 hb (by rw [hn]; exact z1) (ty_is_k _ _ _)
      have e1 : j = ty_cO.2 := by omega
      subst e1
      rw [hw] at z7
      obtain ⟨w, rfl, hw'⟩ := z7
      have e2 : ty_ia ws ty_cO.2 i = w.toInt := by
        unfold ty_ia
        rw [z4]
        dsimp only
        rw [z5]
      show ty_SO b sa n ρ ws (match ty_cst x.1 q.2.2.1, ty_kt x.1 x.2 ty_cF q.2.2.1 with
        | some (.ofNat s), some F => bif ty_okS x F T && ty_ent x.1 (ty_add (ty_k (560 * (s / 2 : Nat))) F (-1)) then (x.1, ty_put x.1 x.2 (1003, ty_k ((s / 2 : Nat) : Int), ty_k ((s % 2 : Nat) : Int), ty_i T)) else x
        | _, _ => x)
      split
      · rename_i s F hs hF
        have es := ty_cstv h hs z2
        have es : i = s := by omega
        subst es
        have g2 := ty_kt_ok h ty_wk.2.2.2.2.1 hF z2
        cases hc : (ty_okS x F T && ty_ent x.1 (ty_add (ty_k (560 * (i / 2 : Nat))) F (-1))) with
        | false => exact h
        | true =>
          obtain ⟨c1, c2⟩ := ex_and hc
          obtain ⟨a', m', k1, k2, k3, k4⟩ := ty_okS_ok h g2 hw' c1
          have c2 := ty_ent_ok h.1 c2
          rw [ty_sub_ev, ty_k_ev, g2.2, k1] at c2
          refine h.put1 (⟨rfl, Or.inr (Or.inr (Or.inr (Or.inl ⟨rfl, i / 2, i % 2, T, w.toInt, ty_is_k _ _ _, ty_is_k _ _ _, rfl, hw', fun _ => ⟨a', m', ?_, ?_, by omega, by omega, k3, k4⟩⟩)))⟩)
          · rw [show 2 * (i / 2) + i % 2 = i by omega]
            exact k1
          · rw [show 2 * (i / 2) + i % 2 = i by omega, e2]
            exact k2
      · exact h
    · rw [h0] at hg; cases hg
theorem ty_w8 {tys : List (ClassId × FieldType)} (hth : ty_th tys ws) (i : Nat) : ty_ia ws ty_cW.2 i ≤ 8 := by
  obtain ⟨a, ev, c, h1, h2, h3⟩ := hth ty_cW.2 ty_cW.1 ty_wk.1
  have hc : ty_ct[ty_cW.1]? = some (.inr (0, 90, .inl (0, 8))) := rfl
  rw [hc] at h2
  injection h2 with h2
  subst h2
  cases ev with
  | inr w => exact h3.elim
  | inl w =>
    obtain ⟨-, -, g3, -, g5⟩ := h3
    unfold ty_ia
    rw [h1]
    show (match (if i < w.2.1 then some (ex_ag w.2 i) else none) with
      | some (.int y) => y.toInt
      | _ => 0) ≤ 8
    by_cases hi : i < w.2.1
    · rw [if_pos hi]
      obtain ⟨y, k1, k2, k3⟩ := g5 i (by rw [← g3]; exact hi)
      rw [k1]
      exact k3
    · rw [if_neg hi]
      decide
theorem ty_k1w {q : ty_Q} (hq : ty_k1 b sa n ρ ws q) (hg : ty_isG q.1 = false) {t : ty_t} (hw : q.2.2.2 = ty_i t) : ∃ z : Int, ty_is n ρ t z := by
  rcases hq with ⟨-, j, i, a, ev, y, z1, z2, z3, z4, z5, z6, z7⟩ | ⟨z, -⟩
  · rw [hw] at z7
    obtain ⟨w, -, hw'⟩ := z7
    exact ⟨_, hw'⟩
  · rw [hg] at z; cases z
theorem ty_s14_ok {x : ty_X} (h : ty_SO b sa n ρ ws x) {F : ty_t} (hF : ∃ z : Int, ty_is n ρ F z) : ty_SO b sa n ρ ws (ty_s14 F x) := by
  obtain ⟨z, hF⟩ := hF
  unfold ty_s14
  cases hb : ty_ent x.1 (ty_add (ty_k 0) F (-1)) with
  | false => exact h
  | true =>
    have b1 := ty_ent_ok h.1 hb
    rw [ty_sub_ev, ty_k_ev, hF.2] at b1
    have hN : ty_is n ρ F (z.toNat : Int) := ⟨hF.1, hF.2.trans (by omega)⟩
    exact (h.put1 (q := (1001, F, F, ty_i (ty_k 0))) (⟨rfl, Or.inr (Or.inl ⟨rfl, z.toNat, 0, ty_k 0, hN, hN, rfl, ty_is_k _ _ _, fun m hm => absurd hm (Nat.not_lt_zero _)⟩)⟩)).put1 (q := (1002, F, F, ty_i (ty_k 0))) (⟨rfl, Or.inr (Or.inr (Or.inl ⟨rfl, z.toNat, 0, ty_k 0, 0, hN, hN, rfl, ty_is_k _ _ _, Int.le_refl _⟩))⟩)
theorem ty_s15_ok {x : ty_X} (h : ty_SO b sa n ρ ws x) (q : ty_Q) : ty_SO b sa n ρ ws (ty_s15 q x) := by
  unfold ty_s15
  split
  · exact (h.put1 (q := (1000, ty_k 0, ty_k 0, ty_i (ty_k 0))) (⟨rfl, Or.inl ⟨rfl, 0, ty_k 0, ty_is_k _ _ _, rfl, ty_is_k _ _ _⟩⟩)).put1 (q := (1006, ty_k 0, ty_k 0, ty_z)) (⟨rfl, Or.inr (Or.inr (Or.inr (Or.inr (Or.inr (Or.inl ⟨rfl, 0, ty_is_k _ _ _, fun j hj => absurd hj (Nat.not_lt_zero _)⟩)))))⟩)
  · exact h
theorem ty_sq_ok {x : ty_X} (h : ty_SO b sa n ρ ws x) (hr : ∀ i, ty_ia ws ty_cW.2 i ≤ 8) {q : ty_Q} (hq : ty_k1 b sa n ρ ws q) : ty_SO b sa n ρ ws (ty_sq q x) := by
  unfold ty_sq
  split
  · rename_i w hw
    cases h1 : Nat.beq q.1 1000 with
    | true => exact ty_s3_ok (ty_s2_ok (ty_s1_ok h hr hq (ex_beq h1) hw) hq (ex_beq h1) hw) hq (ex_beq h1) hw
    | false =>
    cases h2 : Nat.beq q.1 1001 with
    | true => exact ty_s4_ok (ty_s5_ok h hq (ex_beq h2) hw) hq (ex_beq h2) hw
    | false =>
    cases h3 : Nat.beq q.1 1002 with
    | true => exact ty_s6_ok h hq (ex_beq h3) hw
    | false =>
    cases h9 : Nat.beq q.1 1003 with
    | true => exact ty_s10_ok h hq (ex_beq h9) hw
    | false =>
    cases h4 : Nat.beq q.1 ty_cW.1 with
    | true => exact ty_s15_ok (ty_s16_ok (ty_s9_ok h hr hq (ex_beq h4) hw) hq (ex_beq h4) hw) q
    | false =>
    cases h8 : Nat.beq q.1 ty_cF.1 with
    | true => exact ty_s14_ok h (ty_k1w hq (by rw [ex_beq h8]; rfl) hw)
    | false =>
    cases h5 : Nat.beq q.1 ty_cS.1 with
    | true => exact ty_s8_ok h hq (ex_beq h5) hw
    | false =>
    cases h6 : Nat.beq q.1 ty_cT.1 with
    | true => exact ty_s11_ok (ty_s11_ok h 0 hq (ex_beq h6) hw) 1 hq (ex_beq h6) hw
    | false =>
    cases h7 : Nat.beq q.1 ty_cO.1 with
    | true => exact ty_s12_ok h hq (ex_beq h7) hw
    | false => exact h
  · cases h2 : Nat.beq q.1 1006 with
    | true => exact ty_s13_ok (ty_s7_ok h hq (ex_beq h2)) hq (ex_beq h2)
    | false => exact h
end TYG
end
section
/-! what fits: rows that are seen; and all rules together -/
noncomputable def ty_zs (x : ty_X) (f : ty_t → Bool) (X Y : ty_t) : Bool := ex_any (fun r => Nat.beq r.1 1009 && (ty_sm x.1 r.2.1 X && (ty_sm x.1 r.2.2.1 Y && (match r.2.2.2 with
  | .inl (.inl z) => f z
  | _ => false)))) x.2
/-- the bit that a row asks of -/
noncomputable def ty_zb (q : ty_Q) (x : ty_X) (f : ty_t → ty_t → Bool) : Bool := match ty_kt x.1 x.2 ty_cH q.2.2.1, ty_kt x.1 x.2 ty_cP q.2.2.1, ty_kt x.1 x.2 ty_cI q.2.2.1 with
  | some h, some y, some s => (match ty_kt x.1 x.2 ty_cB (ty_add h q.2.1 21) with
    | some X => ty_nn (ty_lo x.1 h) && ty_zs x (f s) X y
    | none => false)
  | _, _, _ => false
noncomputable def ty_r1 (q : ty_Q) (k : ty_t) (x : ty_X) : Bool := (match ty_kt x.1 x.2 ty_cA q.2.2.1 with
  | some a => ty_ent x.1 (ty_pl (ty_add k a (-1)) 1)
  | none => false) || ((match ty_kt x.1 x.2 ty_cU q.2.2.1 with
  | some b => ty_ent x.1 (ty_add (ty_k 0) b (-1)) && ty_ent x.1 (ty_add b k (-1))
  | none => false) || ty_zb q x (fun s z => ty_ent x.1 (ty_add z s (-1)) && ty_ent x.1 (ty_add s z (-1))))
noncomputable def ty_r2 (q : ty_Q) (k : ty_t) (x : ty_X) : Bool := (match ty_kt x.1 x.2 ty_cM (ty_k (ty_sn : Int)) with
  | some n => ty_ent x.1 (ty_pl (ty_add q.2.2.1 n (-1)) 1)
  | none => false) && ((match ty_kt x.1 x.2 ty_cA q.2.2.1 with
  | some a => ty_ent x.1 (ty_add a k (-1))
  | none => false) && ((match ty_kt x.1 x.2 ty_cU q.2.2.1 with
  | some b => ty_ent x.1 (ty_pl b 1) || ty_ent x.1 (ty_pl (ty_add k b (-1)) 1)
  | none => false) && ty_zb q x (fun s z => ty_ent x.1 (ty_pl (ty_add z s (-1)) 1) || ty_ent x.1 (ty_pl (ty_add s z (-1)) 1))))
noncomputable def ty_r3 (q : ty_Q) (x : ty_X) : Bool := match ty_kt x.1 x.2 ty_cM (ty_k (ty_sn : Int)) with
  | some n => ty_ent x.1 (ty_add n q.2.2.1 (-1))
  | none => false
noncomputable def ty_t1 (q : ty_Q) (k : ty_t) (x : ty_X) : ty_X := bif ty_r1 q k x then (x.1, ty_put x.1 x.2 (1010, q.2.1, ty_pl q.2.2.1 1, ty_i k)) else x
noncomputable def ty_t2 (q : ty_Q) (k : ty_t) (x : ty_X) : ty_X := bif ty_r3 q x then (x.1, ty_put x.1 x.2 (1011, q.2.1, k, ty_i (ty_k 1))) else x
noncomputable def ty_t3 (q : ty_Q) (k : ty_t) (x : ty_X) : ty_X := bif ty_r2 q k x then (x.1, ty_put x.1 x.2 (1011, q.2.1, k, ty_i (ty_k 0))) else x
noncomputable def ty_t4 (q : ty_Q) (w : ty_t) (x : ty_X) : ty_X := match ty_cst x.1 w with
  | some (.ofNat 1) => (x.1, ty_put x.1 x.2 (1012, q.2.2.1, ty_pl q.2.1 1, ty_z))
  | _ => x
/-- what is known of one: f of its value -/
noncomputable def ty_dv (x : ty_X) (V k : ty_t) (f : ty_t → Bool) : Bool := ex_any (fun r => Nat.beq r.1 1011 && (ty_sm x.1 r.2.1 V && (ty_sm x.1 r.2.2.1 k && (match r.2.2.2 with
  | .inl (.inl z) => f z
  | _ => false)))) x.2
noncomputable def ty_z0 (e : ty_E) (z : ty_t) : Bool := match ty_cst e z with
  | some (.ofNat 0) => true
  | _ => false
noncomputable def ty_t5 (q : ty_Q) (x : ty_X) : ty_X := bif ty_dv x q.2.2.1 q.2.1 (fun _ => true) then (x.1, ty_put x.1 x.2 (1012, q.2.1, ty_pl q.2.2.1 1, ty_z)) else x
noncomputable def ty_t6 (q : ty_Q) (x : ty_X) : ty_X := bif ty_dv x q.2.2.1 q.2.1 (ty_z0 x.1) then (x.1, ty_put x.1 x.2 (1013, q.2.1, ty_pl q.2.2.1 1, ty_z)) else x
noncomputable def ty_t7 (q : ty_Q) (x : ty_X) : ty_X := bif ty_dv x q.2.2.1 q.2.1 (ty_z0 x.1) then (x.1, ty_put x.1 x.2 (1014, q.2.1, ty_pl q.2.2.1 (-1), ty_z)) else x
/-- one there is that fits: not all below are none -/
noncomputable def ty_fe1 (x : ty_X) (k : ty_t) (f : ty_t → Bool) : Option ty_t := List.rec (motive := fun _ => Option ty_t) none (fun r _ ih => bif Nat.beq r.1 1012 && (ty_sm x.1 r.2.1 k && f r.2.2.1) then some r.2.2.1 else ih) x.2
noncomputable def ty_t8 (q : ty_Q) (x : ty_X) : ty_X := match ty_fe1 x q.2.1 (fun _ => true) with
  | some t => (ty_cs1 x.1 (ty_pl (ty_add q.2.2.1 t (-1)) 1), x.2)
  | none => x
noncomputable def ty_t9 (q : ty_Q) (x : ty_X) : ty_X := match ty_fe1 x q.2.1 (fun t => ty_ent x.1 (ty_pl t (-100))) with
  | some _ => (ty_cs1 x.1 (ty_add (ty_k 0) q.2.2.1 (-1)), x.2)
  | none => x
noncomputable def ty_sr2 (q : ty_Q) (x : ty_X) : ty_X := match q.2.2.2 with
  | .inl (.inl w) => bif Nat.beq q.1 1010 then ty_t3 q w (ty_t2 q w (ty_t1 q w x)) else bif Nat.beq q.1 1011 then ty_t4 q w x else x
  | _ => bif Nat.beq q.1 1012 then ty_t5 q x else bif Nat.beq q.1 1013 then ty_t8 q (ty_t6 q x) else bif Nat.beq q.1 1014 then ty_t9 q (ty_t7 q x) else x
noncomputable def ty_pass (l : ty_K) : ty_X → ty_X := List.rec (motive := fun _ => ty_X → ty_X) (fun x => x) (fun q _ ih x => ih (bif Nat.ble 1010 q.1 then ty_sr2 q x else ty_sq q x)) l
noncomputable def ty_satw (K : ty_K) : Bool := ex_any (fun q => (Nat.ble 1000 q.1 && !(Nat.beq q.1 1008 || Nat.beq q.1 1009)) || (Nat.beq q.1 ty_cT.1 || (Nat.beq q.1 ty_cO.1 || Nat.beq q.1 ty_cW.1))) K
noncomputable def ty_sat2 (x : ty_X) : ty_X := ty_pass x.2 x
noncomputable def ty_sat (e : ty_E) (K : ty_K) : ty_E × ty_K := bif ty_satw K then ty_sat2 (ty_sat2 (e, K)) else (e, K)
section TYU
variable {b : Nat} {sa : Nat → Nat} {n : Nat} {ρ : Nat → Int} {ws : va_W}
theorem ty_g2h {q : ty_Q} (h : ty_k1 b sa n ρ ws q) (hl : 1008 ≤ q.1) : ty_g2 n ρ ws q := by
  rcases h with ⟨z, -⟩ | ⟨-, z⟩
  · have : ty_isG q.1 = true := Nat.ble_eq_true_of_le (by omega)
    rw [this] at z; cases z
  · rcases z with z | z
    · rcases z with ⟨e, -⟩ | ⟨e, -⟩ | ⟨e, -⟩ | ⟨e, -⟩ | ⟨e, -⟩ | ⟨e, -⟩ | ⟨e, -⟩ <;> omega
    · exact z
theorem ty_wk2 : ty_kl[ty_cH.2]? = some ty_cH.1 ∧ ty_kl[ty_cP.2]? = some ty_cP.1 ∧ ty_kl[ty_cI.2]? = some ty_cI.1 ∧ ty_kl[ty_cB.2]? = some ty_cB.1 ∧ ty_kl[ty_cA.2]? = some ty_cA.1 ∧ ty_kl[ty_cU.2]? = some ty_cU.1 ∧ ty_kl[ty_cM.2]? = some ty_cM.1 := by decide +kernel
theorem ty_i32 (x : Int32) : Int32.ofInt x.toInt = x := Int32.ofInt_toInt x
theorem ty_zb_ok {x : ty_X} (h : ty_SO b sa n ρ ws x) {q : ty_Q} {V m : Nat} (h1 : ty_is n ρ q.2.1 (V : Int)) (h2 : ty_is n ρ q.2.2.1 (m : Int)) {f : ty_t → ty_t → Bool} (hb : ty_zb q x f = true) : ∃ s z, ty_is n ρ s (ty_ia ws ty_cI.2 m) ∧ ty_is n ρ z (ty_bt (ty_ia ws ty_cB.2 (21 * V + (ty_ia ws ty_cH.2 m).toNat)) (ty_ia ws ty_cP.2 m)) ∧ f s z = true := by
  unfold ty_zb at hb
  split at hb
  · rename_i th ty ts hh hy hs
    split at hb
    · rename_i X hX
      obtain ⟨b1, b2⟩ := ex_and hb
      have k1 := ty_kt_ok h ty_wk2.1 hh h2
      have k2 := ty_kt_ok h ty_wk2.2.1 hy h2
      have k3 := ty_kt_ok h ty_wk2.2.2.1 hs h2
      have b1 := ty_nn_t b1
      have l1 := (ty_lh h.1 k1.2).1
      have hi : ty_is n ρ (ty_add th q.2.1 21) ((21 * V + (ty_ia ws ty_cH.2 m).toNat : Nat) : Int) := by
        have := ty_is_add k1 h1 21
        exact ⟨this.1, this.2.trans (by omega)⟩
      have k4 := ty_kt_ok h ty_wk2.2.2.2.1 hX hi
      obtain ⟨r, r1, r2⟩ := ty_any_t b2
      obtain ⟨r2, r3⟩ := ex_and r2
      obtain ⟨r3, r4⟩ := ex_and r3
      obtain ⟨r4, r5⟩ := ex_and r4
      have r2 := ex_beq r2
      have hn := h.2.1
      rcases ty_g2h (h.2.2 r r1) (by omega) with ⟨g, -⟩ | ⟨-, x0, y0, v, g1, g2, g3, g4⟩ | ⟨g, -⟩ | ⟨g, -⟩ | ⟨g, -⟩ | ⟨g, -⟩ | ⟨g, -⟩
      · omega
      · rw [g3] at r5
        have e1 := ty_sm_ok h.1 r3 (by rw [hn]; exact g1) (by rw [hn]; exact k4)
        have e2 := ty_sm_ok h.1 r4 (by rw [hn]; exact g2) (by rw [hn]; exact k2)
        refine ⟨ts, v, k3, ?_, r5⟩
        unfold ty_bt
        rw [← e1, ← e2, ty_i32, ty_i32]
        exact g4
      all_goals omega
    · cases hb
  · cases hb
theorem ty_r1_ok {x : ty_X} (h : ty_SO b sa n ρ ws x) {q : ty_Q} {V m : Nat} {tk : ty_t} {k : Int} (h1 : ty_is n ρ q.2.1 (V : Int)) (h2 : ty_is n ρ q.2.2.1 (m : Int)) (hk : ty_is n ρ tk k) (hb : ty_r1 q tk x = true) : ty_rw ws V k m := by
  unfold ty_r1 at hb
  rcases Bool.or_eq_true _ _ |>.mp hb with hb | hb
  · split at hb
    · rename_i a ha
      have k1 := ty_kt_ok h ty_wk2.2.2.2.2.1 ha h2
      have hb := ty_ent_ok h.1 hb
      rw [ty_pl_ev, ty_sub_ev, hk.2, k1.2] at hb
      exact Or.inl (by omega)
    · cases hb
  rcases Bool.or_eq_true _ _ |>.mp hb with hb | hb
  · split at hb
    · rename_i a ha
      have k1 := ty_kt_ok h ty_wk2.2.2.2.2.2.1 ha h2
      obtain ⟨b1, b2⟩ := ex_and hb
      have b1 := ty_ent_ok h.1 b1
      have b2 := ty_ent_ok h.1 b2
      rw [ty_sub_ev, ty_k_ev, k1.2] at b1
      rw [ty_sub_ev, hk.2, k1.2] at b2
      exact Or.inr (Or.inl ⟨by omega, by omega⟩)
    · cases hb
  · obtain ⟨s, z, k1, k2, k3⟩ := ty_zb_ok h h1 h2 hb
    obtain ⟨b1, b2⟩ := ex_and k3
    have b1 := ty_ent_ok h.1 b1
    have b2 := ty_ent_ok h.1 b2
    rw [ty_sub_ev, k1.2, k2.2] at b1
    rw [ty_sub_ev, k1.2, k2.2] at b2
    exact Or.inr (Or.inr (by omega))
theorem ty_r2_ok {x : ty_X} (h : ty_SO b sa n ρ ws x) {q : ty_Q} {V m : Nat} {tk : ty_t} {k : Int} (h1 : ty_is n ρ q.2.1 (V : Int)) (h2 : ty_is n ρ q.2.2.1 (m : Int)) (hk : ty_is n ρ tk k) (hb : ty_r2 q tk x = true) : ¬ ty_ff ws V k := by
  unfold ty_r2 at hb
  obtain ⟨b0, hb⟩ := ex_and hb
  obtain ⟨b1, hb⟩ := ex_and hb
  obtain ⟨b2, b3⟩ := ex_and hb
  have c0 : (m : Int) < ty_ia ws ty_cM.2 ty_sn := by
    split at b0
    · rename_i a ha
      have k1 := ty_kt_ok h ty_wk2.2.2.2.2.2.2 ha (ty_is_k _ _ _)
      have b0 := ty_ent_ok h.1 b0
      rw [ty_pl_ev, ty_sub_ev, h2.2, k1.2] at b0
      omega
    · cases b0
  have c1 : ty_ia ws ty_cA.2 m ≤ k := by
    split at b1
    · rename_i a ha
      have k1 := ty_kt_ok h ty_wk2.2.2.2.2.1 ha h2
      have b1 := ty_ent_ok h.1 b1
      rw [ty_sub_ev, hk.2, k1.2] at b1
      omega
    · cases b1
  have c2 : ty_ia ws ty_cU.2 m < 0 ∨ k < ty_ia ws ty_cU.2 m := by
    split at b2
    · rename_i a ha
      have k1 := ty_kt_ok h ty_wk2.2.2.2.2.2.1 ha h2
      rcases Bool.or_eq_true _ _ |>.mp b2 with b2 | b2
      · have b2 := ty_ent_ok h.1 b2
        rw [ty_pl_ev, k1.2] at b2
        exact Or.inl (by omega)
      · have b2 := ty_ent_ok h.1 b2
        rw [ty_pl_ev, ty_sub_ev, hk.2, k1.2] at b2
        exact Or.inr (by omega)
    · cases b2
  obtain ⟨s, z, k1, k2, k3⟩ := ty_zb_ok h h1 h2 b3
  have c3 : ty_bt (ty_ia ws ty_cB.2 (21 * V + (ty_ia ws ty_cH.2 m).toNat)) (ty_ia ws ty_cP.2 m) ≠ ty_ia ws ty_cI.2 m := by
    rcases Bool.or_eq_true _ _ |>.mp k3 with b | b
    · have b := ty_ent_ok h.1 b
      rw [ty_pl_ev, ty_sub_ev, k1.2, k2.2] at b
      omega
    · have b := ty_ent_ok h.1 b
      rw [ty_pl_ev, ty_sub_ev, k1.2, k2.2] at b
      omega
  intro hf
  rcases hf m c0 with d | d | d
  · omega
  · omega
  · exact c3 d
theorem ty_t123_ok {x : ty_X} (h : ty_SO b sa n ρ ws x) {q : ty_Q} (hq : ty_k1 b sa n ρ ws q) (h0 : q.1 = 1010) {w : ty_t} (hw : q.2.2.2 = ty_i w) : ty_SO b sa n ρ ws (ty_t3 q w (ty_t2 q w (ty_t1 q w x))) := by
  rcases ty_g2h hq (by omega) with ⟨g, -⟩ | ⟨g, -⟩ | ⟨-, V, m, v, k, h1, h2, h3, h4, h5⟩ | ⟨g, -⟩ | ⟨g, -⟩ | ⟨g, -⟩ | ⟨g, -⟩
  · omega
  · omega
  · rw [hw] at h3
    injection h3 with h3
    injection h3 with h3
    subst h3
    have s1 : ty_SO b sa n ρ ws (ty_t1 q w x) := by
      unfold ty_t1
      cases hb : ty_r1 q w x with
      | false => exact h
      | true =>
        have g := ty_r1_ok h h1 h2 h4 hb
        refine h.put2 ⟨rfl, Or.inr (Or.inr (Or.inl ⟨rfl, V, m + 1, w, k, h1, ?_, rfl, h4, fun j hj => ?_⟩))⟩
        · have := ty_is_pl h2 1
          exact ⟨this.1, this.2.trans (by omega)⟩
        · by_cases e : j = m
          · subst e
            exact g
          · exact h5 j (by omega)
    have s2 : ty_SO b sa n ρ ws (ty_t2 q w (ty_t1 q w x)) := by
      unfold ty_t2
      cases hb : ty_r3 q (ty_t1 q w x) with
      | false => exact s1
      | true =>
        refine s1.put2 ⟨rfl, Or.inr (Or.inr (Or.inr (Or.inl ⟨rfl, V, k, ty_k 1, 1, h1, h4, rfl, ty_is_k _ _ _, fun _ j hj => ?_, fun z => absurd z (by decide)⟩)))⟩
        unfold ty_r3 at hb
        split at hb
        · rename_i a ha
          have k1 := ty_kt_ok s1 ty_wk2.2.2.2.2.2.2 ha (ty_is_k _ _ _)
          have hb := ty_ent_ok s1.1 hb
          rw [ty_sub_ev, h2.2, k1.2] at hb
          exact h5 j (by omega)
        · cases hb
    unfold ty_t3
    cases hb : ty_r2 q w (ty_t2 q w (ty_t1 q w x)) with
    | false => exact s2
    | true => exact s2.put2 ⟨rfl, Or.inr (Or.inr (Or.inr (Or.inl ⟨rfl, V, k, ty_k 0, 0, h1, h4, rfl, ty_is_k _ _ _, fun z => absurd z (by decide), fun _ => ty_r2_ok s2 h1 h2 h4 hb⟩)))⟩
  all_goals omega
theorem ty_t4_ok {x : ty_X} (h : ty_SO b sa n ρ ws x) {q : ty_Q} (hq : ty_k1 b sa n ρ ws q) (h0 : q.1 = 1011) {w : ty_t} (hw : q.2.2.2 = ty_i w) : ty_SO b sa n ρ ws (ty_t4 q w x) := by
  rcases ty_g2h hq (by omega) with ⟨g, -⟩ | ⟨g, -⟩ | ⟨g, -⟩ | ⟨-, V, k, v, z, h1, h2, h3, h4, h5, h6⟩ | ⟨g, -⟩ | ⟨g, -⟩ | ⟨g, -⟩
  · omega
  · omega
  · omega
  · rw [hw] at h3
    injection h3 with h3
    injection h3 with h3
    subst h3
    unfold ty_t4
    split
    · rename_i hc
      have e1 := ty_cst_ok h.1 hc
      rw [h4.2] at e1
      refine h.put2 ⟨rfl, Or.inr (Or.inr (Or.inr (Or.inr (Or.inl ⟨rfl, k, V + 1, h2, ?_, V, by omega, h5 e1⟩))))⟩
      have := ty_is_pl h1 1
      exact ⟨this.1, this.2.trans (by omega)⟩
    · exact h
  all_goals omega
theorem ty_dv_ok {x : ty_X} (h : ty_SO b sa n ρ ws x) {tV tk : ty_t} {f : ty_t → Bool} (hb : ty_dv x tV tk f = true) {V k : Int} (h1 : ty_is n ρ tV V) (h2 : ty_is n ρ tk k) : ∃ (W : Nat) (v : ty_t) (z : Int), V = (W : Int) ∧ ty_is n ρ v z ∧ f v = true ∧ (z = 1 → ty_ff ws W k) ∧ (z = 0 → ¬ ty_ff ws W k) := by
  obtain ⟨r, r1, r2⟩ := ty_any_t hb
  obtain ⟨r2, r3⟩ := ex_and r2
  obtain ⟨r3, r4⟩ := ex_and r3
  obtain ⟨r4, r5⟩ := ex_and r4
  have r2 := ex_beq r2
  have hn := h.2.1
  rcases ty_g2h (h.2.2 r r1) (by omega) with ⟨g, -⟩ | ⟨g, -⟩ | ⟨g, -⟩ | ⟨-, W, k', v, z, g1, g2, g3, g4, g5, g6⟩ | ⟨g, -⟩ | ⟨g, -⟩ | ⟨g, -⟩
  · omega
  · omega
  · omega
  · rw [g3] at r5
    have e1 := ty_sm_ok h.1 r3 (by rw [hn]; exact g1) (by rw [hn]; exact h1)
    have e2 := ty_sm_ok h.1 r4 (by rw [hn]; exact g2) (by rw [hn]; exact h2)
    subst e2
    exact ⟨W, v, z, e1.symm, g4, r5, g5, g6⟩
  all_goals omega
theorem ty_z0_ok {e : ty_E} (he : ty_er ρ e) {z : ty_t} {y : Int} (hz : ty_ev ρ z = y) (h : ty_z0 e z = true) : y = 0 := by
  unfold ty_z0 at h
  split at h
  · rename_i hc
    have := ty_cst_ok he hc
    rw [hz] at this
    exact this
  · cases h
theorem ty_t5_ok {x : ty_X} (h : ty_SO b sa n ρ ws x) {q : ty_Q} (hq : ty_k1 b sa n ρ ws q) (h0 : q.1 = 1012) : ty_SO b sa n ρ ws (ty_t5 q x) := by
  rcases ty_g2h hq (by omega) with ⟨g, -⟩ | ⟨g, -⟩ | ⟨g, -⟩ | ⟨g, -⟩ | ⟨-, k, u, h1, h2, V, h3, h4⟩ | ⟨g, -⟩ | ⟨g, -⟩
  · omega
  · omega
  · omega
  · omega
  · unfold ty_t5
    cases ty_dv x q.2.2.1 q.2.1 (fun _ => true) with
    | false => exact h
    | true =>
      refine h.put2 ⟨rfl, Or.inr (Or.inr (Or.inr (Or.inr (Or.inl ⟨rfl, k, u + 1, h1, ?_, V, by omega, h4⟩))))⟩
      have := ty_is_pl h2 1
      exact ⟨this.1, this.2.trans (by omega)⟩
  all_goals omega
theorem ty_fe1_ok {x : ty_X} (h : ty_SO b sa n ρ ws x) {tk : ty_t} {k : Int} (hk : ty_is n ρ tk k) {f : ty_t → Bool} {t : ty_t} (hf : ty_fe1 x tk f = some t) : f t = true ∧ ∃ u : Nat, ty_is n ρ t (u : Int) ∧ ∃ V, V < u ∧ ty_ff ws V k := by
  have key : ∀ l : ty_K, (∀ r ∈ l, r ∈ x.2) → List.rec (motive := fun _ => Option ty_t) none (fun r _ ih => bif Nat.beq r.1 1012 && (ty_sm x.1 r.2.1 tk && f r.2.2.1) then some r.2.2.1 else ih) l = some t → f t = true ∧ ∃ u : Nat, ty_is n ρ t (u : Int) ∧ ∃ V, V < u ∧ ty_ff ws V k := by
    intro l
    induction l with
    | nil => intro _ h; cases h
    | cons r l ih =>
      intro hl hr
      rcases ex_bif (P := fun z => z = some t) hr with ⟨r2, r6⟩ | ⟨-, r6⟩
      · injection r6 with r6
        subst r6
        obtain ⟨r2, r3⟩ := ex_and r2
        obtain ⟨r3, r4⟩ := ex_and r3
        have r2 := ex_beq r2
        have hn := h.2.1
        rcases ty_g2h (h.2.2 r (hl r List.mem_cons_self)) (by omega) with ⟨g, -⟩ | ⟨g, -⟩ | ⟨g, -⟩ | ⟨g, -⟩ | ⟨-, k', u, g1, g2, g3⟩ | ⟨g, -⟩ | ⟨g, -⟩
        · omega
        · omega
        · omega
        · omega
        · have e2 := ty_sm_ok h.1 r3 (by rw [hn]; exact g1) (by rw [hn]; exact hk)
          subst e2
          exact ⟨r4, u, g2, g3⟩
        all_goals omega
      · exact ih (fun r hr => hl r (List.mem_cons_of_mem _ hr)) r6
  exact key x.2 (fun _ h => h) hf
theorem ty_t68_ok {x : ty_X} (h : ty_SO b sa n ρ ws x) {q : ty_Q} (hq : ty_k1 b sa n ρ ws q) (h0 : q.1 = 1013) : ty_SO b sa n ρ ws (ty_t8 q (ty_t6 q x)) := by
  rcases ty_g2h hq (by omega) with ⟨g, -⟩ | ⟨g, -⟩ | ⟨g, -⟩ | ⟨g, -⟩ | ⟨g, -⟩ | ⟨-, k, u, h1, h2, h3⟩ | ⟨g, -⟩
  · omega
  · omega
  · omega
  · omega
  · omega
  · have s1 : ty_SO b sa n ρ ws (ty_t6 q x) := by
      unfold ty_t6
      cases hb : ty_dv x q.2.2.1 q.2.1 (ty_z0 x.1) with
      | false => exact h
      | true =>
        obtain ⟨W, v, z, d1, d2, d3, d4, d5⟩ := ty_dv_ok h hb h2 h1
        have d6 := d5 (ty_z0_ok h.1 d2.2 d3)
        refine h.put2 ⟨rfl, Or.inr (Or.inr (Or.inr (Or.inr (Or.inr (Or.inl ⟨rfl, k, u + 1, h1, ?_, fun V hV => ?_⟩)))))⟩
        · have := ty_is_pl h2 1
          exact ⟨this.1, this.2.trans (by omega)⟩
        · by_cases e : V = u
          · have : V = W := by omega
            subst this
            exact d6
          · exact h3 V (by omega)
    unfold ty_t8
    split
    · rename_i t ht
      obtain ⟨-, u', f1, V, f2, f3⟩ := ty_fe1_ok s1 h1 ht
      have : ¬ V < u := fun hV => h3 V hV f3
      exact s1.cs (t := ty_pl (ty_add q.2.2.1 t (-1)) 1) (ty_pl_sc (ty_add_sc h2.1 f1.1)) (by rw [ty_pl_ev, ty_sub_ev, h2.2, f1.2]; omega)
    · exact s1
  · omega
theorem ty_t79_ok {x : ty_X} (h : ty_SO b sa n ρ ws x) {q : ty_Q} (hq : ty_k1 b sa n ρ ws q) (h0 : q.1 = 1014) : ty_SO b sa n ρ ws (ty_t9 q (ty_t7 q x)) := by
  rcases ty_g2h hq (by omega) with ⟨g, -⟩ | ⟨g, -⟩ | ⟨g, -⟩ | ⟨g, -⟩ | ⟨g, -⟩ | ⟨g, -⟩ | ⟨-, k, u, h1, h2, h3⟩
  · omega
  · omega
  · omega
  · omega
  · omega
  · omega
  · have s1 : ty_SO b sa n ρ ws (ty_t7 q x) := by
      unfold ty_t7
      cases hb : ty_dv x q.2.2.1 q.2.1 (ty_z0 x.1) with
      | false => exact h
      | true =>
        obtain ⟨W, v, z, d1, d2, d3, d4, d5⟩ := ty_dv_ok h hb h2 h1
        have d6 := d5 (ty_z0_ok h.1 d2.2 d3)
        refine h.put2 ⟨rfl, Or.inr (Or.inr (Or.inr (Or.inr (Or.inr (Or.inr ⟨rfl, k, u + -1, h1, ty_is_pl h2 (-1), fun V hV h99 => ?_⟩)))))⟩
        by_cases e : V = W
        · subst e
          exact d6
        · exact h3 V (by omega) h99
    unfold ty_t9
    split
    · rename_i t ht
      obtain ⟨f0, u', f1, V, f2, f3⟩ := ty_fe1_ok s1 h1 ht
      have f0 := ty_ent_ok s1.1 f0
      rw [ty_pl_ev, f1.2] at f0
      have : ¬ u < (V : Int) := fun hV => h3 V hV (by omega) f3
      exact s1.cs (t := ty_add (ty_k 0) q.2.2.1 (-1)) (ty_add_sc ty_k_sc h2.1) (by rw [ty_sub_ev, ty_k_ev, h2.2]; omega)
    · exact s1
theorem ty_sr2_ok {x : ty_X} (h : ty_SO b sa n ρ ws x) {q : ty_Q} (hq : ty_k1 b sa n ρ ws q) : ty_SO b sa n ρ ws (ty_sr2 q x) := by
  unfold ty_sr2
  split
  · rename_i w hw
    cases h1 : Nat.beq q.1 1010 with
    | true => exact ty_t123_ok h hq (ex_beq h1) hw
    | false =>
    cases h2 : Nat.beq q.1 1011 with
    | true => exact ty_t4_ok h hq (ex_beq h2) hw
    | false => exact h
  · cases h1 : Nat.beq q.1 1012 with
    | true => exact ty_t5_ok h hq (ex_beq h1)
    | false =>
    cases h2 : Nat.beq q.1 1013 with
    | true => exact ty_t68_ok h hq (ex_beq h2)
    | false =>
    cases h3 : Nat.beq q.1 1014 with
    | true => exact ty_t79_ok h hq (ex_beq h3)
    | false => exact h
theorem ty_pass_ok (hr : ∀ i, ty_ia ws ty_cW.2 i ≤ 8) : ∀ (l : ty_K) {x : ty_X}, ty_SO b sa n ρ ws x → (∀ q ∈ l, ty_k1 b sa n ρ ws q) → ty_SO b sa n ρ ws (ty_pass l x)
  | [], _, h, _ => h
  | q :: l, x, h, hq => by
    have hs : ty_SO b sa n ρ ws (bif Nat.ble 1010 q.1 then ty_sr2 q x else ty_sq q x) := by
      cases Nat.ble 1010 q.1 with
      | true => exact ty_sr2_ok h (hq q List.mem_cons_self)
      | false => exact ty_sq_ok h hr (hq q List.mem_cons_self)
    exact ty_pass_ok hr l hs (fun r hr' => hq r (List.mem_cons_of_mem _ hr'))
theorem ty_sat_ok {tys : List (ClassId × FieldType)} {e : ty_E} {K : ty_K} (hth : ty_th tys ws) (he : ty_er ρ e) (hK : ty_Kr b sa e.1 ρ ws K) : ty_er ρ (ty_sat e K).1 ∧ (ty_sat e K).1.1 = e.1 ∧ ty_Kr b sa e.1 ρ ws (ty_sat e K).2 := by
  have h : ty_SO b sa e.1 ρ ws (e, K) := ⟨he, rfl, hK⟩
  have hp : ∀ x : ty_X, ty_SO b sa e.1 ρ ws x → ty_SO b sa e.1 ρ ws (ty_sat2 x) := fun x hx => ty_pass_ok (ty_w8 hth) x.2 hx hx.2.2
  unfold ty_sat
  cases ty_satw K with
  | false => exact h
  | true => exact hp _ (hp _ h)
end TYU
end
section
/-! the run: calls by contracts or walked through, up to returns and heads -/
abbrev ty_Con : Type := Nat × List ty_V × ty_E × ty_K × List ty_A × ty_M × Nat
noncomputable def ty_unb (th : ty_H) (l : List (Nat × Int)) : List (Nat × Int) := List.rec (motive := fun _ => List (Nat × Int)) [] (fun q _ ih => match ex_lk th q.1 with
  | some _ => ih
  | none => q :: ih) l
/-- one int of a term is not named yet -/
noncomputable def ty_b2 (th : ty_H) (t u : ty_t) : ty_H := match ty_unb th t.2 with
  | [(i, a)] => bif ty_0 (a - 1) then (i, ty_add u (ty_sb th t) (-1)) :: th else th
  | _ => th
noncomputable def ty_b1 (th : ty_H) (t u : ty_t) : ty_H := match t with
  | (c, [(i, a)]) => bif ty_0 c && ty_0 (a - 1) then (match ex_lk th i with
    | some _ => th
    | none => (i, u) :: th) else ty_b2 th t u
  | _ => ty_b2 th t u
noncomputable def ty_bw (th : ty_H) (tv v : ty_V) : ty_H := match tv, v with
  | .inl (.inl t), .inl (.inl u) => ty_b1 th t u
  | .inl (.inr t), .inl (.inr u) => ty_b1 th t u
  | .inr (.inl q), .inr (.inl r) => ty_b1 th q.2 r.2
  | _, _ => th
noncomputable def ty_bvs (l : List ty_V) : List ty_V → ty_H → ty_H := List.rec (motive := fun _ => List ty_V → ty_H → ty_H) (fun _ th => th) (fun tv _ ih r th => match r with
  | [] => th
  | v :: t => ih t (ty_bw th tv v)) l
noncomputable def ty_gfd (e : ty_E) (th : ty_H) (K : ty_K) (q : ty_Q) : Option ty_V := List.rec (motive := fun _ => Option ty_V) none (fun r _ ih => bif Nat.beq r.1 q.1 && (ty_eqv e (ty_sb th q.2.1) r.2.1 && ty_eqv e (ty_sb th q.2.2.1) r.2.2.1) then some r.2.2.2 else ih) K
noncomputable def ty_bK (e : ty_E) (K : ty_K) (T : ty_K) : ty_H → ty_H := List.rec (motive := fun _ => ty_H → ty_H) (fun th => th) (fun q _ ih th => match (bif ty_isG q.1 then ty_gfd e th K q else ty_kf e K q.1 (ty_sb th q.2.1) (ty_sb th q.2.2.1)) with
  | some w => ih (ty_bw th q.2.2.2 w)
  | none => ih th) T
noncomputable def ty_mle (ms' ms : ty_M) : Bool := ty_every (fun q => ty_al ms q.1 q.2) ms'
noncomputable def ty_pa (n : Nat) (K : ty_K) (po : ty_A) (x : ty_E × ty_H) : List ty_A := match ty_rfs (ex_map (ty_sb x.2) po.1.2.2) x.1 with
  | none => []
  | some e3 => [(e3, ex_map (ty_sbv x.2) po.2.1, ex_app (ex_map (ty_sbk x.2) po.2.2) K)]
noncomputable def ty_pas (n : Nat) (e : ty_E) (K : ty_K) (th : ty_H) (l : List ty_A) : List ty_A := List.rec (motive := fun _ => List ty_A) [] (fun po _ ih => ex_app (ty_pa n K po (ty_pfr po.1.2.1 (ex_range (po.1.1 - n) n) e th)) ih) l
noncomputable def ty_app1 (C : ty_Con) (as : List ty_V) (e1 : ty_E) (K1 : ty_K) (th : ty_H) : Option (List ty_A) := bif ty_vms e1 th C.2.2.1.1 C.2.1 as && (ty_insE e1 th C.2.2.1 && ty_kms e1 th C.2.2.1.1 K1 C.2.2.2.1) then some (ty_pas C.2.2.1.1 e1 (ty_kfm C.2.2.2.2.2.1 K1) th C.2.2.2.2.1) else none
noncomputable def ty_app2 (C : ty_Con) (as : List ty_V) (x : ty_E × ty_K) : Option (List ty_A) := ty_app1 C as x.1 x.2 (ty_bK x.1 x.2 C.2.2.2.1 (ty_bvs C.2.1 as []))
noncomputable def ty_app (C : ty_Con) (j d : Nat) (ms : ty_M) (e : ty_E) (K : ty_K) (as : List ty_V) : Option (List ty_A) := bif Nat.beq C.1 j && (Nat.ble C.2.2.2.2.2.2 d && ty_mle C.2.2.2.2.2.1 ms) then ty_app2 C as (ty_sat (ty_ens C.2.2.2.1 e K).1 (ty_ens C.2.2.2.1 e K).2) else none
noncomputable def ty_fst (f : ty_Con → Option (List ty_A)) (l : List ty_Con) : Option (List ty_A) := List.rec (motive := fun _ => Option (List ty_A)) none (fun C _ ih => match f C with
  | some x => some x
  | none => ih) l
theorem ty_fst_ok {f : ty_Con → Option (List ty_A)} {o : List ty_A} : ∀ {l : List ty_Con}, ty_fst f l = some o → ∃ C ∈ l, f C = some o
  | [], h => by cases h
  | C :: l, h => by
    have h : (match f C with
      | some x => some x
      | none => ty_fst f l) = some o := h
    split at h
    · rename_i x hx
      cases h
      exact ⟨C, List.mem_cons_self, hx⟩
    · obtain ⟨C', h1, h2⟩ := ty_fst_ok h
      exact ⟨C', List.mem_cons_of_mem _ h1, h2⟩
noncomputable def ty_take (n : Nat) : List ty_V → List ty_V → Option (List ty_V × List ty_V) := Nat.rec (motive := fun _ => List ty_V → List ty_V → Option (List ty_V × List ty_V)) (fun acc st => some (acc, st)) (fun _ ih acc st => match st with
  | v :: rest => ih (v :: acc) rest
  | [] => none) n
noncomputable def ty_args (l : List ty_V) (i : Nat) : ty_L := List.rec (motive := fun _ => Nat → ty_L) (fun _ => []) (fun v _ ih i => (i, v) :: ih (i + ty_cat v)) l i
noncomputable def ty_csum (l : List ty_V) : Nat := List.rec (motive := fun _ => Nat) 0 (fun v _ ih => ty_cat v + ih) l
noncomputable def ty_rcv (q : ex_P) (a : List ty_V) : Bool := match q.2.1, a with
  | .invokevirtual _, .inr (.inl p) :: _ => (match ex_nth ty_ct p.1 with
    | some (.inl o) => Nat.beq o.1 q.2.2.2.2.2.1
    | _ => false)
  | .invokevirtual _, .inr (.inr (.inr (.inl n))) :: _ => Nat.beq q.2.2.2.2.2.1 99 && Nat.blt n 2
  | .invokestatic _, _ => true
  | _, _ => false
noncomputable def ty_zok (e : ty_E) (z : Nat) (t : ty_t) : Bool := bif Nat.beq z 1 then ty_in e t 0 1 else bif Nat.beq z 2 then ty_in e t 0 65535 else bif Nat.beq z 3 then ty_in e t (-128) 127 else true
noncomputable def ty_ret1 (z : Nat) (e : ty_E) (K : ty_K) (ins : Instr) (st : List ty_V) : Option ty_A := match ins, st with
  | .ireturn, [.inl (.inl t)] => bif ty_zok e z t then some (e, [ty_i t], K) else none
  | .areturn, [v] => bif ty_isR v then some (e, [v], K) else none
  | .lreturn, [.inl (.inr t)] => some (e, [ty_j t], K)
  | .return_, [] => some (e, [], K)
  | _, _ => none
noncomputable def ty_ret (z : Nat) (o : ty_E × ty_S) : Option ty_A := match o with
  | (e, (q :: _, _, st, K)) => ty_ret1 z e K q.2.1 st
  | _ => none
noncomputable def ty_rets (z : Nat) (l : List (ty_E × ty_S)) : Option (List ty_A) := List.rec (motive := fun _ => Option (List ty_A)) (some []) (fun a _ ih => match ty_ret z a with
  | none => none
  | some x => (match ih with
    | none => none
    | some y => some (x :: y))) l
theorem ty_rets_ok {z : Nat} : ∀ {l : List (ty_E × ty_S)} {y : List ty_A}, ty_rets z l = some y → ∀ x ∈ l, ∃ a ∈ y, ty_ret z x = some a
  | [], _, _, x, hx => by cases hx
  | a :: l, y, h, x, hx => by
    have h : (match ty_ret z a with
      | none => none
      | some x => (match ty_rets z l with
        | none => none
        | some y => some (x :: y))) = some y := h
    split at h
    · cases h
    · rename_i w hw
      split at h
      · cases h
      · rename_i y' hy'
        cases h
        rcases List.mem_cons.mp hx with rfl | hx
        · exact ⟨w, List.mem_cons_self, hw⟩
        · obtain ⟨a', h1, h2⟩ := ty_rets_ok hy' x hx
          exact ⟨a', List.mem_cons_of_mem _ h1, h2⟩
noncomputable def ty_bk (r : List ex_P) (lv : ty_L) (rest : List ty_V) (a : ty_A) : ty_E × ty_S := (a.1, (r, lv, ex_app a.2.1 rest, a.2.2))
noncomputable def ty_fewA (e : ty_E) (l : List ty_V) : Option Nat := List.rec (motive := fun _ => Option Nat) none (fun v _ ih => match v with
  | .inl (.inl t) => (match ty_few 8 e t with
    | some i => some i
    | none => ih)
  | _ => ih) l
noncomputable def ty_fewK (e : ty_E) (K : ty_K) : Option Nat := match ty_kt e K ty_cM (ty_k (ty_bs : Int)) with
  | some t => ty_few 8 e t
  | none => none
abbrev ty_F1 : Type := Nat → ex_M → ty_M → ty_E → ty_S → Option (List (ty_E × ty_S))
noncomputable def ty_cl (run : ty_F1) (mt : Nat → Option ex_M) (cn : List ty_Con) (d : Nat) (ms : ty_M) (e : ty_E) (q : ex_P) (r : List ex_P) (lv : ty_L) (st : List ty_V) (K : ty_K) : ty_O := match d with
  | 0 => none
  | d' + 1 => (match ty_take q.2.2.2.2.1 [] st with
    | none => none
    | some ar => bif Nat.ble (ty_csum ar.2) 8 && (ex_nx3 q r && ty_rcv q ar.1) then
      (bif ex_any (fun C => Nat.beq C.1 q.2.2.2.1) cn then (match ty_fst (fun C => ty_app C q.2.2.2.1 d' ms e K ar.1) cn with
        | some l => some (ex_map (ty_bk r lv ar.2) l)
        | none => (match ty_fewA e ar.1 with
          | some i => ty_spl e i (q :: r, lv, st, K)
          | none => (match ty_fewK e K with
            | some i => ty_spl e i (q :: r, lv, st, K)
            | none => none)))
      else (match mt q.2.2.2.1 with
        | none => none
        | some M' => bif Nat.ble (ty_csum ar.1) M'.2.1 then (match run d' M' ms e (M'.1, ty_args ar.1 0, [], K) with
          | none => none
          | some outs => (match ty_rets M'.2.2.1 outs with
            | none => none
            | some l => some (ex_map (ty_bk r lv ar.2) l))) else none)) else none)
noncomputable def ty_alls (f : ty_E × ty_S → Option (List (ty_E × ty_S))) (l : List (ty_E × ty_S)) : Option (List (ty_E × ty_S)) := List.rec (motive := fun _ => Option (List (ty_E × ty_S))) (some []) (fun a _ ih => match f a with
  | none => none
  | some x => (match ih with
    | none => none
    | some y => some (ex_app x y))) l
noncomputable def ty_all (f : ty_E × ty_S → Option (List (ty_E × ty_S))) (l : List (ty_E × ty_S)) : Option (List (ty_E × ty_S)) := match l with
  | [a] => f a
  | l => ty_alls f l
theorem ty_alls_ok {f : ty_E × ty_S → Option (List (ty_E × ty_S))} : ∀ {l y : List (ty_E × ty_S)}, ty_alls f l = some y → ∀ a ∈ l, ∃ x, f a = some x ∧ ∀ z ∈ x, z ∈ y
  | [], _, _, a, ha => by cases ha
  | b :: l, y, h, a, ha => by
    have h : (match f b with
      | none => none
      | some x => (match ty_alls f l with
        | none => none
        | some y => some (ex_app x y))) = some y := h
    split at h
    · cases h
    · rename_i x hx
      split at h
      · cases h
      · rename_i y' hy'
        cases h
        rcases List.mem_cons.mp ha with rfl | ha
        · exact ⟨x, hx, fun z hz => by rw [ex_app_eq]; exact List.mem_append_left _ hz⟩
        · obtain ⟨x', h1, h2⟩ := ty_alls_ok hy' a ha
          exact ⟨x', h1, fun z hz => by rw [ex_app_eq]; exact List.mem_append_right _ (h2 z hz)⟩
theorem ty_all_ok {f : ty_E × ty_S → Option (List (ty_E × ty_S))} {l y : List (ty_E × ty_S)} (h : ty_all f l = some y) : ∀ a ∈ l, ∃ x, f a = some x ∧ ∀ z ∈ x, z ∈ y := by
  unfold ty_all at h
  split at h
  · rename_i b
    intro a ha
    have := List.mem_singleton.mp ha
    subst this
    exact ⟨y, h, fun z hz => hz⟩
  · exact ty_alls_ok h
abbrev ty_Fn : Type := Bool → List Nat → Nat → Bool → ex_M → ty_M → ty_E → ty_S → Option (List (ty_E × ty_S))
noncomputable def ty_st1 (run : ty_Fn) (mt : Nat → Option ex_M) (cn : List ty_Con) (d : Nat) (isl : Bool) (M : ex_M) (ms : ty_M) (q : ex_P) (r : List ex_P) (lv : ty_L) (st : List ty_V) (x : ty_E × ty_K) : ty_O := bif ty_str q st then ty_sst q r x.1 lv st x.2 else bif ty_call q then ty_cl (fun d M' ms e s => run false [] d false M' ms e s) mt cn d ms x.1 q r lv st x.2 else ty_step M.1 isl M.2.1 ms x.1 q r lv st x.2
/-- where a step says nothing, what is known is brought up to date first -/
noncomputable def ty_pre (q : ex_P) (st : List ty_V) : Bool := match q.2.1, st with
  | .iastore, _ :: _ :: .inr (.inl (k, _)) :: _ => Nat.beq k ty_cT.1
  | _, _ => false
noncomputable def ty_st0 (run : ty_Fn) (mt : Nat → Option ex_M) (cn : List ty_Con) (d : Nat) (isl : Bool) (M : ex_M) (ms : ty_M) (e : ty_E) (q : ex_P) (r : List ex_P) (lv : ty_L) (st : List ty_V) (K : ty_K) : ty_O := bif ty_pre q st then ty_st1 run mt cn d isl M ms q r lv st (ty_sat e K) else match ty_st1 run mt cn d isl M ms q r lv st (e, K) with
  | some l => some l
  | none => bif ty_satw K then ty_st1 run mt cn d isl M ms q r lv st (ty_sat e K) else none
noncomputable def ty_sp (run : ty_Fn) (mt : Nat → Option ex_M) (cn : List ty_Con) (cuts : List Nat) (d : Nat) (isl : Bool) (M : ex_M) (ms : ty_M) (e : ty_E) (q : ex_P) (r : List ex_P) (lv : ty_L) (st : List ty_V) (K : ty_K) : Option (List (ty_E × ty_S)) := match ty_st0 run mt cn d isl M ms e q r lv st K with
  | none => none
  | some l => ty_all (fun x => run false cuts d isl M ms x.1 x.2) l
noncomputable def ty_run (mt : Nat → Option ex_M) (cn : List ty_Con) (f : Nat) : ty_Fn := Nat.rec (motive := fun _ => ty_Fn) (fun _ _ _ _ _ _ _ _ => none) (fun _ ih first cuts d isl M ms e s => match s with
  | ([], _) => none
  | (q :: r, lv, st, K) => bif ty_end q || (!first && ex_any (Nat.beq q.1) cuts) then some [(e, s)] else ty_sp ih mt cn cuts d isl M ms e q r lv st K) f
/-! what it says -/
/-- an answer, and what is so then -/
def ty_An (D : va_G) (b : Nat) (sa : Nat → Nat) (ρ : Nat → Int) (n : Nat) (ms : ty_M) (ws : va_W) (tys : List (ClassId × FieldType)) (A : Nat → Prop) (a : ty_A) (oc : Outcome) (t : State) : Prop := ∃ (ρ' : Nat → Int) (vo : Option Value) (ws' : va_W), oc = .returned vo ∧ ty_ag n ρ ρ' ∧ n ≤ a.1.1 ∧ ty_er ρ' a.1 ∧ ty_sr b sa a.1.1 ρ' ws' a.2.1 vo.toList ∧ ty_Kr b sa a.1.1 ρ' ws' a.2.2 ∧ ty_th tys ws' ∧ ty_frm ms ws ws' ∧ va_P D vwCl ws' t.heap ∧ va_K D vwCl tys t ∧ va_D A ws' ∧ ex_xt ws ws'
def ty_Qc (D : va_G) (b : Nat) (sa : Nat → Nat) (ρ : Nat → Int) (n : Nat) (ms : ty_M) (ws : va_W) (tys : List (ClassId × FieldType)) (sz : Nat) (outs : List ty_A) : Array Value → State → Outcome → State → Prop := fun _ st oc t => (∃ a ∈ outs, ty_An D b sa ρ n ms ws tys (va_A ws sz) a oc t) ∧ va_F (va_A ws sz) st t
abbrev ty_Rm (d : Nat) : Room := { frames := d + 1, cells := 0, slots := 0, locals := 60 * (d + 1) }
/-- a start of one who is called -/
def ty_Pc (D : va_G) (sa : Nat → Nat) (ws : va_W) (tys : List (ClassId × FieldType)) (sz : Nat) (U : State) : Prop := ex_Pc D ws tys sz U ∧ ty_Z sa (va_A ws sz) U
def ty_ConOk (mi : Nat → Option ex_I) (l : Launch) (C : ty_Con) : Prop := ∃ (I : ex_I) (nL : Nat), mi C.1 = some I ∧ ty_MS I nL ∧ ∀ (D : va_G) (b : Nat) (sa : Nat → Nat) (σ : Nat → Int) (ws : va_W) (tys : List (ClassId × FieldType)) (va : List Value) (sz : Nat), ty_er σ C.2.2.1 → ty_sr b sa C.2.2.1.1 σ ws C.2.1 va → ty_Kr b sa C.2.2.1.1 σ ws C.2.2.2.1 → ty_th tys ws →
  Met l I.1 (Cond.code I.1 I.2.1 nL I.2.2.1 :: ex_tb) (ty_Rm C.2.2.2.2.2.2) (va_Pc va (ty_Pc D sa ws tys sz)) (ty_Qc D b sa σ C.2.2.1.1 C.2.2.2.2.2.1 ws tys sz C.2.2.2.2.1) 0 0 (va_A ws sz)
section TYA
variable {D : va_G} {b : Nat} {sa : Nat → Nat} {ρ σ : Nat → Int} {ws : va_W} {tys : List (ClassId × FieldType)} {A : Nat → Prop} {e : ty_E} {K : ty_K}
theorem ty_mle_ok {ms' ms : ty_M} (h : ty_mle ms' ms = true) {k i : Nat} (ha : ty_al ms k (some i) = false) : ty_al ms' k (some i) = false := by
  cases hb : ty_al ms' k (some i) with
  | false => rfl
  | true =>
    obtain ⟨q, h1, h2⟩ := ty_any_t hb
    obtain ⟨h2, h3⟩ := ex_and h2
    have h4 := ty_every_t h q h1
    obtain ⟨q1, q2⟩ := q
    have h2 : q1 = k := ex_beq h2
    subst h2
    cases q2 with
    | none => rw [ty_al_n h4 i] at ha; cases ha
    | some a =>
      have h3 : a = i := ex_beq h3
      subst h3
      have h4 : ty_al ms q1 (some a) = true := h4
      rw [h4] at ha
      cases ha
theorem ty_frm.le {ms' ms : ty_M} {w0 ws : va_W} (h : ty_mle ms' ms = true) (hf : ty_frm ms' w0 ws) : ty_frm ms w0 ws := fun j k hk a ev0 h0 => by
  obtain ⟨ev, h1, h2⟩ := hf j k hk a ev0 h0
  exact ⟨ev, h1, fun i hi => h2 i (ty_mle_ok h hi)⟩
theorem ty_frm.trans {ms : ty_M} {w0 w1 w2 : va_W} (h : ty_frm ms w0 w1) (h' : ty_frm ms w1 w2) : ty_frm ms w0 w2 := fun j k hk a ev0 h0 => by
  obtain ⟨ev1, h1, h2⟩ := h j k hk a ev0 h0
  obtain ⟨ev2, h3, h4⟩ := h' j k hk a ev1 h1
  exact ⟨ev2, h3, fun i hi => (h4 i hi).trans (h2 i hi)⟩
theorem ty_frm.rf {ms : ty_M} {w : va_W} : ty_frm ms w w := fun _ _ _ _ ev0 h0 => ⟨ev0, h0, fun _ _ => rfl⟩
theorem ty_pas_m {n : Nat} {K : ty_K} {th : ty_H} {po : ty_A} {x : ty_A} : ∀ {l : List ty_A}, po ∈ l → x ∈ ty_pa n K po (ty_pfr po.1.2.1 (ex_range (po.1.1 - n) n) e th) → x ∈ ty_pas n e K th l
  | [], h, _ => by cases h
  | q :: l, h, hx => by
    show x ∈ ex_app (ty_pa n K q (ty_pfr q.1.2.1 (ex_range (q.1.1 - n) n) e th)) (ty_pas n e K th l)
    rw [ex_app_eq]
    rcases List.mem_cons.mp h with rfl | h
    · exact List.mem_append_left _ hx
    · exact List.mem_append_right _ (ty_pas_m h hx)
/-- an answer of a contract in the caller's names -/
theorem ty_pa_ok {n : Nat} {th : ty_H} {ms ms' : ty_M} {po : ty_A} {l : List ty_A} {oc : Outcome} {t : State} (he : ty_er ρ e) (hK : ty_Kr b sa e.1 ρ ws K) (hth : ty_th tys ws) (ht : ty_tq n th e.1 ρ σ) (hm : ty_mle ms' ms = true) (hp : po ∈ l) (ha : ty_An D b sa σ n ms' ws tys A po oc t) : ∃ a ∈ ty_pas n e (ty_kfm ms' K) th l, ty_An D b sa ρ e.1 ms ws tys A a oc t := by
  obtain ⟨σ', vo, ws', a1, a2, a3, a4, a5, a6, a7, a8, a9, a10, a11, a12⟩ := ha
  have ht' : ty_tq n th e.1 ρ σ' := fun i hi => ⟨(ht i hi).1, (ht i hi).2.trans (a2 i hi)⟩
  obtain ⟨ρ', b1, b2, b3, b4⟩ := ty_pfr_ok a4.1 (po.1.1 - n) n he ht'
  rw [show n + (po.1.1 - n) = po.1.1 by omega] at b4
  have hcs : ∀ c ∈ ex_map (ty_sb (ty_pfr po.1.2.1 (ex_range (po.1.1 - n) n) e th).2) po.1.2.2, ty_sc (ty_pfr po.1.2.1 (ex_range (po.1.1 - n) n) e th).1.1 c ∧ ty_ev ρ' c ≤ 0 := fun c hc => by
    rw [ex_map_eq] at hc
    obtain ⟨c0, hc0, rfl⟩ := List.mem_map.mp hc
    obtain ⟨k1, k2⟩ := a4.2 c0 hc0
    obtain ⟨k3, k4⟩ := ty_sb_ok b4 k1
    exact ⟨k3, by rw [k4]; exact k2⟩
  obtain ⟨e3, c1, c2, c3⟩ := ty_rfs_ok _ b2 hcs
  refine ⟨(e3, ex_map (ty_sbv (ty_pfr po.1.2.1 (ex_range (po.1.1 - n) n) e th).2) po.2.1, ex_app (ex_map (ty_sbk (ty_pfr po.1.2.1 (ex_range (po.1.1 - n) n) e th).2) po.2.2) (ty_kfm ms' K)), ty_pas_m hp ?_, ρ', vo, ws', a1, b1, ?_, c2, ?_, ?_, a7, a8.le hm, a9, a10, a11, a12⟩
  · unfold ty_pa
    rw [c1]
    exact List.mem_singleton.mpr rfl
  · show e.1 ≤ e3.1
    rw [c3]
    exact b3
  · show ty_sr b sa e3.1 ρ' ws' (ex_map _ po.2.1) vo.toList
    rw [ex_map_eq, c3]
    exact ty_sbvs_ok b4 a5
  · show ty_Kr b sa e3.1 ρ' ws' (ex_app (ex_map _ po.2.2) (ty_kfm ms' K))
    rw [ex_map_eq, ex_app_eq, c3]
    intro q hq
    rcases List.mem_append.mp hq with hq | hq
    · obtain ⟨q0, hq0, rfl⟩ := List.mem_map.mp hq
      exact ty_sbk_ok b4 (a6 q0 hq0)
    · exact (hK.call hth a8 a12).mono b1 b3 q hq
theorem ty_app_ok {C : ty_Con} {j d : Nat} {ms : ty_M} {as : List ty_V} {l : List ty_A} {va : List Value} (h : ty_app C j d ms e K as = some l) (he : ty_er ρ e) (hK : ty_Kr b sa e.1 ρ ws K) (hth : ty_th tys ws) (hs : ty_sr b sa e.1 ρ ws as va) :
    C.1 = j ∧ C.2.2.2.2.2.2 ≤ d ∧ ∃ σ, ty_er σ C.2.2.1 ∧ ty_sr b sa C.2.2.1.1 σ ws C.2.1 va ∧ ty_Kr b sa C.2.2.1.1 σ ws C.2.2.2.1 ∧ ∀ oc t, (∃ po ∈ C.2.2.2.2.1, ty_An D b sa σ C.2.2.1.1 C.2.2.2.2.2.1 ws tys A po oc t) → ∃ a ∈ l, ty_An D b sa ρ e.1 ms ws tys A a oc t := by
  obtain ⟨h1, h⟩ := ex_bifs h
  obtain ⟨h1, h2⟩ := ex_and h1
  obtain ⟨h2, h3⟩ := ex_and h2
  refine ⟨ex_beq h1, ex_ble h2, ?_⟩
  obtain ⟨ρ1, a1, a2, a3, a4⟩ := ty_ens_ok C.2.2.2.1 he hK hth
  obtain ⟨s1, s2, s3⟩ := ty_sat_ok hth a2 a4
  unfold ty_app2 ty_app1 at h
  obtain ⟨h4, h⟩ := ex_bifs h
  obtain ⟨h4, h5⟩ := ex_and h4
  obtain ⟨h5, h6⟩ := ex_and h5
  cases h
  obtain ⟨t1, t2⟩ := ty_insE_ok s1 h5
  have hs' : ty_sr b sa (ty_sat (ty_ens C.2.2.2.1 e K).1 (ty_ens C.2.2.2.1 e K).2).1.1 ρ1 ws as va := by rw [s2]; exact hs.mono a1 a3 ex_xt.rf
  have hK' : ty_Kr b sa (ty_sat (ty_ens C.2.2.2.1 e K).1 (ty_ens C.2.2.2.1 e K).2).1.1 ρ1 ws (ty_sat (ty_ens C.2.2.2.1 e K).1 (ty_ens C.2.2.2.1 e K).2).2 := by rw [s2]; exact s3
  refine ⟨_, t2, ty_vms_ok s1 t1 h4 hs', ty_kms_ok s1 t1 hK' h6, fun oc t hp => ?_⟩
  obtain ⟨po, hp, ha⟩ := hp
  obtain ⟨a, ha1, ρ', vo, ws', c1, c2, c3, c4⟩ := ty_pa_ok s1 hK' hth t1 h3 hp ha
  refine ⟨a, ha1, ρ', vo, ws', c1, a1.tr (c2) (by rw [s2]; exact a3), Nat.le_trans a3 (by rw [← s2]; exact c3), c4⟩
theorem ty_take_ok : ∀ {k : Nat} {acc st as rest : List ty_V}, ty_take k acc st = some (as, rest) → ∀ {n : Nat} {xa xs : List Value}, ty_sr b sa n ρ ws acc xa → ty_sr b sa n ρ ws st xs → ∃ va xr, ty_sr b sa n ρ ws as va ∧ ty_sr b sa n ρ ws rest xr ∧ va.length = k + xa.length ∧ xa.reverse ++ xs = va.reverse ++ xr
  | 0, acc, st, as, rest, h, n, xa, xs, h1, h3 => by
    have h : some (acc, st) = some (as, rest) := h
    cases h
    exact ⟨xa, xs, h1, h3, by omega, rfl⟩
  | k + 1, acc, st, as, rest, h, n, xa, xs, h1, h3 => by
    cases st with
    | nil => cases (show none = some (as, rest) from h)
    | cons v t =>
      have g2 : ty_take k (v :: acc) t = some (as, rest) := h
      obtain ⟨x, xr, rfl, hv, hr⟩ := ty_sr_cons h3
      obtain ⟨va, xr', c1, c2, c4, c5⟩ := ty_take_ok g2 (xa := x :: xa) (xs := xr) ⟨hv, h1⟩ hr
      refine ⟨va, xr', c1, c2, by rw [List.length_cons] at c4; omega, ?_⟩
      rw [← c5, List.reverse_cons, List.append_assoc]
      rfl
theorem ty_args_ok {n : Nat} : ∀ {as : List ty_V} {va : List Value}, ty_sr b sa n ρ ws as va → ∀ i : Nat, ty_lr b sa n ρ ws (ty_args as i) (lv_args i va) ∧ (lg_sl va).length = ty_csum as
  | [], [], _, _ => ⟨trivial, rfl⟩
  | [], _ :: _, h, _ => h.elim
  | _ :: _, [], h, _ => h.elim
  | v :: t, x :: r, h, i => by
    have hx : x.category = ty_cat v := ty_cat_ok h.1
    obtain ⟨i1, i2⟩ := ty_args_ok h.2 (i + ty_cat v)
    have hc := lv_cat x
    refine ⟨?_, ?_⟩
    · show ty_lr b sa n ρ ws ((i, v) :: ty_args t (i + ty_cat v)) ((i, x) :: lv_args (if x.category = 2 then i + 2 else i + 1) r)
      have e1 : (if x.category = 2 then i + 2 else i + 1) = i + ty_cat v := by
        split <;> omega
      rw [e1]
      exact ⟨⟨rfl, h.1⟩, i1⟩
    · show (lg_sl (x :: r)).length = ty_cat v + ty_csum t
      unfold lg_sl at i2 ⊢
      rw [List.flatMap_cons, List.length_append, i2, ← hx]
      split
      · show 2 + _ = _
        omega
      · show 1 + _ = _
        omega
theorem ty_csum_ok {n : Nat} : ∀ {st : List ty_V} {xs : List Value}, ty_sr b sa n ρ ws st xs → (xs.map fun v => v.category).sum = ty_csum st
  | [], [], _ => rfl
  | [], _ :: _, h => h.elim
  | _ :: _, [], h => h.elim
  | v :: t, x :: r, h => by
    have ih := ty_csum_ok h.2
    rw [List.map_cons, List.sum_cons, ih, ty_cat_ok h.1]
    rfl
end TYA
end
section
/-! the run gives what it says -/
theorem ty_ct_lt {k : Nat} {oc : Nat × List ty_F} (h : ex_nth ty_ct k = some (.inl oc)) : oc.1 < 20 := by
  rw [ex_nth_get] at h
  have : ∀ x ∈ ty_ct, (match x with
    | .inl o => Nat.blt o.1 20
    | .inr _ => true) = true := ty_every_t (by decide +kernel)
  exact Nat.le_of_ble_eq_true (this _ (List.mem_of_getElem? h))
section TYC
variable {p : Program} {l : Launch} {en : Env} {R : Room} {s : State} {m : MethodId} {args : Array Value} {below : List Frame} {meth : Method} {c : Code} {k1 k2 : Nat} {Q : State → Prop} {D : va_G} {b : Nat} {sa : Nat → Nat} {A : Nat → Prop} {mL nr : Nat} {ρ0 ρ : Nat → Int} {w0 : va_W} {tys : List (ClassId × FieldType)} {ms : ty_M} {pr : List ex_P}
variable {e : ty_E} {lv : ty_L} {st : List ty_V} {K : ty_K} {ls : Array Slot} {xs : List Value} {ws : va_W} {H : Heap} {locs : List Loc} {q : ex_P} {r : List ex_P} {o : List (ty_E × ty_S)}
variable {σ : Nat → Int32} {L d : Nat} {own nm : String} {cd : ByteArray} {cap : Nat × Nat} {isl : Bool} {mi : Nat → Option ex_I}
set_option maxHeartbeats 4000000 in
set_option maxRecDepth 100000 in
/-- a call, whatever is known of the one who is called -/
theorem ty_call_ok (X : ex_X p R s m args meth c σ b L A own nm cd mL (d + 1) cap isl) (Z : ty_Z sa A s) (hkc : k1 ≤ R.cells ∧ k2 ≤ R.slots) {I : ex_I} {nL d' : Nat} (hI : mi q.2.2.2.1 = some I) (hMS : ty_MS I nL) (hd : d' ≤ d) (hck : ty_ck mi own q = true) (hdq : decode cd q.1 = .ok (q.2.1, q.2.2.1)) {as rest : List ty_V} (har : ty_take q.2.2.2.2.1 [] st = some (as, rest)) (c1 : ty_csum rest ≤ 8) (c4 : ex_nx3 q r = true) (c5 : ty_rcv q as = true)
    {Qa : Array Value → State → Outcome → State → Prop} (hM : ∀ va, ty_sr b sa e.1 ρ ws as va → Met l I.1 (Cond.code I.1 I.2.1 nL I.2.2.1 :: ex_tb) (ty_Rm d') (va_Pc va (ty_Pc D sa ws tys H.size)) Qa 0 0 (va_A ws H.size)) {la : List ty_A} (hQ : ∀ v st oc t, Qa v st oc t → (∃ a ∈ la, ty_An D b sa ρ e.1 ms ws tys (va_A ws H.size) a oc t) ∧ va_F (va_A ws H.size) st t)
    (hG : ∀ a ∈ la, ty_G p l en R s m args below meth c k1 k2 Q D b sa A mL nr ρ0 w0 tys ms pr a.1 (r, lv, ex_app a.2.1 rest, a.2.2)) (hsub : ∀ x ∈ q :: r, x ∈ pr) (ha : ty_ag nr ρ0 ρ) (hR : ty_Rl s D b sa A mL nr w0 tys ms ρ e lv st K ls xs ws H locs) : W p l en R s m args below meth c H locs k1 k2 Q (F0 m q.1 ls xs) := by
  obtain ⟨x1, x2, x3, x4, x5, x6, x7, x8, x9, x10, x11, x12, x13⟩ := id X
  obtain ⟨va, xr, t1, t2, t4, t5⟩ := ty_take_ok har (xa := []) (ρ := ρ) (b := b) (sa := sa) (ws := ws) trivial hR.sr
  have hxs : xs = va.reverse ++ xr := t5
  have t4 : va.length = q.2.2.2.2.1 := t4
  obtain ⟨lw, hl1, hl2⟩ := hR.1
  have hsum := ty_csum_ok t2
  have hM := hM va t1
  obtain ⟨o1, o2, o3, o4, o5, o6a, o6b⟩ := id hMS
  have kk : ∀ (vo : Option Value) (st₀ t : State) (locs1 : List Loc), st₀.heap = H → s.vm.Alike t.vm → Qa va.toArray st₀ (.returned vo) t → va_S A s.heap t.heap locs1 → W p l en R s m args below meth c t.heap locs1 (k1 + 0) (k2 + 0) Q (F0 m (q.1 + 3) ls (vo.toList ++ xr)) := by
    intro vo st₀ t locs1 hst0 hvm hq hS1
    obtain ⟨⟨a, ha1, ρ', vo', ws', ho, f1, f2, f3, f4, f5, f6, f7, f8, f9, f10, f11⟩, -⟩ := hQ _ _ _ _ hq
    injection ho with ho
    subst ho
    have hG1 := hG a ha1
    cases r with
    | nil => cases (show false = true from c4)
    | cons q' r' =>
      refine hG1 ρ' (ha.tr f1 hR.nle) (q.1 + 3) ls (vo.toList ++ xr) ws' t.heap locs1 ⟨q', r', rfl, ex_beq c4⟩ (fun x hx => hsub x (List.mem_cons_of_mem _ hx)) ⟨⟨lw, hl1, hl2.mono f1 f2 f11⟩, f3, ?_, f5, f6, hR.fr.trans f7, Nat.le_trans hR.nle f2, va_K.moved hvm.symm f9, f8, f10.weaken (fun k x hk hx => ?_), hS1, hR.xt.tr f11⟩
      · show ty_sr b sa a.1.1 ρ' ws' (ex_app a.2.1 rest) (vo.toList ++ xr)
        rw [ex_app_eq]
        exact ty_sr_app f4 (t2.mono f1 f2 f11)
      · rcases hx with ⟨k', ev, hk'⟩ | hx
        · exact hR.hD.2 k' (x.1, ev) hk'
        · exact x6 _ (Nat.le_trans hR.hS.1 hx)
  have hFa : ∀ z, va_A ws H.size z → A z := fun z hz => by
    rcases hz with ⟨k', ev, hk'⟩ | hz
    · exact hR.hD.2 k' (z, ev) hk'
    · exact x6 _ (Nat.le_trans hR.hS.1 hz)
  have hQF : ∀ st oc t, Qa va.toArray st oc t → va_F (va_A ws H.size) st t := fun _ _ _ hq => (hQ _ _ _ _ hq).2
  have hfin : ∀ rr, va_Run p l en R s m args below meth c H locs k1 k2 0 0 (F0 m q.1 ls xs) xr (Qa va.toArray) rr → (∀ z, rr z → A z) → W p l en R s m args below meth c H locs k1 k2 Q (F0 m q.1 ls xs) := fun rr hrun hrr => ex_callk hrun hR.hS (fun z _ hz => hFa z hz) hrr hQF kk
  have hblind : FrameBlind (va_Pc va (ty_Pc D sa ws tys H.size)) := fun a U g mk qq => by
    obtain ⟨q0, ⟨q1, qP, qK, qD, qN, qA⟩, qZ⟩ := qq
    exact ⟨q0, ⟨q1, qP, va_K.moved (u := U) (U := U.calling g mk a) (Vm.Alike.refl U.vm) qK, qD, ex_nest_same (s := U) (U := U.calling g mk a) rfl qN, va_AO.moved (U := U.calling g mk a) (Vm.Alike.refl U.vm) qA⟩, qZ.same (U := U.calling g mk a) rfl rfl⟩
  have hpre : ∀ U : State, U.heap = H → s.WarmedH U.vm → va_Pc va (ty_Pc D sa ws tys H.size) va.toArray U := fun U hU hW => ⟨rfl, ⟨by rw [hU], by rw [hU]; exact hR.hP, va_K.moved hW.alike hR.hK, hR.hD.weaken (fun _ _ _ _ => trivial), ex_nest_warm hW x7, va_AO.moved hW.alike x8⟩, Z.go hW hU hR.hS hFa⟩
  have hroom : (ty_Rm d').frames + 1 ≤ R.frames ∧ 8 + (nL + 11) + (ty_Rm d').locals ≤ R.locals := ⟨by show d' + 1 + 1 ≤ R.frames; omega, by
    show 8 + (nL + 11) + 60 * (d' + 1) ≤ R.locals
    omega⟩
  have hcap : k1 + 0 ≤ R.cells ∧ k2 + 0 ≤ R.slots := hkc
  have hsub8 : 2 * (F0 m q.1 ls xs).monitorRoom + (xr.map fun v => v.category).sum ≤ 8 := lv_room (st := xr) (by omega)
  have fix : CallFix p m c cd mL s args ex_tb own := ⟨x1, x2, x3, x4, x5⟩
  rcases ty_ck_ok hI hck with ⟨e99, hlen3, ix, hins, k1', k2', k3, k4⟩ | ⟨e99, hck⟩
  · obtain ⟨pc, ins, len, a1, a2, a3, ts⟩ := q
    have hins : ins = .invokevirtual ix := hins
    subst hins
    have hlen3 : len = 3 := hlen3
    subst hlen3
    obtain ⟨⟨byt, z1⟩, -⟩ := Z
    match as, va, t1, c5, t4, hxs, hM, hfin, hblind, hpre with
    | .inr (.inr (.inr (.inl n))) :: as', va, t1, c5, t4, hxs, hM, hfin, hblind, hpre =>
      obtain ⟨x, va', rfl, hv, hr'⟩ := ty_sr_cons t1
      obtain ⟨-, c5⟩ := ex_and (show (Nat.beq a3 99 && Nat.blt n 2) = true from c5)
      have c5 : n < 2 := Nat.le_of_ble_eq_true c5
      have hv := hv.1 (by omega)
      subst hv
      have t4 : va'.length + 1 = a2 := t4
      have k3 : a2 = I.2.2.2.2 + 1 := k3
      refine hfin _ (va_runV (As := va') (b := sa n) (C := I.1.cls) fix hM (cwV I.2.2.2.2 x5 (ex_good (fun w hw => ?_)) rfl rfl rfl ⟨rfl, o5⟩ hroom) ⟨hblind, ?_, hpre⟩ rfl ?_ hl1.1 ?_ hsub8 hdq hcap) hFa
      · simp only [wsV, List.mem_append, List.mem_cons, List.not_mem_nil, or_false] at hw
        rcases hw with (rfl | rfl | rfl | rfl) | rfl | hw
        · exact k1'
        · exact (o6a k2').1
        · exact (o6a k2').2
        · exact o4
        · exact o2
        · exact hw
      · rw [k4]
        exact vk_recv z1 c5 hR.hS
      · show va'.length = I.2.2.2.2
        omega
      · show xs = va'.reverse ++ .ref (sa n) :: xr
        rw [hxs, List.reverse_cons, List.append_assoc]
        rfl
    | [], va, t1, c5, t4, hxs, hM, hfin, hblind, hpre => cases c5
    | .inl _ :: _, va, t1, c5, t4, hxs, hM, hfin, hblind, hpre => cases c5
    | .inr (.inl ob) :: _, va, t1, c5, t4, hxs, hM, hfin, hblind, hpre =>
      exfalso
      unfold ty_rcv at c5
      dsimp only at c5
      split at c5
      · rename_i oc hoc
        have c5 : oc.1 = a3 := ex_beq c5
        have e99 : a3 = 99 := e99
        exact absurd (ty_ct_lt hoc) (by omega)
      · cases c5
    | .inr (.inr (.inl _)) :: _, va, t1, c5, t4, hxs, hM, hfin, hblind, hpre => cases c5
    | .inr (.inr (.inr (.inr _))) :: _, va, t1, c5, t4, hxs, hM, hfin, hblind, hpre => cases c5
  obtain ⟨pc, ins, len, a1, a2, a3, ts⟩ := q
  obtain ⟨hlen3, hcs⟩ := ex_ck_ok hI hck
  subst hlen3
  rcases hcs with ⟨ix, rc, rfl, k1', k2', k3, hrc, k4⟩ | ⟨ix, rfl, k1', k2', k3⟩ | ⟨ix, rfl, k2', k3, k1'⟩
  · match as, va, t1, c5, t4, hxs, hM, hfin, hblind, hpre with
    | .inr (.inl ob) :: as', va, t1, c5, t4, hxs, hM, hfin, hblind, hpre =>
      obtain ⟨x, va', rfl, hv, hr'⟩ := ty_sr_cons t1
      obtain ⟨j, a, ev, hj, hkl, hw, rfl⟩ := hv
      unfold ty_rcv at c5
      dsimp only at c5
      split at c5
      · rename_i oc hoc
        have c5 := ex_beq c5
        obtain ⟨-, vs, rfl, -⟩ := hR.th.obj hkl hw (ci := oc.1) (fs := oc.2) hoc
        rw [c5] at hw
        have t4 : va'.length + 1 = a2 := t4
        refine hfin _ (va_runV (As := va') (b := a) (C := I.1.cls) fix hM (cwV I.2.2.2.2 x5 (ex_good (fun w hw => ?_)) rfl rfl rfl ⟨rfl, o5⟩ hroom) ⟨hblind, ?_, hpre⟩ rfl ?_ hl1.1 ?_ hsub8 hdq hcap) hFa
        · simp only [wsV, List.mem_append, List.mem_cons, List.not_mem_nil, or_false] at hw
          rcases hw with (rfl | rfl | rfl | rfl) | rfl | hw
          · exact k1'
          · exact (o6a k2').1
          · exact (o6a k2').2
          · exact o4
          · exact o2
          · exact hw
        · rw [← k4]
          exact va_recv hR.hK hR.hP hrc hw
        · show va'.length = I.2.2.2.2
          omega
        · show xs = va'.reverse ++ .ref a :: xr
          rw [hxs, List.reverse_cons, List.append_assoc]
          rfl
      · cases c5
    | [], va, t1, c5, t4, hxs, hM, hfin, hblind, hpre => cases c5
    | .inl _ :: _, va, t1, c5, t4, hxs, hM, hfin, hblind, hpre => cases c5
    | .inr (.inr (.inl _)) :: _, va, t1, c5, t4, hxs, hM, hfin, hblind, hpre => cases c5
    | .inr (.inr (.inr (.inl n))) :: _, va, t1, c5, t4, hxs, hM, hfin, hblind, hpre =>
      obtain ⟨c5, -⟩ := ex_and (show (Nat.beq a3 99 && Nat.blt n 2) = true from c5)
      exact absurd (ex_beq c5) e99
    | .inr (.inr (.inr (.inr _))) :: _, va, t1, c5, t4, hxs, hM, hfin, hblind, hpre => cases c5
  · have t4 : va.length = a2 := t4
    refine hfin _ (va_runS (As := va) fix hM (va_cwS I.2.2.2.2 x5 (ex_good (fun w hw => ?_)) rfl rfl rfl o5 hroom) ⟨hblind, hpre⟩ rfl (by omega) hl1.1 hxs hsub8 hdq hcap) hFa
    simp only [va_wsS, List.mem_append, List.mem_cons, List.not_mem_nil, or_false] at hw
    rcases hw with (rfl | rfl | rfl) | rfl | hw
    · exact k1'
    · exact o6b k2'
    · exact o4
    · exact o2
    · exact hw
  · cases c5
end TYC
theorem ty_met_mono {l : Launch} {y : MethodName} {wt : List Cond} {rm : Room} {Pc : Array Value → State → Prop} {Qc Qd : Array Value → State → Outcome → State → Prop} {mc ms : Nat} {free : Addr → Prop} (hM : Met l y wt rm Pc Qc mc ms free) (h : ∀ a st o t, Qc a st o t → Qd a st o t) : Met l y wt rm Pc Qd mc ms free := fun p e h1 h2 h3 s m args below h4 h5 h6 h7 => by
  obtain ⟨n, o, g1, g2, g3, g4, g5⟩ := hM p e h1 h2 h3 s m args below h4 h5 h6 h7
  exact ⟨n, o, g1, g2, g3, h _ _ _ _ g4, g5⟩
theorem ty_str_nc {q : ex_P} {st : List ty_V} (h : ty_str q st = true) : ty_call q = false := by
  obtain ⟨pc, ins, len, a1, a2, a3, ts⟩ := q
  unfold ty_str at h
  dsimp only at h
  split at h
  · rfl
  · rfl
  · rfl
  · rfl
  · rfl
  · cases h
def ty_Snd (mt : Nat → Option ex_M) (mi : Nat → Option ex_I) (cn : List ty_Con) (l : Launch) (f : Nat) : Prop := ∀ (first : Bool) (cuts : List Nat) (d : Nat) (isl : Bool) (M : ex_M) (ms : ty_M) (e : ty_E) (S : ty_S) (o : List (ty_E × ty_S)), ty_run mt cn f first cuts d isl M ms e S = some o → ∀ (own nm : String) (cd : ByteArray) (ret : Option FieldType), ty_PO mi own nm cd M.2.2.1 ret M.1 → ∀ (p : Program) (en : Env) (R : Room) (s : State) (m : MethodId) (args : Array Value) (below : List Frame) (meth : Method) (c : Code) (Q : State → Prop) (D : va_G) (σ : Nat → Int32) (b : Nat) (sa : Nat → Nat) (L : Nat) (A : Nat → Prop) (nr : Nat) (ρ0 : Nat → Int) (w0 : va_W) (tys : List (ClassId × FieldType)) (cap : Nat × Nat) (k1 k2 : Nat), k1 ≤ R.cells ∧ k2 ≤ R.slots → ex_X p R s m args meth c σ b L A own nm cd M.2.1 d cap isl → ty_Z sa A s → (isl = true → ρ0 0 = (L : Int) ∧ 0 < nr ∧ L < 2147483648) → (∀ x ∈ o, ty_G p l en R s m args below meth c k1 k2 Q D b sa A M.2.1 nr ρ0 w0 tys ms M.1 x.1 x.2) → S.1 ≠ [] ∧ ty_G p l en R s m args below meth c k1 k2 Q D b sa A M.2.1 nr ρ0 w0 tys ms M.1 e S
theorem ty_ret1_cs {z : Nat} {e : ty_E} {K : ty_K} {ins : Instr} {st : List ty_V} {a : ty_A} (h : ty_ret1 z e K ins st = some a) : (∃ t, ins = .ireturn ∧ st = [ty_i t] ∧ ty_zok e z t = true ∧ a = (e, st, K)) ∨ (∃ v, ins = .areturn ∧ st = [v] ∧ ty_isR v = true ∧ a = (e, st, K)) ∨ (ins = .return_ ∧ st = [] ∧ a = (e, st, K)) ∨ (∃ t, ins = .lreturn ∧ st = [ty_j t] ∧ a = (e, st, K)) := by
  unfold ty_ret1 at h
  split at h
  · obtain ⟨g1, g2⟩ := ex_bifs h
    injection g2 with g2
    exact Or.inl ⟨_, rfl, rfl, g1, g2.symm⟩
  · obtain ⟨g1, g2⟩ := ex_bifs h
    injection g2 with g2
    exact Or.inr (Or.inl ⟨_, rfl, rfl, g1, g2.symm⟩)
  · injection h with g2
    exact Or.inr (Or.inr (Or.inr ⟨_, rfl, rfl, g2.symm⟩))
  · injection h with g2
    exact Or.inr (Or.inr (Or.inl ⟨rfl, rfl, g2.symm⟩))
  · cases h
section TYD
variable {l : Launch} {mi : Nat → Option ex_I} {D : va_G} {b : Nat} {sa : Nat → Nat} {tys : List (ClassId × FieldType)}
set_option maxHeartbeats 4000000 in
/-- a return -/
theorem ty_ret_ok {M : ex_M} {I : ex_I} {d nr : Nat} {ρ0 : Nat → Int} {va : List Value} {ws0 : va_W} {ms : ty_M} {p : Program} {en : Env} {s : State} {m : MethodId} {below : List Frame} {meth : Method} {c : Code} {Qa : Array Value → State → Outcome → State → Prop} {A : Nat → Prop}
    (hx1 : p.tables.exec = Jvm.exec) (hx2 : c.code = I.2.1) (hret : meth.sig.returnType = I.2.2.1) (hlk : meth.locks = false) (hPO : ty_PO mi I.1.cls I.1.name I.2.1 M.2.2.1 I.2.2.1 M.1) {x : ty_E × ty_S} {a : ty_A} (hra : ty_ret M.2.2.1 x = some a)
    (hQ : ∀ oc t, ty_An D b sa ρ0 nr ms ws0 tys A a oc t → va_F A s t → Qa va.toArray s oc t) : ty_G p l en (headSpec (Cond.code I.1 I.2.1 M.2.1 I.2.2.1 :: ex_tb) (ty_Rm d)).room s m va.toArray below meth c 0 0 (MQ below Qa va.toArray s 0 0 A) D b sa A M.2.1 nr ρ0 ws0 tys ms M.1 x.1 x.2 := by
  intro ρ ha pc ls xs ws H locs hh0 hsub hR
  obtain ⟨q, r, e0, e1⟩ := hh0
  obtain ⟨e', sx, lv, st, K'⟩ := x
  have e0 : sx = q :: r := e0
  subst e0
  subst e1
  have hra : ty_ret1 M.2.2.1 e' K' q.2.1 st = some a := hra
  have hR : ty_Rl s D b sa A M.2.1 nr ws0 tys ms ρ e' lv st K' ls xs ws H locs := hR
  obtain ⟨hdq, hqk⟩ := hPO q (hsub q List.mem_cons_self)
  obtain ⟨pc, ins, len, a1, a2, a3, ts⟩ := q
  have mk : ∀ (vo : Option Value) (t : State), ty_sr b sa e'.1 ρ ws st vo.toList → t.heap = H → s.vm.Alike t.vm → Qa va.toArray s (.returned vo) t ∨ a ≠ (e', st, K') := fun vo t hv ht hW => by
    by_cases hae : a = (e', st, K')
    · subst hae
      exact Or.inl (hQ _ t ⟨ρ, vo, ws, rfl, ha, hR.nle, hR.er, hv, hR.Kr, hR.th, hR.fr, by rw [ht]; exact hR.hP, va_K.moved hW hR.hK, hR.hD, hR.xt⟩ (hR.hS.F ht))
    · exact Or.inr hae
  rcases ty_ret1_cs hra with ⟨t, hins, rfl, g4, rfl⟩ | ⟨v, hins, rfl, g4, rfl⟩ | ⟨hins, rfl, rfl⟩ | ⟨t, hins, rfl, rfl⟩
  · have hins : ins = .ireturn := hins
    subst hins
    obtain ⟨x, xr, rfl, hv, hr'⟩ := ty_sr_cons hR.sr
    obtain ⟨y, rfl, hy⟩ := hv
    have hxr := ty_sr_nil hr'
    subst hxr
    have hek : ty_ek M.2.2.1 I.2.2.1 (pc, .ireturn, len, a1, a2, a3, ts) = true := hqk
    have fin : ∀ ty : FieldType, I.2.2.1 = some ty → narrow ty (.int y) = .int y → len = 1 → W p l en (headSpec (Cond.code I.1 I.2.1 M.2.1 I.2.2.1 :: ex_tb) (ty_Rm d)).room s m va.toArray below meth c H locs 0 0 (MQ below Qa va.toArray s 0 0 A) (F0 m pc ls [.int y]) := fun ty hty hnar hl => by
      subst hl
      exact W.zret (ty := ty) hx1 hx2 (hret.trans hty) hnar (fun t ht hW => (mk (some (.int y)) t ⟨⟨y, rfl, hy⟩, trivial⟩ ht hW.alike).resolve_right (fun z => z rfl)) hR.hS.2.2 hdq (hlocks := hlk)
    cases hrt : I.2.2.1 with
    | none => rw [hrt] at hek; cases (show false = true from hek)
    | some ty =>
      rw [hrt] at hek
      cases ty with
      | int => exact fin .int hrt rfl (ex_beq hek)
      | boolean =>
        obtain ⟨z1, z2⟩ := ex_and (show (Nat.beq len 1 && Nat.beq M.2.2.1 1) = true from hek)
        refine fin .boolean hrt ?_ (ex_beq z1)
        unfold ty_zok at g4
        rw [z2] at g4
        have g4 := ty_in_ok hR.er (show ty_in e' t 0 1 = true from g4)
        rw [hy.2] at g4
        rcases ty_01 g4.1 g4.2 with rfl | rfl <;> rfl
      | char =>
        obtain ⟨z1, z2⟩ := ex_and (show (Nat.beq len 1 && Nat.beq M.2.2.1 2) = true from hek)
        refine fin .char hrt ?_ (ex_beq z1)
        unfold ty_zok at g4
        rw [ex_beq z2] at g4
        have g4 := ty_in_ok hR.er (show ty_in e' t 0 65535 = true from g4)
        rw [hy.2] at g4
        show Value.int (y.toUInt32 % 65536).toInt32 = Value.int y
        rw [(ty_c16 y).2.2 g4.1 g4.2]
      | byte =>
        obtain ⟨z1, z2⟩ := ex_and (show (Nat.beq len 1 && Nat.beq M.2.2.1 3) = true from hek)
        refine fin .byte hrt ?_ (ex_beq z1)
        unfold ty_zok at g4
        rw [ex_beq z2] at g4
        have g4 := ty_in_ok hR.er (show ty_in e' t (-128) 127 = true from g4)
        rw [hy.2] at g4
        show Value.int y.toInt8.toInt32 = Value.int y
        rw [(ty_b8 y).2.2 g4.1 g4.2]
      | _ => cases (show false = true from hek)
  · have hins : ins = .areturn := hins
    subst hins
    obtain ⟨x, xr, rfl, hv, hr'⟩ := ty_sr_cons hR.sr
    have hxr := ty_sr_nil hr'
    subst hxr
    have hek : ex_ek M.2.2.1 I.2.2.1 (pc, .areturn, len, a1, a2, a3, ts) = true := hqk
    cases hrt : I.2.2.1 with
    | none => rw [hrt] at hek; cases (show false = true from hek)
    | some ty =>
      rw [hrt] at hek
      cases ty with
      | object C =>
        have hl : len = 1 := ex_beq hek
        subst hl
        exact W.aret (rt := .object C) hx1 hx2 (hret.trans hrt) (Or.inl ⟨C, rfl⟩) (Or.inr (ty_isR_ok hv g4)) (fun t ht hW => (mk (some x) t ⟨hv, trivial⟩ ht hW.alike).resolve_right (fun z => z rfl)) hR.hS.2.2 hdq (hlocks := hlk)
      | _ => cases (show false = true from hek)
  · have hins : ins = .return_ := hins
    subst hins
    have hxr := ty_sr_nil hR.sr
    subst hxr
    have hek : ex_ek M.2.2.1 I.2.2.1 (pc, .return_, len, a1, a2, a3, ts) = true := hqk
    cases hrt : I.2.2.1 with
    | none =>
      rw [hrt] at hek
      have hl : len = 1 := ex_beq hek
      subst hl
      exact W.vret hx1 hx2 (hret.trans hrt) (fun t ht hW => (mk none t trivial ht hW.alike).resolve_right (fun z => z rfl)) hR.hS.2.2 hdq (hlocks := hlk)
    | some ty => rw [hrt] at hek; cases (show false = true from hek)
  · have hins : ins = .lreturn := hins
    subst hins
    obtain ⟨x, xr, rfl, hv, hr'⟩ := ty_sr_cons hR.sr
    obtain ⟨y, rfl, hy⟩ := hv
    have hxr := ty_sr_nil hr'
    subst hxr
    have hek : ty_ek M.2.2.1 I.2.2.1 (pc, .lreturn, len, a1, a2, a3, ts) = true := hqk
    cases hrt : I.2.2.1 with
    | none => rw [hrt] at hek; cases (show false = true from hek)
    | some ty =>
      rw [hrt] at hek
      cases ty with
      | long =>
        have hl : len = 1 := ex_beq hek
        subst hl
        exact W.lret hx1 hx2 (hret.trans hrt) (fun t ht hW => (mk (some (.long y)) t ⟨⟨y, rfl, hy⟩, trivial⟩ ht hW.alike).resolve_right (fun z => z rfl)) hR.hS.2.2 hdq (hlocks := hlk)
      | _ => cases (show false = true from hek)
set_option maxHeartbeats 4000000 in
/-- one who is walked through -/
theorem ty_met {mt : Nat → Option ex_M} {cn : List ty_Con} {f : Nat} (hs : ty_Snd mt mi cn l f) {M : ex_M} {I : ex_I} (hMO : ty_MO mi M I) {d : Nat} {ms : ty_M} {e : ty_E} {as : List ty_V} {K : ty_K} {outs : List (ty_E × ty_S)} {l1 : List ty_A} (hr : ty_run mt cn f false [] d false M ms e (M.1, ty_args as 0, [], K) = some outs) (hrt : ty_rets M.2.2.1 outs = some l1)
    {ρ : Nat → Int} {ws : va_W} {va : List Value} {sz : Nat} (he : ty_er ρ e) (ha : ty_sr b sa e.1 ρ ws as va) (hlen : ty_csum as ≤ M.2.1) (hK : ty_Kr b sa e.1 ρ ws K) (hth : ty_th tys ws) :
    Met l I.1 (Cond.code I.1 I.2.1 M.2.1 I.2.2.1 :: ex_tb) (ty_Rm d) (va_Pc va (ty_Pc D sa ws tys sz)) (ty_Qc D b sa ρ e.1 ms ws tys sz l1) 0 0 (va_A ws sz) := by
  obtain ⟨m0, m8, m9⟩ := hMO
  refine Met.ofW (cc := I.2.1) (maxL := M.2.1) (ret := I.2.2.1) m0.1 rfl ?_
  intro p en s m args below meth c s₁ B hml hv
  obtain ⟨rfl, ⟨hsz, hP, hK0, hD0, hNw, hAO⟩, Z⟩ := hv
  subst hsz
  have hts := atoms_spec (ws := Cond.code I.1 I.2.1 M.2.1 I.2.2.1 :: ex_tb) B.pre
  have X : ex_X p (headSpec (Cond.code I.1 I.2.1 M.2.1 I.2.2.1 :: ex_tb) (ty_Rm d)).room s m va.toArray meth c (fun _ => 0) b 0 (va_A ws s.heap.size) I.1.cls I.1.name I.2.1 M.2.1 d (0, 0) false := ⟨B.exec, B.bytes, hml, findClass_of_methodNamed B.named, fun w hw => hts w (List.mem_cons_of_mem _ hw), fun q hq => Or.inr hq, hNw, hAO, (fun z => by cases z), (name_of_methodNamed B.named B.method).1, ⟨Nat.le_refl _, Nat.le_refl _⟩, Nat.le_refl _, Nat.le_refl _⟩
  have hG := (hs _ _ _ _ M ms e _ outs hr I.1.cls I.1.name I.2.1 I.2.2.1 m9 p en _ s m va.toArray below meth c (MQ below (ty_Qc D b sa ρ e.1 ms ws tys s.heap.size l1) va.toArray s 0 0 (va_A ws s.heap.size)) D (fun _ => 0) b sa 0 (va_A ws s.heap.size) e.1 ρ ws tys (0, 0) 0 0 ⟨Nat.zero_le _, Nat.zero_le _⟩ X Z (fun z => by cases z) (fun x hx => by
    obtain ⟨a, ha', hra⟩ := ty_rets_ok hrt x hx
    exact ty_ret_ok B.exec B.bytes B.returns B.notSynchronized m9 hra (fun oc t hA hF => ⟨⟨a, ha', hA⟩, hF⟩))).2
  rw [lg_entry_eq]
  obtain ⟨a1, a2⟩ := ty_args_ok ha 0
  have hl := lv_entry va (n := M.2.1) (by rw [a2]; exact hlen)
  obtain ⟨q, r, hq, hq0⟩ := m8
  exact hG ρ (fun _ _ => rfl) 0 _ [] ws s.heap [] ⟨q, r, hq, hq0⟩ (fun q h => h) ⟨⟨_, hl, a1⟩, he, trivial, hK, hth, ty_frm.rf, Nat.le_refl _, hK0, hP, hD0.self, va_S.rf, ex_xt.rf⟩
set_option maxHeartbeats 4000000 in
set_option maxRecDepth 100000 in
theorem ty_run_ok {mt : Nat → Option ex_M} {cn : List ty_Con} (hgw : ty_GW) (hmt : ∀ (j : Nat) (M : ex_M), mt j = some M → ∃ I, mi j = some I ∧ ty_MO mi M I) (hcn : ∀ C ∈ cn, ty_ConOk mi l C) (f : Nat) : ty_Snd mt mi cn l f := by
  induction f with
  | zero =>
    intro first cuts d isl M ms e S o hr
    cases (show none = some o from hr)
  | succ f ih =>
    intro first cuts d isl M ms e S o hr0 own nm cd ret hPO p en R s m args below meth c Q D σ b sa L A nr ρ0 w0 tys cap k1 k2 hkc X Z hL hG
    obtain ⟨sx, lv, st, K⟩ := S
    cases sx with
    | nil => cases (show none = some o from hr0)
    | cons q r =>
      refine ⟨List.cons_ne_nil _ _, ?_⟩
      have hr : (bif ty_end q || (!first && ex_any (Nat.beq q.1) cuts) then some [(e, (q :: r, lv, st, K))] else ty_sp (ty_run mt cn f) mt cn cuts d isl M ms e q r lv st K) = some o := hr0
      clear hr0
      intro ρ ha pc ls xs ws H locs hh0 hsub hR
      obtain ⟨q0, r0, e0, e1⟩ := hh0
      have e0 : q :: r = q0 :: r0 := e0
      injection e0 with e0 e2
      subst e0
      subst e1
      have hsub : ∀ x ∈ q :: r, x ∈ M.1 := hsub
      have hR : ty_Rl s D b sa A M.2.1 nr w0 tys ms ρ e lv st K ls xs ws H locs := hR
      show W p l en R s m args below meth c H locs k1 k2 Q (F0 m q.1 ls xs)
      obtain ⟨hdq, hqk⟩ := hPO q (hsub q List.mem_cons_self)
      rcases ex_bif (P := fun z => z = some o) hr with ⟨g1, g2⟩ | ⟨g1, g2⟩
      · injection g2 with g2
        subst g2
        exact hG _ (List.mem_singleton.mpr rfl) ρ ha q.1 ls xs ws H locs ⟨q, r, rfl, rfl⟩ hsub hR
      · obtain ⟨g1e, -⟩ := Bool.or_eq_false_iff.mp g1
        have hqk : (bif ty_call q then ty_ck mi own q else ty_pk own nm q) = true := by
          unfold ty_qk at hqk
          rw [g1e] at hqk
          exact hqk
        unfold ty_sp at g2
        split at g2
        · cases g2
        rename_i lx hlx
        have hN : ty_NN p l en R s m args below meth c k1 k2 Q D b sa A M.2.1 nr ρ0 w0 tys ms M.1 lx := fun x hx => by
          obtain ⟨ox, h1, h2⟩ := ty_all_ok g2 x hx
          exact ih false cuts d isl M ms x.1 x.2 ox h1 own nm cd ret hPO p en R s m args below meth c Q D σ b sa L A nr ρ0 w0 tys cap k1 k2 hkc X Z hL (fun y hy => hG y (h2 y hy))
        have key : ∀ (e : ty_E) (K : ty_K), ty_st1 (ty_run mt cn f) mt cn d isl M ms q r lv st (e, K) = some lx → ty_Rl s D b sa A M.2.1 nr w0 tys ms ρ e lv st K ls xs ws H locs → W p l en R s m args below meth c H locs k1 k2 Q (F0 m q.1 ls xs) := by
          clear hR hlx
          intro e K hlx hR
          rcases ex_bif (P := fun z => z = some lx) hlx with ⟨g3, g4⟩ | ⟨hns, hlx⟩
          · have hnc : ty_call q = false := ty_str_nc g3
            rw [hnc] at hqk
            exact ty_sst_ok X Z hqk hdq g3 g4 hN hsub ha hR
          rcases ex_bif (P := fun z => z = some lx) hlx with ⟨g3, g4⟩ | ⟨g3, g4⟩
          · rw [g3] at hqk
            have hck : ty_ck mi own q = true := hqk
            unfold ty_cl at g4
            split at g4
            · cases g4
            · rename_i d'
              split at g4
              · cases g4
              · rename_i ar har
                obtain ⟨as, rest⟩ := ar
                obtain ⟨g5, g6⟩ := ex_bifs g4
                obtain ⟨c1, g5⟩ := ex_and g5
                obtain ⟨c4, c5⟩ := ex_and g5
                have c1 : ty_csum rest ≤ 8 := ex_ble c1
                have fin : ∀ (la : List ty_A), lx = ex_map (ty_bk r lv rest) la → ∀ a ∈ la, ty_G p l en R s m args below meth c k1 k2 Q D b sa A M.2.1 nr ρ0 w0 tys ms M.1 a.1 (r, lv, ex_app a.2.1 rest, a.2.2) := fun la hla a ha => by
                  rw [hla, ex_map_eq] at hN
                  exact (hN (ty_bk r lv rest a) (List.mem_map.mpr ⟨a, ha, rfl⟩)).2
                rcases ex_bif (P := fun z => z = some lx) g6 with ⟨g7, g8⟩ | ⟨g7, g8⟩
                · split at g8
                  · rename_i la hla
                    injection g8 with g8
                    obtain ⟨C, hC, happ⟩ := ty_fst_ok hla
                    obtain ⟨I, nL, hI, hMS, hM⟩ := hcn C hC
                    have hapk := fun (va : List Value) (hva : ty_sr b sa e.1 ρ ws as va) => ty_app_ok (D := D) (A := va_A ws H.size) happ hR.er hR.Kr hR.th hva
                    obtain ⟨va, xr, t1, t2, t4, t5⟩ := ty_take_ok har (xa := []) (ρ := ρ) (b := b) (sa := sa) (ws := ws) trivial hR.sr
                    obtain ⟨j1, j2, -⟩ := hapk va t1
                    obtain ⟨-, -, σ', s1, s2, s3, s4⟩ := hapk va t1
                    have hva : ∀ va', ty_sr b sa e.1 ρ ws as va' → ∃ σ', ty_er σ' C.2.2.1 ∧ ty_sr b sa C.2.2.1.1 σ' ws C.2.1 va' ∧ ty_Kr b sa C.2.2.1.1 σ' ws C.2.2.2.1 ∧ ∀ oc t, (∃ po ∈ C.2.2.2.2.1, ty_An D b sa σ' C.2.2.1.1 C.2.2.2.2.2.1 ws tys (va_A ws H.size) po oc t) → ∃ a ∈ la, ty_An D b sa ρ e.1 ms ws tys (va_A ws H.size) a oc t := fun va' h => (hapk va' h).2.2
                    refine ty_call_ok (Z := Z) (hkc := hkc) (Qa := fun _ st oc t => (∃ a ∈ la, ty_An D b sa ρ e.1 ms ws tys (va_A ws H.size) a oc t) ∧ va_F (va_A ws H.size) st t) X (hI := by rw [← j1]; exact hI) hMS j2 hck hdq har c1 c4 c5 (fun va' hva' => ?_) (fun v st oc t h => h) (fin la g8.symm) hsub ha hR
                    obtain ⟨σ', s1, s2, s3, s4⟩ := hva va' hva'
                    exact ty_met_mono (hM D b sa σ' ws tys va' H.size s1 s2 s3 hR.th) (fun v st oc t h => ⟨s4 oc t h.1, h.2⟩)
                  · split at g8
                    · rename_i i hi
                      exact ty_spl_ok g8 hN hsub ha hR
                    · split at g8
                      · exact ty_spl_ok g8 hN hsub ha hR
                      · cases g8
                · split at g8
                  · cases g8
                  · rename_i M' hM'
                    obtain ⟨g8, g9⟩ := ex_bifs g8
                    split at g9
                    · cases g9
                    · rename_i outs houts
                      split at g9
                      · cases g9
                      · rename_i la hla
                        injection g9 with g9
                        obtain ⟨I, hI, hMO⟩ := hmt _ _ hM'
                        exact ty_call_ok X Z hkc hI hMO.1 (Nat.le_refl _) hck hdq har c1 c4 c5 (fun va hva => ty_met ih hMO houts hla hR.er hva (ex_ble g8) hR.Kr hR.th) (fun v st oc t h => h) (fin la g9.symm) hsub ha hR
          · rw [g3] at hqk
            exact ty_step_ok hgw hkc X hL hns hqk hdq g4 hN hsub ha hR
        unfold ty_st0 at hlx
        obtain ⟨s1, s2, s3⟩ := ty_sat_ok hR.th hR.er hR.Kr
        rcases ex_bif (P := fun z => z = some lx) hlx with ⟨-, hlx⟩ | ⟨-, hlx⟩
        · exact key _ _ hlx ((hR.kn s3).nar s2 s1)
        split at hlx
        · rename_i l1 hl1
          injection hlx with hlx
          subst hlx
          exact key e K hl1 hR
        · obtain ⟨-, hlx⟩ := ex_bifs hlx
          exact key _ _ hlx ((hR.kn s3).nar s2 s1)
end TYD
end
section
/-! loops: each head has a form, and something falls from head to head -/
abbrev ty_Tp : Type := Nat × ty_E × ty_L × ty_K × List ty_t
def ty_lx : List Nat → List Nat → Prop
  | a :: s, b :: t => a < b ∨ (a ≤ b ∧ ty_lx s t)
  | _, _ => False
theorem ty_lx_nil {l : List Nat} (h : ty_lx l []) : False := by
  cases l with
  | nil => exact h
  | cons a t => exact h
theorem ty_lx_ind : ∀ (N : Nat) (P : List Nat → Prop), (∀ l, l.length ≤ N → (∀ l', l'.length ≤ N → ty_lx l' l → P l') → P l) → ∀ l, l.length ≤ N → P l
  | 0, P, step, l, hl => by
    cases l with
    | nil => exact step [] (Nat.le_refl _) (fun l' _ h => (ty_lx_nil h).elim)
    | cons a t => exact absurd hl (by rw [List.length_cons]; omega)
  | N + 1, P, step, l, hl => by
    cases l with
    | nil => exact step [] hl (fun l' _ h => (ty_lx_nil h).elim)
    | cons a t =>
      have key : ∀ (n a : Nat), a < n → ∀ t, t.length ≤ N → P (a :: t) := by
        intro n
        induction n with
        | zero => exact fun a h => by omega
        | succ n ih =>
          intro a ha
          refine ty_lx_ind N (fun t => P (a :: t)) (fun t ht hi => step (a :: t) (by rw [List.length_cons]; omega) (fun l' hl' hx => ?_))
          cases l' with
          | nil => exact hx.elim
          | cons a' t' =>
            rw [List.length_cons] at hl'
            rcases hx with hx | ⟨hx, hx'⟩
            · exact ih a' (by omega) t' (by omega)
            · by_cases e : a' = a
              · subst e
                exact hi t' (by omega) hx'
              · exact ih a' (by omega) t' (by omega)
      exact key (a + 1) a (Nat.lt_succ_self _) t (by rw [List.length_cons] at hl; omega)
noncomputable def ty_id (n : Nat) : ty_H := ex_map (fun i => (i, ty_s i)) (ex_range n 0)
noncomputable def ty_isS (i : Nat) (t : ty_t) : Bool := match t with
  | (c, [(j, a)]) => ty_0 c && (Nat.beq i j && ty_0 (a - 1))
  | _ => false
noncomputable def ty_idc (n : Nat) (th : ty_H) : Bool := ty_every (fun i => ty_isS i (ty_tm th i)) (ex_range n 0)
theorem ty_isS_ok {i : Nat} {t : ty_t} (h : ty_isS i t = true) (ρ : Nat → Int) : ty_ev ρ t = ρ i := by
  unfold ty_isS at h
  split at h
  · rename_i c j a
    obtain ⟨h1, h2⟩ := ex_and h
    obtain ⟨h2, h3⟩ := ex_and h2
    have h1 := ty_0_t h1
    have h2 := ex_beq h2
    have h3 := ty_0_t h3
    subst h2
    show c + (a * ρ i + 0) = ρ i
    rw [h1, show a = 1 by omega]
    omega
  · cases h
theorem ty_idc_ok {n : Nat} {th : ty_H} (h : ty_idc n th = true) (ρ : Nat → Int) {i : Nat} (hi : i < n) : ty_ev ρ (ty_tm th i) = ρ i := ty_isS_ok (ty_every_t h i ((ex_range_mem _ _ _).mpr ⟨Nat.zero_le _, by omega⟩)) ρ
noncomputable def ty_bL (lv : ty_L) (l : ty_L) : ty_H → ty_H := List.rec (motive := fun _ => ty_H → ty_H) (fun th => th) (fun q _ ih th => match ex_lk lv q.1 with
  | some v => ih (ty_bw th q.2 v)
  | none => ih th) l
noncomputable def ty_lms (e : ty_E) (th : ty_H) (n : Nat) (lv : ty_L) (l : ty_L) : Bool := ty_every (fun q => match ex_lk lv q.1 with
  | some v => ty_vm e th n q.2 v
  | none => false) l
noncomputable def ty_lxb (e : ty_E) (th : ty_H) (n : Nat) (o : List ty_t) : List ty_t → Bool := List.rec (motive := fun _ => List ty_t → Bool) (fun _ => false) (fun t _ ih ns => match ns with
  | [] => false
  | u :: us => ty_scb n u && (ty_ent e (ty_pl (ty_add (ty_sb th u) t (-1)) 1) || (ty_ent e (ty_add (ty_sb th u) t (-1)) && ih us))) o
noncomputable def ty_nil {α : Type} (l : List α) : Bool := match l with
  | [] => true
  | _ :: _ => false
noncomputable def ty_dec (e : ty_E) (th : ty_H) (n : Nat) (old : Option (List ty_t)) (w : List ty_t) : Bool := match old with
  | none => true
  | some o => ty_lxb e th n o w
noncomputable def ty_mt2 (n0 : Nat) (old : Option (List ty_t)) (lv : ty_L) (T : ty_Tp) (e : ty_E) (K : ty_K) (th : ty_H) : Bool := ty_idc n0 th && (ty_insE e th T.2.1 && (ty_lms e th T.2.1.1 lv T.2.2.1 && (ty_kms e th T.2.1.1 K T.2.2.2.1 && ty_dec e th T.2.1.1 old T.2.2.2.2)))
noncomputable def ty_mt1 (n0 : Nat) (old : Option (List ty_t)) (lv : ty_L) (T : ty_Tp) (x : ty_E × ty_K) : Bool := ty_mt2 n0 old lv T x.1 x.2 (ty_bK x.1 x.2 T.2.2.2.1 (ty_bL lv T.2.2.1 (ty_id n0)))
noncomputable def ty_mtT (n0 : Nat) (old : Option (List ty_t)) (x : ty_E × ty_S) (T : ty_Tp) : Bool := match x with
  | (e, (q :: _, lv, st, K)) => Nat.beq q.1 T.1 && (ty_nil st && ty_mt1 n0 old lv T (ty_sat e K))
  | _ => false
noncomputable def ty_mp2 (n0 : Nat) (po : ty_A) (rs : List ty_V) (e : ty_E) (K : ty_K) (th : ty_H) : Bool := ty_idc n0 th && (Nat.ble n0 po.1.1 && (ty_insE e th po.1 && (ty_vms e th po.1.1 po.2.1 rs && ty_kms e th po.1.1 K po.2.2)))
noncomputable def ty_mp1 (n0 : Nat) (po : ty_A) (rs : List ty_V) (x : ty_E × ty_K) : Bool := ty_mp2 n0 po rs x.1 x.2 (ty_bK x.1 x.2 po.2.2 (ty_bvs po.2.1 rs (ty_id n0)))
noncomputable def ty_mpP (z n0 : Nat) (ps : List ty_A) (x : ty_E × ty_S) : Bool := match ty_ret z x with
  | some a => ex_any (fun po => ty_mp1 n0 po a.2.1 (ty_sat a.1 a.2.2)) ps
  | none => false
noncomputable def ty_wfT (n0 : Nat) (T : ty_Tp) : Bool := Nat.ble n0 T.2.1.1 && (Nat.ble (ex_len T.2.2.2.2) 12 && ty_every (fun t => ty_scb T.2.1.1 t && ty_le (-4611686018427387903) (ty_lo T.2.1 t)) T.2.2.2.2)
noncomputable def ty_outs (good : ty_E × ty_S → Bool) (n0 : Nat) (old : Option (List ty_t)) (ts : List ty_Tp) (o : Option (List (ty_E × ty_S))) : Bool := match o with
  | some l => ty_every (fun x => good x || ex_any (ty_mtT n0 old x) ts) l
  | none => false
noncomputable def ty_okT (mt : Nat → Option ex_M) (cn : List ty_Con) (f : Nat) (good : ty_E × ty_S → Bool) (n0 d : Nat) (isl : Bool) (M : ex_M) (ms : ty_M) (ts : List ty_Tp) (T : ty_Tp) : Bool := ty_wfT n0 T && ty_outs good n0 (some T.2.2.2.2) ts (ty_run mt cn f true (ex_map (fun T => T.1) ts) d isl M ms T.2.1 (ex_jp M.1 T.1, T.2.2.1, [], T.2.2.2.1))
noncomputable def ty_okE (mt : Nat → Option ex_M) (cn : List ty_Con) (f : Nat) (good : ty_E × ty_S → Bool) (n0 d : Nat) (isl : Bool) (M : ex_M) (ms : ty_M) (ts : List ty_Tp) (e : ty_E) (S : ty_S) : Bool := ty_outs good n0 none ts (ty_run mt cn f false (ex_map (fun T => T.1) ts) d isl M ms e S)
section TYE
variable {p : Program} {l : Launch} {en : Env} {R : Room} {s : State} {m : MethodId} {args : Array Value} {below : List Frame} {meth : Method} {c : Code} {k1 k2 : Nat} {Q : State → Prop} {D : va_G} {b : Nat} {sa : Nat → Nat} {A : Nat → Prop} {mL nr : Nat} {ρ0 ρ : Nat → Int} {w0 : va_W} {tys : List (ClassId × FieldType)} {ms : ty_M} {pr : List ex_P}
variable {e : ty_E} {lv : ty_L} {st : List ty_V} {K : ty_K} {ls : Array Slot} {xs : List Value} {ws : va_W} {H : Heap} {locs : List Loc} {q : ex_P} {r : List ex_P} {o : List (ty_E × ty_S)}
theorem ty_Rl.re (hR : ty_Rl s D b sa A mL nr w0 tys ms ρ e lv st K ls xs ws H locs) {nr' : Nat} (hn : nr' ≤ e.1) : ty_Rl s D b sa A mL nr' w0 tys ms ρ e lv st K ls xs ws H locs := by
  obtain ⟨h1, h2, h3, h4, h5, h6, h7, h8⟩ := hR
  exact ⟨h1, h2, h3, h4, h5, h6, hn, h8⟩
theorem ty_lms_ok {th : ty_H} {n : Nat} {σ : Nat → Int} (he : ty_er ρ e) (h : ty_tq n th e.1 ρ σ) (hl : ∃ lw, lv_has ls mL lw ∧ ty_lr b sa e.1 ρ ws lv lw) : ∀ {l : ty_L}, ty_lms e th n lv l = true → ∃ lw, lv_has ls mL lw ∧ ty_lr b sa n σ ws l lw
  | [], _ => ⟨[], ⟨hl.choose_spec.1.1, hl.choose_spec.1.2.1, fun q hq => by cases hq⟩, trivial⟩
  | q :: l, hm => by
    obtain ⟨h1, h2⟩ := ex_and (show ((match ex_lk lv q.1 with
      | some v => ty_vm e th n q.2 v
      | none => false) && ty_lms e th n lv l) = true from hm)
    obtain ⟨lw', a1, a2⟩ := ty_lms_ok he h hl h2
    obtain ⟨lw, b1, b2⟩ := hl
    split at h1
    · rename_i v hv
      obtain ⟨k, x, c1, c2⟩ := ty_lr_lk b2 hv
      refine ⟨(q.1, x) :: lw', ⟨a1.1, a1.2.1, fun y hy => ?_⟩, ⟨rfl, ty_vm_ok he h h1 c2⟩, a2⟩
      rcases List.mem_cons.mp hy with rfl | hy
      · exact lv_at b1 k c1
      · exact a1.2.2 y hy
    · cases h1
theorem ty_lxb_ok {th : ty_H} {n m0 : Nat} {σ ρ1 : Nat → Int} (he : ty_er ρ e) (h : ty_tq n th e.1 ρ σ) (hag : ty_ag m0 ρ1 ρ) : ∀ {o w : List ty_t}, (∀ t ∈ o, ty_sc m0 t ∧ -4611686018427387903 ≤ ty_ev ρ1 t) → ty_lxb e th n o w = true → ty_lx (w.map (fun t => (ty_ev σ t + 4611686018427387904).toNat)) (o.map (fun t => (ty_ev ρ1 t + 4611686018427387904).toNat))
  | [], _, _, hm => by cases (show false = true from hm)
  | _ :: _, [], _, hm => by cases (show false = true from hm)
  | t :: o, u :: w, ho, hm => by
    obtain ⟨h1, h2⟩ := ex_and (show (ty_scb n u && (ty_ent e (ty_pl (ty_add (ty_sb th u) t (-1)) 1) || (ty_ent e (ty_add (ty_sb th u) t (-1)) && ty_lxb e th n o w))) = true from hm)
    obtain ⟨k1, k2⟩ := ho t List.mem_cons_self
    have e1 : ty_ev ρ t = ty_ev ρ1 t := ty_ev_ag hag k1
    have e2 := (ty_sb_ok h (ty_scb_t h1)).2
    rcases Bool.or_eq_true _ _ |>.mp h2 with h2 | h2
    · have h2 := ty_ent_ok he h2
      rw [ty_pl_ev, ty_sub_ev, e1, e2] at h2
      exact Or.inl (by show (ty_ev σ u + 4611686018427387904).toNat < (ty_ev ρ1 t + 4611686018427387904).toNat; omega)
    · obtain ⟨h2, h3⟩ := ex_and h2
      have h2 := ty_ent_ok he h2
      rw [ty_sub_ev, e1, e2] at h2
      exact Or.inr ⟨by show (ty_ev σ u + 4611686018427387904).toNat ≤ (ty_ev ρ1 t + 4611686018427387904).toNat; omega, ty_lxb_ok he h hag (fun z hz => ho z (List.mem_cons_of_mem _ hz)) h3⟩
variable {σ : Nat → Int32} {L d : Nat} {own nm : String} {cd : ByteArray} {cap : Nat × Nat} {isl : Bool} {mi : Nat → Option ex_I}
/-- a state at a head is that head's -/
theorem ty_mtT_ok {n0 : Nat} {old : Option (List ty_t)} {T : ty_Tp} {ρc : Nat → Int} {pc : Nat} {S : ty_S} (hm : ty_mtT n0 old (e, S) T = true) (hn : n0 ≤ T.2.1.1) (hc : ty_ag n0 ρc ρ) (hh : ∃ q r, S.1 = q :: r ∧ q.1 = pc) (hR : ty_Rl s D b sa A mL nr w0 tys ms ρ e S.2.1 S.2.2.1 S.2.2.2 ls xs ws H locs) :
    pc = T.1 ∧ xs = [] ∧ ∃ ρ', ty_ag n0 ρc ρ' ∧ ty_Rl s D b sa A mL n0 w0 tys ms ρ' T.2.1 T.2.2.1 [] T.2.2.2.1 ls [] ws H locs ∧ ∀ o, old = some o → ∀ (m0 : Nat) (ρ1 : Nat → Int), ty_ag m0 ρ1 ρ → (∀ t ∈ o, ty_sc m0 t ∧ -4611686018427387903 ≤ ty_ev ρ1 t) → ty_lx (T.2.2.2.2.map (fun t => (ty_ev ρ' t + 4611686018427387904).toNat)) (o.map (fun t => (ty_ev ρ1 t + 4611686018427387904).toNat)) := by
  obtain ⟨sx, lv, st, K⟩ := S
  obtain ⟨q, r, e0, e1⟩ := hh
  have e0 : sx = q :: r := e0
  subst e0
  obtain ⟨h1, hm⟩ := ex_and (show (Nat.beq q.1 T.1 && (ty_nil st && ty_mt1 n0 old lv T (ty_sat e K))) = true from hm)
  obtain ⟨h2, hm⟩ := ex_and hm
  obtain ⟨s1, s2, s3⟩ := ty_sat_ok hR.th hR.er hR.Kr
  obtain ⟨g1, hm⟩ := ex_and hm
  obtain ⟨g2, hm⟩ := ex_and hm
  obtain ⟨g3, hm⟩ := ex_and hm
  obtain ⟨g4, g5⟩ := ex_and hm
  cases st with
  | cons a t => cases h2
  | nil =>
    have hxs := ty_sr_nil hR.sr
    obtain ⟨t1, t2⟩ := ty_insE_ok s1 g2
    refine ⟨e1.symm.trans (ex_beq h1), hxs, _, fun i hi => ?_, ⟨?_, t2, trivial, ty_kms_ok s1 t1 (by rw [s2]; exact s3) g4, hR.th, hR.fr, hn, hR.hK, hR.hP, hR.hD, hR.hS, hR.xt⟩, fun o ho m0 ρ1 ha1 hw => ?_⟩
    · have := (t1 i (by omega)).2
      rw [ty_idc_ok g1 ρ hi] at this
      exact (hc i hi).trans this
    · exact ty_lms_ok s1 t1 (by rw [s2]; exact hR.1) g3
    · subst ho
      exact ty_lxb_ok s1 t1 ha1 hw g5
set_option maxHeartbeats 4000000 in
theorem ty_loop {mt : Nat → Option ex_M} {cn : List ty_Con} {f : Nat} (hs : ty_Snd mt mi cn l f) {M : ex_M} {ret : Option FieldType} (hPO : ty_PO mi own nm cd M.2.2.1 ret M.1) (X : ex_X p R s m args meth c σ b L A own nm cd M.2.1 d cap isl) (Z : ty_Z sa A s) (hkc : k1 ≤ R.cells ∧ k2 ≤ R.slots) {n0 : Nat} {ρc : Nat → Int} (hL : isl = true → ρc 0 = (L : Int) ∧ 0 < n0 ∧ L < 2147483648) {good : ty_E × ty_S → Bool} {ts : List ty_Tp}
    (hT : ∀ T ∈ ts, ty_okT mt cn f good n0 d isl M ms ts T = true) (hgood : ∀ x, good x = true → ∀ (nr : Nat) (ρ : Nat → Int), n0 ≤ nr → ty_ag n0 ρc ρ → ty_G p l en R s m args below meth c k1 k2 Q D b sa A M.2.1 nr ρ w0 tys ms M.1 x.1 x.2) :
    ∀ T ∈ ts, ∀ ρ, ty_ag n0 ρc ρ → ∀ (ls : Array Slot) (ws : va_W) (H : Heap) (locs : List Loc), ty_Rl s D b sa A M.2.1 n0 w0 tys ms ρ T.2.1 T.2.2.1 [] T.2.2.2.1 ls [] ws H locs → W p l en R s m args below meth c H locs k1 k2 Q (F0 m T.1 ls []) := by
  have key := ty_lx_ind 12 (fun μ => ∀ T ∈ ts, ∀ ρ, T.2.2.2.2.map (fun t => (ty_ev ρ t + 4611686018427387904).toNat) = μ → ty_ag n0 ρc ρ → ∀ (ls : Array Slot) (ws : va_W) (H : Heap) (locs : List Loc), ty_Rl s D b sa A M.2.1 n0 w0 tys ms ρ T.2.1 T.2.2.1 [] T.2.2.2.1 ls [] ws H locs → W p l en R s m args below meth c H locs k1 k2 Q (F0 m T.1 ls [])) ?_
  · intro T hTm ρ hag ls ws H locs hR
    obtain ⟨h1, -⟩ := ex_and (hT T hTm)
    obtain ⟨-, h1⟩ := ex_and h1
    obtain ⟨h1, -⟩ := ex_and h1
    have h1 := ex_ble h1
    rw [ex_len_eq] at h1
    exact key _ (by rw [List.length_map]; exact h1) T hTm ρ rfl hag ls ws H locs hR
  · intro μ hμ ih T hTm ρ hw hag ls ws H locs hR
    obtain ⟨h1, h2⟩ := ex_and (hT T hTm)
    obtain ⟨h3, h1⟩ := ex_and h1
    obtain ⟨-, h4⟩ := ex_and h1
    have h3 := ex_ble h3
    have h4 := ty_every_t h4
    unfold ty_outs at h2
    split at h2
    · rename_i outs houts
      have h2 := ty_every_t h2
      have hG := hs true _ d isl M ms T.2.1 _ outs houts own nm cd ret hPO p en R s m args below meth c Q D σ b sa L A T.2.1.1 ρ w0 tys cap k1 k2 hkc X Z (fun z => by
        obtain ⟨z1, z2, z3⟩ := hL z
        exact ⟨(hag 0 z2).symm.trans z1, by omega, z3⟩) (fun x hx => by
        rcases Bool.or_eq_true _ _ |>.mp (h2 x hx) with h5 | h5
        · exact hgood x h5 T.2.1.1 ρ h3 hag
        · obtain ⟨T', hT', h6⟩ := ty_any_t h5
          intro ρ' ha' pc ls' xs' ws' H' locs' hh hsub hR'
          obtain ⟨h7, -⟩ := ex_and (hT T' hT')
          obtain ⟨h7, h8⟩ := ex_and h7
          obtain ⟨h8, -⟩ := ex_and h8
          have h8 := ex_ble h8
          rw [ex_len_eq] at h8
          obtain ⟨e1, e2, ρ'', k1, k2, k3⟩ := ty_mtT_ok h6 (ex_ble h7) (hag.tr ha' h3) hh hR'
          subst e1
          subst e2
          have hlx := k3 T.2.2.2.2 rfl T.2.1.1 ρ ha' (fun t ht => by
            obtain ⟨z1, z2⟩ := ex_and (h4 t ht)
            have z2 := ty_le_t z2
            have z3 := ty_lo_ok hR.er.1 t
            exact ⟨ty_scb_t z1, by omega⟩)
          rw [hw] at hlx
          exact ih _ (by rw [List.length_map]; exact h8) hlx T' hT' ρ'' rfl k1 ls' ws' H' locs' k2)
      exact hG.2 ρ (fun _ _ => rfl) T.1 ls [] ws H locs (ex_jp_sub.2.resolve_left hG.1) ex_jp_sub.1 (hR.re (Nat.le_refl _))
    · cases h2
set_option maxHeartbeats 4000000 in
/-- from a start: the same -/
theorem ty_entry {mt : Nat → Option ex_M} {cn : List ty_Con} {f : Nat} (hs : ty_Snd mt mi cn l f) {M : ex_M} {ret : Option FieldType} (hPO : ty_PO mi own nm cd M.2.2.1 ret M.1) (X : ex_X p R s m args meth c σ b L A own nm cd M.2.1 d cap isl) (Z : ty_Z sa A s) (hkc : k1 ≤ R.cells ∧ k2 ≤ R.slots) {n0 : Nat} {ρc : Nat → Int} (hL : isl = true → ρc 0 = (L : Int) ∧ 0 < n0 ∧ L < 2147483648) {good : ty_E × ty_S → Bool} {ts : List ty_Tp}
    (hT : ∀ T ∈ ts, ty_okT mt cn f good n0 d isl M ms ts T = true) (hgood : ∀ x, good x = true → ∀ (nr : Nat) (ρ : Nat → Int), n0 ≤ nr → ty_ag n0 ρc ρ → ty_G p l en R s m args below meth c k1 k2 Q D b sa A M.2.1 nr ρ w0 tys ms M.1 x.1 x.2) {S : ty_S} (hE : ty_okE mt cn f good n0 d isl M ms ts e S = true) : S.1 ≠ [] ∧ ty_G p l en R s m args below meth c k1 k2 Q D b sa A M.2.1 n0 ρc w0 tys ms M.1 e S := by
  unfold ty_okE ty_outs at hE
  split at hE
  · rename_i outs houts
    have h2 := ty_every_t hE
    refine hs false _ d isl M ms e _ outs houts own nm cd ret hPO p en R s m args below meth c Q D σ b sa L A n0 ρc w0 tys cap k1 k2 hkc X Z hL (fun x hx => ?_)
    rcases Bool.or_eq_true _ _ |>.mp (h2 x hx) with h5 | h5
    · exact hgood x h5 n0 ρc (Nat.le_refl _) (fun _ _ => rfl)
    · obtain ⟨T', hT', h6⟩ := ty_any_t h5
      intro ρ' ha' pc ls' xs' ws' H' locs' hh hsub hR'
      obtain ⟨h7, -⟩ := ex_and (hT T' hT')
      obtain ⟨h7, -⟩ := ex_and h7
      obtain ⟨e1, e2, ρ'', k1, k2, -⟩ := ty_mtT_ok h6 (ex_ble h7) ha' hh hR'
      subst e1
      subst e2
      exact ty_loop hs hPO X Z hkc hL hT hgood T' hT' ρ'' k1 ls' ws' H' locs' k2
  · cases hE
end TYE
/-! a contract is kept -/
noncomputable def ty_in0 (sp : Option (Nat ⊕ ty_t)) (e : ty_E) (S : ty_S) : Option (List (ty_E × ty_S)) := match sp with
  | none => some [(e, S)]
  | some (.inl i) => ty_spl e i S
  | some (.inr d) => bif ty_scb e.1 d then some (ty_cut e d S) else none
noncomputable def ty_okL (f : ty_E × ty_S → Bool) (o : Option (List (ty_E × ty_S))) : Bool := match o with
  | some l => ty_every f l
  | none => false
set_option maxHeartbeats 4000000 in
theorem ty_chk {l : Launch} {mi : Nat → Option ex_I} {mt : Nat → Option ex_M} {cn : List ty_Con} {f : Nat} (hs : ty_Snd mt mi cn l f) {C : ty_Con} {M : ex_M} {I : ex_I} (hI : mi C.1 = some I) (hMO : ty_MO mi M I) {ts : List ty_Tp} {sp : Option (Nat ⊕ ty_t)} (h0 : (Nat.ble (ty_csum C.2.1) M.2.1 && ty_okL (fun x => ty_okE mt cn f (ty_mpP M.2.2.1 C.2.2.1.1 C.2.2.2.2.1) C.2.2.1.1 C.2.2.2.2.2.2 false M C.2.2.2.2.2.1 ts x.1 x.2) (ty_in0 sp C.2.2.1 (M.1, ty_args C.2.1 0, [], C.2.2.2.1))) = true) (hT : ∀ T ∈ ts, ty_okT mt cn f (ty_mpP M.2.2.1 C.2.2.1.1 C.2.2.2.2.1) C.2.2.1.1 C.2.2.2.2.2.2 false M C.2.2.2.2.2.1 ts T = true) : ty_ConOk mi l C := by
  refine ⟨I, M.2.1, hI, hMO.1, fun D b sa ρ ws tys va sz he ha hK hth => ?_⟩
  obtain ⟨hlen, hE⟩ := ex_and h0
  obtain ⟨m0, m8, m9⟩ := hMO
  refine Met.ofW (cc := I.2.1) (maxL := M.2.1) (ret := I.2.2.1) m0.1 rfl ?_
  intro p en s m args below meth c s₁ B hml hv
  obtain ⟨rfl, ⟨hsz, hP, hK0, hD0, hNw, hAO⟩, Z⟩ := hv
  subst hsz
  have hts := atoms_spec (ws := Cond.code I.1 I.2.1 M.2.1 I.2.2.1 :: ex_tb) B.pre
  have X : ex_X p (headSpec (Cond.code I.1 I.2.1 M.2.1 I.2.2.1 :: ex_tb) (ty_Rm C.2.2.2.2.2.2)).room s m va.toArray meth c (fun _ => 0) b 0 (va_A ws s.heap.size) I.1.cls I.1.name I.2.1 M.2.1 C.2.2.2.2.2.2 (0, 0) false := ⟨B.exec, B.bytes, hml, findClass_of_methodNamed B.named, fun w hw => hts w (List.mem_cons_of_mem _ hw), fun q hq => Or.inr hq, hNw, hAO, (fun z => by cases z), (name_of_methodNamed B.named B.method).1, ⟨Nat.le_refl _, Nat.le_refl _⟩, Nat.le_refl _, Nat.le_refl _⟩
  have hG0 := fun (x : ty_E × ty_S) (hx : ty_okE mt cn f (ty_mpP M.2.2.1 C.2.2.1.1 C.2.2.2.2.1) C.2.2.1.1 C.2.2.2.2.2.2 false M C.2.2.2.2.2.1 ts x.1 x.2 = true) => ty_entry (en := en) (below := below) (D := D) (sa := sa) (w0 := ws) (tys := tys) (Q := MQ below (ty_Qc D b sa ρ C.2.2.1.1 C.2.2.2.2.2.1 ws tys s.heap.size C.2.2.2.2.1) va.toArray s 0 0 (va_A ws s.heap.size)) hs m9 X Z ⟨Nat.zero_le _, Nat.zero_le _⟩ (n0 := C.2.2.1.1) (ρc := ρ) (fun z => by cases z) hT (fun x' hx nr ρ1 hn hag => by
    unfold ty_mpP at hx
    split at hx
    · rename_i a hra
      refine ty_ret_ok B.exec B.bytes B.returns B.notSynchronized m9 hra (fun oc t hA hF => ⟨?_, hF⟩)
      obtain ⟨po, hpo, hm⟩ := ty_any_t hx
      refine ⟨po, hpo, ?_⟩
      obtain ⟨ρ', vo, ws', a1, a2, a3, a4, a5, a6, a7⟩ := hA
      obtain ⟨s1, s2, s3⟩ := ty_sat_ok a7.1 a4 a6
      obtain ⟨g1, hm⟩ := ex_and hm
      obtain ⟨g2, hm⟩ := ex_and hm
      obtain ⟨g3, hm⟩ := ex_and hm
      obtain ⟨g4, g5⟩ := ex_and hm
      obtain ⟨t1, t2⟩ := ty_insE_ok s1 g3
      have g2 := ex_ble g2
      refine ⟨_, vo, ws', a1, fun i hi => ?_, g2, t2, ty_vms_ok s1 t1 g4 (by rw [s2]; exact a5), ty_kms_ok s1 t1 (by rw [s2]; exact s3) g5, a7⟩
      have := (t1 i (by omega)).2
      rw [ty_idc_ok g1 ρ' hi] at this
      exact ((hag.tr a2 hn) i hi).trans this
    · cases hx) hx
  rw [lg_entry_eq]
  obtain ⟨a1, a2⟩ := ty_args_ok ha 0
  have hl := lv_entry va (n := M.2.1) (by rw [a2]; exact ex_ble hlen)
  obtain ⟨q, r, hq, hq0⟩ := m8
  have hR0 : ty_Rl s D b sa (va_A ws s.heap.size) M.2.1 C.2.2.1.1 ws tys C.2.2.2.2.2.1 ρ C.2.2.1 (ty_args C.2.1 0) [] C.2.2.2.1 _ [] ws s.heap [] := ⟨⟨_, hl, a1⟩, he, trivial, hK, hth, ty_frm.rf, Nat.le_refl _, hK0, hP, hD0.self, va_S.rf, ex_xt.rf⟩
  rw [hq] at hE
  have hsub : ∀ x ∈ q :: r, x ∈ M.1 := fun x hx => by rw [hq]; exact hx
  unfold ty_okL at hE
  split at hE
  · rename_i lx hlx
    have hE := ty_every_t hE
    have hN : ∀ x ∈ lx, _ := fun x hx => hG0 x (hE x hx)
    cases sp with
    | none =>
      have hlx : some [(C.2.2.1, ((q :: r, ty_args C.2.1 0, [], C.2.2.2.1) : ty_S))] = some lx := hlx
      injection hlx with hlx
      subst hlx
      have := (hN _ (List.mem_singleton.mpr rfl)).2 ρ (fun _ _ => rfl) q.1 _ [] ws s.heap [] ⟨q, r, rfl, rfl⟩ hsub hR0
      rw [hq0] at this
      exact this
    | some z =>
      cases z with
      | inl i =>
        have := ty_spl_ok (show ty_spl C.2.2.1 i (q :: r, ty_args C.2.1 0, [], C.2.2.2.1) = some lx from hlx) hN hsub (fun _ _ => rfl) hR0
        rw [hq0] at this
        exact this
      | inr d =>
        obtain ⟨h1, h2⟩ := ex_bifs (show (bif ty_scb C.2.2.1.1 d then some (ty_cut C.2.2.1 d (q :: r, ty_args C.2.1 0, [], C.2.2.2.1)) else none) = some lx from hlx)
        injection h2 with h2
        subst h2
        have := ty_cut_ok (ty_scb_t h1) hN hsub (fun _ _ => rfl) hR0
        rw [hq0] at this
        exact this
  · cases hE
end
