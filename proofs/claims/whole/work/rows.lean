section
-- ===== PART A: goes FIRST, ahead of the names: the tables' words, and 'selects' of the private methods out of them =====
/-- a private method of a class that the tables say can be made, by its rows of tables_1 -/
def lw_okq (q : MethodName × Nat) : Prop := (q.1.cls ≠ "java/lang/invoke/MethodHandle" ∧ q.1.cls ≠ "java/lang/invoke/VarHandle") ∧ Cond.instantiable q.1.cls q.2 ∈ tables_1 ∧ Cond.privateMethod q.1 ∈ tables_1 ∧ Cond.instanceMethod q.1 ∈ tables_1
theorem lw_p0 : lw_okq (⟨"JackBoxes", "lengthen", "(I)I"⟩, 16) := ⟨⟨by decide +kernel, by decide +kernel⟩, List.mem_of_getElem? (i := 17) (by decide +kernel), List.mem_of_getElem? (i := 228) (by decide +kernel), List.mem_of_getElem? (i := 229) (by decide +kernel)⟩
theorem lw_p1 : lw_okq (⟨"JackBoxes$Boxes", "findFault", "()I"⟩, 7) := ⟨⟨by decide +kernel, by decide +kernel⟩, List.mem_of_getElem? (i := 25) (by decide +kernel), List.mem_of_getElem? (i := 236) (by decide +kernel), List.mem_of_getElem? (i := 237) (by decide +kernel)⟩
theorem lw_p2 : lw_okq (⟨"JackBoxes", "isBox", "(I)Z"⟩, 16) := ⟨⟨by decide +kernel, by decide +kernel⟩, List.mem_of_getElem? (i := 17) (by decide +kernel), List.mem_of_getElem? (i := 347) (by decide +kernel), List.mem_of_getElem? (i := 348) (by decide +kernel)⟩
theorem lw_p3 : lw_okq (⟨"JackBoxes", "finding", "(I)I"⟩, 16) := ⟨⟨by decide +kernel, by decide +kernel⟩, List.mem_of_getElem? (i := 17) (by decide +kernel), List.mem_of_getElem? (i := 395) (by decide +kernel), List.mem_of_getElem? (i := 396) (by decide +kernel)⟩
theorem lw_p4 : lw_okq (⟨"JackBoxes", "runAsTold", "()V"⟩, 16) := ⟨⟨by decide +kernel, by decide +kernel⟩, List.mem_of_getElem? (i := 17) (by decide +kernel), List.mem_of_getElem? (i := 408) (by decide +kernel), List.mem_of_getElem? (i := 409) (by decide +kernel)⟩
theorem lw_p5 : lw_okq (⟨"JackBoxes$Course", "go", "(I)V"⟩, 16) := ⟨⟨by decide +kernel, by decide +kernel⟩, List.mem_of_getElem? (i := 91) (by decide +kernel), List.mem_of_getElem? (i := 433) (by decide +kernel), List.mem_of_getElem? (i := 434) (by decide +kernel)⟩
theorem lw_p6 : lw_okq (⟨"JackBoxes$Course", "opensByLaw", "(II)Z"⟩, 16) := ⟨⟨by decide +kernel, by decide +kernel⟩, List.mem_of_getElem? (i := 91) (by decide +kernel), List.mem_of_getElem? (i := 443) (by decide +kernel), List.mem_of_getElem? (i := 444) (by decide +kernel)⟩
theorem lw_p7 : lw_okq (⟨"JackBoxes", "isHushed", "(II)Z"⟩, 16) := ⟨⟨by decide +kernel, by decide +kernel⟩, List.mem_of_getElem? (i := 17) (by decide +kernel), List.mem_of_getElem? (i := 487) (by decide +kernel), List.mem_of_getElem? (i := 488) (by decide +kernel)⟩
theorem lw_p8 : lw_okq (⟨"JackBoxes", "findShelf", "(IZ)I"⟩, 16) := ⟨⟨by decide +kernel, by decide +kernel⟩, List.mem_of_getElem? (i := 17) (by decide +kernel), List.mem_of_getElem? (i := 495) (by decide +kernel), List.mem_of_getElem? (i := 496) (by decide +kernel)⟩
theorem lw_p9 : lw_okq (⟨"JackBoxes", "stepToNextRow", "(I)Z"⟩, 16) := ⟨⟨by decide +kernel, by decide +kernel⟩, List.mem_of_getElem? (i := 17) (by decide +kernel), List.mem_of_getElem? (i := 505) (by decide +kernel), List.mem_of_getElem? (i := 506) (by decide +kernel)⟩
theorem lw_p10 : lw_okq (⟨"JackBoxes", "findFitting", "(I)I"⟩, 16) := ⟨⟨by decide +kernel, by decide +kernel⟩, List.mem_of_getElem? (i := 17) (by decide +kernel), List.mem_of_getElem? (i := 521) (by decide +kernel), List.mem_of_getElem? (i := 522) (by decide +kernel)⟩
theorem lw_p11 : lw_okq (⟨"JackBoxes", "lastHeardStep", "()I"⟩, 16) := ⟨⟨by decide +kernel, by decide +kernel⟩, List.mem_of_getElem? (i := 17) (by decide +kernel), List.mem_of_getElem? (i := 525) (by decide +kernel), List.mem_of_getElem? (i := 526) (by decide +kernel)⟩
theorem lw_p12 : lw_okq (⟨"JackBoxes", "isAsHeard", "()Z"⟩, 16) := ⟨⟨by decide +kernel, by decide +kernel⟩, List.mem_of_getElem? (i := 17) (by decide +kernel), List.mem_of_getElem? (i := 534) (by decide +kernel), List.mem_of_getElem? (i := 535) (by decide +kernel)⟩
theorem lw_p13 : lw_okq (⟨"JackBoxes", "greatestAlike", "(IIII)I"⟩, 16) := ⟨⟨by decide +kernel, by decide +kernel⟩, List.mem_of_getElem? (i := 17) (by decide +kernel), List.mem_of_getElem? (i := 546) (by decide +kernel), List.mem_of_getElem? (i := 547) (by decide +kernel)⟩
theorem lw_p14 : lw_okq (⟨"JackBoxes", "weightUp", "(III)J"⟩, 16) := ⟨⟨by decide +kernel, by decide +kernel⟩, List.mem_of_getElem? (i := 17) (by decide +kernel), List.mem_of_getElem? (i := 559) (by decide +kernel), List.mem_of_getElem? (i := 560) (by decide +kernel)⟩
theorem lw_p15 : lw_okq (⟨"JackBoxes", "digestBox", "(JI)J"⟩, 16) := ⟨⟨by decide +kernel, by decide +kernel⟩, List.mem_of_getElem? (i := 17) (by decide +kernel), List.mem_of_getElem? (i := 649) (by decide +kernel), List.mem_of_getElem? (i := 650) (by decide +kernel)⟩
def lw_privs_1 : List (MethodName × Nat) := [(⟨"JackBoxes", "lengthen", "(I)I"⟩, 16), (⟨"JackBoxes$Boxes", "findFault", "()I"⟩, 7), (⟨"JackBoxes", "isBox", "(I)Z"⟩, 16), (⟨"JackBoxes", "finding", "(I)I"⟩, 16), (⟨"JackBoxes", "runAsTold", "()V"⟩, 16), (⟨"JackBoxes$Course", "go", "(I)V"⟩, 16), (⟨"JackBoxes$Course", "opensByLaw", "(II)Z"⟩, 16), (⟨"JackBoxes", "isHushed", "(II)Z"⟩, 16), (⟨"JackBoxes", "findShelf", "(IZ)I"⟩, 16), (⟨"JackBoxes", "stepToNextRow", "(I)Z"⟩, 16), (⟨"JackBoxes", "findFitting", "(I)I"⟩, 16), (⟨"JackBoxes", "lastHeardStep", "()I"⟩, 16), (⟨"JackBoxes", "isAsHeard", "()Z"⟩, 16), (⟨"JackBoxes", "greatestAlike", "(IIII)I"⟩, 16), (⟨"JackBoxes", "weightUp", "(III)J"⟩, 16), (⟨"JackBoxes", "digestBox", "(JI)J"⟩, 16)]
theorem lw_r1 : ∀ q ∈ lw_privs_1, lw_okq q := List.forall_mem_cons.mpr ⟨lw_p0, List.forall_mem_cons.mpr ⟨lw_p1, List.forall_mem_cons.mpr ⟨lw_p2, List.forall_mem_cons.mpr ⟨lw_p3, List.forall_mem_cons.mpr ⟨lw_p4, List.forall_mem_cons.mpr ⟨lw_p5, List.forall_mem_cons.mpr ⟨lw_p6, List.forall_mem_cons.mpr ⟨lw_p7, List.forall_mem_cons.mpr ⟨lw_p8, List.forall_mem_cons.mpr ⟨lw_p9, List.forall_mem_cons.mpr ⟨lw_p10, List.forall_mem_cons.mpr ⟨lw_p11, List.forall_mem_cons.mpr ⟨lw_p12, List.forall_mem_cons.mpr ⟨lw_p13, List.forall_mem_cons.mpr ⟨lw_p14, List.forall_mem_cons.mpr ⟨lw_p15, fun _ h => absurd h List.not_mem_nil⟩⟩⟩⟩⟩⟩⟩⟩⟩⟩⟩⟩⟩⟩⟩⟩
theorem lw_p16 : lw_okq (⟨"JackBoxesModel", "finds", "(I)I"⟩, 29) := ⟨⟨by decide +kernel, by decide +kernel⟩, List.mem_of_getElem? (i := 671) (by decide +kernel), List.mem_of_getElem? (i := 777) (by decide +kernel), List.mem_of_getElem? (i := 778) (by decide +kernel)⟩
theorem lw_p17 : lw_okq (⟨"JackBoxesModel", "lacks", "(III)I"⟩, 29) := ⟨⟨by decide +kernel, by decide +kernel⟩, List.mem_of_getElem? (i := 671) (by decide +kernel), List.mem_of_getElem? (i := 789) (by decide +kernel), List.mem_of_getElem? (i := 790) (by decide +kernel)⟩
theorem lw_p18 : lw_okq (⟨"JackBoxesModel", "reads", "()I"⟩, 29) := ⟨⟨by decide +kernel, by decide +kernel⟩, List.mem_of_getElem? (i := 671) (by decide +kernel), List.mem_of_getElem? (i := 822) (by decide +kernel), List.mem_of_getElem? (i := 823) (by decide +kernel)⟩
theorem lw_p19 : lw_okq (⟨"JackBoxesModel", "readsBox", "()Z"⟩, 29) := ⟨⟨by decide +kernel, by decide +kernel⟩, List.mem_of_getElem? (i := 671) (by decide +kernel), List.mem_of_getElem? (i := 826) (by decide +kernel), List.mem_of_getElem? (i := 827) (by decide +kernel)⟩
theorem lw_p20 : lw_okq (⟨"JackBoxesModel", "isBox", "(I)Z"⟩, 29) := ⟨⟨by decide +kernel, by decide +kernel⟩, List.mem_of_getElem? (i := 671) (by decide +kernel), List.mem_of_getElem? (i := 839) (by decide +kernel), List.mem_of_getElem? (i := 840) (by decide +kernel)⟩
theorem lw_p21 : lw_okq (⟨"JackBoxesModel", "find", "()V"⟩, 29) := ⟨⟨by decide +kernel, by decide +kernel⟩, List.mem_of_getElem? (i := 671) (by decide +kernel), List.mem_of_getElem? (i := 881) (by decide +kernel), List.mem_of_getElem? (i := 882) (by decide +kernel)⟩
theorem lw_p22 : lw_okq (⟨"JackBoxesModel", "plain", "()V"⟩, 29) := ⟨⟨by decide +kernel, by decide +kernel⟩, List.mem_of_getElem? (i := 671) (by decide +kernel), List.mem_of_getElem? (i := 885) (by decide +kernel), List.mem_of_getElem? (i := 886) (by decide +kernel)⟩
theorem lw_p23 : lw_okq (⟨"JackBoxesModel", "lives", "(I)V"⟩, 29) := ⟨⟨by decide +kernel, by decide +kernel⟩, List.mem_of_getElem? (i := 671) (by decide +kernel), List.mem_of_getElem? (i := 889) (by decide +kernel), List.mem_of_getElem? (i := 890) (by decide +kernel)⟩
theorem lw_p24 : lw_okq (⟨"JackBoxesModel", "springAt", "(II)I"⟩, 29) := ⟨⟨by decide +kernel, by decide +kernel⟩, List.mem_of_getElem? (i := 671) (by decide +kernel), List.mem_of_getElem? (i := 896) (by decide +kernel), List.mem_of_getElem? (i := 897) (by decide +kernel)⟩
theorem lw_p25 : lw_okq (⟨"JackBoxesModel", "opensNow", "(II)Z"⟩, 29) := ⟨⟨by decide +kernel, by decide +kernel⟩, List.mem_of_getElem? (i := 671) (by decide +kernel), List.mem_of_getElem? (i := 900) (by decide +kernel), List.mem_of_getElem? (i := 901) (by decide +kernel)⟩
theorem lw_p26 : lw_okq (⟨"JackBoxesModel", "isNear", "(II)Z"⟩, 29) := ⟨⟨by decide +kernel, by decide +kernel⟩, List.mem_of_getElem? (i := 671) (by decide +kernel), List.mem_of_getElem? (i := 904) (by decide +kernel), List.mem_of_getElem? (i := 905) (by decide +kernel)⟩
theorem lw_p27 : lw_okq (⟨"JackBoxesModel", "quietNow", "()I"⟩, 29) := ⟨⟨by decide +kernel, by decide +kernel⟩, List.mem_of_getElem? (i := 671) (by decide +kernel), List.mem_of_getElem? (i := 925) (by decide +kernel), List.mem_of_getElem? (i := 926) (by decide +kernel)⟩
theorem lw_p28 : lw_okq (⟨"JackBoxesModel", "loudestOf", "(I)I"⟩, 29) := ⟨⟨by decide +kernel, by decide +kernel⟩, List.mem_of_getElem? (i := 671) (by decide +kernel), List.mem_of_getElem? (i := 933) (by decide +kernel), List.mem_of_getElem? (i := 934) (by decide +kernel)⟩
theorem lw_p29 : lw_okq (⟨"JackBoxesModel", "firstOf", "(I)I"⟩, 29) := ⟨⟨by decide +kernel, by decide +kernel⟩, List.mem_of_getElem? (i := 671) (by decide +kernel), List.mem_of_getElem? (i := 941) (by decide +kernel), List.mem_of_getElem? (i := 942) (by decide +kernel)⟩
theorem lw_p30 : lw_okq (⟨"JackBoxesModel", "areTwo", "(II)Z"⟩, 29) := ⟨⟨by decide +kernel, by decide +kernel⟩, List.mem_of_getElem? (i := 671) (by decide +kernel), List.mem_of_getElem? (i := 949) (by decide +kernel), List.mem_of_getElem? (i := 950) (by decide +kernel)⟩
theorem lw_p31 : lw_okq (⟨"JackBoxesModel", "togetherOf", "(II)I"⟩, 29) := ⟨⟨by decide +kernel, by decide +kernel⟩, List.mem_of_getElem? (i := 671) (by decide +kernel), List.mem_of_getElem? (i := 953) (by decide +kernel), List.mem_of_getElem? (i := 954) (by decide +kernel)⟩
def lw_privs_2 : List (MethodName × Nat) := [(⟨"JackBoxesModel", "finds", "(I)I"⟩, 29), (⟨"JackBoxesModel", "lacks", "(III)I"⟩, 29), (⟨"JackBoxesModel", "reads", "()I"⟩, 29), (⟨"JackBoxesModel", "readsBox", "()Z"⟩, 29), (⟨"JackBoxesModel", "isBox", "(I)Z"⟩, 29), (⟨"JackBoxesModel", "find", "()V"⟩, 29), (⟨"JackBoxesModel", "plain", "()V"⟩, 29), (⟨"JackBoxesModel", "lives", "(I)V"⟩, 29), (⟨"JackBoxesModel", "springAt", "(II)I"⟩, 29), (⟨"JackBoxesModel", "opensNow", "(II)Z"⟩, 29), (⟨"JackBoxesModel", "isNear", "(II)Z"⟩, 29), (⟨"JackBoxesModel", "quietNow", "()I"⟩, 29), (⟨"JackBoxesModel", "loudestOf", "(I)I"⟩, 29), (⟨"JackBoxesModel", "firstOf", "(I)I"⟩, 29), (⟨"JackBoxesModel", "areTwo", "(II)Z"⟩, 29), (⟨"JackBoxesModel", "togetherOf", "(II)I"⟩, 29)]
theorem lw_r2 : ∀ q ∈ lw_privs_2, lw_okq q := List.forall_mem_cons.mpr ⟨lw_p16, List.forall_mem_cons.mpr ⟨lw_p17, List.forall_mem_cons.mpr ⟨lw_p18, List.forall_mem_cons.mpr ⟨lw_p19, List.forall_mem_cons.mpr ⟨lw_p20, List.forall_mem_cons.mpr ⟨lw_p21, List.forall_mem_cons.mpr ⟨lw_p22, List.forall_mem_cons.mpr ⟨lw_p23, List.forall_mem_cons.mpr ⟨lw_p24, List.forall_mem_cons.mpr ⟨lw_p25, List.forall_mem_cons.mpr ⟨lw_p26, List.forall_mem_cons.mpr ⟨lw_p27, List.forall_mem_cons.mpr ⟨lw_p28, List.forall_mem_cons.mpr ⟨lw_p29, List.forall_mem_cons.mpr ⟨lw_p30, List.forall_mem_cons.mpr ⟨lw_p31, fun _ h => absurd h List.not_mem_nil⟩⟩⟩⟩⟩⟩⟩⟩⟩⟩⟩⟩⟩⟩⟩⟩
theorem lw_p32 : lw_okq (⟨"JackBoxesModel", "newsOf", "(III)I"⟩, 29) := ⟨⟨by decide +kernel, by decide +kernel⟩, List.mem_of_getElem? (i := 671) (by decide +kernel), List.mem_of_getElem? (i := 961) (by decide +kernel), List.mem_of_getElem? (i := 962) (by decide +kernel)⟩
theorem lw_p33 : lw_okq (⟨"JackBoxesModel", "haveIt", "(III)I"⟩, 29) := ⟨⟨by decide +kernel, by decide +kernel⟩, List.mem_of_getElem? (i := 671) (by decide +kernel), List.mem_of_getElem? (i := 965) (by decide +kernel), List.mem_of_getElem? (i := 966) (by decide +kernel)⟩
theorem lw_p34 : lw_okq (⟨"JackBoxesModel", "hushOf", "(I)I"⟩, 29) := ⟨⟨by decide +kernel, by decide +kernel⟩, List.mem_of_getElem? (i := 671) (by decide +kernel), List.mem_of_getElem? (i := 977) (by decide +kernel), List.mem_of_getElem? (i := 978) (by decide +kernel)⟩
theorem lw_p35 : lw_okq (⟨"JackBoxesModel", "shelfOf", "(III)I"⟩, 29) := ⟨⟨by decide +kernel, by decide +kernel⟩, List.mem_of_getElem? (i := 671) (by decide +kernel), List.mem_of_getElem? (i := 992) (by decide +kernel), List.mem_of_getElem? (i := 993) (by decide +kernel)⟩
theorem lw_p36 : lw_okq (⟨"JackBoxesModel", "findShelf", "(II)I"⟩, 29) := ⟨⟨by decide +kernel, by decide +kernel⟩, List.mem_of_getElem? (i := 671) (by decide +kernel), List.mem_of_getElem? (i := 996) (by decide +kernel), List.mem_of_getElem? (i := 997) (by decide +kernel)⟩
theorem lw_p37 : lw_okq (⟨"JackBoxesModel", "unfolds", "(II)V"⟩, 29) := ⟨⟨by decide +kernel, by decide +kernel⟩, List.mem_of_getElem? (i := 671) (by decide +kernel), List.mem_of_getElem? (i := 1000) (by decide +kernel), List.mem_of_getElem? (i := 1001) (by decide +kernel)⟩
theorem lw_p38 : lw_okq (⟨"JackBoxesModel", "opened", "(I)I"⟩, 29) := ⟨⟨by decide +kernel, by decide +kernel⟩, List.mem_of_getElem? (i := 671) (by decide +kernel), List.mem_of_getElem? (i := 1004) (by decide +kernel), List.mem_of_getElem? (i := 1005) (by decide +kernel)⟩
theorem lw_p39 : lw_okq (⟨"JackBoxesModel", "learnOf", "(II)I"⟩, 29) := ⟨⟨by decide +kernel, by decide +kernel⟩, List.mem_of_getElem? (i := 671) (by decide +kernel), List.mem_of_getElem? (i := 1022) (by decide +kernel), List.mem_of_getElem? (i := 1023) (by decide +kernel)⟩
theorem lw_p40 : lw_okq (⟨"JackBoxesModel", "takes", "(II)V"⟩, 29) := ⟨⟨by decide +kernel, by decide +kernel⟩, List.mem_of_getElem? (i := 671) (by decide +kernel), List.mem_of_getElem? (i := 1026) (by decide +kernel), List.mem_of_getElem? (i := 1027) (by decide +kernel)⟩
theorem lw_p41 : lw_okq (⟨"JackBoxesModel", "isHeard", "()Z"⟩, 29) := ⟨⟨by decide +kernel, by decide +kernel⟩, List.mem_of_getElem? (i := 671) (by decide +kernel), List.mem_of_getElem? (i := 1030) (by decide +kernel), List.mem_of_getElem? (i := 1031) (by decide +kernel)⟩
theorem lw_p42 : lw_okq (⟨"JackBoxesModel", "gives", "(I)V"⟩, 29) := ⟨⟨by decide +kernel, by decide +kernel⟩, List.mem_of_getElem? (i := 671) (by decide +kernel), List.mem_of_getElem? (i := 1037) (by decide +kernel), List.mem_of_getElem? (i := 1038) (by decide +kernel)⟩
theorem lw_p43 : lw_okq (⟨"JackBoxesModel", "emptyNow", "()I"⟩, 29) := ⟨⟨by decide +kernel, by decide +kernel⟩, List.mem_of_getElem? (i := 671) (by decide +kernel), List.mem_of_getElem? (i := 1045) (by decide +kernel), List.mem_of_getElem? (i := 1046) (by decide +kernel)⟩
theorem lw_p44 : lw_okq (⟨"JackBoxesModel", "turnOf", "(II)I"⟩, 29) := ⟨⟨by decide +kernel, by decide +kernel⟩, List.mem_of_getElem? (i := 671) (by decide +kernel), List.mem_of_getElem? (i := 1053) (by decide +kernel), List.mem_of_getElem? (i := 1054) (by decide +kernel)⟩
theorem lw_p45 : lw_okq (⟨"JackBoxesModel", "looksOf", "(IIII)J"⟩, 29) := ⟨⟨by decide +kernel, by decide +kernel⟩, List.mem_of_getElem? (i := 671) (by decide +kernel), List.mem_of_getElem? (i := 1062) (by decide +kernel), List.mem_of_getElem? (i := 1063) (by decide +kernel)⟩
theorem lw_p46 : lw_okq (⟨"JackBoxesModel", "nightOf", "(III)I"⟩, 29) := ⟨⟨by decide +kernel, by decide +kernel⟩, List.mem_of_getElem? (i := 671) (by decide +kernel), List.mem_of_getElem? (i := 1077) (by decide +kernel), List.mem_of_getElem? (i := 1078) (by decide +kernel)⟩
theorem lw_p47 : lw_okq (⟨"JackBoxesModel", "tellsBox", "(JI)J"⟩, 29) := ⟨⟨by decide +kernel, by decide +kernel⟩, List.mem_of_getElem? (i := 671) (by decide +kernel), List.mem_of_getElem? (i := 1097) (by decide +kernel), List.mem_of_getElem? (i := 1098) (by decide +kernel)⟩
def lw_privs_3 : List (MethodName × Nat) := [(⟨"JackBoxesModel", "newsOf", "(III)I"⟩, 29), (⟨"JackBoxesModel", "haveIt", "(III)I"⟩, 29), (⟨"JackBoxesModel", "hushOf", "(I)I"⟩, 29), (⟨"JackBoxesModel", "shelfOf", "(III)I"⟩, 29), (⟨"JackBoxesModel", "findShelf", "(II)I"⟩, 29), (⟨"JackBoxesModel", "unfolds", "(II)V"⟩, 29), (⟨"JackBoxesModel", "opened", "(I)I"⟩, 29), (⟨"JackBoxesModel", "learnOf", "(II)I"⟩, 29), (⟨"JackBoxesModel", "takes", "(II)V"⟩, 29), (⟨"JackBoxesModel", "isHeard", "()Z"⟩, 29), (⟨"JackBoxesModel", "gives", "(I)V"⟩, 29), (⟨"JackBoxesModel", "emptyNow", "()I"⟩, 29), (⟨"JackBoxesModel", "turnOf", "(II)I"⟩, 29), (⟨"JackBoxesModel", "looksOf", "(IIII)J"⟩, 29), (⟨"JackBoxesModel", "nightOf", "(III)I"⟩, 29), (⟨"JackBoxesModel", "tellsBox", "(JI)J"⟩, 29)]
theorem lw_r3 : ∀ q ∈ lw_privs_3, lw_okq q := List.forall_mem_cons.mpr ⟨lw_p32, List.forall_mem_cons.mpr ⟨lw_p33, List.forall_mem_cons.mpr ⟨lw_p34, List.forall_mem_cons.mpr ⟨lw_p35, List.forall_mem_cons.mpr ⟨lw_p36, List.forall_mem_cons.mpr ⟨lw_p37, List.forall_mem_cons.mpr ⟨lw_p38, List.forall_mem_cons.mpr ⟨lw_p39, List.forall_mem_cons.mpr ⟨lw_p40, List.forall_mem_cons.mpr ⟨lw_p41, List.forall_mem_cons.mpr ⟨lw_p42, List.forall_mem_cons.mpr ⟨lw_p43, List.forall_mem_cons.mpr ⟨lw_p44, List.forall_mem_cons.mpr ⟨lw_p45, List.forall_mem_cons.mpr ⟨lw_p46, List.forall_mem_cons.mpr ⟨lw_p47, fun _ h => absurd h List.not_mem_nil⟩⟩⟩⟩⟩⟩⟩⟩⟩⟩⟩⟩⟩⟩⟩⟩
def lw_privs : List (MethodName × Nat) := lw_privs_1 ++ (lw_privs_2 ++ (lw_privs_3))
def lw_tbl : List Cond := k2_sels lw_privs ++ tables_1
theorem lw_privs_ok : ∀ q ∈ lw_privs, lw_okq q := by
  show ∀ q ∈ lw_privs_1 ++ (lw_privs_2 ++ (lw_privs_3)), lw_okq q
  exact List.forall_mem_append.mpr ⟨lw_r1, List.forall_mem_append.mpr ⟨lw_r2, lw_r3⟩⟩
end
section
/-! ===== BEGIN words of one list among another's, by their places ===== -/
theorem goodIn_r {big : List Cond} (ws : List Cond) (ps : List Nat) (hp : ws = ps.filterMap (fun i => big[i]?)) (h : ws.all goodWord = true) : GoodIn big ws := by
  intro w hw
  have h1 := List.all_eq_true.mp h w hw
  rw [hp] at hw
  obtain ⟨i, -, hi⟩ := List.mem_filterMap.mp hw
  have hm : w ∈ big := by first | exact List.mem_of_getElem? hi | exact List.getElem?_mem hi
  exact ⟨hm, good_of_word h1⟩
theorem goodIn_app {big a b : List Cond} (ha : GoodIn big a) (hb : GoodIn big b) : GoodIn big (a ++ b) := fun w h => (List.mem_append.mp h).elim (ha w) (hb w)
theorem goodIn_ca {big a b : List Cond} {c : Cond} (ha : GoodIn big (c :: a)) (hb : GoodIn big b) : GoodIn big (c :: (a ++ b)) := fun w h => (List.mem_cons.mp h).elim (fun e => ha w (List.mem_cons.mpr (Or.inl e))) (fun h => (List.mem_append.mp h).elim (fun h => ha w (List.mem_cons.mpr (Or.inr h))) (hb w))
theorem goodIn_sub {big ws : List Cond} (hm : ∀ w ∈ ws, w ∈ big) (h : ws.all goodWord = true) : GoodIn big ws := fun w hw => ⟨hm w hw, good_of_word (List.all_eq_true.mp h w hw)⟩
/-! ===== END ===== -/

def RX0 : String := "JackBoxes$Boxes"
def TX0 : u_T := fun k => match k with
  | 0 => ("JackBoxes$Boxes", "bytes", "[I", true)
  | 1 => ("JackBoxes$Boxes", "length", "I", false)
  | 2 => ("JackBoxes$Boxes", "fault", "I", false)
  | 3 => ("JackBoxes$Boxes", "count", "I", false)
  | 4 => ("JackBoxes$Boxes", "laws", "[I", true)
  | 5 => ("JackBoxes$Boxes", "numbers", "[I", true)
  | _ => ("JackBoxes$Boxes", "springs", "[I", true)
def tyX0 : Nat → FieldType := fun k => match k with
  | 0 => .array .int
  | 1 => .int
  | 2 => .int
  | 3 => .int
  | 4 => .array .int
  | 5 => .array .int
  | _ => .array .int
abbrev wsX00 : List Cond := u_ws RX0 TX0 7
theorem nmX0 : ∀ a, a < 7 → ∀ b, b < 7 → a ≠ b → (TX0 a).2.1 ≠ (TX0 b).2.1 := by decide +kernel
theorem tyX0_ok : ∀ k, k < 7 → parseFieldDescriptor (TX0 k).2.2.1 = some (tyX0 k) := by decide +kernel
abbrev cX0_init : ByteArray := prog_2_method_1_code
def yX0_init : MethodName := ⟨RX0, "<init>", "()V"⟩
abbrev cX0_parse : ByteArray := prog_2_method_2_code
def yX0_parse : MethodName := ⟨RX0, "parse", "()V"⟩
abbrev cX0_findFault : ByteArray := prog_2_method_3_code
def yX0_findFault : MethodName := ⟨RX0, "findFault", "()I"⟩
abbrev cX0_isDue : ByteArray := prog_2_method_4_code
def yX0_isDue : MethodName := ⟨RX0, "isDue", "(II)Z"⟩
abbrev cX0_allBits : ByteArray := prog_2_method_5_code
def yX0_allBits : MethodName := ⟨RX0, "allBits", "()I"⟩
abbrev cX0_allSprings : ByteArray := prog_2_method_6_code
def yX0_allSprings : MethodName := ⟨RX0, "allSprings", "()I"⟩
abbrev cX0_withLaw : ByteArray := prog_2_method_7_code
def yX0_withLaw : MethodName := ⟨RX0, "withLaw", "(I)I"⟩
def RX1 : String := "JackBoxes$Course"
def TX1 : u_T := fun k => match k with
  | 0 => ("JackBoxes$Course", "count", "I", false)
  | 1 => ("JackBoxes$Course", "laws", "[I", true)
  | 2 => ("JackBoxes$Course", "numbers", "[I", true)
  | 3 => ("JackBoxes$Course", "springs", "[I", true)
  | 4 => ("JackBoxes$Course", "places", "[I", true)
  | 5 => ("JackBoxes$Course", "lids", "I", false)
  | 6 => ("JackBoxes$Course", "acts", "[[I", true)
  | 7 => ("JackBoxes$Course", "opened", "[I", true)
  | 8 => ("JackBoxes$Course", "up", "[I", true)
  | 9 => ("JackBoxes$Course", "reaches", "[I", true)
  | 10 => ("JackBoxes$Course", "left", "[I", true)
  | 11 => ("JackBoxes$Course", "turns", "[I", true)
  | 12 => ("JackBoxes$Course", "unseen", "[I", true)
  | 13 => ("JackBoxes$Course", "upBefore", "I", false)
  | 14 => ("JackBoxes$Course", "manyUpBefore", "I", false)
  | _ => ("JackBoxes$Course", "noisyPlaces", "I", false)
def tyX1 : Nat → FieldType := fun k => match k with
  | 0 => .int
  | 1 => .array .int
  | 2 => .array .int
  | 3 => .array .int
  | 4 => .array .int
  | 5 => .int
  | 6 => .array (.array .int)
  | 7 => .array .int
  | 8 => .array .int
  | 9 => .array .int
  | 10 => .array .int
  | 11 => .array .int
  | 12 => .array .int
  | 13 => .int
  | 14 => .int
  | _ => .int
abbrev wsX10 : List Cond := u_ws RX1 TX1 16
theorem nmX1 : ∀ a, a < 16 → ∀ b, b < 16 → a ≠ b → (TX1 a).2.1 ≠ (TX1 b).2.1 := by decide +kernel
theorem tyX1_ok : ∀ k, k < 16 → parseFieldDescriptor (TX1 k).2.2.1 = some (tyX1 k) := by decide +kernel
abbrev cX1_init : ByteArray := prog_3_method_1_code
def yX1_init : MethodName := ⟨RX1, "<init>", "()V"⟩
abbrev cX1_load : ByteArray := prog_3_method_2_code
def yX1_load : MethodName := ⟨RX1, "load", "(LJackBoxes$Boxes;[IILJackBoxes$Told;)V"⟩
abbrev cX1_putRow : ByteArray := prog_3_method_3_code
def yX1_putRow : MethodName := ⟨RX1, "putRow", "([I)V"⟩
abbrev cX1_putLaw : ByteArray := prog_3_method_4_code
def yX1_putLaw : MethodName := ⟨RX1, "putLaw", "(II)V"⟩
abbrev cX1_putLooks : ByteArray := prog_3_method_5_code
def yX1_putLooks : MethodName := ⟨RX1, "putLooks", "(III)V"⟩
abbrev cX1_run : ByteArray := prog_3_method_6_code
def yX1_run : MethodName := ⟨RX1, "run", "(I)V"⟩
abbrev cX1_placesAround : ByteArray := prog_3_method_7_code
def yX1_placesAround : MethodName := ⟨RX1, "placesAround", "(II)I"⟩
abbrev cX1_go : ByteArray := prog_3_method_8_code
def yX1_go : MethodName := ⟨RX1, "go", "(I)V"⟩
abbrev cX1_opensByLaw : ByteArray := prog_3_method_9_code
def yX1_opensByLaw : MethodName := ⟨RX1, "opensByLaw", "(II)Z"⟩
abbrev cX1_isUp : ByteArray := prog_3_method_10_code
def yX1_isUp : MethodName := ⟨RX1, "isUp", "(II)Z"⟩
abbrev cX1_openings : ByteArray := prog_3_method_11_code
def yX1_openings : MethodName := ⟨RX1, "openings", "(I)I"⟩
def RX2 : String := "JackBoxes$Sheet"
def TX2 : u_T := fun k => match k with
  | 0 => ("JackBoxes$Sheet", "lost", "Z", false)
  | 1 => ("JackBoxes$Sheet", "form", "I", false)
  | 2 => ("JackBoxes$Sheet", "size", "I", false)
  | _ => ("JackBoxes$Sheet", "items", "[I", true)
def tyX2 : Nat → FieldType := fun k => match k with
  | 0 => .boolean
  | 1 => .int
  | 2 => .int
  | _ => .array .int
abbrev wsX20 : List Cond := u_ws RX2 TX2 4
theorem nmX2 : ∀ a, a < 4 → ∀ b, b < 4 → a ≠ b → (TX2 a).2.1 ≠ (TX2 b).2.1 := by decide +kernel
theorem tyX2_ok : ∀ k, k < 4 → parseFieldDescriptor (TX2 k).2.2.1 = some (tyX2 k) := by decide +kernel
abbrev cX2_init : ByteArray := prog_4_method_1_code
def yX2_init : MethodName := ⟨RX2, "<init>", "()V"⟩
abbrev cX2_renew : ByteArray := prog_4_method_2_code
def yX2_renew : MethodName := ⟨RX2, "renew", "(II)V"⟩
abbrev cX2_put : ByteArray := prog_4_method_3_code
def yX2_put : MethodName := ⟨RX2, "put", "(II)V"⟩
abbrev cX2_has : ByteArray := prog_4_method_4_code
def yX2_has : MethodName := ⟨RX2, "has", "(II)Z"⟩
abbrev cX2_findingAt : ByteArray := prog_4_method_5_code
def yX2_findingAt : MethodName := ⟨RX2, "findingAt", "(II)I"⟩
def RX3 : String := "JackBoxes$Told"
def TX3 : u_T := fun k => match k with
  | 0 => ("JackBoxes$Told", "steps", "[I", true)
  | 1 => ("JackBoxes$Told", "boxes", "[I", true)
  | 2 => ("JackBoxes$Told", "acts", "[I", true)
  | _ => ("JackBoxes$Told", "size", "I", false)
def tyX3 : Nat → FieldType := fun k => match k with
  | 0 => .array .int
  | 1 => .array .int
  | 2 => .array .int
  | _ => .int
abbrev wsX30 : List Cond := u_ws RX3 TX3 4
theorem nmX3 : ∀ a, a < 4 → ∀ b, b < 4 → a ≠ b → (TX3 a).2.1 ≠ (TX3 b).2.1 := by decide +kernel
theorem tyX3_ok : ∀ k, k < 4 → parseFieldDescriptor (TX3 k).2.2.1 = some (tyX3 k) := by decide +kernel
abbrev cX3_init : ByteArray := prog_5_method_1_code
def yX3_init : MethodName := ⟨RX3, "<init>", "()V"⟩
abbrev cX3_mayBe : ByteArray := prog_5_method_2_code
def yX3_mayBe : MethodName := ⟨RX3, "mayBe", "(III)Z"⟩
abbrev cX3_add : ByteArray := prog_5_method_3_code
def yX3_add : MethodName := ⟨RX3, "add", "(III)V"⟩
def RX4 : String := "JackBoxes"
def TX4 : u_T := fun k => match k with
  | 0 => ("JackBoxes", "boxes", "LJackBoxes$Boxes;", true)
  | 1 => ("JackBoxes", "row", "[I", true)
  | 2 => ("JackBoxes", "lidded", "I", false)
  | 3 => ("JackBoxes", "told", "LJackBoxes$Told;", true)
  | 4 => ("JackBoxes", "heardSteps", "[I", true)
  | 5 => ("JackBoxes", "heardMany", "[I", true)
  | 6 => ("JackBoxes", "heardCount", "I", false)
  | 7 => ("JackBoxes", "sheets", "[LJackBoxes$Sheet;", true)
  | 8 => ("JackBoxes", "latestFinding", "I", false)
  | 9 => ("JackBoxes", "course", "LJackBoxes$Course;", true)
  | 10 => ("JackBoxes", "courseIsOld", "Z", false)
  | 11 => ("JackBoxes", "trial", "LJackBoxes$Course;", true)
  | 12 => ("JackBoxes", "fitting", "[I", true)
  | 13 => ("JackBoxes", "alike", "[I", true)
  | 14 => ("JackBoxes", "tried", "[I", true)
  | _ => ("JackBoxes", "best", "[I", true)
def tyX4 : Nat → FieldType := fun k => match k with
  | 0 => .object "JackBoxes$Boxes"
  | 1 => .array .int
  | 2 => .int
  | 3 => .object "JackBoxes$Told"
  | 4 => .array .int
  | 5 => .array .int
  | 6 => .int
  | 7 => .array (.object "JackBoxes$Sheet")
  | 8 => .int
  | 9 => .object "JackBoxes$Course"
  | 10 => .boolean
  | 11 => .object "JackBoxes$Course"
  | 12 => .array .int
  | 13 => .array .int
  | 14 => .array .int
  | _ => .array .int
abbrev wsX40 : List Cond := u_ws RX4 TX4 16
theorem nmX4 : ∀ a, a < 16 → ∀ b, b < 16 → a ≠ b → (TX4 a).2.1 ≠ (TX4 b).2.1 := by decide +kernel
theorem tyX4_ok : ∀ k, k < 16 → parseFieldDescriptor (TX4 k).2.2.1 = some (tyX4 k) := by decide +kernel
abbrev cX4_init : ByteArray := prog_1_method_1_code
def yX4_init : MethodName := ⟨RX4, "<init>", "()V"⟩
abbrev cX4_type : ByteArray := prog_1_method_2_code
def yX4_type : MethodName := ⟨RX4, "type", "(I)I"⟩
abbrev cX4_wipe : ByteArray := prog_1_method_3_code
def yX4_wipe : MethodName := ⟨RX4, "wipe", "()I"⟩
abbrev cX4_undo : ByteArray := prog_1_method_4_code
def yX4_undo : MethodName := ⟨RX4, "undo", "()I"⟩
abbrev cX4_fault : ByteArray := prog_1_method_5_code
def yX4_fault : MethodName := ⟨RX4, "fault", "()I"⟩
abbrev cX4_box : ByteArray := prog_1_method_6_code
def yX4_box : MethodName := ⟨RX4, "box", "(II)I"⟩
abbrev cX4_place : ByteArray := prog_1_method_7_code
def yX4_place : MethodName := ⟨RX4, "place", "(I)I"⟩
abbrev cX4_swap : ByteArray := prog_1_method_8_code
def yX4_swap : MethodName := ⟨RX4, "swap", "(II)I"⟩
abbrev cX4_lids : ByteArray := prog_1_method_9_code
def yX4_lids : MethodName := ⟨RX4, "lids", "(I)I"⟩
abbrev cX4_tell : ByteArray := prog_1_method_10_code
def yX4_tell : MethodName := ⟨RX4, "tell", "(III)I"⟩
abbrev cX4_back : ByteArray := prog_1_method_11_code
def yX4_back : MethodName := ⟨RX4, "back", "()I"⟩
abbrev cX4_read : ByteArray := prog_1_method_12_code
def yX4_read : MethodName := ⟨RX4, "read", "(I)I"⟩
abbrev cX4_step : ByteArray := prog_1_method_13_code
def yX4_step : MethodName := ⟨RX4, "step", "(II)I"⟩
abbrev cX4_spring : ByteArray := prog_1_method_14_code
def yX4_spring : MethodName := ⟨RX4, "spring", "(II)I"⟩
abbrev cX4_quiet : ByteArray := prog_1_method_15_code
def yX4_quiet : MethodName := ⟨RX4, "quiet", "()I"⟩
abbrev cX4_loudest : ByteArray := prog_1_method_16_code
def yX4_loudest : MethodName := ⟨RX4, "loudest", "(I)I"⟩
abbrev cX4_first : ByteArray := prog_1_method_17_code
def yX4_first : MethodName := ⟨RX4, "first", "(I)I"⟩
abbrev cX4_together : ByteArray := prog_1_method_18_code
def yX4_together : MethodName := ⟨RX4, "together", "(II)I"⟩
abbrev cX4_news : ByteArray := prog_1_method_19_code
def yX4_news : MethodName := ⟨RX4, "news", "(III)I"⟩
abbrev cX4_hears : ByteArray := prog_1_method_20_code
def yX4_hears : MethodName := ⟨RX4, "hears", "(II)I"⟩
abbrev cX4_hush : ByteArray := prog_1_method_21_code
def yX4_hush : MethodName := ⟨RX4, "hush", "(II)I"⟩
abbrev cX4_shelf : ByteArray := prog_1_method_22_code
def yX4_shelf : MethodName := ⟨RX4, "shelf", "(III)I"⟩
abbrev cX4_heard : ByteArray := prog_1_method_23_code
def yX4_heard : MethodName := ⟨RX4, "heard", "(II)I"⟩
abbrev cX4_forget : ByteArray := prog_1_method_24_code
def yX4_forget : MethodName := ⟨RX4, "forget", "()I"⟩
abbrev cX4_learn : ByteArray := prog_1_method_25_code
def yX4_learn : MethodName := ⟨RX4, "learn", "(II)I"⟩
abbrev cX4_empty : ByteArray := prog_1_method_26_code
def yX4_empty : MethodName := ⟨RX4, "empty", "()I"⟩
abbrev cX4_turn : ByteArray := prog_1_method_27_code
def yX4_turn : MethodName := ⟨RX4, "turn", "(II)I"⟩
abbrev cX4_looks : ByteArray := prog_1_method_28_code
def yX4_looks : MethodName := ⟨RX4, "looks", "(IIII)J"⟩
abbrev cX4_night : ByteArray := prog_1_method_29_code
def yX4_night : MethodName := ⟨RX4, "night", "(III)I"⟩
abbrev cX4_sheet : ByteArray := prog_1_method_30_code
def yX4_sheet : MethodName := ⟨RX4, "sheet", "(III)I"⟩
abbrev cX4_lose : ByteArray := prog_1_method_31_code
def yX4_lose : MethodName := ⟨RX4, "lose", "(I)I"⟩
abbrev cX4_lay : ByteArray := prog_1_method_32_code
def yX4_lay : MethodName := ⟨RX4, "lay", "(IIII)I"⟩
abbrev cX4_get : ByteArray := prog_1_method_33_code
def yX4_get : MethodName := ⟨RX4, "get", "(III)I"⟩
abbrev cX4_copy : ByteArray := prog_1_method_34_code
def yX4_copy : MethodName := ⟨RX4, "copy", "(IIIII)I"⟩
abbrev cX4_write : ByteArray := prog_1_method_35_code
def yX4_write : MethodName := ⟨RX4, "write", "(II)I"⟩
abbrev cX4_count : ByteArray := prog_1_method_36_code
def yX4_count : MethodName := ⟨RX4, "count", "(I)I"⟩
abbrev cX4_digest : ByteArray := prog_1_method_37_code
def yX4_digest : MethodName := ⟨RX4, "digest", "()J"⟩
abbrev cX4_digestBox : ByteArray := prog_1_method_38_code
def yX4_digestBox : MethodName := ⟨RX4, "digestBox", "(JI)J"⟩
abbrev cX4_isBox : ByteArray := prog_1_method_39_code
def yX4_isBox : MethodName := ⟨RX4, "isBox", "(I)Z"⟩
abbrev cX4_isNumber : ByteArray := prog_1_method_40_code
def yX4_isNumber : MethodName := ⟨RX4, "isNumber", "(I)Z"⟩
abbrev cX4_isStep : ByteArray := prog_1_method_41_code
def yX4_isStep : MethodName := ⟨RX4, "isStep", "(I)Z"⟩
abbrev cX4_isEither : ByteArray := prog_1_method_42_code
def yX4_isEither : MethodName := ⟨RX4, "isEither", "(I)Z"⟩
abbrev cX4_isSheet : ByteArray := prog_1_method_43_code
def yX4_isSheet : MethodName := ⟨RX4, "isSheet", "(I)Z"⟩
abbrev cX4_isForm : ByteArray := prog_1_method_44_code
def yX4_isForm : MethodName := ⟨RX4, "isForm", "(I)Z"⟩
abbrev cX4_finding : ByteArray := prog_1_method_45_code
def yX4_finding : MethodName := ⟨RX4, "finding", "(I)I"⟩
abbrev cX4_lengthen : ByteArray := prog_1_method_46_code
def yX4_lengthen : MethodName := ⟨RX4, "lengthen", "(I)I"⟩
abbrev cX4_runAsTold : ByteArray := prog_1_method_47_code
def yX4_runAsTold : MethodName := ⟨RX4, "runAsTold", "()V"⟩
abbrev cX4_spread : ByteArray := prog_1_method_48_code
def yX4_spread : MethodName := ⟨RX4, "spread", "(II)I"⟩
abbrev cX4_exchange : ByteArray := prog_1_method_49_code
def yX4_exchange : MethodName := ⟨RX4, "exchange", "([III)V"⟩
abbrev cX4_isHushed : ByteArray := prog_1_method_50_code
def yX4_isHushed : MethodName := ⟨RX4, "isHushed", "(II)Z"⟩
abbrev cX4_findShelf : ByteArray := prog_1_method_51_code
def yX4_findShelf : MethodName := ⟨RX4, "findShelf", "(IZ)I"⟩
abbrev cX4_stepToNextRow : ByteArray := prog_1_method_52_code
def yX4_stepToNextRow : MethodName := ⟨RX4, "stepToNextRow", "(I)Z"⟩
abbrev cX4_lastHeardStep : ByteArray := prog_1_method_53_code
def yX4_lastHeardStep : MethodName := ⟨RX4, "lastHeardStep", "()I"⟩
abbrev cX4_isAsHeard : ByteArray := prog_1_method_54_code
def yX4_isAsHeard : MethodName := ⟨RX4, "isAsHeard", "()Z"⟩
abbrev cX4_findFitting : ByteArray := prog_1_method_55_code
def yX4_findFitting : MethodName := ⟨RX4, "findFitting", "(I)I"⟩
abbrev cX4_greatestAlike : ByteArray := prog_1_method_56_code
def yX4_greatestAlike : MethodName := ⟨RX4, "greatestAlike", "(IIII)I"⟩
abbrev cX4_weightUp : ByteArray := prog_1_method_57_code
def yX4_weightUp : MethodName := ⟨RX4, "weightUp", "(III)J"⟩
abbrev cX4_wholeWeight : ByteArray := prog_1_method_58_code
def yX4_wholeWeight : MethodName := ⟨RX4, "wholeWeight", "(I)J"⟩
abbrev cX4_weight : ByteArray := prog_1_method_59_code
def yX4_weight : MethodName := ⟨RX4, "weight", "(III)J"⟩
abbrev cX4_commonDivisor : ByteArray := prog_1_method_60_code
def yX4_commonDivisor : MethodName := ⟨RX4, "commonDivisor", "(JJ)J"⟩
def RX5 : String := "JackBoxesModel"
def TX5 : u_T := fun k => match k with
  | 0 => ("JackBoxesModel", "forms", "[I", true)
  | 1 => ("JackBoxesModel", "sizes", "[I", true)
  | 2 => ("JackBoxesModel", "items", "[I", true)
  | 3 => ("JackBoxesModel", "moved", "[I", true)
  | 4 => ("JackBoxesModel", "latest", "I", false)
  | 5 => ("JackBoxesModel", "text", "[I", true)
  | 6 => ("JackBoxesModel", "typed", "I", false)
  | 7 => ("JackBoxesModel", "at", "I", false)
  | 8 => ("JackBoxesModel", "boxes", "I", false)
  | 9 => ("JackBoxesModel", "box", "[I", true)
  | 10 => ("JackBoxesModel", "row", "[I", true)
  | 11 => ("JackBoxesModel", "covers", "I", false)
  | 12 => ("JackBoxesModel", "tolds", "I", false)
  | 13 => ("JackBoxesModel", "told", "[I", true)
  | 14 => ("JackBoxesModel", "does", "[I", true)
  | 15 => ("JackBoxesModel", "opens", "[I", true)
  | 16 => ("JackBoxesModel", "up", "[I", true)
  | 17 => ("JackBoxesModel", "spring", "[I", true)
  | 18 => ("JackBoxesModel", "stands", "[I", true)
  | 19 => ("JackBoxesModel", "law", "[I", true)
  | 20 => ("JackBoxesModel", "number", "[I", true)
  | 21 => ("JackBoxesModel", "lidded", "I", false)
  | 22 => ("JackBoxesModel", "turns", "[I", true)
  | 23 => ("JackBoxesModel", "alone", "[I", true)
  | 24 => ("JackBoxesModel", "shelf", "[I", true)
  | 25 => ("JackBoxesModel", "bestShelf", "[I", true)
  | 26 => ("JackBoxesModel", "sounds", "I", false)
  | 27 => ("JackBoxesModel", "sound", "[I", true)
  | _ => ("JackBoxesModel", "alike", "[I", true)
def tyX5 : Nat → FieldType := fun k => match k with
  | 0 => .array .int
  | 1 => .array .int
  | 2 => .array .int
  | 3 => .array .int
  | 4 => .int
  | 5 => .array .int
  | 6 => .int
  | 7 => .int
  | 8 => .int
  | 9 => .array .int
  | 10 => .array .int
  | 11 => .int
  | 12 => .int
  | 13 => .array .int
  | 14 => .array .int
  | 15 => .array .int
  | 16 => .array .int
  | 17 => .array .int
  | 18 => .array .int
  | 19 => .array .int
  | 20 => .array .int
  | 21 => .int
  | 22 => .array .int
  | 23 => .array .int
  | 24 => .array .int
  | 25 => .array .int
  | 26 => .int
  | 27 => .array .int
  | _ => .array .int
abbrev wsX50 : List Cond := u_ws RX5 TX5 29
theorem nmX5 : ∀ a, a < 29 → ∀ b, b < 29 → a ≠ b → (TX5 a).2.1 ≠ (TX5 b).2.1 := by decide +kernel
theorem tyX5_ok : ∀ k, k < 29 → parseFieldDescriptor (TX5 k).2.2.1 = some (tyX5 k) := by decide +kernel
abbrev cX5_init : ByteArray := prog_7_method_1_code
def yX5_init : MethodName := ⟨RX5, "<init>", "()V"⟩
abbrev cX5_in : ByteArray := prog_7_method_3_code
def yX5_in : MethodName := ⟨RX5, "in", "(JJJ)Z"⟩
abbrev cX5_no : ByteArray := prog_7_method_4_code
def yX5_no : MethodName := ⟨RX5, "no", "(I)J"⟩
abbrev cX5_isTwo : ByteArray := prog_7_method_5_code
def yX5_isTwo : MethodName := ⟨RX5, "isTwo", "(I)Z"⟩
abbrev cX5_isIn : ByteArray := prog_7_method_6_code
def yX5_isIn : MethodName := ⟨RX5, "isIn", "(II)Z"⟩
abbrev cX5_ones : ByteArray := prog_7_method_7_code
def yX5_ones : MethodName := ⟨RX5, "ones", "(I)I"⟩
abbrev cX5_amount : ByteArray := prog_7_method_8_code
def yX5_amount : MethodName := ⟨RX5, "amount", "(I)I"⟩
abbrev cX5_part : ByteArray := prog_7_method_9_code
def yX5_part : MethodName := ⟨RX5, "part", "(JJI)J"⟩
abbrev cX5_finds : ByteArray := prog_7_method_10_code
def yX5_finds : MethodName := ⟨RX5, "finds", "(I)I"⟩
abbrev cX5_isSheet : ByteArray := prog_7_method_11_code
def yX5_isSheet : MethodName := ⟨RX5, "isSheet", "(I)Z"⟩
abbrev cX5_sheet : ByteArray := prog_7_method_12_code
def yX5_sheet : MethodName := ⟨RX5, "sheet", "(III)I"⟩
abbrev cX5_lose : ByteArray := prog_7_method_13_code
def yX5_lose : MethodName := ⟨RX5, "lose", "(I)I"⟩
abbrev cX5_lacks : ByteArray := prog_7_method_14_code
def yX5_lacks : MethodName := ⟨RX5, "lacks", "(III)I"⟩
abbrev cX5_cut : ByteArray := prog_7_method_15_code
def yX5_cut : MethodName := ⟨RX5, "cut", "(II)I"⟩
abbrev cX5_lay : ByteArray := prog_7_method_16_code
def yX5_lay : MethodName := ⟨RX5, "lay", "(IIII)I"⟩
abbrev cX5_get : ByteArray := prog_7_method_17_code
def yX5_get : MethodName := ⟨RX5, "get", "(III)I"⟩
abbrev cX5_copy : ByteArray := prog_7_method_18_code
def yX5_copy : MethodName := ⟨RX5, "copy", "(IIIII)I"⟩
abbrev cX5_type : ByteArray := prog_7_method_19_code
def yX5_type : MethodName := ⟨RX5, "type", "(I)I"⟩
abbrev cX5_wipe : ByteArray := prog_7_method_20_code
def yX5_wipe : MethodName := ⟨RX5, "wipe", "()I"⟩
abbrev cX5_undo : ByteArray := prog_7_method_21_code
def yX5_undo : MethodName := ⟨RX5, "undo", "()I"⟩
abbrev cX5_lawOf : ByteArray := prog_7_method_22_code
def yX5_lawOf : MethodName := ⟨RX5, "lawOf", "(I)I"⟩
abbrev cX5_readsBox : ByteArray := prog_7_method_23_code
def yX5_readsBox : MethodName := ⟨RX5, "readsBox", "()Z"⟩
abbrev cX5_reads : ByteArray := prog_7_method_24_code
def yX5_reads : MethodName := ⟨RX5, "reads", "()I"⟩
abbrev cX5_fault : ByteArray := prog_7_method_25_code
def yX5_fault : MethodName := ⟨RX5, "fault", "()I"⟩
abbrev cX5_isBox : ByteArray := prog_7_method_26_code
def yX5_isBox : MethodName := ⟨RX5, "isBox", "(I)Z"⟩
abbrev cX5_isAny : ByteArray := prog_7_method_27_code
def yX5_isAny : MethodName := ⟨RX5, "isAny", "(I)Z"⟩
abbrev cX5_isStep : ByteArray := prog_7_method_28_code
def yX5_isStep : MethodName := ⟨RX5, "isStep", "(I)Z"⟩
abbrev cX5_box : ByteArray := prog_7_method_29_code
def yX5_box : MethodName := ⟨RX5, "box", "(II)I"⟩
abbrev cX5_place : ByteArray := prog_7_method_30_code
def yX5_place : MethodName := ⟨RX5, "place", "(I)I"⟩
abbrev cX5_swap : ByteArray := prog_7_method_31_code
def yX5_swap : MethodName := ⟨RX5, "swap", "(II)I"⟩
abbrev cX5_lids : ByteArray := prog_7_method_32_code
def yX5_lids : MethodName := ⟨RX5, "lids", "(I)I"⟩
abbrev cX5_tell : ByteArray := prog_7_method_33_code
def yX5_tell : MethodName := ⟨RX5, "tell", "(III)I"⟩
abbrev cX5_back : ByteArray := prog_7_method_34_code
def yX5_back : MethodName := ⟨RX5, "back", "()I"⟩
abbrev cX5_read : ByteArray := prog_7_method_35_code
def yX5_read : MethodName := ⟨RX5, "read", "(I)I"⟩
abbrev cX5_plain : ByteArray := prog_7_method_36_code
def yX5_plain : MethodName := ⟨RX5, "plain", "()V"⟩
abbrev cX5_isNear : ByteArray := prog_7_method_37_code
def yX5_isNear : MethodName := ⟨RX5, "isNear", "(II)Z"⟩
abbrev cX5_opensNow : ByteArray := prog_7_method_38_code
def yX5_opensNow : MethodName := ⟨RX5, "opensNow", "(II)Z"⟩
abbrev cX5_springAt : ByteArray := prog_7_method_39_code
def yX5_springAt : MethodName := ⟨RX5, "springAt", "(II)I"⟩
abbrev cX5_lives : ByteArray := prog_7_method_40_code
def yX5_lives : MethodName := ⟨RX5, "lives", "(I)V"⟩
abbrev cX5_find : ByteArray := prog_7_method_41_code
def yX5_find : MethodName := ⟨RX5, "find", "()V"⟩
abbrev cX5_step : ByteArray := prog_7_method_42_code
def yX5_step : MethodName := ⟨RX5, "step", "(II)I"⟩
abbrev cX5_spring : ByteArray := prog_7_method_43_code
def yX5_spring : MethodName := ⟨RX5, "spring", "(II)I"⟩
abbrev cX5_quietNow : ByteArray := prog_7_method_44_code
def yX5_quietNow : MethodName := ⟨RX5, "quietNow", "()I"⟩
abbrev cX5_quiet : ByteArray := prog_7_method_45_code
def yX5_quiet : MethodName := ⟨RX5, "quiet", "()I"⟩
abbrev cX5_loudestOf : ByteArray := prog_7_method_46_code
def yX5_loudestOf : MethodName := ⟨RX5, "loudestOf", "(I)I"⟩
abbrev cX5_loudest : ByteArray := prog_7_method_47_code
def yX5_loudest : MethodName := ⟨RX5, "loudest", "(I)I"⟩
abbrev cX5_firstOf : ByteArray := prog_7_method_48_code
def yX5_firstOf : MethodName := ⟨RX5, "firstOf", "(I)I"⟩
abbrev cX5_first : ByteArray := prog_7_method_49_code
def yX5_first : MethodName := ⟨RX5, "first", "(I)I"⟩
abbrev cX5_areTwo : ByteArray := prog_7_method_50_code
def yX5_areTwo : MethodName := ⟨RX5, "areTwo", "(II)Z"⟩
abbrev cX5_togetherOf : ByteArray := prog_7_method_51_code
def yX5_togetherOf : MethodName := ⟨RX5, "togetherOf", "(II)I"⟩
abbrev cX5_together : ByteArray := prog_7_method_52_code
def yX5_together : MethodName := ⟨RX5, "together", "(II)I"⟩
abbrev cX5_haveIt : ByteArray := prog_7_method_53_code
def yX5_haveIt : MethodName := ⟨RX5, "haveIt", "(III)I"⟩
abbrev cX5_newsOf : ByteArray := prog_7_method_54_code
def yX5_newsOf : MethodName := ⟨RX5, "newsOf", "(III)I"⟩
abbrev cX5_news : ByteArray := prog_7_method_55_code
def yX5_news : MethodName := ⟨RX5, "news", "(III)I"⟩
abbrev cX5_hears : ByteArray := prog_7_method_56_code
def yX5_hears : MethodName := ⟨RX5, "hears", "(II)I"⟩
abbrev cX5_tells : ByteArray := prog_7_method_57_code
def yX5_tells : MethodName := ⟨RX5, "tells", "(II)I"⟩
abbrev cX5_hushOf : ByteArray := prog_7_method_58_code
def yX5_hushOf : MethodName := ⟨RX5, "hushOf", "(I)I"⟩
abbrev cX5_hush : ByteArray := prog_7_method_59_code
def yX5_hush : MethodName := ⟨RX5, "hush", "(II)I"⟩
abbrev cX5_unfolds : ByteArray := prog_7_method_60_code
def yX5_unfolds : MethodName := ⟨RX5, "unfolds", "(II)V"⟩
abbrev cX5_opened : ByteArray := prog_7_method_61_code
def yX5_opened : MethodName := ⟨RX5, "opened", "(I)I"⟩
abbrev cX5_findShelf : ByteArray := prog_7_method_62_code
def yX5_findShelf : MethodName := ⟨RX5, "findShelf", "(II)I"⟩
abbrev cX5_shelfOf : ByteArray := prog_7_method_63_code
def yX5_shelfOf : MethodName := ⟨RX5, "shelfOf", "(III)I"⟩
abbrev cX5_shelf : ByteArray := prog_7_method_64_code
def yX5_shelf : MethodName := ⟨RX5, "shelf", "(III)I"⟩
abbrev cX5_lesserOf : ByteArray := prog_7_method_65_code
def yX5_lesserOf : MethodName := ⟨RX5, "lesserOf", "(I)I"⟩
abbrev cX5_heard : ByteArray := prog_7_method_66_code
def yX5_heard : MethodName := ⟨RX5, "heard", "(II)I"⟩
abbrev cX5_forget : ByteArray := prog_7_method_67_code
def yX5_forget : MethodName := ⟨RX5, "forget", "()I"⟩
abbrev cX5_isHeard : ByteArray := prog_7_method_68_code
def yX5_isHeard : MethodName := ⟨RX5, "isHeard", "()Z"⟩
abbrev cX5_takes : ByteArray := prog_7_method_69_code
def yX5_takes : MethodName := ⟨RX5, "takes", "(II)V"⟩
abbrev cX5_gives : ByteArray := prog_7_method_70_code
def yX5_gives : MethodName := ⟨RX5, "gives", "(I)V"⟩
abbrev cX5_lawName : ByteArray := prog_7_method_71_code
def yX5_lawName : MethodName := ⟨RX5, "lawName", "(I)I"⟩
abbrev cX5_learnOf : ByteArray := prog_7_method_72_code
def yX5_learnOf : MethodName := ⟨RX5, "learnOf", "(II)I"⟩
abbrev cX5_learn : ByteArray := prog_7_method_73_code
def yX5_learn : MethodName := ⟨RX5, "learn", "(II)I"⟩
abbrev cX5_emptyNow : ByteArray := prog_7_method_74_code
def yX5_emptyNow : MethodName := ⟨RX5, "emptyNow", "()I"⟩
abbrev cX5_empty : ByteArray := prog_7_method_75_code
def yX5_empty : MethodName := ⟨RX5, "empty", "()I"⟩
abbrev cX5_turnOf : ByteArray := prog_7_method_76_code
def yX5_turnOf : MethodName := ⟨RX5, "turnOf", "(II)I"⟩
abbrev cX5_turn : ByteArray := prog_7_method_77_code
def yX5_turn : MethodName := ⟨RX5, "turn", "(II)I"⟩
abbrev cX5_looksOf : ByteArray := prog_7_method_78_code
def yX5_looksOf : MethodName := ⟨RX5, "looksOf", "(IIII)J"⟩
abbrev cX5_looks : ByteArray := prog_7_method_79_code
def yX5_looks : MethodName := ⟨RX5, "looks", "(IIII)J"⟩
abbrev cX5_nightOf : ByteArray := prog_7_method_80_code
def yX5_nightOf : MethodName := ⟨RX5, "nightOf", "(III)I"⟩
abbrev cX5_night : ByteArray := prog_7_method_81_code
def yX5_night : MethodName := ⟨RX5, "night", "(III)I"⟩
abbrev cX5_write : ByteArray := prog_7_method_82_code
def yX5_write : MethodName := ⟨RX5, "write", "(II)I"⟩
abbrev cX5_count : ByteArray := prog_7_method_83_code
def yX5_count : MethodName := ⟨RX5, "count", "(I)I"⟩
abbrev cX5_tellsBox : ByteArray := prog_7_method_84_code
def yX5_tellsBox : MethodName := ⟨RX5, "tellsBox", "(JI)J"⟩
abbrev cX5_digest : ByteArray := prog_7_method_85_code
def yX5_digest : MethodName := ⟨RX5, "digest", "()J"⟩
def RJ11 : String := "java/lang/Character"
def TJ11 : u_T := fun k => match k with
  | _ => ("", "", "", false)
def tyJ11 : Nat → FieldType := fun k => match k with
  | _ => .int
abbrev wsJ110 : List Cond := u_ws RJ11 TJ11 0
theorem nmJ11 : ∀ a, a < 0 → ∀ b, b < 0 → a ≠ b → (TJ11 a).2.1 ≠ (TJ11 b).2.1 := by decide +kernel
theorem tyJ11_ok : ∀ k, k < 0 → parseFieldDescriptor (TJ11 k).2.2.1 = some (tyJ11 k) := by decide +kernel
abbrev cJ11_isValidCodePoint_9a6ad : ByteArray := prog_8_method_11_code
def yJ11_isValidCodePoint_9a6ad : MethodName := ⟨RJ11, "isValidCodePoint", "(I)Z"⟩
abbrev cJ11_highSurrogate_5068e : ByteArray := prog_8_method_28_code
def yJ11_highSurrogate_5068e : MethodName := ⟨RJ11, "highSurrogate", "(I)C"⟩
abbrev cJ11_lowSurrogate_5068e : ByteArray := prog_8_method_29_code
def yJ11_lowSurrogate_5068e : MethodName := ⟨RJ11, "lowSurrogate", "(I)C"⟩
def RJ6 : String := "java/lang/Integer"
def TJ6 : u_T := fun k => match k with
  | _ => ("", "", "", false)
def tyJ6 : Nat → FieldType := fun k => match k with
  | _ => .int
abbrev wsJ60 : List Cond := u_ws RJ6 TJ6 0
theorem nmJ6 : ∀ a, a < 0 → ∀ b, b < 0 → a ≠ b → (TJ6 a).2.1 ≠ (TJ6 b).2.1 := by decide +kernel
theorem tyJ6_ok : ∀ k, k < 0 → parseFieldDescriptor (TJ6 k).2.2.1 = some (tyJ6 k) := by decide +kernel
abbrev cJ6_bitCount_0f7a4 : ByteArray := prog_9_method_49_code
def yJ6_bitCount_0f7a4 : MethodName := ⟨RJ6, "bitCount", "(I)I"⟩
def RJ9 : String := "java/lang/Math"
def TJ9 : u_T := fun k => match k with
  | _ => ("", "", "", false)
def tyJ9 : Nat → FieldType := fun k => match k with
  | _ => .int
abbrev wsJ90 : List Cond := u_ws RJ9 TJ9 0
theorem nmJ9 : ∀ a, a < 0 → ∀ b, b < 0 → a ≠ b → (TJ9 a).2.1 ≠ (TJ9 b).2.1 := by decide +kernel
theorem tyJ9_ok : ∀ k, k < 0 → parseFieldDescriptor (TJ9 k).2.2.1 = some (tyJ9 k) := by decide +kernel
abbrev cJ9_max_7cf53 : ByteArray := prog_10_method_65_code
def yJ9_max_7cf53 : MethodName := ⟨RJ9, "max", "(II)I"⟩
abbrev cJ9_min_7cf53 : ByteArray := prog_10_method_69_code
def yJ9_min_7cf53 : MethodName := ⟨RJ9, "min", "(II)I"⟩
def RJ0 : String := "java/lang/String"
def TJ0 : u_T := fun k => match k with
  | _ => ("", "", "", false)
def tyJ0 : Nat → FieldType := fun k => match k with
  | _ => .int
abbrev wsJ00 : List Cond := u_ws RJ0 TJ0 0
theorem nmJ0 : ∀ a, a < 0 → ∀ b, b < 0 → a ≠ b → (TJ0 a).2.1 ≠ (TJ0 b).2.1 := by decide +kernel
theorem tyJ0_ok : ∀ k, k < 0 → parseFieldDescriptor (TJ0 k).2.2.1 = some (tyJ0 k) := by decide +kernel
abbrev cJ0_length_8abf5 : ByteArray := prog_11_method_54_code
def yJ0_length_8abf5 : MethodName := ⟨RJ0, "length", "()I"⟩
abbrev cJ0_indexOf_0f7a4 : ByteArray := prog_11_method_79_code
def yJ0_indexOf_0f7a4 : MethodName := ⟨RJ0, "indexOf", "(I)I"⟩
abbrev cJ0_indexOf_7cf53 : ByteArray := prog_11_method_80_code
def yJ0_indexOf_7cf53 : MethodName := ⟨RJ0, "indexOf", "(II)I"⟩
abbrev cJ0_coder_7d493 : ByteArray := prog_11_method_152_code
def yJ0_coder_7d493 : MethodName := ⟨RJ0, "coder", "()B"⟩
abbrev cJ0_isLatin1_aae02 : ByteArray := prog_11_method_154_code
def yJ0_isLatin1_aae02 : MethodName := ⟨RJ0, "isLatin1", "()Z"⟩
abbrev cJ0_checkBoundsBeginEnd_23922 : ByteArray := prog_11_method_158_code
def yJ0_checkBoundsBeginEnd_23922 : MethodName := ⟨RJ0, "checkBoundsBeginEnd", "(III)V"⟩
def RJ1 : String := "java/lang/StringLatin1"
def TJ1 : u_T := fun k => match k with
  | _ => ("", "", "", false)
def tyJ1 : Nat → FieldType := fun k => match k with
  | _ => .int
abbrev wsJ10 : List Cond := u_ws RJ1 TJ1 0
theorem nmJ1 : ∀ a, a < 0 → ∀ b, b < 0 → a ≠ b → (TJ1 a).2.1 ≠ (TJ1 b).2.1 := by decide +kernel
theorem tyJ1_ok : ∀ k, k < 0 → parseFieldDescriptor (TJ1 k).2.2.1 = some (tyJ1 k) := by decide +kernel
abbrev cJ1_canEncode_9a6ad : ByteArray := prog_12_method_4_code
def yJ1_canEncode_9a6ad : MethodName := ⟨RJ1, "canEncode", "(I)Z"⟩
abbrev cJ1_indexOf_4cfef : ByteArray := prog_12_method_22_code
def yJ1_indexOf_4cfef : MethodName := ⟨RJ1, "indexOf", "([BIII)I"⟩
abbrev cJ1_indexOfChar_4cfef : ByteArray := prog_12_method_23_code
def yJ1_indexOfChar_4cfef : MethodName := ⟨RJ1, "indexOfChar", "([BIII)I"⟩
def RJ2 : String := "java/lang/StringUTF16"
def TJ2 : u_T := fun k => match k with
  | _ => ("", "", "", false)
def tyJ2 : Nat → FieldType := fun k => match k with
  | _ => .int
abbrev wsJ20 : List Cond := u_ws RJ2 TJ2 0
theorem nmJ2 : ∀ a, a < 0 → ∀ b, b < 0 → a ≠ b → (TJ2 a).2.1 ≠ (TJ2 b).2.1 := by decide +kernel
theorem tyJ2_ok : ∀ k, k < 0 → parseFieldDescriptor (TJ2 k).2.2.1 = some (tyJ2 k) := by decide +kernel
abbrev cJ2_getChar_3b067 : ByteArray := prog_13_method_5_code
def yJ2_getChar_3b067 : MethodName := ⟨RJ2, "getChar", "([BI)C"⟩
abbrev cJ2_length_9d52b : ByteArray := prog_13_method_6_code
def yJ2_length_9d52b : MethodName := ⟨RJ2, "length", "([B)I"⟩
abbrev cJ2_indexOf_4cfef : ByteArray := prog_13_method_40_code
def yJ2_indexOf_4cfef : MethodName := ⟨RJ2, "indexOf", "([BIII)I"⟩
abbrev cJ2_indexOfChar_4cfef : ByteArray := prog_13_method_47_code
def yJ2_indexOfChar_4cfef : MethodName := ⟨RJ2, "indexOfChar", "([BIII)I"⟩
abbrev cJ2_indexOfCharUnsafe_4cfef : ByteArray := prog_13_method_48_code
def yJ2_indexOfCharUnsafe_4cfef : MethodName := ⟨RJ2, "indexOfCharUnsafe", "([BIII)I"⟩
abbrev cJ2_indexOfSupplementary_4cfef : ByteArray := prog_13_method_49_code
def yJ2_indexOfSupplementary_4cfef : MethodName := ⟨RJ2, "indexOfSupplementary", "([BIII)I"⟩
abbrev cJ2_checkBoundsBeginEnd_d044e : ByteArray := prog_13_method_93_code
def yJ2_checkBoundsBeginEnd_d044e : MethodName := ⟨RJ2, "checkBoundsBeginEnd", "(II[B)V"⟩
def RJ10 : String := "java/lang/System"
def TJ10 : u_T := fun k => match k with
  | _ => ("", "", "", false)
def tyJ10 : Nat → FieldType := fun k => match k with
  | _ => .int
abbrev wsJ100 : List Cond := u_ws RJ10 TJ10 0
theorem nmJ10 : ∀ a, a < 0 → ∀ b, b < 0 → a ≠ b → (TJ10 a).2.1 ≠ (TJ10 b).2.1 := by decide +kernel
theorem tyJ10_ok : ∀ k, k < 0 → parseFieldDescriptor (TJ10 k).2.2.1 = some (tyJ10 k) := by decide +kernel
def RJ7 : String := "java/util/Arrays"
def TJ7 : u_T := fun k => match k with
  | _ => ("", "", "", false)
def tyJ7 : Nat → FieldType := fun k => match k with
  | _ => .int
abbrev wsJ70 : List Cond := u_ws RJ7 TJ7 0
theorem nmJ7 : ∀ a, a < 0 → ∀ b, b < 0 → a ≠ b → (TJ7 a).2.1 ≠ (TJ7 b).2.1 := by decide +kernel
theorem tyJ7_ok : ∀ k, k < 0 → parseFieldDescriptor (TJ7 k).2.2.1 = some (tyJ7 k) := by decide +kernel
abbrev cJ7_fill_53178 : ByteArray := prog_15_method_103_code
def yJ7_fill_53178 : MethodName := ⟨RJ7, "fill", "([II)V"⟩
def RJ3 : String := "jdk/internal/util/Preconditions"
def TJ3 : u_T := fun k => match k with
  | _ => ("", "", "", false)
def tyJ3 : Nat → FieldType := fun k => match k with
  | _ => .int
abbrev wsJ30 : List Cond := u_ws RJ3 TJ3 0
theorem nmJ3 : ∀ a, a < 0 → ∀ b, b < 0 → a ≠ b → (TJ3 a).2.1 ≠ (TJ3 b).2.1 := by decide +kernel
theorem tyJ3_ok : ∀ k, k < 0 → parseFieldDescriptor (TJ3 k).2.2.1 = some (tyJ3 k) := by decide +kernel
abbrev cJ3_checkFromToIndex_8c36e : ByteArray := prog_16_method_12_code
def yJ3_checkFromToIndex_8c36e : MethodName := ⟨RJ3, "checkFromToIndex", "(IIILjava/util/function/BiFunction;)I"⟩
def RL : String := "JackBoxesLaw"
abbrev cL_law : ByteArray := code
def yL_law : MethodName := ⟨RL, "law", "([I)Z"⟩
end
section
theorem dX0_init_0 : decode cX0_init 0 = .ok (.aload_n 0, 1) := by decide +kernel
theorem dX0_init_1 : decode cX0_init 1 = .ok (.invokespecial 3, 3) := by decide +kernel
theorem dX0_init_4 : decode cX0_init 4 = .ok (.aload_n 0, 1) := by decide +kernel
theorem dX0_init_5 : decode cX0_init 5 = .ok (.bipush 35, 2) := by decide +kernel
theorem dX0_init_7 : decode cX0_init 7 = .ok (.newarray .int, 2) := by decide +kernel
theorem dX0_init_9 : decode cX0_init 9 = .ok (.putfield 9, 3) := by decide +kernel
theorem dX0_init_12 : decode cX0_init 12 = .ok (.aload_n 0, 1) := by decide +kernel
theorem dX0_init_13 : decode cX0_init 13 = .ok (.iconst 0, 1) := by decide +kernel
theorem dX0_init_14 : decode cX0_init 14 = .ok (.putfield 15, 3) := by decide +kernel
theorem dX0_init_17 : decode cX0_init 17 = .ok (.aload_n 0, 1) := by decide +kernel
theorem dX0_init_18 : decode cX0_init 18 = .ok (.iconst (-1), 1) := by decide +kernel
theorem dX0_init_19 : decode cX0_init 19 = .ok (.putfield 19, 3) := by decide +kernel
theorem dX0_init_22 : decode cX0_init 22 = .ok (.aload_n 0, 1) := by decide +kernel
theorem dX0_init_23 : decode cX0_init 23 = .ok (.iconst 0, 1) := by decide +kernel
theorem dX0_init_24 : decode cX0_init 24 = .ok (.putfield 22, 3) := by decide +kernel
theorem dX0_init_27 : decode cX0_init 27 = .ok (.aload_n 0, 1) := by decide +kernel
theorem dX0_init_28 : decode cX0_init 28 = .ok (.bipush 9, 2) := by decide +kernel
theorem dX0_init_30 : decode cX0_init 30 = .ok (.newarray .int, 2) := by decide +kernel
theorem dX0_init_32 : decode cX0_init 32 = .ok (.putfield 25, 3) := by decide +kernel
theorem dX0_init_35 : decode cX0_init 35 = .ok (.aload_n 0, 1) := by decide +kernel
theorem dX0_init_36 : decode cX0_init 36 = .ok (.bipush 9, 2) := by decide +kernel
theorem dX0_init_38 : decode cX0_init 38 = .ok (.newarray .int, 2) := by decide +kernel
theorem dX0_init_40 : decode cX0_init 40 = .ok (.putfield 28, 3) := by decide +kernel
theorem dX0_init_43 : decode cX0_init 43 = .ok (.aload_n 0, 1) := by decide +kernel
theorem dX0_init_44 : decode cX0_init 44 = .ok (.bipush 9, 2) := by decide +kernel
theorem dX0_init_46 : decode cX0_init 46 = .ok (.newarray .int, 2) := by decide +kernel
theorem dX0_init_48 : decode cX0_init 48 = .ok (.putfield 31, 3) := by decide +kernel
theorem dX0_init_51 : decode cX0_init 51 = .ok (.return_, 1) := by decide +kernel
theorem dX0_parse_0 : decode cX0_parse 0 = .ok (.aload_n 0, 1) := by decide +kernel
theorem dX0_parse_1 : decode cX0_parse 1 = .ok (.aload_n 0, 1) := by decide +kernel
theorem dX0_parse_2 : decode cX0_parse 2 = .ok (.invokevirtual 34, 3) := by decide +kernel
theorem dX0_parse_5 : decode cX0_parse 5 = .ok (.putfield 19, 3) := by decide +kernel
theorem dX0_parse_8 : decode cX0_parse 8 = .ok (.aload_n 0, 1) := by decide +kernel
theorem dX0_parse_9 : decode cX0_parse 9 = .ok (.iconst 0, 1) := by decide +kernel
theorem dX0_parse_10 : decode cX0_parse 10 = .ok (.putfield 22, 3) := by decide +kernel
theorem dX0_parse_13 : decode cX0_parse 13 = .ok (.iconst 0, 1) := by decide +kernel
theorem dX0_parse_14 : decode cX0_parse 14 = .ok (.istore_n 1, 1) := by decide +kernel
theorem dX0_parse_15 : decode cX0_parse 15 = .ok (.aload_n 0, 1) := by decide +kernel
theorem dX0_parse_16 : decode cX0_parse 16 = .ok (.getfield 19, 3) := by decide +kernel
theorem dX0_parse_19 : decode cX0_parse 19 = .ok (.iconst (-1), 1) := by decide +kernel
theorem dX0_parse_20 : decode cX0_parse 20 = .ok (.if_icmp .ne 99, 3) := by decide +kernel
theorem dX0_parse_23 : decode cX0_parse 23 = .ok (.iload_n 1, 1) := by decide +kernel
theorem dX0_parse_24 : decode cX0_parse 24 = .ok (.iconst 2, 1) := by decide +kernel
theorem dX0_parse_25 : decode cX0_parse 25 = .ok (.iadd, 1) := by decide +kernel
theorem dX0_parse_26 : decode cX0_parse 26 = .ok (.aload_n 0, 1) := by decide +kernel
theorem dX0_parse_27 : decode cX0_parse 27 = .ok (.getfield 15, 3) := by decide +kernel
theorem dX0_parse_30 : decode cX0_parse 30 = .ok (.if_icmp .ge 89, 3) := by decide +kernel
theorem dX0_parse_33 : decode cX0_parse 33 = .ok (.aload_n 0, 1) := by decide +kernel
theorem dX0_parse_34 : decode cX0_parse 34 = .ok (.getfield 22, 3) := by decide +kernel
theorem dX0_parse_37 : decode cX0_parse 37 = .ok (.bipush 9, 2) := by decide +kernel
theorem dX0_parse_39 : decode cX0_parse 39 = .ok (.if_icmp .ge 80, 3) := by decide +kernel
theorem dX0_parse_42 : decode cX0_parse 42 = .ok (.aload_n 0, 1) := by decide +kernel
theorem dX0_parse_43 : decode cX0_parse 43 = .ok (.getfield 25, 3) := by decide +kernel
theorem dX0_parse_46 : decode cX0_parse 46 = .ok (.aload_n 0, 1) := by decide +kernel
theorem dX0_parse_47 : decode cX0_parse 47 = .ok (.getfield 22, 3) := by decide +kernel
theorem dX0_parse_50 : decode cX0_parse 50 = .ok (.ldc 38, 2) := by decide +kernel
theorem dX0_parse_52 : decode cX0_parse 52 = .ok (.aload_n 0, 1) := by decide +kernel
theorem dX0_parse_53 : decode cX0_parse 53 = .ok (.getfield 9, 3) := by decide +kernel
theorem dX0_parse_56 : decode cX0_parse 56 = .ok (.iload_n 1, 1) := by decide +kernel
theorem dX0_parse_57 : decode cX0_parse 57 = .ok (.iaload, 1) := by decide +kernel
theorem dX0_parse_58 : decode cX0_parse 58 = .ok (.i2c, 1) := by decide +kernel
theorem dX0_parse_59 : decode cX0_parse 59 = .ok (.invokevirtual 40, 3) := by decide +kernel
theorem dX0_parse_62 : decode cX0_parse 62 = .ok (.iastore, 1) := by decide +kernel
theorem dX0_parse_63 : decode cX0_parse 63 = .ok (.aload_n 0, 1) := by decide +kernel
theorem dX0_parse_64 : decode cX0_parse 64 = .ok (.getfield 28, 3) := by decide +kernel
theorem dX0_parse_67 : decode cX0_parse 67 = .ok (.aload_n 0, 1) := by decide +kernel
theorem dX0_parse_68 : decode cX0_parse 68 = .ok (.getfield 22, 3) := by decide +kernel
theorem dX0_parse_71 : decode cX0_parse 71 = .ok (.aload_n 0, 1) := by decide +kernel
theorem dX0_parse_72 : decode cX0_parse 72 = .ok (.getfield 9, 3) := by decide +kernel
theorem dX0_parse_75 : decode cX0_parse 75 = .ok (.iload_n 1, 1) := by decide +kernel
theorem dX0_parse_76 : decode cX0_parse 76 = .ok (.iconst 1, 1) := by decide +kernel
theorem dX0_parse_77 : decode cX0_parse 77 = .ok (.iadd, 1) := by decide +kernel
theorem dX0_parse_78 : decode cX0_parse 78 = .ok (.iaload, 1) := by decide +kernel
theorem dX0_parse_79 : decode cX0_parse 79 = .ok (.bipush 48, 2) := by decide +kernel
theorem dX0_parse_81 : decode cX0_parse 81 = .ok (.isub, 1) := by decide +kernel
theorem dX0_parse_82 : decode cX0_parse 82 = .ok (.iastore, 1) := by decide +kernel
theorem dX0_parse_83 : decode cX0_parse 83 = .ok (.aload_n 0, 1) := by decide +kernel
theorem dX0_parse_84 : decode cX0_parse 84 = .ok (.getfield 31, 3) := by decide +kernel
theorem dX0_parse_87 : decode cX0_parse 87 = .ok (.aload_n 0, 1) := by decide +kernel
theorem dX0_parse_88 : decode cX0_parse 88 = .ok (.getfield 22, 3) := by decide +kernel
theorem dX0_parse_91 : decode cX0_parse 91 = .ok (.aload_n 0, 1) := by decide +kernel
theorem dX0_parse_92 : decode cX0_parse 92 = .ok (.getfield 9, 3) := by decide +kernel
theorem dX0_parse_95 : decode cX0_parse 95 = .ok (.iload_n 1, 1) := by decide +kernel
theorem dX0_parse_96 : decode cX0_parse 96 = .ok (.iconst 2, 1) := by decide +kernel
theorem dX0_parse_97 : decode cX0_parse 97 = .ok (.iadd, 1) := by decide +kernel
theorem dX0_parse_98 : decode cX0_parse 98 = .ok (.iaload, 1) := by decide +kernel
theorem dX0_parse_99 : decode cX0_parse 99 = .ok (.bipush 48, 2) := by decide +kernel
theorem dX0_parse_101 : decode cX0_parse 101 = .ok (.isub, 1) := by decide +kernel
theorem dX0_parse_102 : decode cX0_parse 102 = .ok (.iastore, 1) := by decide +kernel
theorem dX0_parse_103 : decode cX0_parse 103 = .ok (.aload_n 0, 1) := by decide +kernel
theorem dX0_parse_104 : decode cX0_parse 104 = .ok (.dup, 1) := by decide +kernel
theorem dX0_parse_105 : decode cX0_parse 105 = .ok (.getfield 22, 3) := by decide +kernel
theorem dX0_parse_108 : decode cX0_parse 108 = .ok (.iconst 1, 1) := by decide +kernel
theorem dX0_parse_109 : decode cX0_parse 109 = .ok (.iadd, 1) := by decide +kernel
theorem dX0_parse_110 : decode cX0_parse 110 = .ok (.putfield 22, 3) := by decide +kernel
theorem dX0_parse_113 : decode cX0_parse 113 = .ok (.iinc 1 4, 3) := by decide +kernel
theorem dX0_parse_116 : decode cX0_parse 116 = .ok (.goto (-101), 3) := by decide +kernel
theorem dX0_parse_119 : decode cX0_parse 119 = .ok (.return_, 1) := by decide +kernel
theorem dX0_findFault_0 : decode cX0_findFault 0 = .ok (.iconst 0, 1) := by decide +kernel
theorem dX0_findFault_1 : decode cX0_findFault 1 = .ok (.istore_n 1, 1) := by decide +kernel
theorem dX0_findFault_2 : decode cX0_findFault 2 = .ok (.iload_n 1, 1) := by decide +kernel
theorem dX0_findFault_3 : decode cX0_findFault 3 = .ok (.aload_n 0, 1) := by decide +kernel
theorem dX0_findFault_4 : decode cX0_findFault 4 = .ok (.getfield 15, 3) := by decide +kernel
theorem dX0_findFault_7 : decode cX0_findFault 7 = .ok (.if_icmp .ge 24, 3) := by decide +kernel
theorem dX0_findFault_10 : decode cX0_findFault 10 = .ok (.iload_n 1, 1) := by decide +kernel
theorem dX0_findFault_11 : decode cX0_findFault 11 = .ok (.aload_n 0, 1) := by decide +kernel
theorem dX0_findFault_12 : decode cX0_findFault 12 = .ok (.getfield 9, 3) := by decide +kernel
theorem dX0_findFault_15 : decode cX0_findFault 15 = .ok (.iload_n 1, 1) := by decide +kernel
theorem dX0_findFault_16 : decode cX0_findFault 16 = .ok (.iaload, 1) := by decide +kernel
theorem dX0_findFault_17 : decode cX0_findFault 17 = .ok (.invokestatic 46, 3) := by decide +kernel
theorem dX0_findFault_20 : decode cX0_findFault 20 = .ok (.ifCond .ne 5, 3) := by decide +kernel
theorem dX0_findFault_23 : decode cX0_findFault 23 = .ok (.iload_n 1, 1) := by decide +kernel
theorem dX0_findFault_24 : decode cX0_findFault 24 = .ok (.ireturn, 1) := by decide +kernel
theorem dX0_findFault_25 : decode cX0_findFault 25 = .ok (.iinc 1 1, 3) := by decide +kernel
theorem dX0_findFault_28 : decode cX0_findFault 28 = .ok (.goto (-26), 3) := by decide +kernel
theorem dX0_findFault_31 : decode cX0_findFault 31 = .ok (.aload_n 0, 1) := by decide +kernel
theorem dX0_findFault_32 : decode cX0_findFault 32 = .ok (.getfield 15, 3) := by decide +kernel
theorem dX0_findFault_35 : decode cX0_findFault 35 = .ok (.ifCond .eq 13, 3) := by decide +kernel
theorem dX0_findFault_38 : decode cX0_findFault 38 = .ok (.aload_n 0, 1) := by decide +kernel
theorem dX0_findFault_39 : decode cX0_findFault 39 = .ok (.getfield 15, 3) := by decide +kernel
theorem dX0_findFault_42 : decode cX0_findFault 42 = .ok (.iconst 4, 1) := by decide +kernel
theorem dX0_findFault_43 : decode cX0_findFault 43 = .ok (.irem, 1) := by decide +kernel
theorem dX0_findFault_44 : decode cX0_findFault 44 = .ok (.iconst 3, 1) := by decide +kernel
theorem dX0_findFault_45 : decode cX0_findFault 45 = .ok (.if_icmp .ne 7, 3) := by decide +kernel
theorem dX0_findFault_48 : decode cX0_findFault 48 = .ok (.iconst (-1), 1) := by decide +kernel
theorem dX0_findFault_49 : decode cX0_findFault 49 = .ok (.goto 7, 3) := by decide +kernel
theorem dX0_findFault_52 : decode cX0_findFault 52 = .ok (.aload_n 0, 1) := by decide +kernel
theorem dX0_findFault_53 : decode cX0_findFault 53 = .ok (.getfield 15, 3) := by decide +kernel
theorem dX0_findFault_56 : decode cX0_findFault 56 = .ok (.ireturn, 1) := by decide +kernel
theorem dX0_isDue_0 : decode cX0_isDue 0 = .ok (.iload_n 0, 1) := by decide +kernel
theorem dX0_isDue_1 : decode cX0_isDue 1 = .ok (.iconst 4, 1) := by decide +kernel
theorem dX0_isDue_2 : decode cX0_isDue 2 = .ok (.irem, 1) := by decide +kernel
theorem dX0_isDue_3 : decode cX0_isDue 3 = .ok (.lookupswitch 61 #[(0, 25), (3, 49)], 25) := by decide +kernel
theorem dX0_isDue_28 : decode cX0_isDue 28 = .ok (.iload_n 0, 1) := by decide +kernel
theorem dX0_isDue_29 : decode cX0_isDue 29 = .ok (.iconst 4, 1) := by decide +kernel
theorem dX0_isDue_30 : decode cX0_isDue 30 = .ok (.idiv, 1) := by decide +kernel
theorem dX0_isDue_31 : decode cX0_isDue 31 = .ok (.bipush 9, 2) := by decide +kernel
theorem dX0_isDue_33 : decode cX0_isDue 33 = .ok (.if_icmp .ge 17, 3) := by decide +kernel
theorem dX0_isDue_36 : decode cX0_isDue 36 = .ok (.ldc 38, 2) := by decide +kernel
theorem dX0_isDue_38 : decode cX0_isDue 38 = .ok (.iload_n 1, 1) := by decide +kernel
theorem dX0_isDue_39 : decode cX0_isDue 39 = .ok (.i2c, 1) := by decide +kernel
theorem dX0_isDue_40 : decode cX0_isDue 40 = .ok (.invokevirtual 40, 3) := by decide +kernel
theorem dX0_isDue_43 : decode cX0_isDue 43 = .ok (.ifCond .lt 7, 3) := by decide +kernel
theorem dX0_isDue_46 : decode cX0_isDue 46 = .ok (.iconst 1, 1) := by decide +kernel
theorem dX0_isDue_47 : decode cX0_isDue 47 = .ok (.goto 4, 3) := by decide +kernel
theorem dX0_isDue_50 : decode cX0_isDue 50 = .ok (.iconst 0, 1) := by decide +kernel
theorem dX0_isDue_51 : decode cX0_isDue 51 = .ok (.ireturn, 1) := by decide +kernel
theorem dX0_isDue_52 : decode cX0_isDue 52 = .ok (.iload_n 1, 1) := by decide +kernel
theorem dX0_isDue_53 : decode cX0_isDue 53 = .ok (.bipush 59, 2) := by decide +kernel
theorem dX0_isDue_55 : decode cX0_isDue 55 = .ok (.if_icmp .ne 7, 3) := by decide +kernel
theorem dX0_isDue_58 : decode cX0_isDue 58 = .ok (.iconst 1, 1) := by decide +kernel
theorem dX0_isDue_59 : decode cX0_isDue 59 = .ok (.goto 4, 3) := by decide +kernel
theorem dX0_isDue_62 : decode cX0_isDue 62 = .ok (.iconst 0, 1) := by decide +kernel
theorem dX0_isDue_63 : decode cX0_isDue 63 = .ok (.ireturn, 1) := by decide +kernel
theorem dX0_isDue_64 : decode cX0_isDue 64 = .ok (.iload_n 1, 1) := by decide +kernel
theorem dX0_isDue_65 : decode cX0_isDue 65 = .ok (.bipush 49, 2) := by decide +kernel
theorem dX0_isDue_67 : decode cX0_isDue 67 = .ok (.if_icmp .lt 13, 3) := by decide +kernel
theorem dX0_isDue_70 : decode cX0_isDue 70 = .ok (.iload_n 1, 1) := by decide +kernel
theorem dX0_isDue_71 : decode cX0_isDue 71 = .ok (.bipush 57, 2) := by decide +kernel
theorem dX0_isDue_73 : decode cX0_isDue 73 = .ok (.if_icmp .gt 7, 3) := by decide +kernel
theorem dX0_isDue_76 : decode cX0_isDue 76 = .ok (.iconst 1, 1) := by decide +kernel
theorem dX0_isDue_77 : decode cX0_isDue 77 = .ok (.goto 4, 3) := by decide +kernel
theorem dX0_isDue_80 : decode cX0_isDue 80 = .ok (.iconst 0, 1) := by decide +kernel
theorem dX0_isDue_81 : decode cX0_isDue 81 = .ok (.ireturn, 1) := by decide +kernel
theorem dX0_allBits_0 : decode cX0_allBits 0 = .ok (.iconst 1, 1) := by decide +kernel
theorem dX0_allBits_1 : decode cX0_allBits 1 = .ok (.aload_n 0, 1) := by decide +kernel
theorem dX0_allBits_2 : decode cX0_allBits 2 = .ok (.getfield 22, 3) := by decide +kernel
theorem dX0_allBits_5 : decode cX0_allBits 5 = .ok (.ishl, 1) := by decide +kernel
theorem dX0_allBits_6 : decode cX0_allBits 6 = .ok (.iconst 1, 1) := by decide +kernel
theorem dX0_allBits_7 : decode cX0_allBits 7 = .ok (.isub, 1) := by decide +kernel
theorem dX0_allBits_8 : decode cX0_allBits 8 = .ok (.ireturn, 1) := by decide +kernel
theorem dX0_allSprings_0 : decode cX0_allSprings 0 = .ok (.iconst 0, 1) := by decide +kernel
theorem dX0_allSprings_1 : decode cX0_allSprings 1 = .ok (.istore_n 1, 1) := by decide +kernel
theorem dX0_allSprings_2 : decode cX0_allSprings 2 = .ok (.iconst 0, 1) := by decide +kernel
theorem dX0_allSprings_3 : decode cX0_allSprings 3 = .ok (.istore_n 2, 1) := by decide +kernel
theorem dX0_allSprings_4 : decode cX0_allSprings 4 = .ok (.iload_n 2, 1) := by decide +kernel
theorem dX0_allSprings_5 : decode cX0_allSprings 5 = .ok (.aload_n 0, 1) := by decide +kernel
theorem dX0_allSprings_6 : decode cX0_allSprings 6 = .ok (.getfield 22, 3) := by decide +kernel
theorem dX0_allSprings_9 : decode cX0_allSprings 9 = .ok (.if_icmp .ge 18, 3) := by decide +kernel
theorem dX0_allSprings_12 : decode cX0_allSprings 12 = .ok (.iload_n 1, 1) := by decide +kernel
theorem dX0_allSprings_13 : decode cX0_allSprings 13 = .ok (.aload_n 0, 1) := by decide +kernel
theorem dX0_allSprings_14 : decode cX0_allSprings 14 = .ok (.getfield 31, 3) := by decide +kernel
theorem dX0_allSprings_17 : decode cX0_allSprings 17 = .ok (.iload_n 2, 1) := by decide +kernel
theorem dX0_allSprings_18 : decode cX0_allSprings 18 = .ok (.iaload, 1) := by decide +kernel
theorem dX0_allSprings_19 : decode cX0_allSprings 19 = .ok (.iadd, 1) := by decide +kernel
theorem dX0_allSprings_20 : decode cX0_allSprings 20 = .ok (.istore_n 1, 1) := by decide +kernel
theorem dX0_allSprings_21 : decode cX0_allSprings 21 = .ok (.iinc 2 1, 3) := by decide +kernel
theorem dX0_allSprings_24 : decode cX0_allSprings 24 = .ok (.goto (-20), 3) := by decide +kernel
theorem dX0_allSprings_27 : decode cX0_allSprings 27 = .ok (.iload_n 1, 1) := by decide +kernel
theorem dX0_allSprings_28 : decode cX0_allSprings 28 = .ok (.ireturn, 1) := by decide +kernel
theorem dX0_withLaw_0 : decode cX0_withLaw 0 = .ok (.iconst 0, 1) := by decide +kernel
theorem dX0_withLaw_1 : decode cX0_withLaw 1 = .ok (.istore_n 2, 1) := by decide +kernel
theorem dX0_withLaw_2 : decode cX0_withLaw 2 = .ok (.iconst 0, 1) := by decide +kernel
theorem dX0_withLaw_3 : decode cX0_withLaw 3 = .ok (.istore_n 3, 1) := by decide +kernel
theorem dX0_withLaw_4 : decode cX0_withLaw 4 = .ok (.iload_n 3, 1) := by decide +kernel
theorem dX0_withLaw_5 : decode cX0_withLaw 5 = .ok (.aload_n 0, 1) := by decide +kernel
theorem dX0_withLaw_6 : decode cX0_withLaw 6 = .ok (.getfield 22, 3) := by decide +kernel
theorem dX0_withLaw_9 : decode cX0_withLaw 9 = .ok (.if_icmp .ge 22, 3) := by decide +kernel
theorem dX0_withLaw_12 : decode cX0_withLaw 12 = .ok (.aload_n 0, 1) := by decide +kernel
theorem dX0_withLaw_13 : decode cX0_withLaw 13 = .ok (.getfield 25, 3) := by decide +kernel
theorem dX0_withLaw_16 : decode cX0_withLaw 16 = .ok (.iload_n 3, 1) := by decide +kernel
theorem dX0_withLaw_17 : decode cX0_withLaw 17 = .ok (.iaload, 1) := by decide +kernel
theorem dX0_withLaw_18 : decode cX0_withLaw 18 = .ok (.iload_n 1, 1) := by decide +kernel
theorem dX0_withLaw_19 : decode cX0_withLaw 19 = .ok (.if_icmp .ne 6, 3) := by decide +kernel
theorem dX0_withLaw_22 : decode cX0_withLaw 22 = .ok (.iinc 2 1, 3) := by decide +kernel
theorem dX0_withLaw_25 : decode cX0_withLaw 25 = .ok (.iinc 3 1, 3) := by decide +kernel
theorem dX0_withLaw_28 : decode cX0_withLaw 28 = .ok (.goto (-24), 3) := by decide +kernel
theorem dX0_withLaw_31 : decode cX0_withLaw 31 = .ok (.iload_n 2, 1) := by decide +kernel
theorem dX0_withLaw_32 : decode cX0_withLaw 32 = .ok (.ireturn, 1) := by decide +kernel
theorem dX1_init_0 : decode cX1_init 0 = .ok (.aload_n 0, 1) := by decide +kernel
theorem dX1_init_1 : decode cX1_init 1 = .ok (.invokespecial 3, 3) := by decide +kernel
theorem dX1_init_4 : decode cX1_init 4 = .ok (.aload_n 0, 1) := by decide +kernel
theorem dX1_init_5 : decode cX1_init 5 = .ok (.iconst 0, 1) := by decide +kernel
theorem dX1_init_6 : decode cX1_init 6 = .ok (.putfield 9, 3) := by decide +kernel
theorem dX1_init_9 : decode cX1_init 9 = .ok (.aload_n 0, 1) := by decide +kernel
theorem dX1_init_10 : decode cX1_init 10 = .ok (.bipush 9, 2) := by decide +kernel
theorem dX1_init_12 : decode cX1_init 12 = .ok (.newarray .int, 2) := by decide +kernel
theorem dX1_init_14 : decode cX1_init 14 = .ok (.putfield 15, 3) := by decide +kernel
theorem dX1_init_17 : decode cX1_init 17 = .ok (.aload_n 0, 1) := by decide +kernel
theorem dX1_init_18 : decode cX1_init 18 = .ok (.bipush 9, 2) := by decide +kernel
theorem dX1_init_20 : decode cX1_init 20 = .ok (.newarray .int, 2) := by decide +kernel
theorem dX1_init_22 : decode cX1_init 22 = .ok (.putfield 19, 3) := by decide +kernel
theorem dX1_init_25 : decode cX1_init 25 = .ok (.aload_n 0, 1) := by decide +kernel
theorem dX1_init_26 : decode cX1_init 26 = .ok (.bipush 9, 2) := by decide +kernel
theorem dX1_init_28 : decode cX1_init 28 = .ok (.newarray .int, 2) := by decide +kernel
theorem dX1_init_30 : decode cX1_init 30 = .ok (.putfield 22, 3) := by decide +kernel
theorem dX1_init_33 : decode cX1_init 33 = .ok (.aload_n 0, 1) := by decide +kernel
theorem dX1_init_34 : decode cX1_init 34 = .ok (.bipush 9, 2) := by decide +kernel
theorem dX1_init_36 : decode cX1_init 36 = .ok (.newarray .int, 2) := by decide +kernel
theorem dX1_init_38 : decode cX1_init 38 = .ok (.putfield 25, 3) := by decide +kernel
theorem dX1_init_41 : decode cX1_init 41 = .ok (.aload_n 0, 1) := by decide +kernel
theorem dX1_init_42 : decode cX1_init 42 = .ok (.iconst 0, 1) := by decide +kernel
theorem dX1_init_43 : decode cX1_init 43 = .ok (.putfield 28, 3) := by decide +kernel
theorem dX1_init_46 : decode cX1_init 46 = .ok (.aload_n 0, 1) := by decide +kernel
theorem dX1_init_47 : decode cX1_init 47 = .ok (.iconst 3, 1) := by decide +kernel
theorem dX1_init_48 : decode cX1_init 48 = .ok (.bipush 60, 2) := by decide +kernel
theorem dX1_init_50 : decode cX1_init 50 = .ok (.multianewarray 31 2, 4) := by decide +kernel
theorem dX1_init_54 : decode cX1_init 54 = .ok (.putfield 33, 3) := by decide +kernel
theorem dX1_init_57 : decode cX1_init 57 = .ok (.aload_n 0, 1) := by decide +kernel
theorem dX1_init_58 : decode cX1_init 58 = .ok (.bipush 60, 2) := by decide +kernel
theorem dX1_init_60 : decode cX1_init 60 = .ok (.newarray .int, 2) := by decide +kernel
theorem dX1_init_62 : decode cX1_init 62 = .ok (.putfield 36, 3) := by decide +kernel
theorem dX1_init_65 : decode cX1_init 65 = .ok (.aload_n 0, 1) := by decide +kernel
theorem dX1_init_66 : decode cX1_init 66 = .ok (.bipush 60, 2) := by decide +kernel
theorem dX1_init_68 : decode cX1_init 68 = .ok (.newarray .int, 2) := by decide +kernel
theorem dX1_init_70 : decode cX1_init 70 = .ok (.putfield 39, 3) := by decide +kernel
theorem dX1_init_73 : decode cX1_init 73 = .ok (.aload_n 0, 1) := by decide +kernel
theorem dX1_init_74 : decode cX1_init 74 = .ok (.bipush 9, 2) := by decide +kernel
theorem dX1_init_76 : decode cX1_init 76 = .ok (.newarray .int, 2) := by decide +kernel
theorem dX1_init_78 : decode cX1_init 78 = .ok (.putfield 42, 3) := by decide +kernel
theorem dX1_init_81 : decode cX1_init 81 = .ok (.aload_n 0, 1) := by decide +kernel
theorem dX1_init_82 : decode cX1_init 82 = .ok (.bipush 9, 2) := by decide +kernel
theorem dX1_init_84 : decode cX1_init 84 = .ok (.newarray .int, 2) := by decide +kernel
theorem dX1_init_86 : decode cX1_init 86 = .ok (.putfield 45, 3) := by decide +kernel
theorem dX1_init_89 : decode cX1_init 89 = .ok (.aload_n 0, 1) := by decide +kernel
theorem dX1_init_90 : decode cX1_init 90 = .ok (.bipush 9, 2) := by decide +kernel
theorem dX1_init_92 : decode cX1_init 92 = .ok (.newarray .int, 2) := by decide +kernel
theorem dX1_init_94 : decode cX1_init 94 = .ok (.putfield 48, 3) := by decide +kernel
theorem dX1_init_97 : decode cX1_init 97 = .ok (.aload_n 0, 1) := by decide +kernel
theorem dX1_init_98 : decode cX1_init 98 = .ok (.bipush 9, 2) := by decide +kernel
theorem dX1_init_100 : decode cX1_init 100 = .ok (.newarray .int, 2) := by decide +kernel
theorem dX1_init_102 : decode cX1_init 102 = .ok (.putfield 51, 3) := by decide +kernel
theorem dX1_init_105 : decode cX1_init 105 = .ok (.aload_n 0, 1) := by decide +kernel
theorem dX1_init_106 : decode cX1_init 106 = .ok (.iconst 0, 1) := by decide +kernel
theorem dX1_init_107 : decode cX1_init 107 = .ok (.putfield 54, 3) := by decide +kernel
theorem dX1_init_110 : decode cX1_init 110 = .ok (.aload_n 0, 1) := by decide +kernel
theorem dX1_init_111 : decode cX1_init 111 = .ok (.iconst 0, 1) := by decide +kernel
theorem dX1_init_112 : decode cX1_init 112 = .ok (.putfield 57, 3) := by decide +kernel
theorem dX1_init_115 : decode cX1_init 115 = .ok (.aload_n 0, 1) := by decide +kernel
theorem dX1_init_116 : decode cX1_init 116 = .ok (.iconst 0, 1) := by decide +kernel
theorem dX1_init_117 : decode cX1_init 117 = .ok (.putfield 60, 3) := by decide +kernel
theorem dX1_init_120 : decode cX1_init 120 = .ok (.return_, 1) := by decide +kernel
theorem dX1_load_0 : decode cX1_load 0 = .ok (.aload_n 0, 1) := by decide +kernel
theorem dX1_load_1 : decode cX1_load 1 = .ok (.aload_n 1, 1) := by decide +kernel
theorem dX1_load_2 : decode cX1_load 2 = .ok (.getfield 63, 3) := by decide +kernel
theorem dX1_load_5 : decode cX1_load 5 = .ok (.putfield 9, 3) := by decide +kernel
theorem dX1_load_8 : decode cX1_load 8 = .ok (.aload_n 1, 1) := by decide +kernel
theorem dX1_load_9 : decode cX1_load 9 = .ok (.getfield 66, 3) := by decide +kernel
theorem dX1_load_12 : decode cX1_load 12 = .ok (.iconst 0, 1) := by decide +kernel
theorem dX1_load_13 : decode cX1_load 13 = .ok (.aload_n 0, 1) := by decide +kernel
theorem dX1_load_14 : decode cX1_load 14 = .ok (.getfield 15, 3) := by decide +kernel
theorem dX1_load_17 : decode cX1_load 17 = .ok (.iconst 0, 1) := by decide +kernel
theorem dX1_load_18 : decode cX1_load 18 = .ok (.bipush 9, 2) := by decide +kernel
theorem dX1_load_20 : decode cX1_load 20 = .ok (.invokestatic 67, 3) := by decide +kernel
theorem dX1_load_23 : decode cX1_load 23 = .ok (.aload_n 1, 1) := by decide +kernel
theorem dX1_load_24 : decode cX1_load 24 = .ok (.getfield 73, 3) := by decide +kernel
theorem dX1_load_27 : decode cX1_load 27 = .ok (.iconst 0, 1) := by decide +kernel
theorem dX1_load_28 : decode cX1_load 28 = .ok (.aload_n 0, 1) := by decide +kernel
theorem dX1_load_29 : decode cX1_load 29 = .ok (.getfield 19, 3) := by decide +kernel
theorem dX1_load_32 : decode cX1_load 32 = .ok (.iconst 0, 1) := by decide +kernel
theorem dX1_load_33 : decode cX1_load 33 = .ok (.bipush 9, 2) := by decide +kernel
theorem dX1_load_35 : decode cX1_load 35 = .ok (.invokestatic 67, 3) := by decide +kernel
theorem dX1_load_38 : decode cX1_load 38 = .ok (.aload_n 1, 1) := by decide +kernel
theorem dX1_load_39 : decode cX1_load 39 = .ok (.getfield 74, 3) := by decide +kernel
theorem dX1_load_42 : decode cX1_load 42 = .ok (.iconst 0, 1) := by decide +kernel
theorem dX1_load_43 : decode cX1_load 43 = .ok (.aload_n 0, 1) := by decide +kernel
theorem dX1_load_44 : decode cX1_load 44 = .ok (.getfield 22, 3) := by decide +kernel
theorem dX1_load_47 : decode cX1_load 47 = .ok (.iconst 0, 1) := by decide +kernel
theorem dX1_load_48 : decode cX1_load 48 = .ok (.bipush 9, 2) := by decide +kernel
theorem dX1_load_50 : decode cX1_load 50 = .ok (.invokestatic 67, 3) := by decide +kernel
theorem dX1_load_53 : decode cX1_load 53 = .ok (.aload_n 0, 1) := by decide +kernel
theorem dX1_load_54 : decode cX1_load 54 = .ok (.aload_n 2, 1) := by decide +kernel
theorem dX1_load_55 : decode cX1_load 55 = .ok (.invokevirtual 75, 3) := by decide +kernel
theorem dX1_load_58 : decode cX1_load 58 = .ok (.aload_n 0, 1) := by decide +kernel
theorem dX1_load_59 : decode cX1_load 59 = .ok (.iload_n 3, 1) := by decide +kernel
theorem dX1_load_60 : decode cX1_load 60 = .ok (.putfield 28, 3) := by decide +kernel
theorem dX1_load_63 : decode cX1_load 63 = .ok (.iconst 0, 1) := by decide +kernel
theorem dX1_load_64 : decode cX1_load 64 = .ok (.istore 5, 2) := by decide +kernel
theorem dX1_load_66 : decode cX1_load 66 = .ok (.iload 5, 2) := by decide +kernel
theorem dX1_load_68 : decode cX1_load 68 = .ok (.iconst 3, 1) := by decide +kernel
theorem dX1_load_69 : decode cX1_load 69 = .ok (.if_icmp .ge 20, 3) := by decide +kernel
theorem dX1_load_72 : decode cX1_load 72 = .ok (.aload_n 0, 1) := by decide +kernel
theorem dX1_load_73 : decode cX1_load 73 = .ok (.getfield 33, 3) := by decide +kernel
theorem dX1_load_76 : decode cX1_load 76 = .ok (.iload 5, 2) := by decide +kernel
theorem dX1_load_78 : decode cX1_load 78 = .ok (.aaload, 1) := by decide +kernel
theorem dX1_load_79 : decode cX1_load 79 = .ok (.iconst 0, 1) := by decide +kernel
theorem dX1_load_80 : decode cX1_load 80 = .ok (.invokestatic 79, 3) := by decide +kernel
theorem dX1_load_83 : decode cX1_load 83 = .ok (.iinc 5 1, 3) := by decide +kernel
theorem dX1_load_86 : decode cX1_load 86 = .ok (.goto (-20), 3) := by decide +kernel
theorem dX1_load_89 : decode cX1_load 89 = .ok (.iconst 0, 1) := by decide +kernel
theorem dX1_load_90 : decode cX1_load 90 = .ok (.istore 5, 2) := by decide +kernel
theorem dX1_load_92 : decode cX1_load 92 = .ok (.iload 5, 2) := by decide +kernel
theorem dX1_load_94 : decode cX1_load 94 = .ok (.aload 4, 2) := by decide +kernel
theorem dX1_load_96 : decode cX1_load 96 = .ok (.getfield 85, 3) := by decide +kernel
theorem dX1_load_99 : decode cX1_load 99 = .ok (.if_icmp .ge 44, 3) := by decide +kernel
theorem dX1_load_102 : decode cX1_load 102 = .ok (.aload_n 0, 1) := by decide +kernel
theorem dX1_load_103 : decode cX1_load 103 = .ok (.getfield 33, 3) := by decide +kernel
theorem dX1_load_106 : decode cX1_load 106 = .ok (.aload 4, 2) := by decide +kernel
theorem dX1_load_108 : decode cX1_load 108 = .ok (.getfield 90, 3) := by decide +kernel
theorem dX1_load_111 : decode cX1_load 111 = .ok (.iload 5, 2) := by decide +kernel
theorem dX1_load_113 : decode cX1_load 113 = .ok (.iaload, 1) := by decide +kernel
theorem dX1_load_114 : decode cX1_load 114 = .ok (.aaload, 1) := by decide +kernel
theorem dX1_load_115 : decode cX1_load 115 = .ok (.aload 4, 2) := by decide +kernel
theorem dX1_load_117 : decode cX1_load 117 = .ok (.getfield 92, 3) := by decide +kernel
theorem dX1_load_120 : decode cX1_load 120 = .ok (.iload 5, 2) := by decide +kernel
theorem dX1_load_122 : decode cX1_load 122 = .ok (.iaload, 1) := by decide +kernel
theorem dX1_load_123 : decode cX1_load 123 = .ok (.dup2, 1) := by decide +kernel
theorem dX1_load_124 : decode cX1_load 124 = .ok (.iaload, 1) := by decide +kernel
theorem dX1_load_125 : decode cX1_load 125 = .ok (.iconst 1, 1) := by decide +kernel
theorem dX1_load_126 : decode cX1_load 126 = .ok (.aload 4, 2) := by decide +kernel
theorem dX1_load_128 : decode cX1_load 128 = .ok (.getfield 95, 3) := by decide +kernel
theorem dX1_load_131 : decode cX1_load 131 = .ok (.iload 5, 2) := by decide +kernel
theorem dX1_load_133 : decode cX1_load 133 = .ok (.iaload, 1) := by decide +kernel
theorem dX1_load_134 : decode cX1_load 134 = .ok (.ishl, 1) := by decide +kernel
theorem dX1_load_135 : decode cX1_load 135 = .ok (.ior, 1) := by decide +kernel
theorem dX1_load_136 : decode cX1_load 136 = .ok (.iastore, 1) := by decide +kernel
theorem dX1_load_137 : decode cX1_load 137 = .ok (.iinc 5 1, 3) := by decide +kernel
theorem dX1_load_140 : decode cX1_load 140 = .ok (.goto (-48), 3) := by decide +kernel
theorem dX1_load_143 : decode cX1_load 143 = .ok (.return_, 1) := by decide +kernel
theorem dX1_putRow_0 : decode cX1_putRow 0 = .ok (.iconst 0, 1) := by decide +kernel
theorem dX1_putRow_1 : decode cX1_putRow 1 = .ok (.istore_n 2, 1) := by decide +kernel
theorem dX1_putRow_2 : decode cX1_putRow 2 = .ok (.iload_n 2, 1) := by decide +kernel
theorem dX1_putRow_3 : decode cX1_putRow 3 = .ok (.bipush 9, 2) := by decide +kernel
theorem dX1_putRow_5 : decode cX1_putRow 5 = .ok (.if_icmp .ge 18, 3) := by decide +kernel
theorem dX1_putRow_8 : decode cX1_putRow 8 = .ok (.aload_n 0, 1) := by decide +kernel
theorem dX1_putRow_9 : decode cX1_putRow 9 = .ok (.getfield 25, 3) := by decide +kernel
theorem dX1_putRow_12 : decode cX1_putRow 12 = .ok (.aload_n 1, 1) := by decide +kernel
theorem dX1_putRow_13 : decode cX1_putRow 13 = .ok (.iload_n 2, 1) := by decide +kernel
theorem dX1_putRow_14 : decode cX1_putRow 14 = .ok (.iaload, 1) := by decide +kernel
theorem dX1_putRow_15 : decode cX1_putRow 15 = .ok (.iload_n 2, 1) := by decide +kernel
theorem dX1_putRow_16 : decode cX1_putRow 16 = .ok (.iastore, 1) := by decide +kernel
theorem dX1_putRow_17 : decode cX1_putRow 17 = .ok (.iinc 2 1, 3) := by decide +kernel
theorem dX1_putRow_20 : decode cX1_putRow 20 = .ok (.goto (-18), 3) := by decide +kernel
theorem dX1_putRow_23 : decode cX1_putRow 23 = .ok (.return_, 1) := by decide +kernel
theorem dX1_putLaw_0 : decode cX1_putLaw 0 = .ok (.aload_n 0, 1) := by decide +kernel
theorem dX1_putLaw_1 : decode cX1_putLaw 1 = .ok (.getfield 15, 3) := by decide +kernel
theorem dX1_putLaw_4 : decode cX1_putLaw 4 = .ok (.iload_n 1, 1) := by decide +kernel
theorem dX1_putLaw_5 : decode cX1_putLaw 5 = .ok (.iload_n 2, 1) := by decide +kernel
theorem dX1_putLaw_6 : decode cX1_putLaw 6 = .ok (.bipush 10, 2) := by decide +kernel
theorem dX1_putLaw_8 : decode cX1_putLaw 8 = .ok (.idiv, 1) := by decide +kernel
theorem dX1_putLaw_9 : decode cX1_putLaw 9 = .ok (.iastore, 1) := by decide +kernel
theorem dX1_putLaw_10 : decode cX1_putLaw 10 = .ok (.aload_n 0, 1) := by decide +kernel
theorem dX1_putLaw_11 : decode cX1_putLaw 11 = .ok (.getfield 19, 3) := by decide +kernel
theorem dX1_putLaw_14 : decode cX1_putLaw 14 = .ok (.iload_n 1, 1) := by decide +kernel
theorem dX1_putLaw_15 : decode cX1_putLaw 15 = .ok (.iload_n 2, 1) := by decide +kernel
theorem dX1_putLaw_16 : decode cX1_putLaw 16 = .ok (.bipush 10, 2) := by decide +kernel
theorem dX1_putLaw_18 : decode cX1_putLaw 18 = .ok (.irem, 1) := by decide +kernel
theorem dX1_putLaw_19 : decode cX1_putLaw 19 = .ok (.iastore, 1) := by decide +kernel
theorem dX1_putLaw_20 : decode cX1_putLaw 20 = .ok (.return_, 1) := by decide +kernel
theorem dX1_putLooks_0 : decode cX1_putLooks 0 = .ok (.iconst 0, 1) := by decide +kernel
theorem dX1_putLooks_1 : decode cX1_putLooks 1 = .ok (.istore 4, 2) := by decide +kernel
theorem dX1_putLooks_3 : decode cX1_putLooks 3 = .ok (.iload 4, 2) := by decide +kernel
theorem dX1_putLooks_5 : decode cX1_putLooks 5 = .ok (.iload_n 3, 1) := by decide +kernel
theorem dX1_putLooks_6 : decode cX1_putLooks 6 = .ok (.if_icmp .gt 53, 3) := by decide +kernel
theorem dX1_putLooks_9 : decode cX1_putLooks 9 = .ok (.iload 4, 2) := by decide +kernel
theorem dX1_putLooks_11 : decode cX1_putLooks 11 = .ok (.bipush 60, 2) := by decide +kernel
theorem dX1_putLooks_13 : decode cX1_putLooks 13 = .ok (.if_icmp .ge 46, 3) := by decide +kernel
theorem dX1_putLooks_16 : decode cX1_putLooks 16 = .ok (.aload_n 0, 1) := by decide +kernel
theorem dX1_putLooks_17 : decode cX1_putLooks 17 = .ok (.getfield 33, 3) := by decide +kernel
theorem dX1_putLooks_20 : decode cX1_putLooks 20 = .ok (.iconst 1, 1) := by decide +kernel
theorem dX1_putLooks_21 : decode cX1_putLooks 21 = .ok (.aaload, 1) := by decide +kernel
theorem dX1_putLooks_22 : decode cX1_putLooks 22 = .ok (.iload 4, 2) := by decide +kernel
theorem dX1_putLooks_24 : decode cX1_putLooks 24 = .ok (.iaload, 1) := by decide +kernel
theorem dX1_putLooks_25 : decode cX1_putLooks 25 = .ok (.iconst 1, 1) := by decide +kernel
theorem dX1_putLooks_26 : decode cX1_putLooks 26 = .ok (.iload_n 1, 1) := by decide +kernel
theorem dX1_putLooks_27 : decode cX1_putLooks 27 = .ok (.ishl, 1) := by decide +kernel
theorem dX1_putLooks_28 : decode cX1_putLooks 28 = .ok (.iconst (-1), 1) := by decide +kernel
theorem dX1_putLooks_29 : decode cX1_putLooks 29 = .ok (.ixor, 1) := by decide +kernel
theorem dX1_putLooks_30 : decode cX1_putLooks 30 = .ok (.iand, 1) := by decide +kernel
theorem dX1_putLooks_31 : decode cX1_putLooks 31 = .ok (.istore 5, 2) := by decide +kernel
theorem dX1_putLooks_33 : decode cX1_putLooks 33 = .ok (.aload_n 0, 1) := by decide +kernel
theorem dX1_putLooks_34 : decode cX1_putLooks 34 = .ok (.getfield 33, 3) := by decide +kernel
theorem dX1_putLooks_37 : decode cX1_putLooks 37 = .ok (.iconst 1, 1) := by decide +kernel
theorem dX1_putLooks_38 : decode cX1_putLooks 38 = .ok (.aaload, 1) := by decide +kernel
theorem dX1_putLooks_39 : decode cX1_putLooks 39 = .ok (.iload 4, 2) := by decide +kernel
theorem dX1_putLooks_41 : decode cX1_putLooks 41 = .ok (.iload 5, 2) := by decide +kernel
theorem dX1_putLooks_43 : decode cX1_putLooks 43 = .ok (.iload_n 2, 1) := by decide +kernel
theorem dX1_putLooks_44 : decode cX1_putLooks 44 = .ok (.iload 4, 2) := by decide +kernel
theorem dX1_putLooks_46 : decode cX1_putLooks 46 = .ok (.ishr, 1) := by decide +kernel
theorem dX1_putLooks_47 : decode cX1_putLooks 47 = .ok (.iconst 1, 1) := by decide +kernel
theorem dX1_putLooks_48 : decode cX1_putLooks 48 = .ok (.iand, 1) := by decide +kernel
theorem dX1_putLooks_49 : decode cX1_putLooks 49 = .ok (.iload_n 1, 1) := by decide +kernel
theorem dX1_putLooks_50 : decode cX1_putLooks 50 = .ok (.ishl, 1) := by decide +kernel
theorem dX1_putLooks_51 : decode cX1_putLooks 51 = .ok (.ior, 1) := by decide +kernel
theorem dX1_putLooks_52 : decode cX1_putLooks 52 = .ok (.iastore, 1) := by decide +kernel
theorem dX1_putLooks_53 : decode cX1_putLooks 53 = .ok (.iinc 4 1, 3) := by decide +kernel
theorem dX1_putLooks_56 : decode cX1_putLooks 56 = .ok (.goto (-53), 3) := by decide +kernel
theorem dX1_putLooks_59 : decode cX1_putLooks 59 = .ok (.return_, 1) := by decide +kernel
theorem dX1_run_0 : decode cX1_run 0 = .ok (.iconst 0, 1) := by decide +kernel
theorem dX1_run_1 : decode cX1_run 1 = .ok (.istore_n 2, 1) := by decide +kernel
theorem dX1_run_2 : decode cX1_run 2 = .ok (.iload_n 2, 1) := by decide +kernel
theorem dX1_run_3 : decode cX1_run 3 = .ok (.aload_n 0, 1) := by decide +kernel
theorem dX1_run_4 : decode cX1_run 4 = .ok (.getfield 9, 3) := by decide +kernel
theorem dX1_run_7 : decode cX1_run 7 = .ok (.if_icmp .ge 56, 3) := by decide +kernel
theorem dX1_run_10 : decode cX1_run 10 = .ok (.aload_n 0, 1) := by decide +kernel
theorem dX1_run_11 : decode cX1_run 11 = .ok (.getfield 42, 3) := by decide +kernel
theorem dX1_run_14 : decode cX1_run 14 = .ok (.iload_n 2, 1) := by decide +kernel
theorem dX1_run_15 : decode cX1_run 15 = .ok (.aload_n 0, 1) := by decide +kernel
theorem dX1_run_16 : decode cX1_run 16 = .ok (.getfield 25, 3) := by decide +kernel
theorem dX1_run_19 : decode cX1_run 19 = .ok (.iload_n 2, 1) := by decide +kernel
theorem dX1_run_20 : decode cX1_run 20 = .ok (.iaload, 1) := by decide +kernel
theorem dX1_run_21 : decode cX1_run 21 = .ok (.aload_n 0, 1) := by decide +kernel
theorem dX1_run_22 : decode cX1_run 22 = .ok (.getfield 19, 3) := by decide +kernel
theorem dX1_run_25 : decode cX1_run 25 = .ok (.iload_n 2, 1) := by decide +kernel
theorem dX1_run_26 : decode cX1_run 26 = .ok (.iaload, 1) := by decide +kernel
theorem dX1_run_27 : decode cX1_run 27 = .ok (.invokestatic 98, 3) := by decide +kernel
theorem dX1_run_30 : decode cX1_run 30 = .ok (.iastore, 1) := by decide +kernel
theorem dX1_run_31 : decode cX1_run 31 = .ok (.aload_n 0, 1) := by decide +kernel
theorem dX1_run_32 : decode cX1_run 32 = .ok (.getfield 45, 3) := by decide +kernel
theorem dX1_run_35 : decode cX1_run 35 = .ok (.iload_n 2, 1) := by decide +kernel
theorem dX1_run_36 : decode cX1_run 36 = .ok (.aload_n 0, 1) := by decide +kernel
theorem dX1_run_37 : decode cX1_run 37 = .ok (.getfield 22, 3) := by decide +kernel
theorem dX1_run_40 : decode cX1_run 40 = .ok (.iload_n 2, 1) := by decide +kernel
theorem dX1_run_41 : decode cX1_run 41 = .ok (.iaload, 1) := by decide +kernel
theorem dX1_run_42 : decode cX1_run 42 = .ok (.iastore, 1) := by decide +kernel
theorem dX1_run_43 : decode cX1_run 43 = .ok (.aload_n 0, 1) := by decide +kernel
theorem dX1_run_44 : decode cX1_run 44 = .ok (.getfield 48, 3) := by decide +kernel
theorem dX1_run_47 : decode cX1_run 47 = .ok (.iload_n 2, 1) := by decide +kernel
theorem dX1_run_48 : decode cX1_run 48 = .ok (.iconst 0, 1) := by decide +kernel
theorem dX1_run_49 : decode cX1_run 49 = .ok (.iastore, 1) := by decide +kernel
theorem dX1_run_50 : decode cX1_run 50 = .ok (.aload_n 0, 1) := by decide +kernel
theorem dX1_run_51 : decode cX1_run 51 = .ok (.getfield 51, 3) := by decide +kernel
theorem dX1_run_54 : decode cX1_run 54 = .ok (.iload_n 2, 1) := by decide +kernel
theorem dX1_run_55 : decode cX1_run 55 = .ok (.iconst 0, 1) := by decide +kernel
theorem dX1_run_56 : decode cX1_run 56 = .ok (.iastore, 1) := by decide +kernel
theorem dX1_run_57 : decode cX1_run 57 = .ok (.iinc 2 1, 3) := by decide +kernel
theorem dX1_run_60 : decode cX1_run 60 = .ok (.goto (-58), 3) := by decide +kernel
theorem dX1_run_63 : decode cX1_run 63 = .ok (.aload_n 0, 1) := by decide +kernel
theorem dX1_run_64 : decode cX1_run 64 = .ok (.iconst 0, 1) := by decide +kernel
theorem dX1_run_65 : decode cX1_run 65 = .ok (.putfield 54, 3) := by decide +kernel
theorem dX1_run_68 : decode cX1_run 68 = .ok (.aload_n 0, 1) := by decide +kernel
theorem dX1_run_69 : decode cX1_run 69 = .ok (.iconst 0, 1) := by decide +kernel
theorem dX1_run_70 : decode cX1_run 70 = .ok (.putfield 60, 3) := by decide +kernel
theorem dX1_run_73 : decode cX1_run 73 = .ok (.iconst 0, 1) := by decide +kernel
theorem dX1_run_74 : decode cX1_run 74 = .ok (.istore_n 2, 1) := by decide +kernel
theorem dX1_run_75 : decode cX1_run 75 = .ok (.iload_n 2, 1) := by decide +kernel
theorem dX1_run_76 : decode cX1_run 76 = .ok (.iload_n 1, 1) := by decide +kernel
theorem dX1_run_77 : decode cX1_run 77 = .ok (.if_icmp .gt 20, 3) := by decide +kernel
theorem dX1_run_80 : decode cX1_run 80 = .ok (.iload_n 2, 1) := by decide +kernel
theorem dX1_run_81 : decode cX1_run 81 = .ok (.bipush 60, 2) := by decide +kernel
theorem dX1_run_83 : decode cX1_run 83 = .ok (.if_icmp .ge 14, 3) := by decide +kernel
theorem dX1_run_86 : decode cX1_run 86 = .ok (.aload_n 0, 1) := by decide +kernel
theorem dX1_run_87 : decode cX1_run 87 = .ok (.iload_n 2, 1) := by decide +kernel
theorem dX1_run_88 : decode cX1_run 88 = .ok (.invokevirtual 102, 3) := by decide +kernel
theorem dX1_run_91 : decode cX1_run 91 = .ok (.iinc 2 1, 3) := by decide +kernel
theorem dX1_run_94 : decode cX1_run 94 = .ok (.goto (-19), 3) := by decide +kernel
theorem dX1_run_97 : decode cX1_run 97 = .ok (.return_, 1) := by decide +kernel
theorem dX1_placesAround_0 : decode cX1_placesAround 0 = .ok (.iconst 1, 1) := by decide +kernel
theorem dX1_placesAround_1 : decode cX1_placesAround 1 = .ok (.iconst 2, 1) := by decide +kernel
theorem dX1_placesAround_2 : decode cX1_placesAround 2 = .ok (.iload_n 1, 1) := by decide +kernel
theorem dX1_placesAround_3 : decode cX1_placesAround 3 = .ok (.imul, 1) := by decide +kernel
theorem dX1_placesAround_4 : decode cX1_placesAround 4 = .ok (.iconst 1, 1) := by decide +kernel
theorem dX1_placesAround_5 : decode cX1_placesAround 5 = .ok (.iadd, 1) := by decide +kernel
theorem dX1_placesAround_6 : decode cX1_placesAround 6 = .ok (.ishl, 1) := by decide +kernel
theorem dX1_placesAround_7 : decode cX1_placesAround 7 = .ok (.iconst 1, 1) := by decide +kernel
theorem dX1_placesAround_8 : decode cX1_placesAround 8 = .ok (.isub, 1) := by decide +kernel
theorem dX1_placesAround_9 : decode cX1_placesAround 9 = .ok (.istore_n 2, 1) := by decide +kernel
theorem dX1_placesAround_10 : decode cX1_placesAround 10 = .ok (.iload_n 2, 1) := by decide +kernel
theorem dX1_placesAround_11 : decode cX1_placesAround 11 = .ok (.iload_n 0, 1) := by decide +kernel
theorem dX1_placesAround_12 : decode cX1_placesAround 12 = .ok (.ishl, 1) := by decide +kernel
theorem dX1_placesAround_13 : decode cX1_placesAround 13 = .ok (.iload_n 1, 1) := by decide +kernel
theorem dX1_placesAround_14 : decode cX1_placesAround 14 = .ok (.ishr, 1) := by decide +kernel
theorem dX1_placesAround_15 : decode cX1_placesAround 15 = .ok (.iconst 1, 1) := by decide +kernel
theorem dX1_placesAround_16 : decode cX1_placesAround 16 = .ok (.iload_n 0, 1) := by decide +kernel
theorem dX1_placesAround_17 : decode cX1_placesAround 17 = .ok (.ishl, 1) := by decide +kernel
theorem dX1_placesAround_18 : decode cX1_placesAround 18 = .ok (.iconst (-1), 1) := by decide +kernel
theorem dX1_placesAround_19 : decode cX1_placesAround 19 = .ok (.ixor, 1) := by decide +kernel
theorem dX1_placesAround_20 : decode cX1_placesAround 20 = .ok (.iand, 1) := by decide +kernel
theorem dX1_placesAround_21 : decode cX1_placesAround 21 = .ok (.ireturn, 1) := by decide +kernel
theorem dX1_go_0 : decode cX1_go 0 = .ok (.iconst 0, 1) := by decide +kernel
theorem dX1_go_1 : decode cX1_go 1 = .ok (.istore_n 2, 1) := by decide +kernel
theorem dX1_go_2 : decode cX1_go 2 = .ok (.iconst 0, 1) := by decide +kernel
theorem dX1_go_3 : decode cX1_go 3 = .ok (.istore_n 3, 1) := by decide +kernel
theorem dX1_go_4 : decode cX1_go 4 = .ok (.aload_n 0, 1) := by decide +kernel
theorem dX1_go_5 : decode cX1_go 5 = .ok (.getfield 54, 3) := by decide +kernel
theorem dX1_go_8 : decode cX1_go 8 = .ok (.aload_n 0, 1) := by decide +kernel
theorem dX1_go_9 : decode cX1_go 9 = .ok (.getfield 28, 3) := by decide +kernel
theorem dX1_go_12 : decode cX1_go 12 = .ok (.ior, 1) := by decide +kernel
theorem dX1_go_13 : decode cX1_go 13 = .ok (.iconst (-1), 1) := by decide +kernel
theorem dX1_go_14 : decode cX1_go 14 = .ok (.ixor, 1) := by decide +kernel
theorem dX1_go_15 : decode cX1_go 15 = .ok (.istore 4, 2) := by decide +kernel
theorem dX1_go_17 : decode cX1_go 17 = .ok (.aload_n 0, 1) := by decide +kernel
theorem dX1_go_18 : decode cX1_go 18 = .ok (.aload_n 0, 1) := by decide +kernel
theorem dX1_go_19 : decode cX1_go 19 = .ok (.getfield 54, 3) := by decide +kernel
theorem dX1_go_22 : decode cX1_go 22 = .ok (.invokestatic 106, 3) := by decide +kernel
theorem dX1_go_25 : decode cX1_go 25 = .ok (.putfield 57, 3) := by decide +kernel
theorem dX1_go_28 : decode cX1_go 28 = .ok (.iconst 0, 1) := by decide +kernel
theorem dX1_go_29 : decode cX1_go 29 = .ok (.istore 5, 2) := by decide +kernel
theorem dX1_go_31 : decode cX1_go 31 = .ok (.iload 5, 2) := by decide +kernel
theorem dX1_go_33 : decode cX1_go 33 = .ok (.aload_n 0, 1) := by decide +kernel
theorem dX1_go_34 : decode cX1_go 34 = .ok (.getfield 9, 3) := by decide +kernel
theorem dX1_go_37 : decode cX1_go 37 = .ok (.if_icmp .ge 85, 3) := by decide +kernel
theorem dX1_go_40 : decode cX1_go 40 = .ok (.iload 4, 2) := by decide +kernel
theorem dX1_go_42 : decode cX1_go 42 = .ok (.iload 5, 2) := by decide +kernel
theorem dX1_go_44 : decode cX1_go 44 = .ok (.ishr, 1) := by decide +kernel
theorem dX1_go_45 : decode cX1_go 45 = .ok (.iconst 1, 1) := by decide +kernel
theorem dX1_go_46 : decode cX1_go 46 = .ok (.iand, 1) := by decide +kernel
theorem dX1_go_47 : decode cX1_go 47 = .ok (.ifCond .eq 69, 3) := by decide +kernel
theorem dX1_go_50 : decode cX1_go 50 = .ok (.aload_n 0, 1) := by decide +kernel
theorem dX1_go_51 : decode cX1_go 51 = .ok (.getfield 45, 3) := by decide +kernel
theorem dX1_go_54 : decode cX1_go 54 = .ok (.iload 5, 2) := by decide +kernel
theorem dX1_go_56 : decode cX1_go 56 = .ok (.iaload, 1) := by decide +kernel
theorem dX1_go_57 : decode cX1_go 57 = .ok (.ifCond .le 59, 3) := by decide +kernel
theorem dX1_go_60 : decode cX1_go 60 = .ok (.aload_n 0, 1) := by decide +kernel
theorem dX1_go_61 : decode cX1_go 61 = .ok (.iload 5, 2) := by decide +kernel
theorem dX1_go_63 : decode cX1_go 63 = .ok (.iload_n 1, 1) := by decide +kernel
theorem dX1_go_64 : decode cX1_go 64 = .ok (.invokevirtual 112, 3) := by decide +kernel
theorem dX1_go_67 : decode cX1_go 67 = .ok (.ifCond .eq 49, 3) := by decide +kernel
theorem dX1_go_70 : decode cX1_go 70 = .ok (.aload_n 0, 1) := by decide +kernel
theorem dX1_go_71 : decode cX1_go 71 = .ok (.getfield 45, 3) := by decide +kernel
theorem dX1_go_74 : decode cX1_go 74 = .ok (.iload 5, 2) := by decide +kernel
theorem dX1_go_76 : decode cX1_go 76 = .ok (.dup2, 1) := by decide +kernel
theorem dX1_go_77 : decode cX1_go 77 = .ok (.iaload, 1) := by decide +kernel
theorem dX1_go_78 : decode cX1_go 78 = .ok (.iconst 1, 1) := by decide +kernel
theorem dX1_go_79 : decode cX1_go 79 = .ok (.isub, 1) := by decide +kernel
theorem dX1_go_80 : decode cX1_go 80 = .ok (.iastore, 1) := by decide +kernel
theorem dX1_go_81 : decode cX1_go 81 = .ok (.aload_n 0, 1) := by decide +kernel
theorem dX1_go_82 : decode cX1_go 82 = .ok (.getfield 48, 3) := by decide +kernel
theorem dX1_go_85 : decode cX1_go 85 = .ok (.iload 5, 2) := by decide +kernel
theorem dX1_go_87 : decode cX1_go 87 = .ok (.iconst 0, 1) := by decide +kernel
theorem dX1_go_88 : decode cX1_go 88 = .ok (.iastore, 1) := by decide +kernel
theorem dX1_go_89 : decode cX1_go 89 = .ok (.aload_n 0, 1) := by decide +kernel
theorem dX1_go_90 : decode cX1_go 90 = .ok (.getfield 51, 3) := by decide +kernel
theorem dX1_go_93 : decode cX1_go 93 = .ok (.iload 5, 2) := by decide +kernel
theorem dX1_go_95 : decode cX1_go 95 = .ok (.iconst 0, 1) := by decide +kernel
theorem dX1_go_96 : decode cX1_go 96 = .ok (.iastore, 1) := by decide +kernel
theorem dX1_go_97 : decode cX1_go 97 = .ok (.iload_n 2, 1) := by decide +kernel
theorem dX1_go_98 : decode cX1_go 98 = .ok (.iconst 1, 1) := by decide +kernel
theorem dX1_go_99 : decode cX1_go 99 = .ok (.iload 5, 2) := by decide +kernel
theorem dX1_go_101 : decode cX1_go 101 = .ok (.ishl, 1) := by decide +kernel
theorem dX1_go_102 : decode cX1_go 102 = .ok (.ior, 1) := by decide +kernel
theorem dX1_go_103 : decode cX1_go 103 = .ok (.istore_n 2, 1) := by decide +kernel
theorem dX1_go_104 : decode cX1_go 104 = .ok (.iload_n 3, 1) := by decide +kernel
theorem dX1_go_105 : decode cX1_go 105 = .ok (.iconst 1, 1) := by decide +kernel
theorem dX1_go_106 : decode cX1_go 106 = .ok (.aload_n 0, 1) := by decide +kernel
theorem dX1_go_107 : decode cX1_go 107 = .ok (.getfield 25, 3) := by decide +kernel
theorem dX1_go_110 : decode cX1_go 110 = .ok (.iload 5, 2) := by decide +kernel
theorem dX1_go_112 : decode cX1_go 112 = .ok (.iaload, 1) := by decide +kernel
theorem dX1_go_113 : decode cX1_go 113 = .ok (.ishl, 1) := by decide +kernel
theorem dX1_go_114 : decode cX1_go 114 = .ok (.ior, 1) := by decide +kernel
theorem dX1_go_115 : decode cX1_go 115 = .ok (.istore_n 3, 1) := by decide +kernel
theorem dX1_go_116 : decode cX1_go 116 = .ok (.iinc 5 1, 3) := by decide +kernel
theorem dX1_go_119 : decode cX1_go 119 = .ok (.goto (-88), 3) := by decide +kernel
theorem dX1_go_122 : decode cX1_go 122 = .ok (.aload_n 0, 1) := by decide +kernel
theorem dX1_go_123 : decode cX1_go 123 = .ok (.aload_n 0, 1) := by decide +kernel
theorem dX1_go_124 : decode cX1_go 124 = .ok (.getfield 54, 3) := by decide +kernel
theorem dX1_go_127 : decode cX1_go 127 = .ok (.iload_n 2, 1) := by decide +kernel
theorem dX1_go_128 : decode cX1_go 128 = .ok (.ior, 1) := by decide +kernel
theorem dX1_go_129 : decode cX1_go 129 = .ok (.aload_n 0, 1) := by decide +kernel
theorem dX1_go_130 : decode cX1_go 130 = .ok (.getfield 33, 3) := by decide +kernel
theorem dX1_go_133 : decode cX1_go 133 = .ok (.iconst 2, 1) := by decide +kernel
theorem dX1_go_134 : decode cX1_go 134 = .ok (.aaload, 1) := by decide +kernel
theorem dX1_go_135 : decode cX1_go 135 = .ok (.iload_n 1, 1) := by decide +kernel
theorem dX1_go_136 : decode cX1_go 136 = .ok (.iaload, 1) := by decide +kernel
theorem dX1_go_137 : decode cX1_go 137 = .ok (.iconst (-1), 1) := by decide +kernel
theorem dX1_go_138 : decode cX1_go 138 = .ok (.ixor, 1) := by decide +kernel
theorem dX1_go_139 : decode cX1_go 139 = .ok (.iand, 1) := by decide +kernel
theorem dX1_go_140 : decode cX1_go 140 = .ok (.putfield 54, 3) := by decide +kernel
theorem dX1_go_143 : decode cX1_go 143 = .ok (.aload_n 0, 1) := by decide +kernel
theorem dX1_go_144 : decode cX1_go 144 = .ok (.iload_n 3, 1) := by decide +kernel
theorem dX1_go_145 : decode cX1_go 145 = .ok (.putfield 60, 3) := by decide +kernel
theorem dX1_go_148 : decode cX1_go 148 = .ok (.aload_n 0, 1) := by decide +kernel
theorem dX1_go_149 : decode cX1_go 149 = .ok (.getfield 36, 3) := by decide +kernel
theorem dX1_go_152 : decode cX1_go 152 = .ok (.iload_n 1, 1) := by decide +kernel
theorem dX1_go_153 : decode cX1_go 153 = .ok (.iload_n 2, 1) := by decide +kernel
theorem dX1_go_154 : decode cX1_go 154 = .ok (.iastore, 1) := by decide +kernel
theorem dX1_go_155 : decode cX1_go 155 = .ok (.aload_n 0, 1) := by decide +kernel
theorem dX1_go_156 : decode cX1_go 156 = .ok (.getfield 39, 3) := by decide +kernel
theorem dX1_go_159 : decode cX1_go 159 = .ok (.iload_n 1, 1) := by decide +kernel
theorem dX1_go_160 : decode cX1_go 160 = .ok (.aload_n 0, 1) := by decide +kernel
theorem dX1_go_161 : decode cX1_go 161 = .ok (.getfield 54, 3) := by decide +kernel
theorem dX1_go_164 : decode cX1_go 164 = .ok (.iastore, 1) := by decide +kernel
theorem dX1_go_165 : decode cX1_go 165 = .ok (.return_, 1) := by decide +kernel
theorem dX1_opensByLaw_0 : decode cX1_opensByLaw 0 = .ok (.aload_n 0, 1) := by decide +kernel
theorem dX1_opensByLaw_1 : decode cX1_opensByLaw 1 = .ok (.getfield 15, 3) := by decide +kernel
theorem dX1_opensByLaw_4 : decode cX1_opensByLaw 4 = .ok (.iload_n 1, 1) := by decide +kernel
theorem dX1_opensByLaw_5 : decode cX1_opensByLaw 5 = .ok (.iaload, 1) := by decide +kernel
theorem dX1_opensByLaw_6 : decode cX1_opensByLaw 6 = .ok (.tableswitch 171 0 3 #[30, 78, 98, 152], 30) := by decide +kernel
theorem dX1_opensByLaw_36 : decode cX1_opensByLaw 36 = .ok (.aload_n 0, 1) := by decide +kernel
theorem dX1_opensByLaw_37 : decode cX1_opensByLaw 37 = .ok (.getfield 33, 3) := by decide +kernel
theorem dX1_opensByLaw_40 : decode cX1_opensByLaw 40 = .ok (.iconst 0, 1) := by decide +kernel
theorem dX1_opensByLaw_41 : decode cX1_opensByLaw 41 = .ok (.aaload, 1) := by decide +kernel
theorem dX1_opensByLaw_42 : decode cX1_opensByLaw 42 = .ok (.iload_n 2, 1) := by decide +kernel
theorem dX1_opensByLaw_43 : decode cX1_opensByLaw 43 = .ok (.iaload, 1) := by decide +kernel
theorem dX1_opensByLaw_44 : decode cX1_opensByLaw 44 = .ok (.iload_n 1, 1) := by decide +kernel
theorem dX1_opensByLaw_45 : decode cX1_opensByLaw 45 = .ok (.ishr, 1) := by decide +kernel
theorem dX1_opensByLaw_46 : decode cX1_opensByLaw 46 = .ok (.iconst 1, 1) := by decide +kernel
theorem dX1_opensByLaw_47 : decode cX1_opensByLaw 47 = .ok (.iand, 1) := by decide +kernel
theorem dX1_opensByLaw_48 : decode cX1_opensByLaw 48 = .ok (.ifCond .ne 5, 3) := by decide +kernel
theorem dX1_opensByLaw_51 : decode cX1_opensByLaw 51 = .ok (.iconst 0, 1) := by decide +kernel
theorem dX1_opensByLaw_52 : decode cX1_opensByLaw 52 = .ok (.ireturn, 1) := by decide +kernel
theorem dX1_opensByLaw_53 : decode cX1_opensByLaw 53 = .ok (.aload_n 0, 1) := by decide +kernel
theorem dX1_opensByLaw_54 : decode cX1_opensByLaw 54 = .ok (.getfield 48, 3) := by decide +kernel
theorem dX1_opensByLaw_57 : decode cX1_opensByLaw 57 = .ok (.iload_n 1, 1) := by decide +kernel
theorem dX1_opensByLaw_58 : decode cX1_opensByLaw 58 = .ok (.dup2, 1) := by decide +kernel
theorem dX1_opensByLaw_59 : decode cX1_opensByLaw 59 = .ok (.iaload, 1) := by decide +kernel
theorem dX1_opensByLaw_60 : decode cX1_opensByLaw 60 = .ok (.iconst 1, 1) := by decide +kernel
theorem dX1_opensByLaw_61 : decode cX1_opensByLaw 61 = .ok (.iadd, 1) := by decide +kernel
theorem dX1_opensByLaw_62 : decode cX1_opensByLaw 62 = .ok (.iastore, 1) := by decide +kernel
theorem dX1_opensByLaw_63 : decode cX1_opensByLaw 63 = .ok (.aload_n 0, 1) := by decide +kernel
theorem dX1_opensByLaw_64 : decode cX1_opensByLaw 64 = .ok (.getfield 48, 3) := by decide +kernel
theorem dX1_opensByLaw_67 : decode cX1_opensByLaw 67 = .ok (.iload_n 1, 1) := by decide +kernel
theorem dX1_opensByLaw_68 : decode cX1_opensByLaw 68 = .ok (.iaload, 1) := by decide +kernel
theorem dX1_opensByLaw_69 : decode cX1_opensByLaw 69 = .ok (.aload_n 0, 1) := by decide +kernel
theorem dX1_opensByLaw_70 : decode cX1_opensByLaw 70 = .ok (.getfield 19, 3) := by decide +kernel
theorem dX1_opensByLaw_73 : decode cX1_opensByLaw 73 = .ok (.iload_n 1, 1) := by decide +kernel
theorem dX1_opensByLaw_74 : decode cX1_opensByLaw 74 = .ok (.iaload, 1) := by decide +kernel
theorem dX1_opensByLaw_75 : decode cX1_opensByLaw 75 = .ok (.if_icmp .ne 7, 3) := by decide +kernel
theorem dX1_opensByLaw_78 : decode cX1_opensByLaw 78 = .ok (.iconst 1, 1) := by decide +kernel
theorem dX1_opensByLaw_79 : decode cX1_opensByLaw 79 = .ok (.goto 4, 3) := by decide +kernel
theorem dX1_opensByLaw_82 : decode cX1_opensByLaw 82 = .ok (.iconst 0, 1) := by decide +kernel
theorem dX1_opensByLaw_83 : decode cX1_opensByLaw 83 = .ok (.ireturn, 1) := by decide +kernel
theorem dX1_opensByLaw_84 : decode cX1_opensByLaw 84 = .ok (.aload_n 0, 1) := by decide +kernel
theorem dX1_opensByLaw_85 : decode cX1_opensByLaw 85 = .ok (.getfield 60, 3) := by decide +kernel
theorem dX1_opensByLaw_88 : decode cX1_opensByLaw 88 = .ok (.aload_n 0, 1) := by decide +kernel
theorem dX1_opensByLaw_89 : decode cX1_opensByLaw 89 = .ok (.getfield 42, 3) := by decide +kernel
theorem dX1_opensByLaw_92 : decode cX1_opensByLaw 92 = .ok (.iload_n 1, 1) := by decide +kernel
theorem dX1_opensByLaw_93 : decode cX1_opensByLaw 93 = .ok (.iaload, 1) := by decide +kernel
theorem dX1_opensByLaw_94 : decode cX1_opensByLaw 94 = .ok (.iand, 1) := by decide +kernel
theorem dX1_opensByLaw_95 : decode cX1_opensByLaw 95 = .ok (.ifCond .eq 7, 3) := by decide +kernel
theorem dX1_opensByLaw_98 : decode cX1_opensByLaw 98 = .ok (.iconst 1, 1) := by decide +kernel
theorem dX1_opensByLaw_99 : decode cX1_opensByLaw 99 = .ok (.goto 4, 3) := by decide +kernel
theorem dX1_opensByLaw_102 : decode cX1_opensByLaw 102 = .ok (.iconst 0, 1) := by decide +kernel
theorem dX1_opensByLaw_103 : decode cX1_opensByLaw 103 = .ok (.ireturn, 1) := by decide +kernel
theorem dX1_opensByLaw_104 : decode cX1_opensByLaw 104 = .ok (.aload_n 0, 1) := by decide +kernel
theorem dX1_opensByLaw_105 : decode cX1_opensByLaw 105 = .ok (.getfield 51, 3) := by decide +kernel
theorem dX1_opensByLaw_108 : decode cX1_opensByLaw 108 = .ok (.iload_n 1, 1) := by decide +kernel
theorem dX1_opensByLaw_109 : decode cX1_opensByLaw 109 = .ok (.aload_n 0, 1) := by decide +kernel
theorem dX1_opensByLaw_110 : decode cX1_opensByLaw 110 = .ok (.getfield 33, 3) := by decide +kernel
theorem dX1_opensByLaw_113 : decode cX1_opensByLaw 113 = .ok (.iconst 1, 1) := by decide +kernel
theorem dX1_opensByLaw_114 : decode cX1_opensByLaw 114 = .ok (.aaload, 1) := by decide +kernel
theorem dX1_opensByLaw_115 : decode cX1_opensByLaw 115 = .ok (.iload_n 2, 1) := by decide +kernel
theorem dX1_opensByLaw_116 : decode cX1_opensByLaw 116 = .ok (.iaload, 1) := by decide +kernel
theorem dX1_opensByLaw_117 : decode cX1_opensByLaw 117 = .ok (.iload_n 1, 1) := by decide +kernel
theorem dX1_opensByLaw_118 : decode cX1_opensByLaw 118 = .ok (.ishr, 1) := by decide +kernel
theorem dX1_opensByLaw_119 : decode cX1_opensByLaw 119 = .ok (.iconst 1, 1) := by decide +kernel
theorem dX1_opensByLaw_120 : decode cX1_opensByLaw 120 = .ok (.iand, 1) := by decide +kernel
theorem dX1_opensByLaw_121 : decode cX1_opensByLaw 121 = .ok (.ifCond .eq 7, 3) := by decide +kernel
theorem dX1_opensByLaw_124 : decode cX1_opensByLaw 124 = .ok (.iconst 0, 1) := by decide +kernel
theorem dX1_opensByLaw_125 : decode cX1_opensByLaw 125 = .ok (.goto 11, 3) := by decide +kernel
theorem dX1_opensByLaw_128 : decode cX1_opensByLaw 128 = .ok (.aload_n 0, 1) := by decide +kernel
theorem dX1_opensByLaw_129 : decode cX1_opensByLaw 129 = .ok (.getfield 51, 3) := by decide +kernel
theorem dX1_opensByLaw_132 : decode cX1_opensByLaw 132 = .ok (.iload_n 1, 1) := by decide +kernel
theorem dX1_opensByLaw_133 : decode cX1_opensByLaw 133 = .ok (.iaload, 1) := by decide +kernel
theorem dX1_opensByLaw_134 : decode cX1_opensByLaw 134 = .ok (.iconst 1, 1) := by decide +kernel
theorem dX1_opensByLaw_135 : decode cX1_opensByLaw 135 = .ok (.iadd, 1) := by decide +kernel
theorem dX1_opensByLaw_136 : decode cX1_opensByLaw 136 = .ok (.iastore, 1) := by decide +kernel
theorem dX1_opensByLaw_137 : decode cX1_opensByLaw 137 = .ok (.aload_n 0, 1) := by decide +kernel
theorem dX1_opensByLaw_138 : decode cX1_opensByLaw 138 = .ok (.getfield 51, 3) := by decide +kernel
theorem dX1_opensByLaw_141 : decode cX1_opensByLaw 141 = .ok (.iload_n 1, 1) := by decide +kernel
theorem dX1_opensByLaw_142 : decode cX1_opensByLaw 142 = .ok (.iaload, 1) := by decide +kernel
theorem dX1_opensByLaw_143 : decode cX1_opensByLaw 143 = .ok (.aload_n 0, 1) := by decide +kernel
theorem dX1_opensByLaw_144 : decode cX1_opensByLaw 144 = .ok (.getfield 19, 3) := by decide +kernel
theorem dX1_opensByLaw_147 : decode cX1_opensByLaw 147 = .ok (.iload_n 1, 1) := by decide +kernel
theorem dX1_opensByLaw_148 : decode cX1_opensByLaw 148 = .ok (.iaload, 1) := by decide +kernel
theorem dX1_opensByLaw_149 : decode cX1_opensByLaw 149 = .ok (.if_icmp .lt 7, 3) := by decide +kernel
theorem dX1_opensByLaw_152 : decode cX1_opensByLaw 152 = .ok (.iconst 1, 1) := by decide +kernel
theorem dX1_opensByLaw_153 : decode cX1_opensByLaw 153 = .ok (.goto 4, 3) := by decide +kernel
theorem dX1_opensByLaw_156 : decode cX1_opensByLaw 156 = .ok (.iconst 0, 1) := by decide +kernel
theorem dX1_opensByLaw_157 : decode cX1_opensByLaw 157 = .ok (.ireturn, 1) := by decide +kernel
theorem dX1_opensByLaw_158 : decode cX1_opensByLaw 158 = .ok (.aload_n 0, 1) := by decide +kernel
theorem dX1_opensByLaw_159 : decode cX1_opensByLaw 159 = .ok (.getfield 57, 3) := by decide +kernel
theorem dX1_opensByLaw_162 : decode cX1_opensByLaw 162 = .ok (.aload_n 0, 1) := by decide +kernel
theorem dX1_opensByLaw_163 : decode cX1_opensByLaw 163 = .ok (.getfield 19, 3) := by decide +kernel
theorem dX1_opensByLaw_166 : decode cX1_opensByLaw 166 = .ok (.iload_n 1, 1) := by decide +kernel
theorem dX1_opensByLaw_167 : decode cX1_opensByLaw 167 = .ok (.iaload, 1) := by decide +kernel
theorem dX1_opensByLaw_168 : decode cX1_opensByLaw 168 = .ok (.if_icmp .lt 7, 3) := by decide +kernel
theorem dX1_opensByLaw_171 : decode cX1_opensByLaw 171 = .ok (.iconst 1, 1) := by decide +kernel
theorem dX1_opensByLaw_172 : decode cX1_opensByLaw 172 = .ok (.goto 4, 3) := by decide +kernel
theorem dX1_opensByLaw_175 : decode cX1_opensByLaw 175 = .ok (.iconst 0, 1) := by decide +kernel
theorem dX1_opensByLaw_176 : decode cX1_opensByLaw 176 = .ok (.ireturn, 1) := by decide +kernel
theorem dX1_opensByLaw_177 : decode cX1_opensByLaw 177 = .ok (.iconst 0, 1) := by decide +kernel
theorem dX1_opensByLaw_178 : decode cX1_opensByLaw 178 = .ok (.ireturn, 1) := by decide +kernel
theorem dX1_isUp_0 : decode cX1_isUp 0 = .ok (.aload_n 0, 1) := by decide +kernel
theorem dX1_isUp_1 : decode cX1_isUp 1 = .ok (.getfield 39, 3) := by decide +kernel
theorem dX1_isUp_4 : decode cX1_isUp 4 = .ok (.iload_n 2, 1) := by decide +kernel
theorem dX1_isUp_5 : decode cX1_isUp 5 = .ok (.iaload, 1) := by decide +kernel
theorem dX1_isUp_6 : decode cX1_isUp 6 = .ok (.iload_n 1, 1) := by decide +kernel
theorem dX1_isUp_7 : decode cX1_isUp 7 = .ok (.ishr, 1) := by decide +kernel
theorem dX1_isUp_8 : decode cX1_isUp 8 = .ok (.iconst 1, 1) := by decide +kernel
theorem dX1_isUp_9 : decode cX1_isUp 9 = .ok (.iand, 1) := by decide +kernel
theorem dX1_isUp_10 : decode cX1_isUp 10 = .ok (.ifCond .eq 7, 3) := by decide +kernel
theorem dX1_isUp_13 : decode cX1_isUp 13 = .ok (.iconst 1, 1) := by decide +kernel
theorem dX1_isUp_14 : decode cX1_isUp 14 = .ok (.goto 4, 3) := by decide +kernel
theorem dX1_isUp_17 : decode cX1_isUp 17 = .ok (.iconst 0, 1) := by decide +kernel
theorem dX1_isUp_18 : decode cX1_isUp 18 = .ok (.ireturn, 1) := by decide +kernel
theorem dX1_openings_0 : decode cX1_openings 0 = .ok (.iconst 0, 1) := by decide +kernel
theorem dX1_openings_1 : decode cX1_openings 1 = .ok (.istore_n 2, 1) := by decide +kernel
theorem dX1_openings_2 : decode cX1_openings 2 = .ok (.iconst 0, 1) := by decide +kernel
theorem dX1_openings_3 : decode cX1_openings 3 = .ok (.istore_n 3, 1) := by decide +kernel
theorem dX1_openings_4 : decode cX1_openings 4 = .ok (.iload_n 3, 1) := by decide +kernel
theorem dX1_openings_5 : decode cX1_openings 5 = .ok (.iload_n 1, 1) := by decide +kernel
theorem dX1_openings_6 : decode cX1_openings 6 = .ok (.if_icmp .gt 27, 3) := by decide +kernel
theorem dX1_openings_9 : decode cX1_openings 9 = .ok (.iload_n 3, 1) := by decide +kernel
theorem dX1_openings_10 : decode cX1_openings 10 = .ok (.bipush 60, 2) := by decide +kernel
theorem dX1_openings_12 : decode cX1_openings 12 = .ok (.if_icmp .ge 21, 3) := by decide +kernel
theorem dX1_openings_15 : decode cX1_openings 15 = .ok (.iload_n 2, 1) := by decide +kernel
theorem dX1_openings_16 : decode cX1_openings 16 = .ok (.aload_n 0, 1) := by decide +kernel
theorem dX1_openings_17 : decode cX1_openings 17 = .ok (.getfield 36, 3) := by decide +kernel
theorem dX1_openings_20 : decode cX1_openings 20 = .ok (.iload_n 3, 1) := by decide +kernel
theorem dX1_openings_21 : decode cX1_openings 21 = .ok (.iaload, 1) := by decide +kernel
theorem dX1_openings_22 : decode cX1_openings 22 = .ok (.invokestatic 106, 3) := by decide +kernel
theorem dX1_openings_25 : decode cX1_openings 25 = .ok (.iadd, 1) := by decide +kernel
theorem dX1_openings_26 : decode cX1_openings 26 = .ok (.istore_n 2, 1) := by decide +kernel
theorem dX1_openings_27 : decode cX1_openings 27 = .ok (.iinc 3 1, 3) := by decide +kernel
theorem dX1_openings_30 : decode cX1_openings 30 = .ok (.goto (-26), 3) := by decide +kernel
theorem dX1_openings_33 : decode cX1_openings 33 = .ok (.iload_n 2, 1) := by decide +kernel
theorem dX1_openings_34 : decode cX1_openings 34 = .ok (.ireturn, 1) := by decide +kernel
theorem dX2_init_0 : decode cX2_init 0 = .ok (.aload_n 0, 1) := by decide +kernel
theorem dX2_init_1 : decode cX2_init 1 = .ok (.invokespecial 3, 3) := by decide +kernel
theorem dX2_init_4 : decode cX2_init 4 = .ok (.aload_n 0, 1) := by decide +kernel
theorem dX2_init_5 : decode cX2_init 5 = .ok (.iconst 1, 1) := by decide +kernel
theorem dX2_init_6 : decode cX2_init 6 = .ok (.putfield 9, 3) := by decide +kernel
theorem dX2_init_9 : decode cX2_init 9 = .ok (.aload_n 0, 1) := by decide +kernel
theorem dX2_init_10 : decode cX2_init 10 = .ok (.iconst 0, 1) := by decide +kernel
theorem dX2_init_11 : decode cX2_init 11 = .ok (.putfield 15, 3) := by decide +kernel
theorem dX2_init_14 : decode cX2_init 14 = .ok (.aload_n 0, 1) := by decide +kernel
theorem dX2_init_15 : decode cX2_init 15 = .ok (.iconst 0, 1) := by decide +kernel
theorem dX2_init_16 : decode cX2_init 16 = .ok (.putfield 19, 3) := by decide +kernel
theorem dX2_init_19 : decode cX2_init 19 = .ok (.aload_n 0, 1) := by decide +kernel
theorem dX2_init_20 : decode cX2_init 20 = .ok (.bipush 60, 2) := by decide +kernel
theorem dX2_init_22 : decode cX2_init 22 = .ok (.newarray .int, 2) := by decide +kernel
theorem dX2_init_24 : decode cX2_init 24 = .ok (.putfield 22, 3) := by decide +kernel
theorem dX2_init_27 : decode cX2_init 27 = .ok (.return_, 1) := by decide +kernel
theorem dX2_renew_0 : decode cX2_renew 0 = .ok (.aload_n 0, 1) := by decide +kernel
theorem dX2_renew_1 : decode cX2_renew 1 = .ok (.iconst 0, 1) := by decide +kernel
theorem dX2_renew_2 : decode cX2_renew 2 = .ok (.putfield 9, 3) := by decide +kernel
theorem dX2_renew_5 : decode cX2_renew 5 = .ok (.aload_n 0, 1) := by decide +kernel
theorem dX2_renew_6 : decode cX2_renew 6 = .ok (.iload_n 1, 1) := by decide +kernel
theorem dX2_renew_7 : decode cX2_renew 7 = .ok (.putfield 15, 3) := by decide +kernel
theorem dX2_renew_10 : decode cX2_renew 10 = .ok (.aload_n 0, 1) := by decide +kernel
theorem dX2_renew_11 : decode cX2_renew 11 = .ok (.iload_n 2, 1) := by decide +kernel
theorem dX2_renew_12 : decode cX2_renew 12 = .ok (.putfield 19, 3) := by decide +kernel
theorem dX2_renew_15 : decode cX2_renew 15 = .ok (.aload_n 0, 1) := by decide +kernel
theorem dX2_renew_16 : decode cX2_renew 16 = .ok (.getfield 22, 3) := by decide +kernel
theorem dX2_renew_19 : decode cX2_renew 19 = .ok (.iconst 0, 1) := by decide +kernel
theorem dX2_renew_20 : decode cX2_renew 20 = .ok (.invokestatic 26, 3) := by decide +kernel
theorem dX2_renew_23 : decode cX2_renew 23 = .ok (.return_, 1) := by decide +kernel
theorem dX2_put_0 : decode cX2_put 0 = .ok (.aload_n 0, 1) := by decide +kernel
theorem dX2_put_1 : decode cX2_put 1 = .ok (.getfield 15, 3) := by decide +kernel
theorem dX2_put_4 : decode cX2_put 4 = .ok (.ifCond .ne 14, 3) := by decide +kernel
theorem dX2_put_7 : decode cX2_put 7 = .ok (.aload_n 0, 1) := by decide +kernel
theorem dX2_put_8 : decode cX2_put 8 = .ok (.getfield 22, 3) := by decide +kernel
theorem dX2_put_11 : decode cX2_put 11 = .ok (.iload_n 1, 1) := by decide +kernel
theorem dX2_put_12 : decode cX2_put 12 = .ok (.iload_n 2, 1) := by decide +kernel
theorem dX2_put_13 : decode cX2_put 13 = .ok (.i2b, 1) := by decide +kernel
theorem dX2_put_14 : decode cX2_put 14 = .ok (.iastore, 1) := by decide +kernel
theorem dX2_put_15 : decode cX2_put 15 = .ok (.goto 29, 3) := by decide +kernel
theorem dX2_put_18 : decode cX2_put 18 = .ok (.aload_n 0, 1) := by decide +kernel
theorem dX2_put_19 : decode cX2_put 19 = .ok (.getfield 15, 3) := by decide +kernel
theorem dX2_put_22 : decode cX2_put 22 = .ok (.iconst 1, 1) := by decide +kernel
theorem dX2_put_23 : decode cX2_put 23 = .ok (.if_icmp .ne 14, 3) := by decide +kernel
theorem dX2_put_26 : decode cX2_put 26 = .ok (.aload_n 0, 1) := by decide +kernel
theorem dX2_put_27 : decode cX2_put 27 = .ok (.getfield 22, 3) := by decide +kernel
theorem dX2_put_30 : decode cX2_put 30 = .ok (.iload_n 1, 1) := by decide +kernel
theorem dX2_put_31 : decode cX2_put 31 = .ok (.iload_n 2, 1) := by decide +kernel
theorem dX2_put_32 : decode cX2_put 32 = .ok (.i2s, 1) := by decide +kernel
theorem dX2_put_33 : decode cX2_put 33 = .ok (.iastore, 1) := by decide +kernel
theorem dX2_put_34 : decode cX2_put 34 = .ok (.goto 10, 3) := by decide +kernel
theorem dX2_put_37 : decode cX2_put 37 = .ok (.aload_n 0, 1) := by decide +kernel
theorem dX2_put_38 : decode cX2_put 38 = .ok (.getfield 22, 3) := by decide +kernel
theorem dX2_put_41 : decode cX2_put 41 = .ok (.iload_n 1, 1) := by decide +kernel
theorem dX2_put_42 : decode cX2_put 42 = .ok (.iload_n 2, 1) := by decide +kernel
theorem dX2_put_43 : decode cX2_put 43 = .ok (.iastore, 1) := by decide +kernel
theorem dX2_put_44 : decode cX2_put 44 = .ok (.return_, 1) := by decide +kernel
theorem dX2_has_0 : decode cX2_has 0 = .ok (.iload_n 1, 1) := by decide +kernel
theorem dX2_has_1 : decode cX2_has 1 = .ok (.ifCond .lt 21, 3) := by decide +kernel
theorem dX2_has_4 : decode cX2_has 4 = .ok (.iload_n 2, 1) := by decide +kernel
theorem dX2_has_5 : decode cX2_has 5 = .ok (.ifCond .lt 17, 3) := by decide +kernel
theorem dX2_has_8 : decode cX2_has 8 = .ok (.iload_n 1, 1) := by decide +kernel
theorem dX2_has_9 : decode cX2_has 9 = .ok (.aload_n 0, 1) := by decide +kernel
theorem dX2_has_10 : decode cX2_has 10 = .ok (.getfield 19, 3) := by decide +kernel
theorem dX2_has_13 : decode cX2_has 13 = .ok (.iload_n 2, 1) := by decide +kernel
theorem dX2_has_14 : decode cX2_has 14 = .ok (.isub, 1) := by decide +kernel
theorem dX2_has_15 : decode cX2_has 15 = .ok (.if_icmp .gt 7, 3) := by decide +kernel
theorem dX2_has_18 : decode cX2_has 18 = .ok (.iconst 1, 1) := by decide +kernel
theorem dX2_has_19 : decode cX2_has 19 = .ok (.goto 4, 3) := by decide +kernel
theorem dX2_has_22 : decode cX2_has 22 = .ok (.iconst 0, 1) := by decide +kernel
theorem dX2_has_23 : decode cX2_has 23 = .ok (.ireturn, 1) := by decide +kernel
theorem dX2_findingAt_0 : decode cX2_findingAt 0 = .ok (.aload_n 0, 1) := by decide +kernel
theorem dX2_findingAt_1 : decode cX2_findingAt 1 = .ok (.getfield 9, 3) := by decide +kernel
theorem dX2_findingAt_4 : decode cX2_findingAt 4 = .ok (.ifCond .eq 5, 3) := by decide +kernel
theorem dX2_findingAt_7 : decode cX2_findingAt 7 = .ok (.iconst 1, 1) := by decide +kernel
theorem dX2_findingAt_8 : decode cX2_findingAt 8 = .ok (.ireturn, 1) := by decide +kernel
theorem dX2_findingAt_9 : decode cX2_findingAt 9 = .ok (.aload_n 0, 1) := by decide +kernel
theorem dX2_findingAt_10 : decode cX2_findingAt 10 = .ok (.getfield 15, 3) := by decide +kernel
theorem dX2_findingAt_13 : decode cX2_findingAt 13 = .ok (.iload_n 1, 1) := by decide +kernel
theorem dX2_findingAt_14 : decode cX2_findingAt 14 = .ok (.if_icmp .eq 5, 3) := by decide +kernel
theorem dX2_findingAt_17 : decode cX2_findingAt 17 = .ok (.iconst 3, 1) := by decide +kernel
theorem dX2_findingAt_18 : decode cX2_findingAt 18 = .ok (.ireturn, 1) := by decide +kernel
theorem dX2_findingAt_19 : decode cX2_findingAt 19 = .ok (.aload_n 0, 1) := by decide +kernel
theorem dX2_findingAt_20 : decode cX2_findingAt 20 = .ok (.iload_n 2, 1) := by decide +kernel
theorem dX2_findingAt_21 : decode cX2_findingAt 21 = .ok (.iconst 1, 1) := by decide +kernel
theorem dX2_findingAt_22 : decode cX2_findingAt 22 = .ok (.invokevirtual 32, 3) := by decide +kernel
theorem dX2_findingAt_25 : decode cX2_findingAt 25 = .ok (.ifCond .eq 7, 3) := by decide +kernel
theorem dX2_findingAt_28 : decode cX2_findingAt 28 = .ok (.iconst 0, 1) := by decide +kernel
theorem dX2_findingAt_29 : decode cX2_findingAt 29 = .ok (.goto 4, 3) := by decide +kernel
theorem dX2_findingAt_32 : decode cX2_findingAt 32 = .ok (.iconst 2, 1) := by decide +kernel
theorem dX2_findingAt_33 : decode cX2_findingAt 33 = .ok (.ireturn, 1) := by decide +kernel
theorem dX3_init_0 : decode cX3_init 0 = .ok (.aload_n 0, 1) := by decide +kernel
theorem dX3_init_1 : decode cX3_init 1 = .ok (.invokespecial 3, 3) := by decide +kernel
theorem dX3_init_4 : decode cX3_init 4 = .ok (.aload_n 0, 1) := by decide +kernel
theorem dX3_init_5 : decode cX3_init 5 = .ok (.bipush 24, 2) := by decide +kernel
theorem dX3_init_7 : decode cX3_init 7 = .ok (.newarray .int, 2) := by decide +kernel
theorem dX3_init_9 : decode cX3_init 9 = .ok (.putfield 9, 3) := by decide +kernel
theorem dX3_init_12 : decode cX3_init 12 = .ok (.aload_n 0, 1) := by decide +kernel
theorem dX3_init_13 : decode cX3_init 13 = .ok (.bipush 24, 2) := by decide +kernel
theorem dX3_init_15 : decode cX3_init 15 = .ok (.newarray .int, 2) := by decide +kernel
theorem dX3_init_17 : decode cX3_init 17 = .ok (.putfield 15, 3) := by decide +kernel
theorem dX3_init_20 : decode cX3_init 20 = .ok (.aload_n 0, 1) := by decide +kernel
theorem dX3_init_21 : decode cX3_init 21 = .ok (.bipush 24, 2) := by decide +kernel
theorem dX3_init_23 : decode cX3_init 23 = .ok (.newarray .int, 2) := by decide +kernel
theorem dX3_init_25 : decode cX3_init 25 = .ok (.putfield 18, 3) := by decide +kernel
theorem dX3_init_28 : decode cX3_init 28 = .ok (.aload_n 0, 1) := by decide +kernel
theorem dX3_init_29 : decode cX3_init 29 = .ok (.iconst 0, 1) := by decide +kernel
theorem dX3_init_30 : decode cX3_init 30 = .ok (.putfield 21, 3) := by decide +kernel
theorem dX3_init_33 : decode cX3_init 33 = .ok (.return_, 1) := by decide +kernel
theorem dX3_mayBe_0 : decode cX3_mayBe 0 = .ok (.iload_n 0, 1) := by decide +kernel
theorem dX3_mayBe_1 : decode cX3_mayBe 1 = .ok (.invokestatic 25, 3) := by decide +kernel
theorem dX3_mayBe_4 : decode cX3_mayBe 4 = .ok (.ifCond .eq 23, 3) := by decide +kernel
theorem dX3_mayBe_7 : decode cX3_mayBe 7 = .ok (.iload_n 1, 1) := by decide +kernel
theorem dX3_mayBe_8 : decode cX3_mayBe 8 = .ok (.invokestatic 29, 3) := by decide +kernel
theorem dX3_mayBe_11 : decode cX3_mayBe 11 = .ok (.ifCond .eq 16, 3) := by decide +kernel
theorem dX3_mayBe_14 : decode cX3_mayBe 14 = .ok (.iload_n 2, 1) := by decide +kernel
theorem dX3_mayBe_15 : decode cX3_mayBe 15 = .ok (.ifCond .lt 12, 3) := by decide +kernel
theorem dX3_mayBe_18 : decode cX3_mayBe 18 = .ok (.iload_n 2, 1) := by decide +kernel
theorem dX3_mayBe_19 : decode cX3_mayBe 19 = .ok (.iconst 3, 1) := by decide +kernel
theorem dX3_mayBe_20 : decode cX3_mayBe 20 = .ok (.if_icmp .ge 7, 3) := by decide +kernel
theorem dX3_mayBe_23 : decode cX3_mayBe 23 = .ok (.iconst 1, 1) := by decide +kernel
theorem dX3_mayBe_24 : decode cX3_mayBe 24 = .ok (.goto 4, 3) := by decide +kernel
theorem dX3_mayBe_27 : decode cX3_mayBe 27 = .ok (.iconst 0, 1) := by decide +kernel
theorem dX3_mayBe_28 : decode cX3_mayBe 28 = .ok (.ireturn, 1) := by decide +kernel
theorem dX3_add_0 : decode cX3_add 0 = .ok (.aload_n 0, 1) := by decide +kernel
theorem dX3_add_1 : decode cX3_add 1 = .ok (.getfield 21, 3) := by decide +kernel
theorem dX3_add_4 : decode cX3_add 4 = .ok (.bipush 24, 2) := by decide +kernel
theorem dX3_add_6 : decode cX3_add 6 = .ok (.if_icmp .ge 43, 3) := by decide +kernel
theorem dX3_add_9 : decode cX3_add 9 = .ok (.aload_n 0, 1) := by decide +kernel
theorem dX3_add_10 : decode cX3_add 10 = .ok (.getfield 9, 3) := by decide +kernel
theorem dX3_add_13 : decode cX3_add 13 = .ok (.aload_n 0, 1) := by decide +kernel
theorem dX3_add_14 : decode cX3_add 14 = .ok (.getfield 21, 3) := by decide +kernel
theorem dX3_add_17 : decode cX3_add 17 = .ok (.iload_n 1, 1) := by decide +kernel
theorem dX3_add_18 : decode cX3_add 18 = .ok (.iastore, 1) := by decide +kernel
theorem dX3_add_19 : decode cX3_add 19 = .ok (.aload_n 0, 1) := by decide +kernel
theorem dX3_add_20 : decode cX3_add 20 = .ok (.getfield 15, 3) := by decide +kernel
theorem dX3_add_23 : decode cX3_add 23 = .ok (.aload_n 0, 1) := by decide +kernel
theorem dX3_add_24 : decode cX3_add 24 = .ok (.getfield 21, 3) := by decide +kernel
theorem dX3_add_27 : decode cX3_add 27 = .ok (.iload_n 2, 1) := by decide +kernel
theorem dX3_add_28 : decode cX3_add 28 = .ok (.iastore, 1) := by decide +kernel
theorem dX3_add_29 : decode cX3_add 29 = .ok (.aload_n 0, 1) := by decide +kernel
theorem dX3_add_30 : decode cX3_add 30 = .ok (.getfield 18, 3) := by decide +kernel
theorem dX3_add_33 : decode cX3_add 33 = .ok (.aload_n 0, 1) := by decide +kernel
theorem dX3_add_34 : decode cX3_add 34 = .ok (.getfield 21, 3) := by decide +kernel
theorem dX3_add_37 : decode cX3_add 37 = .ok (.iload_n 3, 1) := by decide +kernel
theorem dX3_add_38 : decode cX3_add 38 = .ok (.iastore, 1) := by decide +kernel
theorem dX3_add_39 : decode cX3_add 39 = .ok (.aload_n 0, 1) := by decide +kernel
theorem dX3_add_40 : decode cX3_add 40 = .ok (.dup, 1) := by decide +kernel
theorem dX3_add_41 : decode cX3_add 41 = .ok (.getfield 21, 3) := by decide +kernel
theorem dX3_add_44 : decode cX3_add 44 = .ok (.iconst 1, 1) := by decide +kernel
theorem dX3_add_45 : decode cX3_add 45 = .ok (.iadd, 1) := by decide +kernel
theorem dX3_add_46 : decode cX3_add 46 = .ok (.putfield 21, 3) := by decide +kernel
theorem dX3_add_49 : decode cX3_add 49 = .ok (.return_, 1) := by decide +kernel
theorem dJ11_isValidCodePoint_9a6ad_0 : decode cJ11_isValidCodePoint_9a6ad 0 = .ok (.iload_n 0, 1) := by decide +kernel
theorem dJ11_isValidCodePoint_9a6ad_1 : decode cJ11_isValidCodePoint_9a6ad 1 = .ok (.bipush 16, 2) := by decide +kernel
theorem dJ11_isValidCodePoint_9a6ad_3 : decode cJ11_isValidCodePoint_9a6ad 3 = .ok (.iushr, 1) := by decide +kernel
theorem dJ11_isValidCodePoint_9a6ad_4 : decode cJ11_isValidCodePoint_9a6ad 4 = .ok (.istore_n 1, 1) := by decide +kernel
theorem dJ11_isValidCodePoint_9a6ad_5 : decode cJ11_isValidCodePoint_9a6ad 5 = .ok (.iload_n 1, 1) := by decide +kernel
theorem dJ11_isValidCodePoint_9a6ad_6 : decode cJ11_isValidCodePoint_9a6ad 6 = .ok (.bipush 17, 2) := by decide +kernel
theorem dJ11_isValidCodePoint_9a6ad_8 : decode cJ11_isValidCodePoint_9a6ad 8 = .ok (.if_icmp .ge 7, 3) := by decide +kernel
theorem dJ11_isValidCodePoint_9a6ad_11 : decode cJ11_isValidCodePoint_9a6ad 11 = .ok (.iconst 1, 1) := by decide +kernel
theorem dJ11_isValidCodePoint_9a6ad_12 : decode cJ11_isValidCodePoint_9a6ad 12 = .ok (.goto 4, 3) := by decide +kernel
theorem dJ11_isValidCodePoint_9a6ad_15 : decode cJ11_isValidCodePoint_9a6ad 15 = .ok (.iconst 0, 1) := by decide +kernel
theorem dJ11_isValidCodePoint_9a6ad_16 : decode cJ11_isValidCodePoint_9a6ad 16 = .ok (.ireturn, 1) := by decide +kernel
theorem dJ11_highSurrogate_5068e_0 : decode cJ11_highSurrogate_5068e 0 = .ok (.iload_n 0, 1) := by decide +kernel
theorem dJ11_highSurrogate_5068e_1 : decode cJ11_highSurrogate_5068e 1 = .ok (.bipush 10, 2) := by decide +kernel
theorem dJ11_highSurrogate_5068e_3 : decode cJ11_highSurrogate_5068e 3 = .ok (.iushr, 1) := by decide +kernel
theorem dJ11_highSurrogate_5068e_4 : decode cJ11_highSurrogate_5068e 4 = .ok (.ldc 110, 2) := by decide +kernel
theorem dJ11_highSurrogate_5068e_6 : decode cJ11_highSurrogate_5068e 6 = .ok (.iadd, 1) := by decide +kernel
theorem dJ11_highSurrogate_5068e_7 : decode cJ11_highSurrogate_5068e 7 = .ok (.i2c, 1) := by decide +kernel
theorem dJ11_highSurrogate_5068e_8 : decode cJ11_highSurrogate_5068e 8 = .ok (.ireturn, 1) := by decide +kernel
theorem dJ11_lowSurrogate_5068e_0 : decode cJ11_lowSurrogate_5068e 0 = .ok (.iload_n 0, 1) := by decide +kernel
theorem dJ11_lowSurrogate_5068e_1 : decode cJ11_lowSurrogate_5068e 1 = .ok (.sipush 1023, 3) := by decide +kernel
theorem dJ11_lowSurrogate_5068e_4 : decode cJ11_lowSurrogate_5068e 4 = .ok (.iand, 1) := by decide +kernel
theorem dJ11_lowSurrogate_5068e_5 : decode cJ11_lowSurrogate_5068e 5 = .ok (.ldc 76, 2) := by decide +kernel
theorem dJ11_lowSurrogate_5068e_7 : decode cJ11_lowSurrogate_5068e 7 = .ok (.iadd, 1) := by decide +kernel
theorem dJ11_lowSurrogate_5068e_8 : decode cJ11_lowSurrogate_5068e 8 = .ok (.i2c, 1) := by decide +kernel
theorem dJ11_lowSurrogate_5068e_9 : decode cJ11_lowSurrogate_5068e 9 = .ok (.ireturn, 1) := by decide +kernel
theorem dJ6_bitCount_0f7a4_0 : decode cJ6_bitCount_0f7a4 0 = .ok (.iload_n 0, 1) := by decide +kernel
theorem dJ6_bitCount_0f7a4_1 : decode cJ6_bitCount_0f7a4 1 = .ok (.iload_n 0, 1) := by decide +kernel
theorem dJ6_bitCount_0f7a4_2 : decode cJ6_bitCount_0f7a4 2 = .ok (.iconst 1, 1) := by decide +kernel
theorem dJ6_bitCount_0f7a4_3 : decode cJ6_bitCount_0f7a4 3 = .ok (.iushr, 1) := by decide +kernel
theorem dJ6_bitCount_0f7a4_4 : decode cJ6_bitCount_0f7a4 4 = .ok (.ldc_w 265, 3) := by decide +kernel
theorem dJ6_bitCount_0f7a4_7 : decode cJ6_bitCount_0f7a4 7 = .ok (.iand, 1) := by decide +kernel
theorem dJ6_bitCount_0f7a4_8 : decode cJ6_bitCount_0f7a4 8 = .ok (.isub, 1) := by decide +kernel
theorem dJ6_bitCount_0f7a4_9 : decode cJ6_bitCount_0f7a4 9 = .ok (.istore_n 0, 1) := by decide +kernel
theorem dJ6_bitCount_0f7a4_10 : decode cJ6_bitCount_0f7a4 10 = .ok (.iload_n 0, 1) := by decide +kernel
theorem dJ6_bitCount_0f7a4_11 : decode cJ6_bitCount_0f7a4 11 = .ok (.ldc_w 266, 3) := by decide +kernel
theorem dJ6_bitCount_0f7a4_14 : decode cJ6_bitCount_0f7a4 14 = .ok (.iand, 1) := by decide +kernel
theorem dJ6_bitCount_0f7a4_15 : decode cJ6_bitCount_0f7a4 15 = .ok (.iload_n 0, 1) := by decide +kernel
theorem dJ6_bitCount_0f7a4_16 : decode cJ6_bitCount_0f7a4 16 = .ok (.iconst 2, 1) := by decide +kernel
theorem dJ6_bitCount_0f7a4_17 : decode cJ6_bitCount_0f7a4 17 = .ok (.iushr, 1) := by decide +kernel
theorem dJ6_bitCount_0f7a4_18 : decode cJ6_bitCount_0f7a4 18 = .ok (.ldc_w 266, 3) := by decide +kernel
theorem dJ6_bitCount_0f7a4_21 : decode cJ6_bitCount_0f7a4 21 = .ok (.iand, 1) := by decide +kernel
theorem dJ6_bitCount_0f7a4_22 : decode cJ6_bitCount_0f7a4 22 = .ok (.iadd, 1) := by decide +kernel
theorem dJ6_bitCount_0f7a4_23 : decode cJ6_bitCount_0f7a4 23 = .ok (.istore_n 0, 1) := by decide +kernel
theorem dJ6_bitCount_0f7a4_24 : decode cJ6_bitCount_0f7a4 24 = .ok (.iload_n 0, 1) := by decide +kernel
theorem dJ6_bitCount_0f7a4_25 : decode cJ6_bitCount_0f7a4 25 = .ok (.iload_n 0, 1) := by decide +kernel
theorem dJ6_bitCount_0f7a4_26 : decode cJ6_bitCount_0f7a4 26 = .ok (.iconst 4, 1) := by decide +kernel
theorem dJ6_bitCount_0f7a4_27 : decode cJ6_bitCount_0f7a4 27 = .ok (.iushr, 1) := by decide +kernel
theorem dJ6_bitCount_0f7a4_28 : decode cJ6_bitCount_0f7a4 28 = .ok (.iadd, 1) := by decide +kernel
theorem dJ6_bitCount_0f7a4_29 : decode cJ6_bitCount_0f7a4 29 = .ok (.ldc_w 267, 3) := by decide +kernel
theorem dJ6_bitCount_0f7a4_32 : decode cJ6_bitCount_0f7a4 32 = .ok (.iand, 1) := by decide +kernel
theorem dJ6_bitCount_0f7a4_33 : decode cJ6_bitCount_0f7a4 33 = .ok (.istore_n 0, 1) := by decide +kernel
theorem dJ6_bitCount_0f7a4_34 : decode cJ6_bitCount_0f7a4 34 = .ok (.iload_n 0, 1) := by decide +kernel
theorem dJ6_bitCount_0f7a4_35 : decode cJ6_bitCount_0f7a4 35 = .ok (.iload_n 0, 1) := by decide +kernel
theorem dJ6_bitCount_0f7a4_36 : decode cJ6_bitCount_0f7a4 36 = .ok (.bipush 8, 2) := by decide +kernel
theorem dJ6_bitCount_0f7a4_38 : decode cJ6_bitCount_0f7a4 38 = .ok (.iushr, 1) := by decide +kernel
theorem dJ6_bitCount_0f7a4_39 : decode cJ6_bitCount_0f7a4 39 = .ok (.iadd, 1) := by decide +kernel
theorem dJ6_bitCount_0f7a4_40 : decode cJ6_bitCount_0f7a4 40 = .ok (.istore_n 0, 1) := by decide +kernel
theorem dJ6_bitCount_0f7a4_41 : decode cJ6_bitCount_0f7a4 41 = .ok (.iload_n 0, 1) := by decide +kernel
theorem dJ6_bitCount_0f7a4_42 : decode cJ6_bitCount_0f7a4 42 = .ok (.iload_n 0, 1) := by decide +kernel
theorem dJ6_bitCount_0f7a4_43 : decode cJ6_bitCount_0f7a4 43 = .ok (.bipush 16, 2) := by decide +kernel
theorem dJ6_bitCount_0f7a4_45 : decode cJ6_bitCount_0f7a4 45 = .ok (.iushr, 1) := by decide +kernel
theorem dJ6_bitCount_0f7a4_46 : decode cJ6_bitCount_0f7a4 46 = .ok (.iadd, 1) := by decide +kernel
theorem dJ6_bitCount_0f7a4_47 : decode cJ6_bitCount_0f7a4 47 = .ok (.istore_n 0, 1) := by decide +kernel
theorem dJ6_bitCount_0f7a4_48 : decode cJ6_bitCount_0f7a4 48 = .ok (.iload_n 0, 1) := by decide +kernel
theorem dJ6_bitCount_0f7a4_49 : decode cJ6_bitCount_0f7a4 49 = .ok (.bipush 63, 2) := by decide +kernel
theorem dJ6_bitCount_0f7a4_51 : decode cJ6_bitCount_0f7a4 51 = .ok (.iand, 1) := by decide +kernel
theorem dJ6_bitCount_0f7a4_52 : decode cJ6_bitCount_0f7a4 52 = .ok (.ireturn, 1) := by decide +kernel
theorem dJ9_max_7cf53_0 : decode cJ9_max_7cf53 0 = .ok (.iload_n 0, 1) := by decide +kernel
theorem dJ9_max_7cf53_1 : decode cJ9_max_7cf53 1 = .ok (.iload_n 1, 1) := by decide +kernel
theorem dJ9_max_7cf53_2 : decode cJ9_max_7cf53 2 = .ok (.if_icmp .lt 7, 3) := by decide +kernel
theorem dJ9_max_7cf53_5 : decode cJ9_max_7cf53 5 = .ok (.iload_n 0, 1) := by decide +kernel
theorem dJ9_max_7cf53_6 : decode cJ9_max_7cf53 6 = .ok (.goto 4, 3) := by decide +kernel
theorem dJ9_max_7cf53_9 : decode cJ9_max_7cf53 9 = .ok (.iload_n 1, 1) := by decide +kernel
theorem dJ9_max_7cf53_10 : decode cJ9_max_7cf53 10 = .ok (.ireturn, 1) := by decide +kernel
theorem dJ9_min_7cf53_0 : decode cJ9_min_7cf53 0 = .ok (.iload_n 0, 1) := by decide +kernel
theorem dJ9_min_7cf53_1 : decode cJ9_min_7cf53 1 = .ok (.iload_n 1, 1) := by decide +kernel
theorem dJ9_min_7cf53_2 : decode cJ9_min_7cf53 2 = .ok (.if_icmp .gt 7, 3) := by decide +kernel
theorem dJ9_min_7cf53_5 : decode cJ9_min_7cf53 5 = .ok (.iload_n 0, 1) := by decide +kernel
theorem dJ9_min_7cf53_6 : decode cJ9_min_7cf53 6 = .ok (.goto 4, 3) := by decide +kernel
theorem dJ9_min_7cf53_9 : decode cJ9_min_7cf53 9 = .ok (.iload_n 1, 1) := by decide +kernel
theorem dJ9_min_7cf53_10 : decode cJ9_min_7cf53 10 = .ok (.ireturn, 1) := by decide +kernel
theorem dJ0_length_8abf5_0 : decode cJ0_length_8abf5 0 = .ok (.aload_n 0, 1) := by decide +kernel
theorem dJ0_length_8abf5_1 : decode cJ0_length_8abf5 1 = .ok (.getfield 9, 3) := by decide +kernel
theorem dJ0_length_8abf5_4 : decode cJ0_length_8abf5 4 = .ok (.arraylength, 1) := by decide +kernel
theorem dJ0_length_8abf5_5 : decode cJ0_length_8abf5 5 = .ok (.aload_n 0, 1) := by decide +kernel
theorem dJ0_length_8abf5_6 : decode cJ0_length_8abf5 6 = .ok (.invokevirtual 335, 3) := by decide +kernel
theorem dJ0_length_8abf5_9 : decode cJ0_length_8abf5 9 = .ok (.ishr, 1) := by decide +kernel
theorem dJ0_length_8abf5_10 : decode cJ0_length_8abf5 10 = .ok (.ireturn, 1) := by decide +kernel
theorem dJ0_indexOf_0f7a4_0 : decode cJ0_indexOf_0f7a4 0 = .ok (.aload_n 0, 1) := by decide +kernel
theorem dJ0_indexOf_0f7a4_1 : decode cJ0_indexOf_0f7a4 1 = .ok (.iload_n 1, 1) := by decide +kernel
theorem dJ0_indexOf_0f7a4_2 : decode cJ0_indexOf_0f7a4 2 = .ok (.iconst 0, 1) := by decide +kernel
theorem dJ0_indexOf_0f7a4_3 : decode cJ0_indexOf_0f7a4 3 = .ok (.invokevirtual 633, 3) := by decide +kernel
theorem dJ0_indexOf_0f7a4_6 : decode cJ0_indexOf_0f7a4 6 = .ok (.ireturn, 1) := by decide +kernel
theorem dJ0_indexOf_7cf53_0 : decode cJ0_indexOf_7cf53 0 = .ok (.aload_n 0, 1) := by decide +kernel
theorem dJ0_indexOf_7cf53_1 : decode cJ0_indexOf_7cf53 1 = .ok (.invokevirtual 492, 3) := by decide +kernel
theorem dJ0_indexOf_7cf53_4 : decode cJ0_indexOf_7cf53 4 = .ok (.ifCond .eq 19, 3) := by decide +kernel
theorem dJ0_indexOf_7cf53_7 : decode cJ0_indexOf_7cf53 7 = .ok (.aload_n 0, 1) := by decide +kernel
theorem dJ0_indexOf_7cf53_8 : decode cJ0_indexOf_7cf53 8 = .ok (.getfield 9, 3) := by decide +kernel
theorem dJ0_indexOf_7cf53_11 : decode cJ0_indexOf_7cf53 11 = .ok (.iload_n 1, 1) := by decide +kernel
theorem dJ0_indexOf_7cf53_12 : decode cJ0_indexOf_7cf53 12 = .ok (.iload_n 2, 1) := by decide +kernel
theorem dJ0_indexOf_7cf53_13 : decode cJ0_indexOf_7cf53 13 = .ok (.aload_n 0, 1) := by decide +kernel
theorem dJ0_indexOf_7cf53_14 : decode cJ0_indexOf_7cf53 14 = .ok (.invokevirtual 505, 3) := by decide +kernel
theorem dJ0_indexOf_7cf53_17 : decode cJ0_indexOf_7cf53 17 = .ok (.invokestatic 637, 3) := by decide +kernel
theorem dJ0_indexOf_7cf53_20 : decode cJ0_indexOf_7cf53 20 = .ok (.goto 16, 3) := by decide +kernel
theorem dJ0_indexOf_7cf53_23 : decode cJ0_indexOf_7cf53 23 = .ok (.aload_n 0, 1) := by decide +kernel
theorem dJ0_indexOf_7cf53_24 : decode cJ0_indexOf_7cf53 24 = .ok (.getfield 9, 3) := by decide +kernel
theorem dJ0_indexOf_7cf53_27 : decode cJ0_indexOf_7cf53 27 = .ok (.iload_n 1, 1) := by decide +kernel
theorem dJ0_indexOf_7cf53_28 : decode cJ0_indexOf_7cf53 28 = .ok (.iload_n 2, 1) := by decide +kernel
theorem dJ0_indexOf_7cf53_29 : decode cJ0_indexOf_7cf53 29 = .ok (.aload_n 0, 1) := by decide +kernel
theorem dJ0_indexOf_7cf53_30 : decode cJ0_indexOf_7cf53 30 = .ok (.invokevirtual 505, 3) := by decide +kernel
theorem dJ0_indexOf_7cf53_33 : decode cJ0_indexOf_7cf53 33 = .ok (.invokestatic 640, 3) := by decide +kernel
theorem dJ0_indexOf_7cf53_36 : decode cJ0_indexOf_7cf53 36 = .ok (.ireturn, 1) := by decide +kernel
theorem dJ0_coder_7d493_0 : decode cJ0_coder_7d493 0 = .ok (.getstatic 38, 3) := by decide +kernel
theorem dJ0_coder_7d493_3 : decode cJ0_coder_7d493 3 = .ok (.ifCond .eq 10, 3) := by decide +kernel
theorem dJ0_coder_7d493_6 : decode cJ0_coder_7d493 6 = .ok (.aload_n 0, 1) := by decide +kernel
theorem dJ0_coder_7d493_7 : decode cJ0_coder_7d493 7 = .ok (.getfield 15, 3) := by decide +kernel
theorem dJ0_coder_7d493_10 : decode cJ0_coder_7d493 10 = .ok (.goto 4, 3) := by decide +kernel
theorem dJ0_coder_7d493_13 : decode cJ0_coder_7d493 13 = .ok (.iconst 1, 1) := by decide +kernel
theorem dJ0_coder_7d493_14 : decode cJ0_coder_7d493 14 = .ok (.ireturn, 1) := by decide +kernel
theorem dJ0_isLatin1_aae02_0 : decode cJ0_isLatin1_aae02 0 = .ok (.getstatic 38, 3) := by decide +kernel
theorem dJ0_isLatin1_aae02_3 : decode cJ0_isLatin1_aae02 3 = .ok (.ifCond .eq 14, 3) := by decide +kernel
theorem dJ0_isLatin1_aae02_6 : decode cJ0_isLatin1_aae02 6 = .ok (.aload_n 0, 1) := by decide +kernel
theorem dJ0_isLatin1_aae02_7 : decode cJ0_isLatin1_aae02 7 = .ok (.getfield 15, 3) := by decide +kernel
theorem dJ0_isLatin1_aae02_10 : decode cJ0_isLatin1_aae02 10 = .ok (.ifCond .ne 7, 3) := by decide +kernel
theorem dJ0_isLatin1_aae02_13 : decode cJ0_isLatin1_aae02 13 = .ok (.iconst 1, 1) := by decide +kernel
theorem dJ0_isLatin1_aae02_14 : decode cJ0_isLatin1_aae02 14 = .ok (.goto 4, 3) := by decide +kernel
theorem dJ0_isLatin1_aae02_17 : decode cJ0_isLatin1_aae02 17 = .ok (.iconst 0, 1) := by decide +kernel
theorem dJ0_isLatin1_aae02_18 : decode cJ0_isLatin1_aae02 18 = .ok (.ireturn, 1) := by decide +kernel
theorem dJ0_checkBoundsBeginEnd_23922_0 : decode cJ0_checkBoundsBeginEnd_23922 0 = .ok (.iload_n 0, 1) := by decide +kernel
theorem dJ0_checkBoundsBeginEnd_23922_1 : decode cJ0_checkBoundsBeginEnd_23922 1 = .ok (.iload_n 1, 1) := by decide +kernel
theorem dJ0_checkBoundsBeginEnd_23922_2 : decode cJ0_checkBoundsBeginEnd_23922 2 = .ok (.iload_n 2, 1) := by decide +kernel
theorem dJ0_checkBoundsBeginEnd_23922_3 : decode cJ0_checkBoundsBeginEnd_23922 3 = .ok (.getstatic 1053, 3) := by decide +kernel
theorem dJ0_checkBoundsBeginEnd_23922_6 : decode cJ0_checkBoundsBeginEnd_23922 6 = .ok (.invokestatic 1062, 3) := by decide +kernel
theorem dJ0_checkBoundsBeginEnd_23922_9 : decode cJ0_checkBoundsBeginEnd_23922 9 = .ok (.pop, 1) := by decide +kernel
theorem dJ0_checkBoundsBeginEnd_23922_10 : decode cJ0_checkBoundsBeginEnd_23922 10 = .ok (.return_, 1) := by decide +kernel
theorem dJ1_canEncode_9a6ad_0 : decode cJ1_canEncode_9a6ad 0 = .ok (.iload_n 0, 1) := by decide +kernel
theorem dJ1_canEncode_9a6ad_1 : decode cJ1_canEncode_9a6ad 1 = .ok (.ifCond .lt 14, 3) := by decide +kernel
theorem dJ1_canEncode_9a6ad_4 : decode cJ1_canEncode_9a6ad 4 = .ok (.iload_n 0, 1) := by decide +kernel
theorem dJ1_canEncode_9a6ad_5 : decode cJ1_canEncode_9a6ad 5 = .ok (.sipush 255, 3) := by decide +kernel
theorem dJ1_canEncode_9a6ad_8 : decode cJ1_canEncode_9a6ad 8 = .ok (.if_icmp .gt 7, 3) := by decide +kernel
theorem dJ1_canEncode_9a6ad_11 : decode cJ1_canEncode_9a6ad 11 = .ok (.iconst 1, 1) := by decide +kernel
theorem dJ1_canEncode_9a6ad_12 : decode cJ1_canEncode_9a6ad 12 = .ok (.goto 4, 3) := by decide +kernel
theorem dJ1_canEncode_9a6ad_15 : decode cJ1_canEncode_9a6ad 15 = .ok (.iconst 0, 1) := by decide +kernel
theorem dJ1_canEncode_9a6ad_16 : decode cJ1_canEncode_9a6ad 16 = .ok (.ireturn, 1) := by decide +kernel
theorem dJ1_indexOf_4cfef_0 : decode cJ1_indexOf_4cfef 0 = .ok (.iload_n 1, 1) := by decide +kernel
theorem dJ1_indexOf_4cfef_1 : decode cJ1_indexOf_4cfef 1 = .ok (.invokestatic 88, 3) := by decide +kernel
theorem dJ1_indexOf_4cfef_4 : decode cJ1_indexOf_4cfef 4 = .ok (.ifCond .ne 5, 3) := by decide +kernel
theorem dJ1_indexOf_4cfef_7 : decode cJ1_indexOf_4cfef 7 = .ok (.iconst (-1), 1) := by decide +kernel
theorem dJ1_indexOf_4cfef_8 : decode cJ1_indexOf_4cfef 8 = .ok (.ireturn, 1) := by decide +kernel
theorem dJ1_indexOf_4cfef_9 : decode cJ1_indexOf_4cfef 9 = .ok (.iload_n 2, 1) := by decide +kernel
theorem dJ1_indexOf_4cfef_10 : decode cJ1_indexOf_4cfef 10 = .ok (.iconst 0, 1) := by decide +kernel
theorem dJ1_indexOf_4cfef_11 : decode cJ1_indexOf_4cfef 11 = .ok (.invokestatic 92, 3) := by decide +kernel
theorem dJ1_indexOf_4cfef_14 : decode cJ1_indexOf_4cfef 14 = .ok (.istore_n 2, 1) := by decide +kernel
theorem dJ1_indexOf_4cfef_15 : decode cJ1_indexOf_4cfef 15 = .ok (.iload_n 3, 1) := by decide +kernel
theorem dJ1_indexOf_4cfef_16 : decode cJ1_indexOf_4cfef 16 = .ok (.aload_n 0, 1) := by decide +kernel
theorem dJ1_indexOf_4cfef_17 : decode cJ1_indexOf_4cfef 17 = .ok (.arraylength, 1) := by decide +kernel
theorem dJ1_indexOf_4cfef_18 : decode cJ1_indexOf_4cfef 18 = .ok (.invokestatic 38, 3) := by decide +kernel
theorem dJ1_indexOf_4cfef_21 : decode cJ1_indexOf_4cfef 21 = .ok (.istore_n 3, 1) := by decide +kernel
theorem dJ1_indexOf_4cfef_22 : decode cJ1_indexOf_4cfef 22 = .ok (.iload_n 2, 1) := by decide +kernel
theorem dJ1_indexOf_4cfef_23 : decode cJ1_indexOf_4cfef 23 = .ok (.iload_n 3, 1) := by decide +kernel
theorem dJ1_indexOf_4cfef_24 : decode cJ1_indexOf_4cfef 24 = .ok (.if_icmp .lt 5, 3) := by decide +kernel
theorem dJ1_indexOf_4cfef_27 : decode cJ1_indexOf_4cfef 27 = .ok (.iconst (-1), 1) := by decide +kernel
theorem dJ1_indexOf_4cfef_28 : decode cJ1_indexOf_4cfef 28 = .ok (.ireturn, 1) := by decide +kernel
theorem dJ1_indexOf_4cfef_29 : decode cJ1_indexOf_4cfef 29 = .ok (.aload_n 0, 1) := by decide +kernel
theorem dJ1_indexOf_4cfef_30 : decode cJ1_indexOf_4cfef 30 = .ok (.iload_n 1, 1) := by decide +kernel
theorem dJ1_indexOf_4cfef_31 : decode cJ1_indexOf_4cfef 31 = .ok (.iload_n 2, 1) := by decide +kernel
theorem dJ1_indexOf_4cfef_32 : decode cJ1_indexOf_4cfef 32 = .ok (.iload_n 3, 1) := by decide +kernel
theorem dJ1_indexOf_4cfef_33 : decode cJ1_indexOf_4cfef 33 = .ok (.invokestatic 95, 3) := by decide +kernel
theorem dJ1_indexOf_4cfef_36 : decode cJ1_indexOf_4cfef 36 = .ok (.ireturn, 1) := by decide +kernel
theorem dJ1_indexOfChar_4cfef_0 : decode cJ1_indexOfChar_4cfef 0 = .ok (.iload_n 1, 1) := by decide +kernel
theorem dJ1_indexOfChar_4cfef_1 : decode cJ1_indexOfChar_4cfef 1 = .ok (.i2b, 1) := by decide +kernel
theorem dJ1_indexOfChar_4cfef_2 : decode cJ1_indexOfChar_4cfef 2 = .ok (.istore 4, 2) := by decide +kernel
theorem dJ1_indexOfChar_4cfef_4 : decode cJ1_indexOfChar_4cfef 4 = .ok (.iload_n 2, 1) := by decide +kernel
theorem dJ1_indexOfChar_4cfef_5 : decode cJ1_indexOfChar_4cfef 5 = .ok (.istore 5, 2) := by decide +kernel
theorem dJ1_indexOfChar_4cfef_7 : decode cJ1_indexOfChar_4cfef 7 = .ok (.iload 5, 2) := by decide +kernel
theorem dJ1_indexOfChar_4cfef_9 : decode cJ1_indexOfChar_4cfef 9 = .ok (.iload_n 3, 1) := by decide +kernel
theorem dJ1_indexOfChar_4cfef_10 : decode cJ1_indexOfChar_4cfef 10 = .ok (.if_icmp .ge 21, 3) := by decide +kernel
theorem dJ1_indexOfChar_4cfef_13 : decode cJ1_indexOfChar_4cfef 13 = .ok (.aload_n 0, 1) := by decide +kernel
theorem dJ1_indexOfChar_4cfef_14 : decode cJ1_indexOfChar_4cfef 14 = .ok (.iload 5, 2) := by decide +kernel
theorem dJ1_indexOfChar_4cfef_16 : decode cJ1_indexOfChar_4cfef 16 = .ok (.baload, 1) := by decide +kernel
theorem dJ1_indexOfChar_4cfef_17 : decode cJ1_indexOfChar_4cfef 17 = .ok (.iload 4, 2) := by decide +kernel
theorem dJ1_indexOfChar_4cfef_19 : decode cJ1_indexOfChar_4cfef 19 = .ok (.if_icmp .ne 6, 3) := by decide +kernel
theorem dJ1_indexOfChar_4cfef_22 : decode cJ1_indexOfChar_4cfef 22 = .ok (.iload 5, 2) := by decide +kernel
theorem dJ1_indexOfChar_4cfef_24 : decode cJ1_indexOfChar_4cfef 24 = .ok (.ireturn, 1) := by decide +kernel
theorem dJ1_indexOfChar_4cfef_25 : decode cJ1_indexOfChar_4cfef 25 = .ok (.iinc 5 1, 3) := by decide +kernel
theorem dJ1_indexOfChar_4cfef_28 : decode cJ1_indexOfChar_4cfef 28 = .ok (.goto (-21), 3) := by decide +kernel
theorem dJ1_indexOfChar_4cfef_31 : decode cJ1_indexOfChar_4cfef 31 = .ok (.iconst (-1), 1) := by decide +kernel
theorem dJ1_indexOfChar_4cfef_32 : decode cJ1_indexOfChar_4cfef 32 = .ok (.ireturn, 1) := by decide +kernel
theorem dJ2_getChar_3b067_0 : decode cJ2_getChar_3b067 0 = .ok (.getstatic 44, 3) := by decide +kernel
theorem dJ2_getChar_3b067_3 : decode cJ2_getChar_3b067 3 = .ok (.ifCond .ne 25, 3) := by decide +kernel
theorem dJ2_getChar_3b067_6 : decode cJ2_getChar_3b067 6 = .ok (.iload_n 1, 1) := by decide +kernel
theorem dJ2_getChar_3b067_7 : decode cJ2_getChar_3b067 7 = .ok (.ifCond .lt 11, 3) := by decide +kernel
theorem dJ2_getChar_3b067_10 : decode cJ2_getChar_3b067 10 = .ok (.iload_n 1, 1) := by decide +kernel
theorem dJ2_getChar_3b067_11 : decode cJ2_getChar_3b067 11 = .ok (.aload_n 0, 1) := by decide +kernel
theorem dJ2_getChar_3b067_12 : decode cJ2_getChar_3b067 12 = .ok (.invokestatic 48, 3) := by decide +kernel
theorem dJ2_getChar_3b067_15 : decode cJ2_getChar_3b067 15 = .ok (.if_icmp .lt 13, 3) := by decide +kernel
theorem dJ2_getChar_3b067_18 : decode cJ2_getChar_3b067 18 = .ok (.new 52, 3) := by decide +kernel
theorem dJ2_getChar_3b067_21 : decode cJ2_getChar_3b067 21 = .ok (.dup, 1) := by decide +kernel
theorem dJ2_getChar_3b067_22 : decode cJ2_getChar_3b067 22 = .ok (.ldc 54, 2) := by decide +kernel
theorem dJ2_getChar_3b067_24 : decode cJ2_getChar_3b067 24 = .ok (.invokespecial 56, 3) := by decide +kernel
theorem dJ2_getChar_3b067_27 : decode cJ2_getChar_3b067 27 = .ok (.athrow, 1) := by decide +kernel
theorem dJ2_getChar_3b067_28 : decode cJ2_getChar_3b067 28 = .ok (.iload_n 1, 1) := by decide +kernel
theorem dJ2_getChar_3b067_29 : decode cJ2_getChar_3b067 29 = .ok (.iconst 1, 1) := by decide +kernel
theorem dJ2_getChar_3b067_30 : decode cJ2_getChar_3b067 30 = .ok (.ishl, 1) := by decide +kernel
theorem dJ2_getChar_3b067_31 : decode cJ2_getChar_3b067 31 = .ok (.istore_n 1, 1) := by decide +kernel
theorem dJ2_getChar_3b067_32 : decode cJ2_getChar_3b067 32 = .ok (.aload_n 0, 1) := by decide +kernel
theorem dJ2_getChar_3b067_33 : decode cJ2_getChar_3b067 33 = .ok (.iload_n 1, 1) := by decide +kernel
theorem dJ2_getChar_3b067_34 : decode cJ2_getChar_3b067 34 = .ok (.iinc 1 1, 3) := by decide +kernel
theorem dJ2_getChar_3b067_37 : decode cJ2_getChar_3b067 37 = .ok (.baload, 1) := by decide +kernel
theorem dJ2_getChar_3b067_38 : decode cJ2_getChar_3b067 38 = .ok (.sipush 255, 3) := by decide +kernel
theorem dJ2_getChar_3b067_41 : decode cJ2_getChar_3b067 41 = .ok (.iand, 1) := by decide +kernel
theorem dJ2_getChar_3b067_42 : decode cJ2_getChar_3b067 42 = .ok (.getstatic 59, 3) := by decide +kernel
theorem dJ2_getChar_3b067_45 : decode cJ2_getChar_3b067 45 = .ok (.ishl, 1) := by decide +kernel
theorem dJ2_getChar_3b067_46 : decode cJ2_getChar_3b067 46 = .ok (.aload_n 0, 1) := by decide +kernel
theorem dJ2_getChar_3b067_47 : decode cJ2_getChar_3b067 47 = .ok (.iload_n 1, 1) := by decide +kernel
theorem dJ2_getChar_3b067_48 : decode cJ2_getChar_3b067 48 = .ok (.baload, 1) := by decide +kernel
theorem dJ2_getChar_3b067_49 : decode cJ2_getChar_3b067 49 = .ok (.sipush 255, 3) := by decide +kernel
theorem dJ2_getChar_3b067_52 : decode cJ2_getChar_3b067 52 = .ok (.iand, 1) := by decide +kernel
theorem dJ2_getChar_3b067_53 : decode cJ2_getChar_3b067 53 = .ok (.getstatic 63, 3) := by decide +kernel
theorem dJ2_getChar_3b067_56 : decode cJ2_getChar_3b067 56 = .ok (.ishl, 1) := by decide +kernel
theorem dJ2_getChar_3b067_57 : decode cJ2_getChar_3b067 57 = .ok (.ior, 1) := by decide +kernel
theorem dJ2_getChar_3b067_58 : decode cJ2_getChar_3b067 58 = .ok (.i2c, 1) := by decide +kernel
theorem dJ2_getChar_3b067_59 : decode cJ2_getChar_3b067 59 = .ok (.ireturn, 1) := by decide +kernel
theorem dJ2_length_9d52b_0 : decode cJ2_length_9d52b 0 = .ok (.aload_n 0, 1) := by decide +kernel
theorem dJ2_length_9d52b_1 : decode cJ2_length_9d52b 1 = .ok (.arraylength, 1) := by decide +kernel
theorem dJ2_length_9d52b_2 : decode cJ2_length_9d52b 2 = .ok (.iconst 1, 1) := by decide +kernel
theorem dJ2_length_9d52b_3 : decode cJ2_length_9d52b 3 = .ok (.ishr, 1) := by decide +kernel
theorem dJ2_length_9d52b_4 : decode cJ2_length_9d52b 4 = .ok (.ireturn, 1) := by decide +kernel
theorem dJ2_indexOf_4cfef_0 : decode cJ2_indexOf_4cfef 0 = .ok (.iload_n 2, 1) := by decide +kernel
theorem dJ2_indexOf_4cfef_1 : decode cJ2_indexOf_4cfef 1 = .ok (.iconst 0, 1) := by decide +kernel
theorem dJ2_indexOf_4cfef_2 : decode cJ2_indexOf_4cfef 2 = .ok (.invokestatic 224, 3) := by decide +kernel
theorem dJ2_indexOf_4cfef_5 : decode cJ2_indexOf_4cfef 5 = .ok (.istore_n 2, 1) := by decide +kernel
theorem dJ2_indexOf_4cfef_6 : decode cJ2_indexOf_4cfef 6 = .ok (.iload_n 3, 1) := by decide +kernel
theorem dJ2_indexOf_4cfef_7 : decode cJ2_indexOf_4cfef 7 = .ok (.aload_n 0, 1) := by decide +kernel
theorem dJ2_indexOf_4cfef_8 : decode cJ2_indexOf_4cfef 8 = .ok (.arraylength, 1) := by decide +kernel
theorem dJ2_indexOf_4cfef_9 : decode cJ2_indexOf_4cfef 9 = .ok (.iconst 1, 1) := by decide +kernel
theorem dJ2_indexOf_4cfef_10 : decode cJ2_indexOf_4cfef 10 = .ok (.ishr, 1) := by decide +kernel
theorem dJ2_indexOf_4cfef_11 : decode cJ2_indexOf_4cfef 11 = .ok (.invokestatic 183, 3) := by decide +kernel
theorem dJ2_indexOf_4cfef_14 : decode cJ2_indexOf_4cfef 14 = .ok (.istore_n 3, 1) := by decide +kernel
theorem dJ2_indexOf_4cfef_15 : decode cJ2_indexOf_4cfef 15 = .ok (.iload_n 2, 1) := by decide +kernel
theorem dJ2_indexOf_4cfef_16 : decode cJ2_indexOf_4cfef 16 = .ok (.iload_n 3, 1) := by decide +kernel
theorem dJ2_indexOf_4cfef_17 : decode cJ2_indexOf_4cfef 17 = .ok (.if_icmp .lt 5, 3) := by decide +kernel
theorem dJ2_indexOf_4cfef_20 : decode cJ2_indexOf_4cfef 20 = .ok (.iconst (-1), 1) := by decide +kernel
theorem dJ2_indexOf_4cfef_21 : decode cJ2_indexOf_4cfef 21 = .ok (.ireturn, 1) := by decide +kernel
theorem dJ2_indexOf_4cfef_22 : decode cJ2_indexOf_4cfef 22 = .ok (.iload_n 1, 1) := by decide +kernel
theorem dJ2_indexOf_4cfef_23 : decode cJ2_indexOf_4cfef 23 = .ok (.ldc 227, 2) := by decide +kernel
theorem dJ2_indexOf_4cfef_25 : decode cJ2_indexOf_4cfef 25 = .ok (.if_icmp .ge 11, 3) := by decide +kernel
theorem dJ2_indexOf_4cfef_28 : decode cJ2_indexOf_4cfef 28 = .ok (.aload_n 0, 1) := by decide +kernel
theorem dJ2_indexOf_4cfef_29 : decode cJ2_indexOf_4cfef 29 = .ok (.iload_n 1, 1) := by decide +kernel
theorem dJ2_indexOf_4cfef_30 : decode cJ2_indexOf_4cfef 30 = .ok (.iload_n 2, 1) := by decide +kernel
theorem dJ2_indexOf_4cfef_31 : decode cJ2_indexOf_4cfef 31 = .ok (.iload_n 3, 1) := by decide +kernel
theorem dJ2_indexOf_4cfef_32 : decode cJ2_indexOf_4cfef 32 = .ok (.invokestatic 228, 3) := by decide +kernel
theorem dJ2_indexOf_4cfef_35 : decode cJ2_indexOf_4cfef 35 = .ok (.ireturn, 1) := by decide +kernel
theorem dJ2_indexOf_4cfef_36 : decode cJ2_indexOf_4cfef 36 = .ok (.aload_n 0, 1) := by decide +kernel
theorem dJ2_indexOf_4cfef_37 : decode cJ2_indexOf_4cfef 37 = .ok (.iload_n 1, 1) := by decide +kernel
theorem dJ2_indexOf_4cfef_38 : decode cJ2_indexOf_4cfef 38 = .ok (.iload_n 2, 1) := by decide +kernel
theorem dJ2_indexOf_4cfef_39 : decode cJ2_indexOf_4cfef 39 = .ok (.iload_n 3, 1) := by decide +kernel
theorem dJ2_indexOf_4cfef_40 : decode cJ2_indexOf_4cfef 40 = .ok (.invokestatic 232, 3) := by decide +kernel
theorem dJ2_indexOf_4cfef_43 : decode cJ2_indexOf_4cfef 43 = .ok (.ireturn, 1) := by decide +kernel
theorem dJ2_indexOfChar_4cfef_0 : decode cJ2_indexOfChar_4cfef 0 = .ok (.iload_n 2, 1) := by decide +kernel
theorem dJ2_indexOfChar_4cfef_1 : decode cJ2_indexOfChar_4cfef 1 = .ok (.iload_n 3, 1) := by decide +kernel
theorem dJ2_indexOfChar_4cfef_2 : decode cJ2_indexOfChar_4cfef 2 = .ok (.aload_n 0, 1) := by decide +kernel
theorem dJ2_indexOfChar_4cfef_3 : decode cJ2_indexOfChar_4cfef 3 = .ok (.invokestatic 96, 3) := by decide +kernel
theorem dJ2_indexOfChar_4cfef_6 : decode cJ2_indexOfChar_4cfef 6 = .ok (.aload_n 0, 1) := by decide +kernel
theorem dJ2_indexOfChar_4cfef_7 : decode cJ2_indexOfChar_4cfef 7 = .ok (.iload_n 1, 1) := by decide +kernel
theorem dJ2_indexOfChar_4cfef_8 : decode cJ2_indexOfChar_4cfef 8 = .ok (.iload_n 2, 1) := by decide +kernel
theorem dJ2_indexOfChar_4cfef_9 : decode cJ2_indexOfChar_4cfef 9 = .ok (.iload_n 3, 1) := by decide +kernel
theorem dJ2_indexOfChar_4cfef_10 : decode cJ2_indexOfChar_4cfef 10 = .ok (.invokestatic 244, 3) := by decide +kernel
theorem dJ2_indexOfChar_4cfef_13 : decode cJ2_indexOfChar_4cfef 13 = .ok (.ireturn, 1) := by decide +kernel
theorem dJ2_indexOfCharUnsafe_4cfef_0 : decode cJ2_indexOfCharUnsafe_4cfef 0 = .ok (.iload_n 2, 1) := by decide +kernel
theorem dJ2_indexOfCharUnsafe_4cfef_1 : decode cJ2_indexOfCharUnsafe_4cfef 1 = .ok (.istore 4, 2) := by decide +kernel
theorem dJ2_indexOfCharUnsafe_4cfef_3 : decode cJ2_indexOfCharUnsafe_4cfef 3 = .ok (.iload 4, 2) := by decide +kernel
theorem dJ2_indexOfCharUnsafe_4cfef_5 : decode cJ2_indexOfCharUnsafe_4cfef 5 = .ok (.iload_n 3, 1) := by decide +kernel
theorem dJ2_indexOfCharUnsafe_4cfef_6 : decode cJ2_indexOfCharUnsafe_4cfef 6 = .ok (.if_icmp .ge 22, 3) := by decide +kernel
theorem dJ2_indexOfCharUnsafe_4cfef_9 : decode cJ2_indexOfCharUnsafe_4cfef 9 = .ok (.aload_n 0, 1) := by decide +kernel
theorem dJ2_indexOfCharUnsafe_4cfef_10 : decode cJ2_indexOfCharUnsafe_4cfef 10 = .ok (.iload 4, 2) := by decide +kernel
theorem dJ2_indexOfCharUnsafe_4cfef_12 : decode cJ2_indexOfCharUnsafe_4cfef 12 = .ok (.invokestatic 71, 3) := by decide +kernel
theorem dJ2_indexOfCharUnsafe_4cfef_15 : decode cJ2_indexOfCharUnsafe_4cfef 15 = .ok (.iload_n 1, 1) := by decide +kernel
theorem dJ2_indexOfCharUnsafe_4cfef_16 : decode cJ2_indexOfCharUnsafe_4cfef 16 = .ok (.if_icmp .ne 6, 3) := by decide +kernel
theorem dJ2_indexOfCharUnsafe_4cfef_19 : decode cJ2_indexOfCharUnsafe_4cfef 19 = .ok (.iload 4, 2) := by decide +kernel
theorem dJ2_indexOfCharUnsafe_4cfef_21 : decode cJ2_indexOfCharUnsafe_4cfef 21 = .ok (.ireturn, 1) := by decide +kernel
theorem dJ2_indexOfCharUnsafe_4cfef_22 : decode cJ2_indexOfCharUnsafe_4cfef 22 = .ok (.iinc 4 1, 3) := by decide +kernel
theorem dJ2_indexOfCharUnsafe_4cfef_25 : decode cJ2_indexOfCharUnsafe_4cfef 25 = .ok (.goto (-22), 3) := by decide +kernel
theorem dJ2_indexOfCharUnsafe_4cfef_28 : decode cJ2_indexOfCharUnsafe_4cfef 28 = .ok (.iconst (-1), 1) := by decide +kernel
theorem dJ2_indexOfCharUnsafe_4cfef_29 : decode cJ2_indexOfCharUnsafe_4cfef 29 = .ok (.ireturn, 1) := by decide +kernel
theorem dJ2_indexOfSupplementary_4cfef_0 : decode cJ2_indexOfSupplementary_4cfef 0 = .ok (.iload_n 1, 1) := by decide +kernel
theorem dJ2_indexOfSupplementary_4cfef_1 : decode cJ2_indexOfSupplementary_4cfef 1 = .ok (.invokestatic 164, 3) := by decide +kernel
theorem dJ2_indexOfSupplementary_4cfef_4 : decode cJ2_indexOfSupplementary_4cfef 4 = .ok (.ifCond .eq 65, 3) := by decide +kernel
theorem dJ2_indexOfSupplementary_4cfef_7 : decode cJ2_indexOfSupplementary_4cfef 7 = .ok (.iload_n 1, 1) := by decide +kernel
theorem dJ2_indexOfSupplementary_4cfef_8 : decode cJ2_indexOfSupplementary_4cfef 8 = .ok (.invokestatic 157, 3) := by decide +kernel
theorem dJ2_indexOfSupplementary_4cfef_11 : decode cJ2_indexOfSupplementary_4cfef 11 = .ok (.istore 4, 2) := by decide +kernel
theorem dJ2_indexOfSupplementary_4cfef_13 : decode cJ2_indexOfSupplementary_4cfef 13 = .ok (.iload_n 1, 1) := by decide +kernel
theorem dJ2_indexOfSupplementary_4cfef_14 : decode cJ2_indexOfSupplementary_4cfef 14 = .ok (.invokestatic 161, 3) := by decide +kernel
theorem dJ2_indexOfSupplementary_4cfef_17 : decode cJ2_indexOfSupplementary_4cfef 17 = .ok (.istore 5, 2) := by decide +kernel
theorem dJ2_indexOfSupplementary_4cfef_19 : decode cJ2_indexOfSupplementary_4cfef 19 = .ok (.iload_n 2, 1) := by decide +kernel
theorem dJ2_indexOfSupplementary_4cfef_20 : decode cJ2_indexOfSupplementary_4cfef 20 = .ok (.iload_n 3, 1) := by decide +kernel
theorem dJ2_indexOfSupplementary_4cfef_21 : decode cJ2_indexOfSupplementary_4cfef 21 = .ok (.aload_n 0, 1) := by decide +kernel
theorem dJ2_indexOfSupplementary_4cfef_22 : decode cJ2_indexOfSupplementary_4cfef 22 = .ok (.invokestatic 96, 3) := by decide +kernel
theorem dJ2_indexOfSupplementary_4cfef_25 : decode cJ2_indexOfSupplementary_4cfef 25 = .ok (.iload_n 2, 1) := by decide +kernel
theorem dJ2_indexOfSupplementary_4cfef_26 : decode cJ2_indexOfSupplementary_4cfef 26 = .ok (.istore 6, 2) := by decide +kernel
theorem dJ2_indexOfSupplementary_4cfef_28 : decode cJ2_indexOfSupplementary_4cfef 28 = .ok (.iload 6, 2) := by decide +kernel
theorem dJ2_indexOfSupplementary_4cfef_30 : decode cJ2_indexOfSupplementary_4cfef 30 = .ok (.iload_n 3, 1) := by decide +kernel
theorem dJ2_indexOfSupplementary_4cfef_31 : decode cJ2_indexOfSupplementary_4cfef 31 = .ok (.iconst 1, 1) := by decide +kernel
theorem dJ2_indexOfSupplementary_4cfef_32 : decode cJ2_indexOfSupplementary_4cfef 32 = .ok (.isub, 1) := by decide +kernel
theorem dJ2_indexOfSupplementary_4cfef_33 : decode cJ2_indexOfSupplementary_4cfef 33 = .ok (.if_icmp .ge 36, 3) := by decide +kernel
theorem dJ2_indexOfSupplementary_4cfef_36 : decode cJ2_indexOfSupplementary_4cfef 36 = .ok (.aload_n 0, 1) := by decide +kernel
theorem dJ2_indexOfSupplementary_4cfef_37 : decode cJ2_indexOfSupplementary_4cfef 37 = .ok (.iload 6, 2) := by decide +kernel
theorem dJ2_indexOfSupplementary_4cfef_39 : decode cJ2_indexOfSupplementary_4cfef 39 = .ok (.invokestatic 71, 3) := by decide +kernel
theorem dJ2_indexOfSupplementary_4cfef_42 : decode cJ2_indexOfSupplementary_4cfef 42 = .ok (.iload 4, 2) := by decide +kernel
theorem dJ2_indexOfSupplementary_4cfef_44 : decode cJ2_indexOfSupplementary_4cfef 44 = .ok (.if_icmp .ne 19, 3) := by decide +kernel
theorem dJ2_indexOfSupplementary_4cfef_47 : decode cJ2_indexOfSupplementary_4cfef 47 = .ok (.aload_n 0, 1) := by decide +kernel
theorem dJ2_indexOfSupplementary_4cfef_48 : decode cJ2_indexOfSupplementary_4cfef 48 = .ok (.iload 6, 2) := by decide +kernel
theorem dJ2_indexOfSupplementary_4cfef_50 : decode cJ2_indexOfSupplementary_4cfef 50 = .ok (.iconst 1, 1) := by decide +kernel
theorem dJ2_indexOfSupplementary_4cfef_51 : decode cJ2_indexOfSupplementary_4cfef 51 = .ok (.iadd, 1) := by decide +kernel
theorem dJ2_indexOfSupplementary_4cfef_52 : decode cJ2_indexOfSupplementary_4cfef 52 = .ok (.invokestatic 71, 3) := by decide +kernel
theorem dJ2_indexOfSupplementary_4cfef_55 : decode cJ2_indexOfSupplementary_4cfef 55 = .ok (.iload 5, 2) := by decide +kernel
theorem dJ2_indexOfSupplementary_4cfef_57 : decode cJ2_indexOfSupplementary_4cfef 57 = .ok (.if_icmp .ne 6, 3) := by decide +kernel
theorem dJ2_indexOfSupplementary_4cfef_60 : decode cJ2_indexOfSupplementary_4cfef 60 = .ok (.iload 6, 2) := by decide +kernel
theorem dJ2_indexOfSupplementary_4cfef_62 : decode cJ2_indexOfSupplementary_4cfef 62 = .ok (.ireturn, 1) := by decide +kernel
theorem dJ2_indexOfSupplementary_4cfef_63 : decode cJ2_indexOfSupplementary_4cfef 63 = .ok (.iinc 6 1, 3) := by decide +kernel
theorem dJ2_indexOfSupplementary_4cfef_66 : decode cJ2_indexOfSupplementary_4cfef 66 = .ok (.goto (-38), 3) := by decide +kernel
theorem dJ2_indexOfSupplementary_4cfef_69 : decode cJ2_indexOfSupplementary_4cfef 69 = .ok (.iconst (-1), 1) := by decide +kernel
theorem dJ2_indexOfSupplementary_4cfef_70 : decode cJ2_indexOfSupplementary_4cfef 70 = .ok (.ireturn, 1) := by decide +kernel
theorem dJ2_checkBoundsBeginEnd_d044e_0 : decode cJ2_checkBoundsBeginEnd_d044e 0 = .ok (.iload_n 0, 1) := by decide +kernel
theorem dJ2_checkBoundsBeginEnd_d044e_1 : decode cJ2_checkBoundsBeginEnd_d044e 1 = .ok (.iload_n 1, 1) := by decide +kernel
theorem dJ2_checkBoundsBeginEnd_d044e_2 : decode cJ2_checkBoundsBeginEnd_d044e 2 = .ok (.aload_n 2, 1) := by decide +kernel
theorem dJ2_checkBoundsBeginEnd_d044e_3 : decode cJ2_checkBoundsBeginEnd_d044e 3 = .ok (.invokestatic 48, 3) := by decide +kernel
theorem dJ2_checkBoundsBeginEnd_d044e_6 : decode cJ2_checkBoundsBeginEnd_d044e 6 = .ok (.invokestatic 241, 3) := by decide +kernel
theorem dJ2_checkBoundsBeginEnd_d044e_9 : decode cJ2_checkBoundsBeginEnd_d044e 9 = .ok (.return_, 1) := by decide +kernel
theorem dJ7_fill_53178_0 : decode cJ7_fill_53178 0 = .ok (.iconst 0, 1) := by decide +kernel
theorem dJ7_fill_53178_1 : decode cJ7_fill_53178 1 = .ok (.istore_n 2, 1) := by decide +kernel
theorem dJ7_fill_53178_2 : decode cJ7_fill_53178 2 = .ok (.aload_n 0, 1) := by decide +kernel
theorem dJ7_fill_53178_3 : decode cJ7_fill_53178 3 = .ok (.arraylength, 1) := by decide +kernel
theorem dJ7_fill_53178_4 : decode cJ7_fill_53178 4 = .ok (.istore_n 3, 1) := by decide +kernel
theorem dJ7_fill_53178_5 : decode cJ7_fill_53178 5 = .ok (.iload_n 2, 1) := by decide +kernel
theorem dJ7_fill_53178_6 : decode cJ7_fill_53178 6 = .ok (.iload_n 3, 1) := by decide +kernel
theorem dJ7_fill_53178_7 : decode cJ7_fill_53178 7 = .ok (.if_icmp .ge 13, 3) := by decide +kernel
theorem dJ7_fill_53178_10 : decode cJ7_fill_53178 10 = .ok (.aload_n 0, 1) := by decide +kernel
theorem dJ7_fill_53178_11 : decode cJ7_fill_53178 11 = .ok (.iload_n 2, 1) := by decide +kernel
theorem dJ7_fill_53178_12 : decode cJ7_fill_53178 12 = .ok (.iload_n 1, 1) := by decide +kernel
theorem dJ7_fill_53178_13 : decode cJ7_fill_53178 13 = .ok (.iastore, 1) := by decide +kernel
theorem dJ7_fill_53178_14 : decode cJ7_fill_53178 14 = .ok (.iinc 2 1, 3) := by decide +kernel
theorem dJ7_fill_53178_17 : decode cJ7_fill_53178 17 = .ok (.goto (-12), 3) := by decide +kernel
theorem dJ7_fill_53178_20 : decode cJ7_fill_53178 20 = .ok (.return_, 1) := by decide +kernel
theorem dJ3_checkFromToIndex_8c36e_0 : decode cJ3_checkFromToIndex_8c36e 0 = .ok (.iload_n 0, 1) := by decide +kernel
theorem dJ3_checkFromToIndex_8c36e_1 : decode cJ3_checkFromToIndex_8c36e 1 = .ok (.ifCond .lt 13, 3) := by decide +kernel
theorem dJ3_checkFromToIndex_8c36e_4 : decode cJ3_checkFromToIndex_8c36e 4 = .ok (.iload_n 0, 1) := by decide +kernel
theorem dJ3_checkFromToIndex_8c36e_5 : decode cJ3_checkFromToIndex_8c36e 5 = .ok (.iload_n 1, 1) := by decide +kernel
theorem dJ3_checkFromToIndex_8c36e_6 : decode cJ3_checkFromToIndex_8c36e 6 = .ok (.if_icmp .gt 8, 3) := by decide +kernel
theorem dJ3_checkFromToIndex_8c36e_9 : decode cJ3_checkFromToIndex_8c36e 9 = .ok (.iload_n 1, 1) := by decide +kernel
theorem dJ3_checkFromToIndex_8c36e_10 : decode cJ3_checkFromToIndex_8c36e 10 = .ok (.iload_n 2, 1) := by decide +kernel
theorem dJ3_checkFromToIndex_8c36e_11 : decode cJ3_checkFromToIndex_8c36e 11 = .ok (.if_icmp .le 11, 3) := by decide +kernel
theorem dJ3_checkFromToIndex_8c36e_14 : decode cJ3_checkFromToIndex_8c36e 14 = .ok (.aload_n 3, 1) := by decide +kernel
theorem dJ3_checkFromToIndex_8c36e_15 : decode cJ3_checkFromToIndex_8c36e 15 = .ok (.iload_n 0, 1) := by decide +kernel
theorem dJ3_checkFromToIndex_8c36e_16 : decode cJ3_checkFromToIndex_8c36e 16 = .ok (.iload_n 1, 1) := by decide +kernel
theorem dJ3_checkFromToIndex_8c36e_17 : decode cJ3_checkFromToIndex_8c36e 17 = .ok (.iload_n 2, 1) := by decide +kernel
theorem dJ3_checkFromToIndex_8c36e_18 : decode cJ3_checkFromToIndex_8c36e 18 = .ok (.invokestatic 99, 3) := by decide +kernel
theorem dJ3_checkFromToIndex_8c36e_21 : decode cJ3_checkFromToIndex_8c36e 21 = .ok (.athrow, 1) := by decide +kernel
theorem dJ3_checkFromToIndex_8c36e_22 : decode cJ3_checkFromToIndex_8c36e 22 = .ok (.iload_n 0, 1) := by decide +kernel
theorem dJ3_checkFromToIndex_8c36e_23 : decode cJ3_checkFromToIndex_8c36e 23 = .ok (.ireturn, 1) := by decide +kernel
end
section
theorem dX4_init_0 : decode cX4_init 0 = .ok (.aload_n 0, 1) := by decide +kernel
theorem dX4_init_1 : decode cX4_init 1 = .ok (.invokespecial 1, 3) := by decide +kernel
theorem dX4_init_4 : decode cX4_init 4 = .ok (.aload_n 0, 1) := by decide +kernel
theorem dX4_init_5 : decode cX4_init 5 = .ok (.new 7, 3) := by decide +kernel
theorem dX4_init_8 : decode cX4_init 8 = .ok (.dup, 1) := by decide +kernel
theorem dX4_init_9 : decode cX4_init 9 = .ok (.invokespecial 9, 3) := by decide +kernel
theorem dX4_init_12 : decode cX4_init 12 = .ok (.putfield 10, 3) := by decide +kernel
theorem dX4_init_15 : decode cX4_init 15 = .ok (.aload_n 0, 1) := by decide +kernel
theorem dX4_init_16 : decode cX4_init 16 = .ok (.bipush 9, 2) := by decide +kernel
theorem dX4_init_18 : decode cX4_init 18 = .ok (.newarray .int, 2) := by decide +kernel
theorem dX4_init_20 : decode cX4_init 20 = .ok (.putfield 16, 3) := by decide +kernel
theorem dX4_init_23 : decode cX4_init 23 = .ok (.aload_n 0, 1) := by decide +kernel
theorem dX4_init_24 : decode cX4_init 24 = .ok (.iconst 0, 1) := by decide +kernel
theorem dX4_init_25 : decode cX4_init 25 = .ok (.putfield 20, 3) := by decide +kernel
theorem dX4_init_28 : decode cX4_init 28 = .ok (.aload_n 0, 1) := by decide +kernel
theorem dX4_init_29 : decode cX4_init 29 = .ok (.new 24, 3) := by decide +kernel
theorem dX4_init_32 : decode cX4_init 32 = .ok (.dup, 1) := by decide +kernel
theorem dX4_init_33 : decode cX4_init 33 = .ok (.invokespecial 26, 3) := by decide +kernel
theorem dX4_init_36 : decode cX4_init 36 = .ok (.putfield 27, 3) := by decide +kernel
theorem dX4_init_39 : decode cX4_init 39 = .ok (.aload_n 0, 1) := by decide +kernel
theorem dX4_init_40 : decode cX4_init 40 = .ok (.bipush 8, 2) := by decide +kernel
theorem dX4_init_42 : decode cX4_init 42 = .ok (.newarray .int, 2) := by decide +kernel
theorem dX4_init_44 : decode cX4_init 44 = .ok (.putfield 31, 3) := by decide +kernel
theorem dX4_init_47 : decode cX4_init 47 = .ok (.aload_n 0, 1) := by decide +kernel
theorem dX4_init_48 : decode cX4_init 48 = .ok (.bipush 8, 2) := by decide +kernel
theorem dX4_init_50 : decode cX4_init 50 = .ok (.newarray .int, 2) := by decide +kernel
theorem dX4_init_52 : decode cX4_init 52 = .ok (.putfield 34, 3) := by decide +kernel
theorem dX4_init_55 : decode cX4_init 55 = .ok (.aload_n 0, 1) := by decide +kernel
theorem dX4_init_56 : decode cX4_init 56 = .ok (.iconst 0, 1) := by decide +kernel
theorem dX4_init_57 : decode cX4_init 57 = .ok (.putfield 37, 3) := by decide +kernel
theorem dX4_init_60 : decode cX4_init 60 = .ok (.aload_n 0, 1) := by decide +kernel
theorem dX4_init_61 : decode cX4_init 61 = .ok (.iconst 4, 1) := by decide +kernel
theorem dX4_init_62 : decode cX4_init 62 = .ok (.anewarray 40, 3) := by decide +kernel
theorem dX4_init_65 : decode cX4_init 65 = .ok (.putfield 42, 3) := by decide +kernel
theorem dX4_init_68 : decode cX4_init 68 = .ok (.aload_n 0, 1) := by decide +kernel
theorem dX4_init_69 : decode cX4_init 69 = .ok (.iconst 0, 1) := by decide +kernel
theorem dX4_init_70 : decode cX4_init 70 = .ok (.putfield 46, 3) := by decide +kernel
theorem dX4_init_73 : decode cX4_init 73 = .ok (.aload_n 0, 1) := by decide +kernel
theorem dX4_init_74 : decode cX4_init 74 = .ok (.new 49, 3) := by decide +kernel
theorem dX4_init_77 : decode cX4_init 77 = .ok (.dup, 1) := by decide +kernel
theorem dX4_init_78 : decode cX4_init 78 = .ok (.invokespecial 51, 3) := by decide +kernel
theorem dX4_init_81 : decode cX4_init 81 = .ok (.putfield 52, 3) := by decide +kernel
theorem dX4_init_84 : decode cX4_init 84 = .ok (.aload_n 0, 1) := by decide +kernel
theorem dX4_init_85 : decode cX4_init 85 = .ok (.iconst 1, 1) := by decide +kernel
theorem dX4_init_86 : decode cX4_init 86 = .ok (.putfield 56, 3) := by decide +kernel
theorem dX4_init_89 : decode cX4_init 89 = .ok (.aload_n 0, 1) := by decide +kernel
theorem dX4_init_90 : decode cX4_init 90 = .ok (.new 49, 3) := by decide +kernel
theorem dX4_init_93 : decode cX4_init 93 = .ok (.dup, 1) := by decide +kernel
theorem dX4_init_94 : decode cX4_init 94 = .ok (.invokespecial 51, 3) := by decide +kernel
theorem dX4_init_97 : decode cX4_init 97 = .ok (.putfield 60, 3) := by decide +kernel
theorem dX4_init_100 : decode cX4_init 100 = .ok (.aload_n 0, 1) := by decide +kernel
theorem dX4_init_101 : decode cX4_init 101 = .ok (.bipush 37, 2) := by decide +kernel
theorem dX4_init_103 : decode cX4_init 103 = .ok (.newarray .int, 2) := by decide +kernel
theorem dX4_init_105 : decode cX4_init 105 = .ok (.putfield 63, 3) := by decide +kernel
theorem dX4_init_108 : decode cX4_init 108 = .ok (.aload_n 0, 1) := by decide +kernel
theorem dX4_init_109 : decode cX4_init 109 = .ok (.bipush 10, 2) := by decide +kernel
theorem dX4_init_111 : decode cX4_init 111 = .ok (.newarray .int, 2) := by decide +kernel
theorem dX4_init_113 : decode cX4_init 113 = .ok (.putfield 66, 3) := by decide +kernel
theorem dX4_init_116 : decode cX4_init 116 = .ok (.aload_n 0, 1) := by decide +kernel
theorem dX4_init_117 : decode cX4_init 117 = .ok (.bipush 9, 2) := by decide +kernel
theorem dX4_init_119 : decode cX4_init 119 = .ok (.newarray .int, 2) := by decide +kernel
theorem dX4_init_121 : decode cX4_init 121 = .ok (.putfield 69, 3) := by decide +kernel
theorem dX4_init_124 : decode cX4_init 124 = .ok (.aload_n 0, 1) := by decide +kernel
theorem dX4_init_125 : decode cX4_init 125 = .ok (.bipush 9, 2) := by decide +kernel
theorem dX4_init_127 : decode cX4_init 127 = .ok (.newarray .int, 2) := by decide +kernel
theorem dX4_init_129 : decode cX4_init 129 = .ok (.putfield 72, 3) := by decide +kernel
theorem dX4_init_132 : decode cX4_init 132 = .ok (.iconst 0, 1) := by decide +kernel
theorem dX4_init_133 : decode cX4_init 133 = .ok (.istore_n 1, 1) := by decide +kernel
theorem dX4_init_134 : decode cX4_init 134 = .ok (.iload_n 1, 1) := by decide +kernel
theorem dX4_init_135 : decode cX4_init 135 = .ok (.bipush 9, 2) := by decide +kernel
theorem dX4_init_137 : decode cX4_init 137 = .ok (.if_icmp .ge 16, 3) := by decide +kernel
theorem dX4_init_140 : decode cX4_init 140 = .ok (.aload_n 0, 1) := by decide +kernel
theorem dX4_init_141 : decode cX4_init 141 = .ok (.getfield 16, 3) := by decide +kernel
theorem dX4_init_144 : decode cX4_init 144 = .ok (.iload_n 1, 1) := by decide +kernel
theorem dX4_init_145 : decode cX4_init 145 = .ok (.iload_n 1, 1) := by decide +kernel
theorem dX4_init_146 : decode cX4_init 146 = .ok (.iastore, 1) := by decide +kernel
theorem dX4_init_147 : decode cX4_init 147 = .ok (.iinc 1 1, 3) := by decide +kernel
theorem dX4_init_150 : decode cX4_init 150 = .ok (.goto (-16), 3) := by decide +kernel
theorem dX4_init_153 : decode cX4_init 153 = .ok (.iconst 0, 1) := by decide +kernel
theorem dX4_init_154 : decode cX4_init 154 = .ok (.istore_n 1, 1) := by decide +kernel
theorem dX4_init_155 : decode cX4_init 155 = .ok (.iload_n 1, 1) := by decide +kernel
theorem dX4_init_156 : decode cX4_init 156 = .ok (.iconst 4, 1) := by decide +kernel
theorem dX4_init_157 : decode cX4_init 157 = .ok (.if_icmp .ge 22, 3) := by decide +kernel
theorem dX4_init_160 : decode cX4_init 160 = .ok (.aload_n 0, 1) := by decide +kernel
theorem dX4_init_161 : decode cX4_init 161 = .ok (.getfield 42, 3) := by decide +kernel
theorem dX4_init_164 : decode cX4_init 164 = .ok (.iload_n 1, 1) := by decide +kernel
theorem dX4_init_165 : decode cX4_init 165 = .ok (.new 40, 3) := by decide +kernel
theorem dX4_init_168 : decode cX4_init 168 = .ok (.dup, 1) := by decide +kernel
theorem dX4_init_169 : decode cX4_init 169 = .ok (.invokespecial 75, 3) := by decide +kernel
theorem dX4_init_172 : decode cX4_init 172 = .ok (.aastore, 1) := by decide +kernel
theorem dX4_init_173 : decode cX4_init 173 = .ok (.iinc 1 1, 3) := by decide +kernel
theorem dX4_init_176 : decode cX4_init 176 = .ok (.goto (-21), 3) := by decide +kernel
theorem dX4_init_179 : decode cX4_init 179 = .ok (.return_, 1) := by decide +kernel
theorem dX4_type_0 : decode cX4_type 0 = .ok (.iload_n 1, 1) := by decide +kernel
theorem dX4_type_1 : decode cX4_type 1 = .ok (.ifCond .lt 10, 3) := by decide +kernel
theorem dX4_type_4 : decode cX4_type 4 = .ok (.iload_n 1, 1) := by decide +kernel
theorem dX4_type_5 : decode cX4_type 5 = .ok (.sipush 255, 3) := by decide +kernel
theorem dX4_type_8 : decode cX4_type 8 = .ok (.if_icmp .le 6, 3) := by decide +kernel
theorem dX4_type_11 : decode cX4_type 11 = .ok (.bipush (-2), 2) := by decide +kernel
theorem dX4_type_13 : decode cX4_type 13 = .ok (.ireturn, 1) := by decide +kernel
theorem dX4_type_14 : decode cX4_type 14 = .ok (.aload_n 0, 1) := by decide +kernel
theorem dX4_type_15 : decode cX4_type 15 = .ok (.getfield 10, 3) := by decide +kernel
theorem dX4_type_18 : decode cX4_type 18 = .ok (.getfield 76, 3) := by decide +kernel
theorem dX4_type_21 : decode cX4_type 21 = .ok (.bipush 35, 2) := by decide +kernel
theorem dX4_type_23 : decode cX4_type 23 = .ok (.if_icmp .lt 6, 3) := by decide +kernel
theorem dX4_type_26 : decode cX4_type 26 = .ok (.bipush (-4), 2) := by decide +kernel
theorem dX4_type_28 : decode cX4_type 28 = .ok (.ireturn, 1) := by decide +kernel
theorem dX4_type_29 : decode cX4_type 29 = .ok (.aload_n 0, 1) := by decide +kernel
theorem dX4_type_30 : decode cX4_type 30 = .ok (.getfield 10, 3) := by decide +kernel
theorem dX4_type_33 : decode cX4_type 33 = .ok (.getfield 79, 3) := by decide +kernel
theorem dX4_type_36 : decode cX4_type 36 = .ok (.aload_n 0, 1) := by decide +kernel
theorem dX4_type_37 : decode cX4_type 37 = .ok (.getfield 10, 3) := by decide +kernel
theorem dX4_type_40 : decode cX4_type 40 = .ok (.getfield 76, 3) := by decide +kernel
theorem dX4_type_43 : decode cX4_type 43 = .ok (.iload_n 1, 1) := by decide +kernel
theorem dX4_type_44 : decode cX4_type 44 = .ok (.iastore, 1) := by decide +kernel
theorem dX4_type_45 : decode cX4_type 45 = .ok (.aload_n 0, 1) := by decide +kernel
theorem dX4_type_46 : decode cX4_type 46 = .ok (.aload_n 0, 1) := by decide +kernel
theorem dX4_type_47 : decode cX4_type 47 = .ok (.getfield 10, 3) := by decide +kernel
theorem dX4_type_50 : decode cX4_type 50 = .ok (.getfield 76, 3) := by decide +kernel
theorem dX4_type_53 : decode cX4_type 53 = .ok (.iconst 1, 1) := by decide +kernel
theorem dX4_type_54 : decode cX4_type 54 = .ok (.iadd, 1) := by decide +kernel
theorem dX4_type_55 : decode cX4_type 55 = .ok (.invokevirtual 82, 3) := by decide +kernel
theorem dX4_type_58 : decode cX4_type 58 = .ok (.ireturn, 1) := by decide +kernel
theorem dX4_wipe_0 : decode cX4_wipe 0 = .ok (.aload_n 0, 1) := by decide +kernel
theorem dX4_wipe_1 : decode cX4_wipe 1 = .ok (.getfield 10, 3) := by decide +kernel
theorem dX4_wipe_4 : decode cX4_wipe 4 = .ok (.getfield 76, 3) := by decide +kernel
theorem dX4_wipe_7 : decode cX4_wipe 7 = .ok (.istore_n 1, 1) := by decide +kernel
theorem dX4_wipe_8 : decode cX4_wipe 8 = .ok (.aload_n 0, 1) := by decide +kernel
theorem dX4_wipe_9 : decode cX4_wipe 9 = .ok (.iconst 0, 1) := by decide +kernel
theorem dX4_wipe_10 : decode cX4_wipe 10 = .ok (.invokevirtual 82, 3) := by decide +kernel
theorem dX4_wipe_13 : decode cX4_wipe 13 = .ok (.pop, 1) := by decide +kernel
theorem dX4_wipe_14 : decode cX4_wipe 14 = .ok (.iload_n 1, 1) := by decide +kernel
theorem dX4_wipe_15 : decode cX4_wipe 15 = .ok (.ireturn, 1) := by decide +kernel
theorem dX4_undo_0 : decode cX4_undo 0 = .ok (.aload_n 0, 1) := by decide +kernel
theorem dX4_undo_1 : decode cX4_undo 1 = .ok (.getfield 10, 3) := by decide +kernel
theorem dX4_undo_4 : decode cX4_undo 4 = .ok (.getfield 76, 3) := by decide +kernel
theorem dX4_undo_7 : decode cX4_undo 7 = .ok (.ifCond .ne 6, 3) := by decide +kernel
theorem dX4_undo_10 : decode cX4_undo 10 = .ok (.bipush (-3), 2) := by decide +kernel
theorem dX4_undo_12 : decode cX4_undo 12 = .ok (.ireturn, 1) := by decide +kernel
theorem dX4_undo_13 : decode cX4_undo 13 = .ok (.aload_n 0, 1) := by decide +kernel
theorem dX4_undo_14 : decode cX4_undo 14 = .ok (.aload_n 0, 1) := by decide +kernel
theorem dX4_undo_15 : decode cX4_undo 15 = .ok (.getfield 10, 3) := by decide +kernel
theorem dX4_undo_18 : decode cX4_undo 18 = .ok (.getfield 76, 3) := by decide +kernel
theorem dX4_undo_21 : decode cX4_undo 21 = .ok (.iconst 1, 1) := by decide +kernel
theorem dX4_undo_22 : decode cX4_undo 22 = .ok (.isub, 1) := by decide +kernel
theorem dX4_undo_23 : decode cX4_undo 23 = .ok (.invokevirtual 82, 3) := by decide +kernel
theorem dX4_undo_26 : decode cX4_undo 26 = .ok (.ireturn, 1) := by decide +kernel
theorem dX4_fault_0 : decode cX4_fault 0 = .ok (.aload_n 0, 1) := by decide +kernel
theorem dX4_fault_1 : decode cX4_fault 1 = .ok (.getfield 10, 3) := by decide +kernel
theorem dX4_fault_4 : decode cX4_fault 4 = .ok (.getfield 86, 3) := by decide +kernel
theorem dX4_fault_7 : decode cX4_fault 7 = .ok (.ireturn, 1) := by decide +kernel
theorem dX4_box_0 : decode cX4_box 0 = .ok (.aload_n 0, 1) := by decide +kernel
theorem dX4_box_1 : decode cX4_box 1 = .ok (.iload_n 1, 1) := by decide +kernel
theorem dX4_box_2 : decode cX4_box 2 = .ok (.invokevirtual 89, 3) := by decide +kernel
theorem dX4_box_5 : decode cX4_box 5 = .ok (.ifCond .eq 12, 3) := by decide +kernel
theorem dX4_box_8 : decode cX4_box 8 = .ok (.iload_n 2, 1) := by decide +kernel
theorem dX4_box_9 : decode cX4_box 9 = .ok (.ifCond .lt 8, 3) := by decide +kernel
theorem dX4_box_12 : decode cX4_box 12 = .ok (.iload_n 2, 1) := by decide +kernel
theorem dX4_box_13 : decode cX4_box 13 = .ok (.iconst 2, 1) := by decide +kernel
theorem dX4_box_14 : decode cX4_box 14 = .ok (.if_icmp .le 6, 3) := by decide +kernel
theorem dX4_box_17 : decode cX4_box 17 = .ok (.bipush (-2), 2) := by decide +kernel
theorem dX4_box_19 : decode cX4_box 19 = .ok (.ireturn, 1) := by decide +kernel
theorem dX4_box_20 : decode cX4_box 20 = .ok (.iload_n 2, 1) := by decide +kernel
theorem dX4_box_21 : decode cX4_box 21 = .ok (.ifCond .ne 13, 3) := by decide +kernel
theorem dX4_box_24 : decode cX4_box 24 = .ok (.aload_n 0, 1) := by decide +kernel
theorem dX4_box_25 : decode cX4_box 25 = .ok (.getfield 10, 3) := by decide +kernel
theorem dX4_box_28 : decode cX4_box 28 = .ok (.getfield 93, 3) := by decide +kernel
theorem dX4_box_31 : decode cX4_box 31 = .ok (.iload_n 1, 1) := by decide +kernel
theorem dX4_box_32 : decode cX4_box 32 = .ok (.iaload, 1) := by decide +kernel
theorem dX4_box_33 : decode cX4_box 33 = .ok (.ireturn, 1) := by decide +kernel
theorem dX4_box_34 : decode cX4_box 34 = .ok (.iload_n 2, 1) := by decide +kernel
theorem dX4_box_35 : decode cX4_box 35 = .ok (.iconst 1, 1) := by decide +kernel
theorem dX4_box_36 : decode cX4_box 36 = .ok (.if_icmp .ne 15, 3) := by decide +kernel
theorem dX4_box_39 : decode cX4_box 39 = .ok (.aload_n 0, 1) := by decide +kernel
theorem dX4_box_40 : decode cX4_box 40 = .ok (.getfield 10, 3) := by decide +kernel
theorem dX4_box_43 : decode cX4_box 43 = .ok (.getfield 96, 3) := by decide +kernel
theorem dX4_box_46 : decode cX4_box 46 = .ok (.iload_n 1, 1) := by decide +kernel
theorem dX4_box_47 : decode cX4_box 47 = .ok (.iaload, 1) := by decide +kernel
theorem dX4_box_48 : decode cX4_box 48 = .ok (.goto 12, 3) := by decide +kernel
theorem dX4_box_51 : decode cX4_box 51 = .ok (.aload_n 0, 1) := by decide +kernel
theorem dX4_box_52 : decode cX4_box 52 = .ok (.getfield 10, 3) := by decide +kernel
theorem dX4_box_55 : decode cX4_box 55 = .ok (.getfield 99, 3) := by decide +kernel
theorem dX4_box_58 : decode cX4_box 58 = .ok (.iload_n 1, 1) := by decide +kernel
theorem dX4_box_59 : decode cX4_box 59 = .ok (.iaload, 1) := by decide +kernel
theorem dX4_box_60 : decode cX4_box 60 = .ok (.ireturn, 1) := by decide +kernel
theorem dX4_place_0 : decode cX4_place 0 = .ok (.iload_n 1, 1) := by decide +kernel
theorem dX4_place_1 : decode cX4_place 1 = .ok (.invokestatic 102, 3) := by decide +kernel
theorem dX4_place_4 : decode cX4_place 4 = .ok (.ifCond .eq 12, 3) := by decide +kernel
theorem dX4_place_7 : decode cX4_place 7 = .ok (.aload_n 0, 1) := by decide +kernel
theorem dX4_place_8 : decode cX4_place 8 = .ok (.getfield 16, 3) := by decide +kernel
theorem dX4_place_11 : decode cX4_place 11 = .ok (.iload_n 1, 1) := by decide +kernel
theorem dX4_place_12 : decode cX4_place 12 = .ok (.iaload, 1) := by decide +kernel
theorem dX4_place_13 : decode cX4_place 13 = .ok (.goto 5, 3) := by decide +kernel
theorem dX4_place_16 : decode cX4_place 16 = .ok (.bipush (-2), 2) := by decide +kernel
theorem dX4_place_18 : decode cX4_place 18 = .ok (.ireturn, 1) := by decide +kernel
theorem dX4_swap_0 : decode cX4_swap 0 = .ok (.iload_n 1, 1) := by decide +kernel
theorem dX4_swap_1 : decode cX4_swap 1 = .ok (.invokestatic 102, 3) := by decide +kernel
theorem dX4_swap_4 : decode cX4_swap 4 = .ok (.ifCond .eq 10, 3) := by decide +kernel
theorem dX4_swap_7 : decode cX4_swap 7 = .ok (.iload_n 2, 1) := by decide +kernel
theorem dX4_swap_8 : decode cX4_swap 8 = .ok (.invokestatic 102, 3) := by decide +kernel
theorem dX4_swap_11 : decode cX4_swap 11 = .ok (.ifCond .ne 6, 3) := by decide +kernel
theorem dX4_swap_14 : decode cX4_swap 14 = .ok (.bipush (-2), 2) := by decide +kernel
theorem dX4_swap_16 : decode cX4_swap 16 = .ok (.ireturn, 1) := by decide +kernel
theorem dX4_swap_17 : decode cX4_swap 17 = .ok (.iload_n 1, 1) := by decide +kernel
theorem dX4_swap_18 : decode cX4_swap 18 = .ok (.iload_n 2, 1) := by decide +kernel
theorem dX4_swap_19 : decode cX4_swap 19 = .ok (.if_icmp .ne 5, 3) := by decide +kernel
theorem dX4_swap_22 : decode cX4_swap 22 = .ok (.iconst 0, 1) := by decide +kernel
theorem dX4_swap_23 : decode cX4_swap 23 = .ok (.ireturn, 1) := by decide +kernel
theorem dX4_swap_24 : decode cX4_swap 24 = .ok (.aload_n 0, 1) := by decide +kernel
theorem dX4_swap_25 : decode cX4_swap 25 = .ok (.getfield 16, 3) := by decide +kernel
theorem dX4_swap_28 : decode cX4_swap 28 = .ok (.iload_n 1, 1) := by decide +kernel
theorem dX4_swap_29 : decode cX4_swap 29 = .ok (.iload_n 2, 1) := by decide +kernel
theorem dX4_swap_30 : decode cX4_swap 30 = .ok (.invokestatic 105, 3) := by decide +kernel
theorem dX4_swap_33 : decode cX4_swap 33 = .ok (.aload_n 0, 1) := by decide +kernel
theorem dX4_swap_34 : decode cX4_swap 34 = .ok (.iconst 1, 1) := by decide +kernel
theorem dX4_swap_35 : decode cX4_swap 35 = .ok (.putfield 56, 3) := by decide +kernel
theorem dX4_swap_38 : decode cX4_swap 38 = .ok (.iconst 1, 1) := by decide +kernel
theorem dX4_swap_39 : decode cX4_swap 39 = .ok (.ireturn, 1) := by decide +kernel
theorem dX4_lids_0 : decode cX4_lids 0 = .ok (.iload_n 1, 1) := by decide +kernel
theorem dX4_lids_1 : decode cX4_lids 1 = .ok (.ifCond .lt 10, 3) := by decide +kernel
theorem dX4_lids_4 : decode cX4_lids 4 = .ok (.iload_n 1, 1) := by decide +kernel
theorem dX4_lids_5 : decode cX4_lids 5 = .ok (.sipush 511, 3) := by decide +kernel
theorem dX4_lids_8 : decode cX4_lids 8 = .ok (.if_icmp .le 6, 3) := by decide +kernel
theorem dX4_lids_11 : decode cX4_lids 11 = .ok (.bipush (-2), 2) := by decide +kernel
theorem dX4_lids_13 : decode cX4_lids 13 = .ok (.ireturn, 1) := by decide +kernel
theorem dX4_lids_14 : decode cX4_lids 14 = .ok (.aload_n 0, 1) := by decide +kernel
theorem dX4_lids_15 : decode cX4_lids 15 = .ok (.getfield 20, 3) := by decide +kernel
theorem dX4_lids_18 : decode cX4_lids 18 = .ok (.istore_n 2, 1) := by decide +kernel
theorem dX4_lids_19 : decode cX4_lids 19 = .ok (.aload_n 0, 1) := by decide +kernel
theorem dX4_lids_20 : decode cX4_lids 20 = .ok (.iload_n 1, 1) := by decide +kernel
theorem dX4_lids_21 : decode cX4_lids 21 = .ok (.putfield 20, 3) := by decide +kernel
theorem dX4_lids_24 : decode cX4_lids 24 = .ok (.aload_n 0, 1) := by decide +kernel
theorem dX4_lids_25 : decode cX4_lids 25 = .ok (.iconst 1, 1) := by decide +kernel
theorem dX4_lids_26 : decode cX4_lids 26 = .ok (.putfield 56, 3) := by decide +kernel
theorem dX4_lids_29 : decode cX4_lids 29 = .ok (.iload_n 2, 1) := by decide +kernel
theorem dX4_lids_30 : decode cX4_lids 30 = .ok (.ireturn, 1) := by decide +kernel
theorem dX4_tell_0 : decode cX4_tell 0 = .ok (.iload_n 1, 1) := by decide +kernel
theorem dX4_tell_1 : decode cX4_tell 1 = .ok (.iload_n 2, 1) := by decide +kernel
theorem dX4_tell_2 : decode cX4_tell 2 = .ok (.iload_n 3, 1) := by decide +kernel
theorem dX4_tell_3 : decode cX4_tell 3 = .ok (.invokestatic 109, 3) := by decide +kernel
theorem dX4_tell_6 : decode cX4_tell 6 = .ok (.ifCond .ne 6, 3) := by decide +kernel
theorem dX4_tell_9 : decode cX4_tell 9 = .ok (.bipush (-2), 2) := by decide +kernel
theorem dX4_tell_11 : decode cX4_tell 11 = .ok (.ireturn, 1) := by decide +kernel
theorem dX4_tell_12 : decode cX4_tell 12 = .ok (.aload_n 0, 1) := by decide +kernel
theorem dX4_tell_13 : decode cX4_tell 13 = .ok (.getfield 27, 3) := by decide +kernel
theorem dX4_tell_16 : decode cX4_tell 16 = .ok (.getfield 113, 3) := by decide +kernel
theorem dX4_tell_19 : decode cX4_tell 19 = .ok (.bipush 24, 2) := by decide +kernel
theorem dX4_tell_21 : decode cX4_tell 21 = .ok (.if_icmp .lt 6, 3) := by decide +kernel
theorem dX4_tell_24 : decode cX4_tell 24 = .ok (.bipush (-4), 2) := by decide +kernel
theorem dX4_tell_26 : decode cX4_tell 26 = .ok (.ireturn, 1) := by decide +kernel
theorem dX4_tell_27 : decode cX4_tell 27 = .ok (.aload_n 0, 1) := by decide +kernel
theorem dX4_tell_28 : decode cX4_tell 28 = .ok (.getfield 27, 3) := by decide +kernel
theorem dX4_tell_31 : decode cX4_tell 31 = .ok (.iload_n 1, 1) := by decide +kernel
theorem dX4_tell_32 : decode cX4_tell 32 = .ok (.iload_n 2, 1) := by decide +kernel
theorem dX4_tell_33 : decode cX4_tell 33 = .ok (.iload_n 3, 1) := by decide +kernel
theorem dX4_tell_34 : decode cX4_tell 34 = .ok (.invokevirtual 116, 3) := by decide +kernel
theorem dX4_tell_37 : decode cX4_tell 37 = .ok (.aload_n 0, 1) := by decide +kernel
theorem dX4_tell_38 : decode cX4_tell 38 = .ok (.iconst 1, 1) := by decide +kernel
theorem dX4_tell_39 : decode cX4_tell 39 = .ok (.putfield 56, 3) := by decide +kernel
theorem dX4_tell_42 : decode cX4_tell 42 = .ok (.aload_n 0, 1) := by decide +kernel
theorem dX4_tell_43 : decode cX4_tell 43 = .ok (.getfield 27, 3) := by decide +kernel
theorem dX4_tell_46 : decode cX4_tell 46 = .ok (.getfield 113, 3) := by decide +kernel
theorem dX4_tell_49 : decode cX4_tell 49 = .ok (.ireturn, 1) := by decide +kernel
theorem dX4_back_0 : decode cX4_back 0 = .ok (.aload_n 0, 1) := by decide +kernel
theorem dX4_back_1 : decode cX4_back 1 = .ok (.getfield 27, 3) := by decide +kernel
theorem dX4_back_4 : decode cX4_back 4 = .ok (.getfield 113, 3) := by decide +kernel
theorem dX4_back_7 : decode cX4_back 7 = .ok (.ifCond .ne 6, 3) := by decide +kernel
theorem dX4_back_10 : decode cX4_back 10 = .ok (.bipush (-3), 2) := by decide +kernel
theorem dX4_back_12 : decode cX4_back 12 = .ok (.ireturn, 1) := by decide +kernel
theorem dX4_back_13 : decode cX4_back 13 = .ok (.aload_n 0, 1) := by decide +kernel
theorem dX4_back_14 : decode cX4_back 14 = .ok (.getfield 27, 3) := by decide +kernel
theorem dX4_back_17 : decode cX4_back 17 = .ok (.dup, 1) := by decide +kernel
theorem dX4_back_18 : decode cX4_back 18 = .ok (.getfield 113, 3) := by decide +kernel
theorem dX4_back_21 : decode cX4_back 21 = .ok (.iconst 1, 1) := by decide +kernel
theorem dX4_back_22 : decode cX4_back 22 = .ok (.isub, 1) := by decide +kernel
theorem dX4_back_23 : decode cX4_back 23 = .ok (.putfield 113, 3) := by decide +kernel
theorem dX4_back_26 : decode cX4_back 26 = .ok (.aload_n 0, 1) := by decide +kernel
theorem dX4_back_27 : decode cX4_back 27 = .ok (.iconst 1, 1) := by decide +kernel
theorem dX4_back_28 : decode cX4_back 28 = .ok (.putfield 56, 3) := by decide +kernel
theorem dX4_back_31 : decode cX4_back 31 = .ok (.aload_n 0, 1) := by decide +kernel
theorem dX4_back_32 : decode cX4_back 32 = .ok (.getfield 27, 3) := by decide +kernel
theorem dX4_back_35 : decode cX4_back 35 = .ok (.getfield 113, 3) := by decide +kernel
theorem dX4_back_38 : decode cX4_back 38 = .ok (.ireturn, 1) := by decide +kernel
theorem dX4_read_0 : decode cX4_read 0 = .ok (.iload_n 1, 1) := by decide +kernel
theorem dX4_read_1 : decode cX4_read 1 = .ok (.invokestatic 120, 3) := by decide +kernel
theorem dX4_read_4 : decode cX4_read 4 = .ok (.ifCond .ne 6, 3) := by decide +kernel
theorem dX4_read_7 : decode cX4_read 7 = .ok (.bipush (-2), 2) := by decide +kernel
theorem dX4_read_9 : decode cX4_read 9 = .ok (.ireturn, 1) := by decide +kernel
theorem dX4_read_10 : decode cX4_read 10 = .ok (.aload_n 0, 1) := by decide +kernel
theorem dX4_read_11 : decode cX4_read 11 = .ok (.getfield 42, 3) := by decide +kernel
theorem dX4_read_14 : decode cX4_read 14 = .ok (.iload_n 1, 1) := by decide +kernel
theorem dX4_read_15 : decode cX4_read 15 = .ok (.aaload, 1) := by decide +kernel
theorem dX4_read_16 : decode cX4_read 16 = .ok (.astore_n 2, 1) := by decide +kernel
theorem dX4_read_17 : decode cX4_read 17 = .ok (.aload_n 2, 1) := by decide +kernel
theorem dX4_read_18 : decode cX4_read 18 = .ok (.getfield 123, 3) := by decide +kernel
theorem dX4_read_21 : decode cX4_read 21 = .ok (.ifCond .eq 9, 3) := by decide +kernel
theorem dX4_read_24 : decode cX4_read 24 = .ok (.aload_n 0, 1) := by decide +kernel
theorem dX4_read_25 : decode cX4_read 25 = .ok (.iconst 1, 1) := by decide +kernel
theorem dX4_read_26 : decode cX4_read 26 = .ok (.invokevirtual 126, 3) := by decide +kernel
theorem dX4_read_29 : decode cX4_read 29 = .ok (.ireturn, 1) := by decide +kernel
theorem dX4_read_30 : decode cX4_read 30 = .ok (.aload_n 0, 1) := by decide +kernel
theorem dX4_read_31 : decode cX4_read 31 = .ok (.getfield 27, 3) := by decide +kernel
theorem dX4_read_34 : decode cX4_read 34 = .ok (.getfield 113, 3) := by decide +kernel
theorem dX4_read_37 : decode cX4_read 37 = .ok (.istore_n 3, 1) := by decide +kernel
theorem dX4_read_38 : decode cX4_read 38 = .ok (.iconst 1, 1) := by decide +kernel
theorem dX4_read_39 : decode cX4_read 39 = .ok (.istore 4, 2) := by decide +kernel
theorem dX4_read_41 : decode cX4_read 41 = .ok (.iconst 0, 1) := by decide +kernel
theorem dX4_read_42 : decode cX4_read 42 = .ok (.istore 5, 2) := by decide +kernel
theorem dX4_read_44 : decode cX4_read 44 = .ok (.iload 4, 2) := by decide +kernel
theorem dX4_read_46 : decode cX4_read 46 = .ok (.ifCond .eq 68, 3) := by decide +kernel
theorem dX4_read_49 : decode cX4_read 49 = .ok (.iload 5, 2) := by decide +kernel
theorem dX4_read_51 : decode cX4_read 51 = .ok (.iconst 2, 1) := by decide +kernel
theorem dX4_read_52 : decode cX4_read 52 = .ok (.iadd, 1) := by decide +kernel
theorem dX4_read_53 : decode cX4_read 53 = .ok (.aload_n 2, 1) := by decide +kernel
theorem dX4_read_54 : decode cX4_read 54 = .ok (.getfield 129, 3) := by decide +kernel
theorem dX4_read_57 : decode cX4_read 57 = .ok (.if_icmp .ge 57, 3) := by decide +kernel
theorem dX4_read_60 : decode cX4_read 60 = .ok (.iload 5, 2) := by decide +kernel
theorem dX4_read_62 : decode cX4_read 62 = .ok (.iconst 2, 1) := by decide +kernel
theorem dX4_read_63 : decode cX4_read 63 = .ok (.iadd, 1) := by decide +kernel
theorem dX4_read_64 : decode cX4_read 64 = .ok (.bipush 60, 2) := by decide +kernel
theorem dX4_read_66 : decode cX4_read 66 = .ok (.if_icmp .ge 48, 3) := by decide +kernel
theorem dX4_read_69 : decode cX4_read 69 = .ok (.aload_n 0, 1) := by decide +kernel
theorem dX4_read_70 : decode cX4_read 70 = .ok (.aload_n 2, 1) := by decide +kernel
theorem dX4_read_71 : decode cX4_read 71 = .ok (.getfield 130, 3) := by decide +kernel
theorem dX4_read_74 : decode cX4_read 74 = .ok (.iload 5, 2) := by decide +kernel
theorem dX4_read_76 : decode cX4_read 76 = .ok (.iaload, 1) := by decide +kernel
theorem dX4_read_77 : decode cX4_read 77 = .ok (.aload_n 2, 1) := by decide +kernel
theorem dX4_read_78 : decode cX4_read 78 = .ok (.getfield 130, 3) := by decide +kernel
theorem dX4_read_81 : decode cX4_read 81 = .ok (.iload 5, 2) := by decide +kernel
theorem dX4_read_83 : decode cX4_read 83 = .ok (.iconst 1, 1) := by decide +kernel
theorem dX4_read_84 : decode cX4_read 84 = .ok (.iadd, 1) := by decide +kernel
theorem dX4_read_85 : decode cX4_read 85 = .ok (.iaload, 1) := by decide +kernel
theorem dX4_read_86 : decode cX4_read 86 = .ok (.aload_n 2, 1) := by decide +kernel
theorem dX4_read_87 : decode cX4_read 87 = .ok (.getfield 130, 3) := by decide +kernel
theorem dX4_read_90 : decode cX4_read 90 = .ok (.iload 5, 2) := by decide +kernel
theorem dX4_read_92 : decode cX4_read 92 = .ok (.iconst 2, 1) := by decide +kernel
theorem dX4_read_93 : decode cX4_read 93 = .ok (.iadd, 1) := by decide +kernel
theorem dX4_read_94 : decode cX4_read 94 = .ok (.iaload, 1) := by decide +kernel
theorem dX4_read_95 : decode cX4_read 95 = .ok (.invokevirtual 133, 3) := by decide +kernel
theorem dX4_read_98 : decode cX4_read 98 = .ok (.ifCond .le 7, 3) := by decide +kernel
theorem dX4_read_101 : decode cX4_read 101 = .ok (.iconst 1, 1) := by decide +kernel
theorem dX4_read_102 : decode cX4_read 102 = .ok (.goto 4, 3) := by decide +kernel
theorem dX4_read_105 : decode cX4_read 105 = .ok (.iconst 0, 1) := by decide +kernel
theorem dX4_read_106 : decode cX4_read 106 = .ok (.istore 4, 2) := by decide +kernel
theorem dX4_read_108 : decode cX4_read 108 = .ok (.iinc 5 3, 3) := by decide +kernel
theorem dX4_read_111 : decode cX4_read 111 = .ok (.goto (-67), 3) := by decide +kernel
theorem dX4_read_114 : decode cX4_read 114 = .ok (.aload_n 0, 1) := by decide +kernel
theorem dX4_read_115 : decode cX4_read 115 = .ok (.getfield 27, 3) := by decide +kernel
theorem dX4_read_118 : decode cX4_read 118 = .ok (.getfield 113, 3) := by decide +kernel
theorem dX4_read_121 : decode cX4_read 121 = .ok (.iload_n 3, 1) := by decide +kernel
theorem dX4_read_122 : decode cX4_read 122 = .ok (.isub, 1) := by decide +kernel
theorem dX4_read_123 : decode cX4_read 123 = .ok (.ireturn, 1) := by decide +kernel
theorem dX4_step_0 : decode cX4_step 0 = .ok (.iload_n 1, 1) := by decide +kernel
theorem dX4_step_1 : decode cX4_step 1 = .ok (.invokestatic 137, 3) := by decide +kernel
theorem dX4_step_4 : decode cX4_step 4 = .ok (.ifCond .eq 10, 3) := by decide +kernel
theorem dX4_step_7 : decode cX4_step 7 = .ok (.iload_n 2, 1) := by decide +kernel
theorem dX4_step_8 : decode cX4_step 8 = .ok (.invokestatic 140, 3) := by decide +kernel
theorem dX4_step_11 : decode cX4_step 11 = .ok (.ifCond .ne 6, 3) := by decide +kernel
theorem dX4_step_14 : decode cX4_step 14 = .ok (.bipush (-2), 2) := by decide +kernel
theorem dX4_step_16 : decode cX4_step 16 = .ok (.ireturn, 1) := by decide +kernel
theorem dX4_step_17 : decode cX4_step 17 = .ok (.aload_n 0, 1) := by decide +kernel
theorem dX4_step_18 : decode cX4_step 18 = .ok (.invokevirtual 143, 3) := by decide +kernel
theorem dX4_step_21 : decode cX4_step 21 = .ok (.iload_n 2, 1) := by decide +kernel
theorem dX4_step_22 : decode cX4_step 22 = .ok (.ifCond .ne 15, 3) := by decide +kernel
theorem dX4_step_25 : decode cX4_step 25 = .ok (.aload_n 0, 1) := by decide +kernel
theorem dX4_step_26 : decode cX4_step 26 = .ok (.getfield 52, 3) := by decide +kernel
theorem dX4_step_29 : decode cX4_step 29 = .ok (.getfield 146, 3) := by decide +kernel
theorem dX4_step_32 : decode cX4_step 32 = .ok (.iload_n 1, 1) := by decide +kernel
theorem dX4_step_33 : decode cX4_step 33 = .ok (.iaload, 1) := by decide +kernel
theorem dX4_step_34 : decode cX4_step 34 = .ok (.goto 12, 3) := by decide +kernel
theorem dX4_step_37 : decode cX4_step 37 = .ok (.aload_n 0, 1) := by decide +kernel
theorem dX4_step_38 : decode cX4_step 38 = .ok (.getfield 52, 3) := by decide +kernel
theorem dX4_step_41 : decode cX4_step 41 = .ok (.getfield 149, 3) := by decide +kernel
theorem dX4_step_44 : decode cX4_step 44 = .ok (.iload_n 1, 1) := by decide +kernel
theorem dX4_step_45 : decode cX4_step 45 = .ok (.iaload, 1) := by decide +kernel
theorem dX4_step_46 : decode cX4_step 46 = .ok (.ireturn, 1) := by decide +kernel
theorem dX4_spring_0 : decode cX4_spring 0 = .ok (.iload_n 1, 1) := by decide +kernel
theorem dX4_spring_1 : decode cX4_spring 1 = .ok (.invokestatic 137, 3) := by decide +kernel
theorem dX4_spring_4 : decode cX4_spring 4 = .ok (.ifCond .eq 11, 3) := by decide +kernel
theorem dX4_spring_7 : decode cX4_spring 7 = .ok (.aload_n 0, 1) := by decide +kernel
theorem dX4_spring_8 : decode cX4_spring 8 = .ok (.iload_n 2, 1) := by decide +kernel
theorem dX4_spring_9 : decode cX4_spring 9 = .ok (.invokevirtual 89, 3) := by decide +kernel
theorem dX4_spring_12 : decode cX4_spring 12 = .ok (.ifCond .ne 6, 3) := by decide +kernel
theorem dX4_spring_15 : decode cX4_spring 15 = .ok (.bipush (-2), 2) := by decide +kernel
theorem dX4_spring_17 : decode cX4_spring 17 = .ok (.ireturn, 1) := by decide +kernel
theorem dX4_spring_18 : decode cX4_spring 18 = .ok (.aload_n 0, 1) := by decide +kernel
theorem dX4_spring_19 : decode cX4_spring 19 = .ok (.invokevirtual 143, 3) := by decide +kernel
theorem dX4_spring_22 : decode cX4_spring 22 = .ok (.aload_n 0, 1) := by decide +kernel
theorem dX4_spring_23 : decode cX4_spring 23 = .ok (.getfield 10, 3) := by decide +kernel
theorem dX4_spring_26 : decode cX4_spring 26 = .ok (.getfield 99, 3) := by decide +kernel
theorem dX4_spring_29 : decode cX4_spring 29 = .ok (.iload_n 2, 1) := by decide +kernel
theorem dX4_spring_30 : decode cX4_spring 30 = .ok (.iaload, 1) := by decide +kernel
theorem dX4_spring_31 : decode cX4_spring 31 = .ok (.istore_n 3, 1) := by decide +kernel
theorem dX4_spring_32 : decode cX4_spring 32 = .ok (.iconst 0, 1) := by decide +kernel
theorem dX4_spring_33 : decode cX4_spring 33 = .ok (.istore 4, 2) := by decide +kernel
theorem dX4_spring_35 : decode cX4_spring 35 = .ok (.iload 4, 2) := by decide +kernel
theorem dX4_spring_37 : decode cX4_spring 37 = .ok (.iload_n 1, 1) := by decide +kernel
theorem dX4_spring_38 : decode cX4_spring 38 = .ok (.if_icmp .gt 26, 3) := by decide +kernel
theorem dX4_spring_41 : decode cX4_spring 41 = .ok (.iload_n 3, 1) := by decide +kernel
theorem dX4_spring_42 : decode cX4_spring 42 = .ok (.aload_n 0, 1) := by decide +kernel
theorem dX4_spring_43 : decode cX4_spring 43 = .ok (.getfield 52, 3) := by decide +kernel
theorem dX4_spring_46 : decode cX4_spring 46 = .ok (.getfield 146, 3) := by decide +kernel
theorem dX4_spring_49 : decode cX4_spring 49 = .ok (.iload 4, 2) := by decide +kernel
theorem dX4_spring_51 : decode cX4_spring 51 = .ok (.iaload, 1) := by decide +kernel
theorem dX4_spring_52 : decode cX4_spring 52 = .ok (.iload_n 2, 1) := by decide +kernel
theorem dX4_spring_53 : decode cX4_spring 53 = .ok (.ishr, 1) := by decide +kernel
theorem dX4_spring_54 : decode cX4_spring 54 = .ok (.iconst 1, 1) := by decide +kernel
theorem dX4_spring_55 : decode cX4_spring 55 = .ok (.iand, 1) := by decide +kernel
theorem dX4_spring_56 : decode cX4_spring 56 = .ok (.isub, 1) := by decide +kernel
theorem dX4_spring_57 : decode cX4_spring 57 = .ok (.istore_n 3, 1) := by decide +kernel
theorem dX4_spring_58 : decode cX4_spring 58 = .ok (.iinc 4 1, 3) := by decide +kernel
theorem dX4_spring_61 : decode cX4_spring 61 = .ok (.goto (-26), 3) := by decide +kernel
theorem dX4_spring_64 : decode cX4_spring 64 = .ok (.iload_n 3, 1) := by decide +kernel
theorem dX4_spring_65 : decode cX4_spring 65 = .ok (.ireturn, 1) := by decide +kernel
theorem dX4_quiet_0 : decode cX4_quiet 0 = .ok (.aload_n 0, 1) := by decide +kernel
theorem dX4_quiet_1 : decode cX4_quiet 1 = .ok (.invokevirtual 143, 3) := by decide +kernel
theorem dX4_quiet_4 : decode cX4_quiet 4 = .ok (.bipush 60, 2) := by decide +kernel
theorem dX4_quiet_6 : decode cX4_quiet 6 = .ok (.istore_n 1, 1) := by decide +kernel
theorem dX4_quiet_7 : decode cX4_quiet 7 = .ok (.iload_n 1, 1) := by decide +kernel
theorem dX4_quiet_8 : decode cX4_quiet 8 = .ok (.ifCond .le 23, 3) := by decide +kernel
theorem dX4_quiet_11 : decode cX4_quiet 11 = .ok (.aload_n 0, 1) := by decide +kernel
theorem dX4_quiet_12 : decode cX4_quiet 12 = .ok (.getfield 52, 3) := by decide +kernel
theorem dX4_quiet_15 : decode cX4_quiet 15 = .ok (.getfield 146, 3) := by decide +kernel
theorem dX4_quiet_18 : decode cX4_quiet 18 = .ok (.iload_n 1, 1) := by decide +kernel
theorem dX4_quiet_19 : decode cX4_quiet 19 = .ok (.iconst 1, 1) := by decide +kernel
theorem dX4_quiet_20 : decode cX4_quiet 20 = .ok (.isub, 1) := by decide +kernel
theorem dX4_quiet_21 : decode cX4_quiet 21 = .ok (.iaload, 1) := by decide +kernel
theorem dX4_quiet_22 : decode cX4_quiet 22 = .ok (.ifCond .ne 9, 3) := by decide +kernel
theorem dX4_quiet_25 : decode cX4_quiet 25 = .ok (.iinc 1 (-1), 3) := by decide +kernel
theorem dX4_quiet_28 : decode cX4_quiet 28 = .ok (.goto (-21), 3) := by decide +kernel
theorem dX4_quiet_31 : decode cX4_quiet 31 = .ok (.iload_n 1, 1) := by decide +kernel
theorem dX4_quiet_32 : decode cX4_quiet 32 = .ok (.bipush 60, 2) := by decide +kernel
theorem dX4_quiet_34 : decode cX4_quiet 34 = .ok (.if_icmp .ne 7, 3) := by decide +kernel
theorem dX4_quiet_37 : decode cX4_quiet 37 = .ok (.iconst (-1), 1) := by decide +kernel
theorem dX4_quiet_38 : decode cX4_quiet 38 = .ok (.goto 4, 3) := by decide +kernel
theorem dX4_quiet_41 : decode cX4_quiet 41 = .ok (.iload_n 1, 1) := by decide +kernel
theorem dX4_quiet_42 : decode cX4_quiet 42 = .ok (.ireturn, 1) := by decide +kernel
theorem dX4_loudest_0 : decode cX4_loudest 0 = .ok (.iload_n 1, 1) := by decide +kernel
theorem dX4_loudest_1 : decode cX4_loudest 1 = .ok (.invokestatic 140, 3) := by decide +kernel
theorem dX4_loudest_4 : decode cX4_loudest 4 = .ok (.ifCond .ne 6, 3) := by decide +kernel
theorem dX4_loudest_7 : decode cX4_loudest 7 = .ok (.bipush (-2), 2) := by decide +kernel
theorem dX4_loudest_9 : decode cX4_loudest 9 = .ok (.ireturn, 1) := by decide +kernel
theorem dX4_loudest_10 : decode cX4_loudest 10 = .ok (.aload_n 0, 1) := by decide +kernel
theorem dX4_loudest_11 : decode cX4_loudest 11 = .ok (.invokevirtual 143, 3) := by decide +kernel
theorem dX4_loudest_14 : decode cX4_loudest 14 = .ok (.iconst (-1), 1) := by decide +kernel
theorem dX4_loudest_15 : decode cX4_loudest 15 = .ok (.istore_n 2, 1) := by decide +kernel
theorem dX4_loudest_16 : decode cX4_loudest 16 = .ok (.iconst 0, 1) := by decide +kernel
theorem dX4_loudest_17 : decode cX4_loudest 17 = .ok (.istore_n 3, 1) := by decide +kernel
theorem dX4_loudest_18 : decode cX4_loudest 18 = .ok (.iconst 0, 1) := by decide +kernel
theorem dX4_loudest_19 : decode cX4_loudest 19 = .ok (.istore 4, 2) := by decide +kernel
theorem dX4_loudest_21 : decode cX4_loudest 21 = .ok (.iload 4, 2) := by decide +kernel
theorem dX4_loudest_23 : decode cX4_loudest 23 = .ok (.bipush 60, 2) := by decide +kernel
theorem dX4_loudest_25 : decode cX4_loudest 25 = .ok (.if_icmp .ge 36, 3) := by decide +kernel
theorem dX4_loudest_28 : decode cX4_loudest 28 = .ok (.aload_n 0, 1) := by decide +kernel
theorem dX4_loudest_29 : decode cX4_loudest 29 = .ok (.getfield 52, 3) := by decide +kernel
theorem dX4_loudest_32 : decode cX4_loudest 32 = .ok (.getfield 146, 3) := by decide +kernel
theorem dX4_loudest_35 : decode cX4_loudest 35 = .ok (.iload 4, 2) := by decide +kernel
theorem dX4_loudest_37 : decode cX4_loudest 37 = .ok (.iaload, 1) := by decide +kernel
theorem dX4_loudest_38 : decode cX4_loudest 38 = .ok (.invokestatic 152, 3) := by decide +kernel
theorem dX4_loudest_41 : decode cX4_loudest 41 = .ok (.istore 5, 2) := by decide +kernel
theorem dX4_loudest_43 : decode cX4_loudest 43 = .ok (.iload 5, 2) := by decide +kernel
theorem dX4_loudest_45 : decode cX4_loudest 45 = .ok (.iload_n 3, 1) := by decide +kernel
theorem dX4_loudest_46 : decode cX4_loudest 46 = .ok (.if_icmp .le 9, 3) := by decide +kernel
theorem dX4_loudest_49 : decode cX4_loudest 49 = .ok (.iload 5, 2) := by decide +kernel
theorem dX4_loudest_51 : decode cX4_loudest 51 = .ok (.istore_n 3, 1) := by decide +kernel
theorem dX4_loudest_52 : decode cX4_loudest 52 = .ok (.iload 4, 2) := by decide +kernel
theorem dX4_loudest_54 : decode cX4_loudest 54 = .ok (.istore_n 2, 1) := by decide +kernel
theorem dX4_loudest_55 : decode cX4_loudest 55 = .ok (.iinc 4 1, 3) := by decide +kernel
theorem dX4_loudest_58 : decode cX4_loudest 58 = .ok (.goto (-37), 3) := by decide +kernel
theorem dX4_loudest_61 : decode cX4_loudest 61 = .ok (.iload_n 2, 1) := by decide +kernel
theorem dX4_loudest_62 : decode cX4_loudest 62 = .ok (.iconst (-1), 1) := by decide +kernel
theorem dX4_loudest_63 : decode cX4_loudest 63 = .ok (.if_icmp .eq 7, 3) := by decide +kernel
theorem dX4_loudest_66 : decode cX4_loudest 66 = .ok (.iload_n 1, 1) := by decide +kernel
theorem dX4_loudest_67 : decode cX4_loudest 67 = .ok (.ifCond .ne 7, 3) := by decide +kernel
theorem dX4_loudest_70 : decode cX4_loudest 70 = .ok (.iload_n 2, 1) := by decide +kernel
theorem dX4_loudest_71 : decode cX4_loudest 71 = .ok (.goto 4, 3) := by decide +kernel
theorem dX4_loudest_74 : decode cX4_loudest 74 = .ok (.iload_n 3, 1) := by decide +kernel
theorem dX4_loudest_75 : decode cX4_loudest 75 = .ok (.ireturn, 1) := by decide +kernel
theorem dX4_first_0 : decode cX4_first 0 = .ok (.aload_n 0, 1) := by decide +kernel
theorem dX4_first_1 : decode cX4_first 1 = .ok (.iload_n 1, 1) := by decide +kernel
theorem dX4_first_2 : decode cX4_first 2 = .ok (.invokevirtual 89, 3) := by decide +kernel
theorem dX4_first_5 : decode cX4_first 5 = .ok (.ifCond .ne 6, 3) := by decide +kernel
theorem dX4_first_8 : decode cX4_first 8 = .ok (.bipush (-2), 2) := by decide +kernel
theorem dX4_first_10 : decode cX4_first 10 = .ok (.ireturn, 1) := by decide +kernel
theorem dX4_first_11 : decode cX4_first 11 = .ok (.aload_n 0, 1) := by decide +kernel
theorem dX4_first_12 : decode cX4_first 12 = .ok (.invokevirtual 143, 3) := by decide +kernel
theorem dX4_first_15 : decode cX4_first 15 = .ok (.iconst 0, 1) := by decide +kernel
theorem dX4_first_16 : decode cX4_first 16 = .ok (.istore_n 2, 1) := by decide +kernel
theorem dX4_first_17 : decode cX4_first 17 = .ok (.iload_n 2, 1) := by decide +kernel
theorem dX4_first_18 : decode cX4_first 18 = .ok (.bipush 60, 2) := by decide +kernel
theorem dX4_first_20 : decode cX4_first 20 = .ok (.if_icmp .ge 27, 3) := by decide +kernel
theorem dX4_first_23 : decode cX4_first 23 = .ok (.aload_n 0, 1) := by decide +kernel
theorem dX4_first_24 : decode cX4_first 24 = .ok (.getfield 52, 3) := by decide +kernel
theorem dX4_first_27 : decode cX4_first 27 = .ok (.getfield 146, 3) := by decide +kernel
theorem dX4_first_30 : decode cX4_first 30 = .ok (.iload_n 2, 1) := by decide +kernel
theorem dX4_first_31 : decode cX4_first 31 = .ok (.iaload, 1) := by decide +kernel
theorem dX4_first_32 : decode cX4_first 32 = .ok (.iload_n 1, 1) := by decide +kernel
theorem dX4_first_33 : decode cX4_first 33 = .ok (.ishr, 1) := by decide +kernel
theorem dX4_first_34 : decode cX4_first 34 = .ok (.iconst 1, 1) := by decide +kernel
theorem dX4_first_35 : decode cX4_first 35 = .ok (.iand, 1) := by decide +kernel
theorem dX4_first_36 : decode cX4_first 36 = .ok (.ifCond .eq 5, 3) := by decide +kernel
theorem dX4_first_39 : decode cX4_first 39 = .ok (.iload_n 2, 1) := by decide +kernel
theorem dX4_first_40 : decode cX4_first 40 = .ok (.ireturn, 1) := by decide +kernel
theorem dX4_first_41 : decode cX4_first 41 = .ok (.iinc 2 1, 3) := by decide +kernel
theorem dX4_first_44 : decode cX4_first 44 = .ok (.goto (-27), 3) := by decide +kernel
theorem dX4_first_47 : decode cX4_first 47 = .ok (.iconst (-1), 1) := by decide +kernel
theorem dX4_first_48 : decode cX4_first 48 = .ok (.ireturn, 1) := by decide +kernel
theorem dX4_together_0 : decode cX4_together 0 = .ok (.aload_n 0, 1) := by decide +kernel
theorem dX4_together_1 : decode cX4_together 1 = .ok (.iload_n 1, 1) := by decide +kernel
theorem dX4_together_2 : decode cX4_together 2 = .ok (.invokevirtual 89, 3) := by decide +kernel
theorem dX4_together_5 : decode cX4_together 5 = .ok (.ifCond .eq 16, 3) := by decide +kernel
theorem dX4_together_8 : decode cX4_together 8 = .ok (.aload_n 0, 1) := by decide +kernel
theorem dX4_together_9 : decode cX4_together 9 = .ok (.iload_n 2, 1) := by decide +kernel
theorem dX4_together_10 : decode cX4_together 10 = .ok (.invokevirtual 89, 3) := by decide +kernel
theorem dX4_together_13 : decode cX4_together 13 = .ok (.ifCond .eq 8, 3) := by decide +kernel
theorem dX4_together_16 : decode cX4_together 16 = .ok (.iload_n 1, 1) := by decide +kernel
theorem dX4_together_17 : decode cX4_together 17 = .ok (.iload_n 2, 1) := by decide +kernel
theorem dX4_together_18 : decode cX4_together 18 = .ok (.if_icmp .ne 6, 3) := by decide +kernel
theorem dX4_together_21 : decode cX4_together 21 = .ok (.bipush (-2), 2) := by decide +kernel
theorem dX4_together_23 : decode cX4_together 23 = .ok (.ireturn, 1) := by decide +kernel
theorem dX4_together_24 : decode cX4_together 24 = .ok (.aload_n 0, 1) := by decide +kernel
theorem dX4_together_25 : decode cX4_together 25 = .ok (.invokevirtual 143, 3) := by decide +kernel
theorem dX4_together_28 : decode cX4_together 28 = .ok (.iconst 1, 1) := by decide +kernel
theorem dX4_together_29 : decode cX4_together 29 = .ok (.iload_n 1, 1) := by decide +kernel
theorem dX4_together_30 : decode cX4_together 30 = .ok (.ishl, 1) := by decide +kernel
theorem dX4_together_31 : decode cX4_together 31 = .ok (.iconst 1, 1) := by decide +kernel
theorem dX4_together_32 : decode cX4_together 32 = .ok (.iload_n 2, 1) := by decide +kernel
theorem dX4_together_33 : decode cX4_together 33 = .ok (.ishl, 1) := by decide +kernel
theorem dX4_together_34 : decode cX4_together 34 = .ok (.ior, 1) := by decide +kernel
theorem dX4_together_35 : decode cX4_together 35 = .ok (.istore_n 3, 1) := by decide +kernel
theorem dX4_together_36 : decode cX4_together 36 = .ok (.iconst 0, 1) := by decide +kernel
theorem dX4_together_37 : decode cX4_together 37 = .ok (.istore 4, 2) := by decide +kernel
theorem dX4_together_39 : decode cX4_together 39 = .ok (.iconst 0, 1) := by decide +kernel
theorem dX4_together_40 : decode cX4_together 40 = .ok (.istore 5, 2) := by decide +kernel
theorem dX4_together_42 : decode cX4_together 42 = .ok (.iload 5, 2) := by decide +kernel
theorem dX4_together_44 : decode cX4_together 44 = .ok (.bipush 60, 2) := by decide +kernel
theorem dX4_together_46 : decode cX4_together 46 = .ok (.if_icmp .ge 28, 3) := by decide +kernel
theorem dX4_together_49 : decode cX4_together 49 = .ok (.aload_n 0, 1) := by decide +kernel
theorem dX4_together_50 : decode cX4_together 50 = .ok (.getfield 52, 3) := by decide +kernel
theorem dX4_together_53 : decode cX4_together 53 = .ok (.getfield 149, 3) := by decide +kernel
theorem dX4_together_56 : decode cX4_together 56 = .ok (.iload 5, 2) := by decide +kernel
theorem dX4_together_58 : decode cX4_together 58 = .ok (.iaload, 1) := by decide +kernel
theorem dX4_together_59 : decode cX4_together 59 = .ok (.iload_n 3, 1) := by decide +kernel
theorem dX4_together_60 : decode cX4_together 60 = .ok (.iand, 1) := by decide +kernel
theorem dX4_together_61 : decode cX4_together 61 = .ok (.iload_n 3, 1) := by decide +kernel
theorem dX4_together_62 : decode cX4_together 62 = .ok (.if_icmp .ne 6, 3) := by decide +kernel
theorem dX4_together_65 : decode cX4_together 65 = .ok (.iinc 4 1, 3) := by decide +kernel
theorem dX4_together_68 : decode cX4_together 68 = .ok (.iinc 5 1, 3) := by decide +kernel
theorem dX4_together_71 : decode cX4_together 71 = .ok (.goto (-29), 3) := by decide +kernel
theorem dX4_together_74 : decode cX4_together 74 = .ok (.iload 4, 2) := by decide +kernel
theorem dX4_together_76 : decode cX4_together 76 = .ok (.ireturn, 1) := by decide +kernel
theorem dX4_news_0 : decode cX4_news 0 = .ok (.aload_n 0, 1) := by decide +kernel
theorem dX4_news_1 : decode cX4_news 1 = .ok (.iload_n 1, 1) := by decide +kernel
theorem dX4_news_2 : decode cX4_news 2 = .ok (.invokevirtual 89, 3) := by decide +kernel
theorem dX4_news_5 : decode cX4_news 5 = .ok (.ifCond .eq 23, 3) := by decide +kernel
theorem dX4_news_8 : decode cX4_news 8 = .ok (.iload_n 2, 1) := by decide +kernel
theorem dX4_news_9 : decode cX4_news 9 = .ok (.invokestatic 137, 3) := by decide +kernel
theorem dX4_news_12 : decode cX4_news 12 = .ok (.ifCond .eq 16, 3) := by decide +kernel
theorem dX4_news_15 : decode cX4_news 15 = .ok (.aload_n 0, 1) := by decide +kernel
theorem dX4_news_16 : decode cX4_news 16 = .ok (.iload_n 3, 1) := by decide +kernel
theorem dX4_news_17 : decode cX4_news 17 = .ok (.invokevirtual 89, 3) := by decide +kernel
theorem dX4_news_20 : decode cX4_news 20 = .ok (.ifCond .eq 8, 3) := by decide +kernel
theorem dX4_news_23 : decode cX4_news 23 = .ok (.iload_n 1, 1) := by decide +kernel
theorem dX4_news_24 : decode cX4_news 24 = .ok (.iload_n 3, 1) := by decide +kernel
theorem dX4_news_25 : decode cX4_news 25 = .ok (.if_icmp .ne 6, 3) := by decide +kernel
theorem dX4_news_28 : decode cX4_news 28 = .ok (.bipush (-2), 2) := by decide +kernel
theorem dX4_news_30 : decode cX4_news 30 = .ok (.ireturn, 1) := by decide +kernel
theorem dX4_news_31 : decode cX4_news 31 = .ok (.aload_n 0, 1) := by decide +kernel
theorem dX4_news_32 : decode cX4_news 32 = .ok (.invokevirtual 143, 3) := by decide +kernel
theorem dX4_news_35 : decode cX4_news 35 = .ok (.iconst 1, 1) := by decide +kernel
theorem dX4_news_36 : decode cX4_news 36 = .ok (.iload_n 1, 1) := by decide +kernel
theorem dX4_news_37 : decode cX4_news 37 = .ok (.ishl, 1) := by decide +kernel
theorem dX4_news_38 : decode cX4_news 38 = .ok (.istore 4, 2) := by decide +kernel
theorem dX4_news_40 : decode cX4_news 40 = .ok (.iload_n 2, 1) := by decide +kernel
theorem dX4_news_41 : decode cX4_news 41 = .ok (.istore 5, 2) := by decide +kernel
theorem dX4_news_43 : decode cX4_news 43 = .ok (.iload 5, 2) := by decide +kernel
theorem dX4_news_45 : decode cX4_news 45 = .ok (.bipush 60, 2) := by decide +kernel
theorem dX4_news_47 : decode cX4_news 47 = .ok (.if_icmp .ge 38, 3) := by decide +kernel
theorem dX4_news_50 : decode cX4_news 50 = .ok (.iload 4, 2) := by decide +kernel
theorem dX4_news_52 : decode cX4_news 52 = .ok (.aload_n 0, 1) := by decide +kernel
theorem dX4_news_53 : decode cX4_news 53 = .ok (.getfield 52, 3) := by decide +kernel
theorem dX4_news_56 : decode cX4_news 56 = .ok (.getfield 149, 3) := by decide +kernel
theorem dX4_news_59 : decode cX4_news 59 = .ok (.iload 5, 2) := by decide +kernel
theorem dX4_news_61 : decode cX4_news 61 = .ok (.iaload, 1) := by decide +kernel
theorem dX4_news_62 : decode cX4_news 62 = .ok (.invokestatic 157, 3) := by decide +kernel
theorem dX4_news_65 : decode cX4_news 65 = .ok (.istore 4, 2) := by decide +kernel
theorem dX4_news_67 : decode cX4_news 67 = .ok (.iload 4, 2) := by decide +kernel
theorem dX4_news_69 : decode cX4_news 69 = .ok (.iload_n 3, 1) := by decide +kernel
theorem dX4_news_70 : decode cX4_news 70 = .ok (.ishr, 1) := by decide +kernel
theorem dX4_news_71 : decode cX4_news 71 = .ok (.iconst 1, 1) := by decide +kernel
theorem dX4_news_72 : decode cX4_news 72 = .ok (.iand, 1) := by decide +kernel
theorem dX4_news_73 : decode cX4_news 73 = .ok (.ifCond .eq 6, 3) := by decide +kernel
theorem dX4_news_76 : decode cX4_news 76 = .ok (.iload 5, 2) := by decide +kernel
theorem dX4_news_78 : decode cX4_news 78 = .ok (.ireturn, 1) := by decide +kernel
theorem dX4_news_79 : decode cX4_news 79 = .ok (.iinc 5 1, 3) := by decide +kernel
theorem dX4_news_82 : decode cX4_news 82 = .ok (.goto (-39), 3) := by decide +kernel
theorem dX4_news_85 : decode cX4_news 85 = .ok (.iconst (-1), 1) := by decide +kernel
theorem dX4_news_86 : decode cX4_news 86 = .ok (.ireturn, 1) := by decide +kernel
theorem dX4_hears_0 : decode cX4_hears 0 = .ok (.aload_n 0, 1) := by decide +kernel
theorem dX4_hears_1 : decode cX4_hears 1 = .ok (.iload_n 1, 1) := by decide +kernel
theorem dX4_hears_2 : decode cX4_hears 2 = .ok (.invokevirtual 89, 3) := by decide +kernel
theorem dX4_hears_5 : decode cX4_hears 5 = .ok (.ifCond .eq 10, 3) := by decide +kernel
theorem dX4_hears_8 : decode cX4_hears 8 = .ok (.iload_n 2, 1) := by decide +kernel
theorem dX4_hears_9 : decode cX4_hears 9 = .ok (.invokestatic 137, 3) := by decide +kernel
theorem dX4_hears_12 : decode cX4_hears 12 = .ok (.ifCond .ne 6, 3) := by decide +kernel
theorem dX4_hears_15 : decode cX4_hears 15 = .ok (.bipush (-2), 2) := by decide +kernel
theorem dX4_hears_17 : decode cX4_hears 17 = .ok (.ireturn, 1) := by decide +kernel
theorem dX4_hears_18 : decode cX4_hears 18 = .ok (.aload_n 0, 1) := by decide +kernel
theorem dX4_hears_19 : decode cX4_hears 19 = .ok (.invokevirtual 143, 3) := by decide +kernel
theorem dX4_hears_22 : decode cX4_hears 22 = .ok (.iconst 1, 1) := by decide +kernel
theorem dX4_hears_23 : decode cX4_hears 23 = .ok (.iload_n 1, 1) := by decide +kernel
theorem dX4_hears_24 : decode cX4_hears 24 = .ok (.ishl, 1) := by decide +kernel
theorem dX4_hears_25 : decode cX4_hears 25 = .ok (.istore_n 3, 1) := by decide +kernel
theorem dX4_hears_26 : decode cX4_hears 26 = .ok (.iload_n 2, 1) := by decide +kernel
theorem dX4_hears_27 : decode cX4_hears 27 = .ok (.istore 4, 2) := by decide +kernel
theorem dX4_hears_29 : decode cX4_hears 29 = .ok (.iload 4, 2) := by decide +kernel
theorem dX4_hears_31 : decode cX4_hears 31 = .ok (.bipush 60, 2) := by decide +kernel
theorem dX4_hears_33 : decode cX4_hears 33 = .ok (.if_icmp .ge 24, 3) := by decide +kernel
theorem dX4_hears_36 : decode cX4_hears 36 = .ok (.iload_n 3, 1) := by decide +kernel
theorem dX4_hears_37 : decode cX4_hears 37 = .ok (.aload_n 0, 1) := by decide +kernel
theorem dX4_hears_38 : decode cX4_hears 38 = .ok (.getfield 52, 3) := by decide +kernel
theorem dX4_hears_41 : decode cX4_hears 41 = .ok (.getfield 149, 3) := by decide +kernel
theorem dX4_hears_44 : decode cX4_hears 44 = .ok (.iload 4, 2) := by decide +kernel
theorem dX4_hears_46 : decode cX4_hears 46 = .ok (.iaload, 1) := by decide +kernel
theorem dX4_hears_47 : decode cX4_hears 47 = .ok (.invokestatic 157, 3) := by decide +kernel
theorem dX4_hears_50 : decode cX4_hears 50 = .ok (.istore_n 3, 1) := by decide +kernel
theorem dX4_hears_51 : decode cX4_hears 51 = .ok (.iinc 4 1, 3) := by decide +kernel
theorem dX4_hears_54 : decode cX4_hears 54 = .ok (.goto (-25), 3) := by decide +kernel
theorem dX4_hears_57 : decode cX4_hears 57 = .ok (.iload_n 3, 1) := by decide +kernel
theorem dX4_hears_58 : decode cX4_hears 58 = .ok (.ireturn, 1) := by decide +kernel
theorem dX4_hush_0 : decode cX4_hush 0 = .ok (.iload_n 1, 1) := by decide +kernel
theorem dX4_hush_1 : decode cX4_hush 1 = .ok (.invokestatic 137, 3) := by decide +kernel
theorem dX4_hush_4 : decode cX4_hush 4 = .ok (.ifCond .eq 10, 3) := by decide +kernel
theorem dX4_hush_7 : decode cX4_hush 7 = .ok (.iload_n 2, 1) := by decide +kernel
theorem dX4_hush_8 : decode cX4_hush 8 = .ok (.invokestatic 140, 3) := by decide +kernel
theorem dX4_hush_11 : decode cX4_hush 11 = .ok (.ifCond .ne 6, 3) := by decide +kernel
theorem dX4_hush_14 : decode cX4_hush 14 = .ok (.bipush (-2), 2) := by decide +kernel
theorem dX4_hush_16 : decode cX4_hush 16 = .ok (.ireturn, 1) := by decide +kernel
theorem dX4_hush_17 : decode cX4_hush 17 = .ok (.aload_n 0, 1) := by decide +kernel
theorem dX4_hush_18 : decode cX4_hush 18 = .ok (.getfield 60, 3) := by decide +kernel
theorem dX4_hush_21 : decode cX4_hush 21 = .ok (.aload_n 0, 1) := by decide +kernel
theorem dX4_hush_22 : decode cX4_hush 22 = .ok (.getfield 10, 3) := by decide +kernel
theorem dX4_hush_25 : decode cX4_hush 25 = .ok (.aload_n 0, 1) := by decide +kernel
theorem dX4_hush_26 : decode cX4_hush 26 = .ok (.getfield 16, 3) := by decide +kernel
theorem dX4_hush_29 : decode cX4_hush 29 = .ok (.aload_n 0, 1) := by decide +kernel
theorem dX4_hush_30 : decode cX4_hush 30 = .ok (.getfield 20, 3) := by decide +kernel
theorem dX4_hush_33 : decode cX4_hush 33 = .ok (.aload_n 0, 1) := by decide +kernel
theorem dX4_hush_34 : decode cX4_hush 34 = .ok (.getfield 27, 3) := by decide +kernel
theorem dX4_hush_37 : decode cX4_hush 37 = .ok (.invokevirtual 161, 3) := by decide +kernel
theorem dX4_hush_40 : decode cX4_hush 40 = .ok (.aload_n 0, 1) := by decide +kernel
theorem dX4_hush_41 : decode cX4_hush 41 = .ok (.getfield 10, 3) := by decide +kernel
theorem dX4_hush_44 : decode cX4_hush 44 = .ok (.invokevirtual 165, 3) := by decide +kernel
theorem dX4_hush_47 : decode cX4_hush 47 = .ok (.aload_n 0, 1) := by decide +kernel
theorem dX4_hush_48 : decode cX4_hush 48 = .ok (.getfield 20, 3) := by decide +kernel
theorem dX4_hush_51 : decode cX4_hush 51 = .ok (.iconst (-1), 1) := by decide +kernel
theorem dX4_hush_52 : decode cX4_hush 52 = .ok (.ixor, 1) := by decide +kernel
theorem dX4_hush_53 : decode cX4_hush 53 = .ok (.iand, 1) := by decide +kernel
theorem dX4_hush_54 : decode cX4_hush 54 = .ok (.istore_n 3, 1) := by decide +kernel
theorem dX4_hush_55 : decode cX4_hush 55 = .ok (.iconst 0, 1) := by decide +kernel
theorem dX4_hush_56 : decode cX4_hush 56 = .ok (.istore 4, 2) := by decide +kernel
theorem dX4_hush_58 : decode cX4_hush 58 = .ok (.iload 4, 2) := by decide +kernel
theorem dX4_hush_60 : decode cX4_hush 60 = .ok (.bipush 9, 2) := by decide +kernel
theorem dX4_hush_62 : decode cX4_hush 62 = .ok (.if_icmp .gt 67, 3) := by decide +kernel
theorem dX4_hush_65 : decode cX4_hush 65 = .ok (.iconst 0, 1) := by decide +kernel
theorem dX4_hush_66 : decode cX4_hush 66 = .ok (.istore 5, 2) := by decide +kernel
theorem dX4_hush_68 : decode cX4_hush 68 = .ok (.iload 5, 2) := by decide +kernel
theorem dX4_hush_70 : decode cX4_hush 70 = .ok (.sipush 511, 3) := by decide +kernel
theorem dX4_hush_73 : decode cX4_hush 73 = .ok (.if_icmp .gt 50, 3) := by decide +kernel
theorem dX4_hush_76 : decode cX4_hush 76 = .ok (.iload 5, 2) := by decide +kernel
theorem dX4_hush_78 : decode cX4_hush 78 = .ok (.iload_n 3, 1) := by decide +kernel
theorem dX4_hush_79 : decode cX4_hush 79 = .ok (.iconst (-1), 1) := by decide +kernel
theorem dX4_hush_80 : decode cX4_hush 80 = .ok (.ixor, 1) := by decide +kernel
theorem dX4_hush_81 : decode cX4_hush 81 = .ok (.iand, 1) := by decide +kernel
theorem dX4_hush_82 : decode cX4_hush 82 = .ok (.ifCond .ne 35, 3) := by decide +kernel
theorem dX4_hush_85 : decode cX4_hush 85 = .ok (.iload 5, 2) := by decide +kernel
theorem dX4_hush_87 : decode cX4_hush 87 = .ok (.invokestatic 152, 3) := by decide +kernel
theorem dX4_hush_90 : decode cX4_hush 90 = .ok (.iload 4, 2) := by decide +kernel
theorem dX4_hush_92 : decode cX4_hush 92 = .ok (.if_icmp .ne 25, 3) := by decide +kernel
theorem dX4_hush_95 : decode cX4_hush 95 = .ok (.aload_n 0, 1) := by decide +kernel
theorem dX4_hush_96 : decode cX4_hush 96 = .ok (.iload 5, 2) := by decide +kernel
theorem dX4_hush_98 : decode cX4_hush 98 = .ok (.iload_n 1, 1) := by decide +kernel
theorem dX4_hush_99 : decode cX4_hush 99 = .ok (.invokevirtual 169, 3) := by decide +kernel
theorem dX4_hush_102 : decode cX4_hush 102 = .ok (.ifCond .eq 15, 3) := by decide +kernel
theorem dX4_hush_105 : decode cX4_hush 105 = .ok (.iload_n 2, 1) := by decide +kernel
theorem dX4_hush_106 : decode cX4_hush 106 = .ok (.ifCond .ne 8, 3) := by decide +kernel
theorem dX4_hush_109 : decode cX4_hush 109 = .ok (.iload 4, 2) := by decide +kernel
theorem dX4_hush_111 : decode cX4_hush 111 = .ok (.goto 5, 3) := by decide +kernel
theorem dX4_hush_114 : decode cX4_hush 114 = .ok (.iload 5, 2) := by decide +kernel
theorem dX4_hush_116 : decode cX4_hush 116 = .ok (.ireturn, 1) := by decide +kernel
theorem dX4_hush_117 : decode cX4_hush 117 = .ok (.iinc 5 1, 3) := by decide +kernel
theorem dX4_hush_120 : decode cX4_hush 120 = .ok (.goto (-52), 3) := by decide +kernel
theorem dX4_hush_123 : decode cX4_hush 123 = .ok (.iinc 4 1, 3) := by decide +kernel
theorem dX4_hush_126 : decode cX4_hush 126 = .ok (.goto (-68), 3) := by decide +kernel
theorem dX4_hush_129 : decode cX4_hush 129 = .ok (.iconst (-1), 1) := by decide +kernel
theorem dX4_hush_130 : decode cX4_hush 130 = .ok (.ireturn, 1) := by decide +kernel
theorem dX4_shelf_0 : decode cX4_shelf 0 = .ok (.iload_n 1, 1) := by decide +kernel
theorem dX4_shelf_1 : decode cX4_shelf 1 = .ok (.iconst 1, 1) := by decide +kernel
theorem dX4_shelf_2 : decode cX4_shelf 2 = .ok (.if_icmp .lt 37, 3) := by decide +kernel
theorem dX4_shelf_5 : decode cX4_shelf 5 = .ok (.iload_n 1, 1) := by decide +kernel
theorem dX4_shelf_6 : decode cX4_shelf 6 = .ok (.bipush 6, 2) := by decide +kernel
theorem dX4_shelf_8 : decode cX4_shelf 8 = .ok (.if_icmp .gt 31, 3) := by decide +kernel
theorem dX4_shelf_11 : decode cX4_shelf 11 = .ok (.iload_n 1, 1) := by decide +kernel
theorem dX4_shelf_12 : decode cX4_shelf 12 = .ok (.aload_n 0, 1) := by decide +kernel
theorem dX4_shelf_13 : decode cX4_shelf 13 = .ok (.getfield 10, 3) := by decide +kernel
theorem dX4_shelf_16 : decode cX4_shelf 16 = .ok (.getfield 173, 3) := by decide +kernel
theorem dX4_shelf_19 : decode cX4_shelf 19 = .ok (.if_icmp .gt 20, 3) := by decide +kernel
theorem dX4_shelf_22 : decode cX4_shelf 22 = .ok (.iload_n 2, 1) := by decide +kernel
theorem dX4_shelf_23 : decode cX4_shelf 23 = .ok (.invokestatic 140, 3) := by decide +kernel
theorem dX4_shelf_26 : decode cX4_shelf 26 = .ok (.ifCond .eq 13, 3) := by decide +kernel
theorem dX4_shelf_29 : decode cX4_shelf 29 = .ok (.iload_n 3, 1) := by decide +kernel
theorem dX4_shelf_30 : decode cX4_shelf 30 = .ok (.iconst (-1), 1) := by decide +kernel
theorem dX4_shelf_31 : decode cX4_shelf 31 = .ok (.if_icmp .lt 8, 3) := by decide +kernel
theorem dX4_shelf_34 : decode cX4_shelf 34 = .ok (.iload_n 3, 1) := by decide +kernel
theorem dX4_shelf_35 : decode cX4_shelf 35 = .ok (.iload_n 1, 1) := by decide +kernel
theorem dX4_shelf_36 : decode cX4_shelf 36 = .ok (.if_icmp .lt 6, 3) := by decide +kernel
theorem dX4_shelf_39 : decode cX4_shelf 39 = .ok (.bipush (-2), 2) := by decide +kernel
theorem dX4_shelf_41 : decode cX4_shelf 41 = .ok (.ireturn, 1) := by decide +kernel
theorem dX4_shelf_42 : decode cX4_shelf 42 = .ok (.aload_n 0, 1) := by decide +kernel
theorem dX4_shelf_43 : decode cX4_shelf 43 = .ok (.iload_n 1, 1) := by decide +kernel
theorem dX4_shelf_44 : decode cX4_shelf 44 = .ok (.iload_n 2, 1) := by decide +kernel
theorem dX4_shelf_45 : decode cX4_shelf 45 = .ok (.iconst 1, 1) := by decide +kernel
theorem dX4_shelf_46 : decode cX4_shelf 46 = .ok (.if_icmp .ne 7, 3) := by decide +kernel
theorem dX4_shelf_49 : decode cX4_shelf 49 = .ok (.iconst 1, 1) := by decide +kernel
theorem dX4_shelf_50 : decode cX4_shelf 50 = .ok (.goto 4, 3) := by decide +kernel
theorem dX4_shelf_53 : decode cX4_shelf 53 = .ok (.iconst 0, 1) := by decide +kernel
theorem dX4_shelf_54 : decode cX4_shelf 54 = .ok (.invokevirtual 176, 3) := by decide +kernel
theorem dX4_shelf_57 : decode cX4_shelf 57 = .ok (.istore 4, 2) := by decide +kernel
theorem dX4_shelf_59 : decode cX4_shelf 59 = .ok (.iload_n 3, 1) := by decide +kernel
theorem dX4_shelf_60 : decode cX4_shelf 60 = .ok (.iconst (-1), 1) := by decide +kernel
theorem dX4_shelf_61 : decode cX4_shelf 61 = .ok (.if_icmp .ne 8, 3) := by decide +kernel
theorem dX4_shelf_64 : decode cX4_shelf 64 = .ok (.iload 4, 2) := by decide +kernel
theorem dX4_shelf_66 : decode cX4_shelf 66 = .ok (.goto 9, 3) := by decide +kernel
theorem dX4_shelf_69 : decode cX4_shelf 69 = .ok (.aload_n 0, 1) := by decide +kernel
theorem dX4_shelf_70 : decode cX4_shelf 70 = .ok (.getfield 72, 3) := by decide +kernel
theorem dX4_shelf_73 : decode cX4_shelf 73 = .ok (.iload_n 3, 1) := by decide +kernel
theorem dX4_shelf_74 : decode cX4_shelf 74 = .ok (.iaload, 1) := by decide +kernel
theorem dX4_shelf_75 : decode cX4_shelf 75 = .ok (.ireturn, 1) := by decide +kernel
theorem dX4_heard_0 : decode cX4_heard 0 = .ok (.iload_n 1, 1) := by decide +kernel
theorem dX4_heard_1 : decode cX4_heard 1 = .ok (.invokestatic 137, 3) := by decide +kernel
theorem dX4_heard_4 : decode cX4_heard 4 = .ok (.ifCond .eq 13, 3) := by decide +kernel
theorem dX4_heard_7 : decode cX4_heard 7 = .ok (.iload_n 2, 1) := by decide +kernel
theorem dX4_heard_8 : decode cX4_heard 8 = .ok (.ifCond .lt 9, 3) := by decide +kernel
theorem dX4_heard_11 : decode cX4_heard 11 = .ok (.iload_n 2, 1) := by decide +kernel
theorem dX4_heard_12 : decode cX4_heard 12 = .ok (.bipush 9, 2) := by decide +kernel
theorem dX4_heard_14 : decode cX4_heard 14 = .ok (.if_icmp .le 6, 3) := by decide +kernel
theorem dX4_heard_17 : decode cX4_heard 17 = .ok (.bipush (-2), 2) := by decide +kernel
theorem dX4_heard_19 : decode cX4_heard 19 = .ok (.ireturn, 1) := by decide +kernel
theorem dX4_heard_20 : decode cX4_heard 20 = .ok (.aload_n 0, 1) := by decide +kernel
theorem dX4_heard_21 : decode cX4_heard 21 = .ok (.getfield 37, 3) := by decide +kernel
theorem dX4_heard_24 : decode cX4_heard 24 = .ok (.bipush 8, 2) := by decide +kernel
theorem dX4_heard_26 : decode cX4_heard 26 = .ok (.if_icmp .lt 6, 3) := by decide +kernel
theorem dX4_heard_29 : decode cX4_heard 29 = .ok (.bipush (-4), 2) := by decide +kernel
theorem dX4_heard_31 : decode cX4_heard 31 = .ok (.ireturn, 1) := by decide +kernel
theorem dX4_heard_32 : decode cX4_heard 32 = .ok (.aload_n 0, 1) := by decide +kernel
theorem dX4_heard_33 : decode cX4_heard 33 = .ok (.getfield 31, 3) := by decide +kernel
theorem dX4_heard_36 : decode cX4_heard 36 = .ok (.aload_n 0, 1) := by decide +kernel
theorem dX4_heard_37 : decode cX4_heard 37 = .ok (.getfield 37, 3) := by decide +kernel
theorem dX4_heard_40 : decode cX4_heard 40 = .ok (.iload_n 1, 1) := by decide +kernel
theorem dX4_heard_41 : decode cX4_heard 41 = .ok (.iastore, 1) := by decide +kernel
theorem dX4_heard_42 : decode cX4_heard 42 = .ok (.aload_n 0, 1) := by decide +kernel
theorem dX4_heard_43 : decode cX4_heard 43 = .ok (.getfield 34, 3) := by decide +kernel
theorem dX4_heard_46 : decode cX4_heard 46 = .ok (.aload_n 0, 1) := by decide +kernel
theorem dX4_heard_47 : decode cX4_heard 47 = .ok (.getfield 37, 3) := by decide +kernel
theorem dX4_heard_50 : decode cX4_heard 50 = .ok (.iload_n 2, 1) := by decide +kernel
theorem dX4_heard_51 : decode cX4_heard 51 = .ok (.iastore, 1) := by decide +kernel
theorem dX4_heard_52 : decode cX4_heard 52 = .ok (.aload_n 0, 1) := by decide +kernel
theorem dX4_heard_53 : decode cX4_heard 53 = .ok (.dup, 1) := by decide +kernel
theorem dX4_heard_54 : decode cX4_heard 54 = .ok (.getfield 37, 3) := by decide +kernel
theorem dX4_heard_57 : decode cX4_heard 57 = .ok (.iconst 1, 1) := by decide +kernel
theorem dX4_heard_58 : decode cX4_heard 58 = .ok (.iadd, 1) := by decide +kernel
theorem dX4_heard_59 : decode cX4_heard 59 = .ok (.putfield 37, 3) := by decide +kernel
theorem dX4_heard_62 : decode cX4_heard 62 = .ok (.aload_n 0, 1) := by decide +kernel
theorem dX4_heard_63 : decode cX4_heard 63 = .ok (.getfield 37, 3) := by decide +kernel
theorem dX4_heard_66 : decode cX4_heard 66 = .ok (.ireturn, 1) := by decide +kernel
theorem dX4_forget_0 : decode cX4_forget 0 = .ok (.aload_n 0, 1) := by decide +kernel
theorem dX4_forget_1 : decode cX4_forget 1 = .ok (.getfield 37, 3) := by decide +kernel
theorem dX4_forget_4 : decode cX4_forget 4 = .ok (.istore_n 1, 1) := by decide +kernel
theorem dX4_forget_5 : decode cX4_forget 5 = .ok (.aload_n 0, 1) := by decide +kernel
theorem dX4_forget_6 : decode cX4_forget 6 = .ok (.iconst 0, 1) := by decide +kernel
theorem dX4_forget_7 : decode cX4_forget 7 = .ok (.putfield 37, 3) := by decide +kernel
theorem dX4_forget_10 : decode cX4_forget 10 = .ok (.iload_n 1, 1) := by decide +kernel
theorem dX4_forget_11 : decode cX4_forget 11 = .ok (.ireturn, 1) := by decide +kernel
theorem dX4_learn_0 : decode cX4_learn 0 = .ok (.aload_n 0, 1) := by decide +kernel
theorem dX4_learn_1 : decode cX4_learn 1 = .ok (.iload_n 1, 1) := by decide +kernel
theorem dX4_learn_2 : decode cX4_learn 2 = .ok (.invokevirtual 89, 3) := by decide +kernel
theorem dX4_learn_5 : decode cX4_learn 5 = .ok (.ifCond .eq 14, 3) := by decide +kernel
theorem dX4_learn_8 : decode cX4_learn 8 = .ok (.iload_n 2, 1) := by decide +kernel
theorem dX4_learn_9 : decode cX4_learn 9 = .ok (.iconst (-1), 1) := by decide +kernel
theorem dX4_learn_10 : decode cX4_learn 10 = .ok (.if_icmp .lt 9, 3) := by decide +kernel
theorem dX4_learn_13 : decode cX4_learn 13 = .ok (.iload_n 2, 1) := by decide +kernel
theorem dX4_learn_14 : decode cX4_learn 14 = .ok (.bipush 37, 2) := by decide +kernel
theorem dX4_learn_16 : decode cX4_learn 16 = .ok (.if_icmp .lt 6, 3) := by decide +kernel
theorem dX4_learn_19 : decode cX4_learn 19 = .ok (.bipush (-2), 2) := by decide +kernel
theorem dX4_learn_21 : decode cX4_learn 21 = .ok (.ireturn, 1) := by decide +kernel
theorem dX4_learn_22 : decode cX4_learn 22 = .ok (.aload_n 0, 1) := by decide +kernel
theorem dX4_learn_23 : decode cX4_learn 23 = .ok (.iload_n 1, 1) := by decide +kernel
theorem dX4_learn_24 : decode cX4_learn 24 = .ok (.invokevirtual 180, 3) := by decide +kernel
theorem dX4_learn_27 : decode cX4_learn 27 = .ok (.istore_n 3, 1) := by decide +kernel
theorem dX4_learn_28 : decode cX4_learn 28 = .ok (.iload_n 2, 1) := by decide +kernel
theorem dX4_learn_29 : decode cX4_learn 29 = .ok (.iconst (-1), 1) := by decide +kernel
theorem dX4_learn_30 : decode cX4_learn 30 = .ok (.if_icmp .ne 5, 3) := by decide +kernel
theorem dX4_learn_33 : decode cX4_learn 33 = .ok (.iload_n 3, 1) := by decide +kernel
theorem dX4_learn_34 : decode cX4_learn 34 = .ok (.ireturn, 1) := by decide +kernel
theorem dX4_learn_35 : decode cX4_learn 35 = .ok (.iload_n 2, 1) := by decide +kernel
theorem dX4_learn_36 : decode cX4_learn 36 = .ok (.iload_n 3, 1) := by decide +kernel
theorem dX4_learn_37 : decode cX4_learn 37 = .ok (.if_icmp .ge 12, 3) := by decide +kernel
theorem dX4_learn_40 : decode cX4_learn 40 = .ok (.aload_n 0, 1) := by decide +kernel
theorem dX4_learn_41 : decode cX4_learn 41 = .ok (.getfield 63, 3) := by decide +kernel
theorem dX4_learn_44 : decode cX4_learn 44 = .ok (.iload_n 2, 1) := by decide +kernel
theorem dX4_learn_45 : decode cX4_learn 45 = .ok (.iaload, 1) := by decide +kernel
theorem dX4_learn_46 : decode cX4_learn 46 = .ok (.goto 4, 3) := by decide +kernel
theorem dX4_learn_49 : decode cX4_learn 49 = .ok (.iconst (-1), 1) := by decide +kernel
theorem dX4_learn_50 : decode cX4_learn 50 = .ok (.ireturn, 1) := by decide +kernel
theorem dX4_empty_0 : decode cX4_empty 0 = .ok (.aload_n 0, 1) := by decide +kernel
theorem dX4_empty_1 : decode cX4_empty 1 = .ok (.getfield 60, 3) := by decide +kernel
theorem dX4_empty_4 : decode cX4_empty 4 = .ok (.aload_n 0, 1) := by decide +kernel
theorem dX4_empty_5 : decode cX4_empty 5 = .ok (.getfield 10, 3) := by decide +kernel
theorem dX4_empty_8 : decode cX4_empty 8 = .ok (.aload_n 0, 1) := by decide +kernel
theorem dX4_empty_9 : decode cX4_empty 9 = .ok (.getfield 16, 3) := by decide +kernel
theorem dX4_empty_12 : decode cX4_empty 12 = .ok (.aload_n 0, 1) := by decide +kernel
theorem dX4_empty_13 : decode cX4_empty 13 = .ok (.getfield 20, 3) := by decide +kernel
theorem dX4_empty_16 : decode cX4_empty 16 = .ok (.aload_n 0, 1) := by decide +kernel
theorem dX4_empty_17 : decode cX4_empty 17 = .ok (.getfield 27, 3) := by decide +kernel
theorem dX4_empty_20 : decode cX4_empty 20 = .ok (.invokevirtual 161, 3) := by decide +kernel
theorem dX4_empty_23 : decode cX4_empty 23 = .ok (.aload_n 0, 1) := by decide +kernel
theorem dX4_empty_24 : decode cX4_empty 24 = .ok (.invokevirtual 183, 3) := by decide +kernel
theorem dX4_empty_27 : decode cX4_empty 27 = .ok (.istore_n 1, 1) := by decide +kernel
theorem dX4_empty_28 : decode cX4_empty 28 = .ok (.iconst 0, 1) := by decide +kernel
theorem dX4_empty_29 : decode cX4_empty 29 = .ok (.istore_n 2, 1) := by decide +kernel
theorem dX4_empty_30 : decode cX4_empty 30 = .ok (.iconst 0, 1) := by decide +kernel
theorem dX4_empty_31 : decode cX4_empty 31 = .ok (.istore_n 3, 1) := by decide +kernel
theorem dX4_empty_32 : decode cX4_empty 32 = .ok (.iload_n 3, 1) := by decide +kernel
theorem dX4_empty_33 : decode cX4_empty 33 = .ok (.aload_n 0, 1) := by decide +kernel
theorem dX4_empty_34 : decode cX4_empty 34 = .ok (.getfield 10, 3) := by decide +kernel
theorem dX4_empty_37 : decode cX4_empty 37 = .ok (.getfield 173, 3) := by decide +kernel
theorem dX4_empty_40 : decode cX4_empty 40 = .ok (.if_icmp .ge 62, 3) := by decide +kernel
theorem dX4_empty_43 : decode cX4_empty 43 = .ok (.aload_n 0, 1) := by decide +kernel
theorem dX4_empty_44 : decode cX4_empty 44 = .ok (.getfield 60, 3) := by decide +kernel
theorem dX4_empty_47 : decode cX4_empty 47 = .ok (.getfield 186, 3) := by decide +kernel
theorem dX4_empty_50 : decode cX4_empty 50 = .ok (.iload_n 3, 1) := by decide +kernel
theorem dX4_empty_51 : decode cX4_empty 51 = .ok (.iaload, 1) := by decide +kernel
theorem dX4_empty_52 : decode cX4_empty 52 = .ok (.istore 4, 2) := by decide +kernel
theorem dX4_empty_54 : decode cX4_empty 54 = .ok (.aload_n 0, 1) := by decide +kernel
theorem dX4_empty_55 : decode cX4_empty 55 = .ok (.getfield 60, 3) := by decide +kernel
theorem dX4_empty_58 : decode cX4_empty 58 = .ok (.getfield 186, 3) := by decide +kernel
theorem dX4_empty_61 : decode cX4_empty 61 = .ok (.iload_n 3, 1) := by decide +kernel
theorem dX4_empty_62 : decode cX4_empty 62 = .ok (.iconst 4, 1) := by decide +kernel
theorem dX4_empty_63 : decode cX4_empty 63 = .ok (.iastore, 1) := by decide +kernel
theorem dX4_empty_64 : decode cX4_empty 64 = .ok (.aload_n 0, 1) := by decide +kernel
theorem dX4_empty_65 : decode cX4_empty 65 = .ok (.getfield 60, 3) := by decide +kernel
theorem dX4_empty_68 : decode cX4_empty 68 = .ok (.iload_n 1, 1) := by decide +kernel
theorem dX4_empty_69 : decode cX4_empty 69 = .ok (.invokevirtual 187, 3) := by decide +kernel
theorem dX4_empty_72 : decode cX4_empty 72 = .ok (.aload_n 0, 1) := by decide +kernel
theorem dX4_empty_73 : decode cX4_empty 73 = .ok (.invokevirtual 191, 3) := by decide +kernel
theorem dX4_empty_76 : decode cX4_empty 76 = .ok (.ifCond .eq 9, 3) := by decide +kernel
theorem dX4_empty_79 : decode cX4_empty 79 = .ok (.iload_n 2, 1) := by decide +kernel
theorem dX4_empty_80 : decode cX4_empty 80 = .ok (.iconst 1, 1) := by decide +kernel
theorem dX4_empty_81 : decode cX4_empty 81 = .ok (.iload_n 3, 1) := by decide +kernel
theorem dX4_empty_82 : decode cX4_empty 82 = .ok (.ishl, 1) := by decide +kernel
theorem dX4_empty_83 : decode cX4_empty 83 = .ok (.ior, 1) := by decide +kernel
theorem dX4_empty_84 : decode cX4_empty 84 = .ok (.istore_n 2, 1) := by decide +kernel
theorem dX4_empty_85 : decode cX4_empty 85 = .ok (.aload_n 0, 1) := by decide +kernel
theorem dX4_empty_86 : decode cX4_empty 86 = .ok (.getfield 60, 3) := by decide +kernel
theorem dX4_empty_89 : decode cX4_empty 89 = .ok (.getfield 186, 3) := by decide +kernel
theorem dX4_empty_92 : decode cX4_empty 92 = .ok (.iload_n 3, 1) := by decide +kernel
theorem dX4_empty_93 : decode cX4_empty 93 = .ok (.iload 4, 2) := by decide +kernel
theorem dX4_empty_95 : decode cX4_empty 95 = .ok (.iastore, 1) := by decide +kernel
theorem dX4_empty_96 : decode cX4_empty 96 = .ok (.iinc 3 1, 3) := by decide +kernel
theorem dX4_empty_99 : decode cX4_empty 99 = .ok (.goto (-67), 3) := by decide +kernel
theorem dX4_empty_102 : decode cX4_empty 102 = .ok (.iload_n 2, 1) := by decide +kernel
theorem dX4_empty_103 : decode cX4_empty 103 = .ok (.ireturn, 1) := by decide +kernel
theorem dX4_turn_0 : decode cX4_turn 0 = .ok (.aload_n 0, 1) := by decide +kernel
theorem dX4_turn_1 : decode cX4_turn 1 = .ok (.iload_n 1, 1) := by decide +kernel
theorem dX4_turn_2 : decode cX4_turn 2 = .ok (.invokevirtual 89, 3) := by decide +kernel
theorem dX4_turn_5 : decode cX4_turn 5 = .ok (.ifCond .eq 10, 3) := by decide +kernel
theorem dX4_turn_8 : decode cX4_turn 8 = .ok (.iload_n 2, 1) := by decide +kernel
theorem dX4_turn_9 : decode cX4_turn 9 = .ok (.invokestatic 137, 3) := by decide +kernel
theorem dX4_turn_12 : decode cX4_turn 12 = .ok (.ifCond .ne 6, 3) := by decide +kernel
theorem dX4_turn_15 : decode cX4_turn 15 = .ok (.bipush (-2), 2) := by decide +kernel
theorem dX4_turn_17 : decode cX4_turn 17 = .ok (.ireturn, 1) := by decide +kernel
theorem dX4_turn_18 : decode cX4_turn 18 = .ok (.aload_n 0, 1) := by decide +kernel
theorem dX4_turn_19 : decode cX4_turn 19 = .ok (.iload_n 1, 1) := by decide +kernel
theorem dX4_turn_20 : decode cX4_turn 20 = .ok (.invokevirtual 180, 3) := by decide +kernel
theorem dX4_turn_23 : decode cX4_turn 23 = .ok (.istore_n 3, 1) := by decide +kernel
theorem dX4_turn_24 : decode cX4_turn 24 = .ok (.iconst (-1), 1) := by decide +kernel
theorem dX4_turn_25 : decode cX4_turn 25 = .ok (.istore 4, 2) := by decide +kernel
theorem dX4_turn_27 : decode cX4_turn 27 = .ok (.iconst 0, 1) := by decide +kernel
theorem dX4_turn_28 : decode cX4_turn 28 = .ok (.istore 5, 2) := by decide +kernel
theorem dX4_turn_30 : decode cX4_turn 30 = .ok (.iconst 0, 1) := by decide +kernel
theorem dX4_turn_31 : decode cX4_turn 31 = .ok (.istore 6, 2) := by decide +kernel
theorem dX4_turn_33 : decode cX4_turn 33 = .ok (.iload 6, 2) := by decide +kernel
theorem dX4_turn_35 : decode cX4_turn 35 = .ok (.aload_n 0, 1) := by decide +kernel
theorem dX4_turn_36 : decode cX4_turn 36 = .ok (.getfield 10, 3) := by decide +kernel
theorem dX4_turn_39 : decode cX4_turn 39 = .ok (.getfield 173, 3) := by decide +kernel
theorem dX4_turn_42 : decode cX4_turn 42 = .ok (.if_icmp .ge 41, 3) := by decide +kernel
theorem dX4_turn_45 : decode cX4_turn 45 = .ok (.aload_n 0, 1) := by decide +kernel
theorem dX4_turn_46 : decode cX4_turn 46 = .ok (.iload_n 1, 1) := by decide +kernel
theorem dX4_turn_47 : decode cX4_turn 47 = .ok (.iload_n 2, 1) := by decide +kernel
theorem dX4_turn_48 : decode cX4_turn 48 = .ok (.iload 6, 2) := by decide +kernel
theorem dX4_turn_50 : decode cX4_turn 50 = .ok (.iload_n 3, 1) := by decide +kernel
theorem dX4_turn_51 : decode cX4_turn 51 = .ok (.invokevirtual 195, 3) := by decide +kernel
theorem dX4_turn_54 : decode cX4_turn 54 = .ok (.istore 7, 2) := by decide +kernel
theorem dX4_turn_56 : decode cX4_turn 56 = .ok (.iload 4, 2) := by decide +kernel
theorem dX4_turn_58 : decode cX4_turn 58 = .ok (.iconst (-1), 1) := by decide +kernel
theorem dX4_turn_59 : decode cX4_turn 59 = .ok (.if_icmp .eq 10, 3) := by decide +kernel
theorem dX4_turn_62 : decode cX4_turn 62 = .ok (.iload 7, 2) := by decide +kernel
theorem dX4_turn_64 : decode cX4_turn 64 = .ok (.iload 5, 2) := by decide +kernel
theorem dX4_turn_66 : decode cX4_turn 66 = .ok (.if_icmp .ge 11, 3) := by decide +kernel
theorem dX4_turn_69 : decode cX4_turn 69 = .ok (.iload 6, 2) := by decide +kernel
theorem dX4_turn_71 : decode cX4_turn 71 = .ok (.istore 4, 2) := by decide +kernel
theorem dX4_turn_73 : decode cX4_turn 73 = .ok (.iload 7, 2) := by decide +kernel
theorem dX4_turn_75 : decode cX4_turn 75 = .ok (.istore 5, 2) := by decide +kernel
theorem dX4_turn_77 : decode cX4_turn 77 = .ok (.iinc 6 1, 3) := by decide +kernel
theorem dX4_turn_80 : decode cX4_turn 80 = .ok (.goto (-47), 3) := by decide +kernel
theorem dX4_turn_83 : decode cX4_turn 83 = .ok (.iload 4, 2) := by decide +kernel
theorem dX4_turn_85 : decode cX4_turn 85 = .ok (.ireturn, 1) := by decide +kernel
theorem dX4_looks_0 : decode cX4_looks 0 = .ok (.iload_n 1, 1) := by decide +kernel
theorem dX4_looks_1 : decode cX4_looks 1 = .ok (.ifCond .lt 35, 3) := by decide +kernel
theorem dX4_looks_4 : decode cX4_looks 4 = .ok (.iload_n 1, 1) := by decide +kernel
theorem dX4_looks_5 : decode cX4_looks 5 = .ok (.bipush 16, 2) := by decide +kernel
theorem dX4_looks_7 : decode cX4_looks 7 = .ok (.if_icmp .gt 29, 3) := by decide +kernel
theorem dX4_looks_10 : decode cX4_looks 10 = .ok (.aload_n 0, 1) := by decide +kernel
theorem dX4_looks_11 : decode cX4_looks 11 = .ok (.iload_n 2, 1) := by decide +kernel
theorem dX4_looks_12 : decode cX4_looks 12 = .ok (.invokevirtual 89, 3) := by decide +kernel
theorem dX4_looks_15 : decode cX4_looks 15 = .ok (.ifCond .eq 21, 3) := by decide +kernel
theorem dX4_looks_18 : decode cX4_looks 18 = .ok (.iload_n 3, 1) := by decide +kernel
theorem dX4_looks_19 : decode cX4_looks 19 = .ok (.ifCond .lt 17, 3) := by decide +kernel
theorem dX4_looks_22 : decode cX4_looks 22 = .ok (.iload_n 3, 1) := by decide +kernel
theorem dX4_looks_23 : decode cX4_looks 23 = .ok (.bipush 9, 2) := by decide +kernel
theorem dX4_looks_25 : decode cX4_looks 25 = .ok (.if_icmp .gt 11, 3) := by decide +kernel
theorem dX4_looks_28 : decode cX4_looks 28 = .ok (.iload 4, 2) := by decide +kernel
theorem dX4_looks_30 : decode cX4_looks 30 = .ok (.invokestatic 140, 3) := by decide +kernel
theorem dX4_looks_33 : decode cX4_looks 33 = .ok (.ifCond .ne 7, 3) := by decide +kernel
theorem dX4_looks_36 : decode cX4_looks 36 = .ok (.ldc2_w 201, 3) := by decide +kernel
theorem dX4_looks_39 : decode cX4_looks 39 = .ok (.lreturn, 1) := by decide +kernel
theorem dX4_looks_40 : decode cX4_looks 40 = .ok (.iload_n 3, 1) := by decide +kernel
theorem dX4_looks_41 : decode cX4_looks 41 = .ok (.invokestatic 203, 3) := by decide +kernel
theorem dX4_looks_44 : decode cX4_looks 44 = .ok (.lstore 5, 2) := by decide +kernel
theorem dX4_looks_46 : decode cX4_looks 46 = .ok (.aload_n 0, 1) := by decide +kernel
theorem dX4_looks_47 : decode cX4_looks 47 = .ok (.iload_n 1, 1) := by decide +kernel
theorem dX4_looks_48 : decode cX4_looks 48 = .ok (.iload_n 2, 1) := by decide +kernel
theorem dX4_looks_49 : decode cX4_looks 49 = .ok (.iload_n 3, 1) := by decide +kernel
theorem dX4_looks_50 : decode cX4_looks 50 = .ok (.invokevirtual 207, 3) := by decide +kernel
theorem dX4_looks_53 : decode cX4_looks 53 = .ok (.lstore 7, 2) := by decide +kernel
theorem dX4_looks_55 : decode cX4_looks 55 = .ok (.lload 7, 2) := by decide +kernel
theorem dX4_looks_57 : decode cX4_looks 57 = .ok (.lload 5, 2) := by decide +kernel
theorem dX4_looks_59 : decode cX4_looks 59 = .ok (.invokestatic 211, 3) := by decide +kernel
theorem dX4_looks_62 : decode cX4_looks 62 = .ok (.lstore 9, 2) := by decide +kernel
theorem dX4_looks_64 : decode cX4_looks 64 = .ok (.lload 9, 2) := by decide +kernel
theorem dX4_looks_66 : decode cX4_looks 66 = .ok (.lconst 0, 1) := by decide +kernel
theorem dX4_looks_67 : decode cX4_looks 67 = .ok (.lcmp, 1) := by decide +kernel
theorem dX4_looks_68 : decode cX4_looks 68 = .ok (.ifCond .ne 7, 3) := by decide +kernel
theorem dX4_looks_71 : decode cX4_looks 71 = .ok (.ldc2_w 201, 3) := by decide +kernel
theorem dX4_looks_74 : decode cX4_looks 74 = .ok (.lreturn, 1) := by decide +kernel
theorem dX4_looks_75 : decode cX4_looks 75 = .ok (.iload 4, 2) := by decide +kernel
theorem dX4_looks_77 : decode cX4_looks 77 = .ok (.ifCond .ne 8, 3) := by decide +kernel
theorem dX4_looks_80 : decode cX4_looks 80 = .ok (.lload 7, 2) := by decide +kernel
theorem dX4_looks_82 : decode cX4_looks 82 = .ok (.goto 5, 3) := by decide +kernel
theorem dX4_looks_85 : decode cX4_looks 85 = .ok (.lload 5, 2) := by decide +kernel
theorem dX4_looks_87 : decode cX4_looks 87 = .ok (.lload 9, 2) := by decide +kernel
theorem dX4_looks_89 : decode cX4_looks 89 = .ok (.ldiv, 1) := by decide +kernel
theorem dX4_looks_90 : decode cX4_looks 90 = .ok (.lreturn, 1) := by decide +kernel
theorem dX4_night_0 : decode cX4_night 0 = .ok (.iload_n 2, 1) := by decide +kernel
theorem dX4_night_1 : decode cX4_night 1 = .ok (.invokestatic 137, 3) := by decide +kernel
theorem dX4_night_4 : decode cX4_night 4 = .ok (.ifCond .eq 10, 3) := by decide +kernel
theorem dX4_night_7 : decode cX4_night 7 = .ok (.iload_n 3, 1) := by decide +kernel
theorem dX4_night_8 : decode cX4_night 8 = .ok (.invokestatic 140, 3) := by decide +kernel
theorem dX4_night_11 : decode cX4_night 11 = .ok (.ifCond .ne 6, 3) := by decide +kernel
theorem dX4_night_14 : decode cX4_night 14 = .ok (.bipush (-2), 2) := by decide +kernel
theorem dX4_night_16 : decode cX4_night 16 = .ok (.ireturn, 1) := by decide +kernel
theorem dX4_night_17 : decode cX4_night 17 = .ok (.aload_n 0, 1) := by decide +kernel
theorem dX4_night_18 : decode cX4_night 18 = .ok (.getfield 60, 3) := by decide +kernel
theorem dX4_night_21 : decode cX4_night 21 = .ok (.aload_n 0, 1) := by decide +kernel
theorem dX4_night_22 : decode cX4_night 22 = .ok (.getfield 10, 3) := by decide +kernel
theorem dX4_night_25 : decode cX4_night 25 = .ok (.aload_n 0, 1) := by decide +kernel
theorem dX4_night_26 : decode cX4_night 26 = .ok (.getfield 16, 3) := by decide +kernel
theorem dX4_night_29 : decode cX4_night 29 = .ok (.aload_n 0, 1) := by decide +kernel
theorem dX4_night_30 : decode cX4_night 30 = .ok (.getfield 20, 3) := by decide +kernel
theorem dX4_night_33 : decode cX4_night 33 = .ok (.aload_n 0, 1) := by decide +kernel
theorem dX4_night_34 : decode cX4_night 34 = .ok (.getfield 27, 3) := by decide +kernel
theorem dX4_night_37 : decode cX4_night 37 = .ok (.invokevirtual 161, 3) := by decide +kernel
theorem dX4_night_40 : decode cX4_night 40 = .ok (.iload_n 1, 1) := by decide +kernel
theorem dX4_night_41 : decode cX4_night 41 = .ok (.istore 4, 2) := by decide +kernel
theorem dX4_night_43 : decode cX4_night 43 = .ok (.iconst 0, 1) := by decide +kernel
theorem dX4_night_44 : decode cX4_night 44 = .ok (.istore 5, 2) := by decide +kernel
theorem dX4_night_46 : decode cX4_night 46 = .ok (.iload 5, 2) := by decide +kernel
theorem dX4_night_48 : decode cX4_night 48 = .ok (.iload_n 2, 1) := by decide +kernel
theorem dX4_night_49 : decode cX4_night 49 = .ok (.if_icmp .gt 60, 3) := by decide +kernel
theorem dX4_night_52 : decode cX4_night 52 = .ok (.aload_n 0, 1) := by decide +kernel
theorem dX4_night_53 : decode cX4_night 53 = .ok (.getfield 10, 3) := by decide +kernel
theorem dX4_night_56 : decode cX4_night 56 = .ok (.getfield 173, 3) := by decide +kernel
theorem dX4_night_59 : decode cX4_night 59 = .ok (.ifCond .le 50, 3) := by decide +kernel
theorem dX4_night_62 : decode cX4_night 62 = .ok (.ldc 215, 2) := by decide +kernel
theorem dX4_night_64 : decode cX4_night 64 = .ok (.iload 4, 2) := by decide +kernel
theorem dX4_night_66 : decode cX4_night 66 = .ok (.imul, 1) := by decide +kernel
theorem dX4_night_67 : decode cX4_night 67 = .ok (.sipush 12345, 3) := by decide +kernel
theorem dX4_night_70 : decode cX4_night 70 = .ok (.iadd, 1) := by decide +kernel
theorem dX4_night_71 : decode cX4_night 71 = .ok (.istore 4, 2) := by decide +kernel
theorem dX4_night_73 : decode cX4_night 73 = .ok (.aload_n 0, 1) := by decide +kernel
theorem dX4_night_74 : decode cX4_night 74 = .ok (.getfield 60, 3) := by decide +kernel
theorem dX4_night_77 : decode cX4_night 77 = .ok (.getfield 216, 3) := by decide +kernel
theorem dX4_night_80 : decode cX4_night 80 = .ok (.iconst 0, 1) := by decide +kernel
theorem dX4_night_81 : decode cX4_night 81 = .ok (.aaload, 1) := by decide +kernel
theorem dX4_night_82 : decode cX4_night 82 = .ok (.iload 5, 2) := by decide +kernel
theorem dX4_night_84 : decode cX4_night 84 = .ok (.dup2, 1) := by decide +kernel
theorem dX4_night_85 : decode cX4_night 85 = .ok (.iaload, 1) := by decide +kernel
theorem dX4_night_86 : decode cX4_night 86 = .ok (.iconst 1, 1) := by decide +kernel
theorem dX4_night_87 : decode cX4_night 87 = .ok (.iload 4, 2) := by decide +kernel
theorem dX4_night_89 : decode cX4_night 89 = .ok (.bipush 16, 2) := by decide +kernel
theorem dX4_night_91 : decode cX4_night 91 = .ok (.iushr, 1) := by decide +kernel
theorem dX4_night_92 : decode cX4_night 92 = .ok (.aload_n 0, 1) := by decide +kernel
theorem dX4_night_93 : decode cX4_night 93 = .ok (.getfield 10, 3) := by decide +kernel
theorem dX4_night_96 : decode cX4_night 96 = .ok (.getfield 173, 3) := by decide +kernel
theorem dX4_night_99 : decode cX4_night 99 = .ok (.irem, 1) := by decide +kernel
theorem dX4_night_100 : decode cX4_night 100 = .ok (.ishl, 1) := by decide +kernel
theorem dX4_night_101 : decode cX4_night 101 = .ok (.ior, 1) := by decide +kernel
theorem dX4_night_102 : decode cX4_night 102 = .ok (.iastore, 1) := by decide +kernel
theorem dX4_night_103 : decode cX4_night 103 = .ok (.iinc 5 1, 3) := by decide +kernel
theorem dX4_night_106 : decode cX4_night 106 = .ok (.goto (-60), 3) := by decide +kernel
theorem dX4_night_109 : decode cX4_night 109 = .ok (.aload_n 0, 1) := by decide +kernel
theorem dX4_night_110 : decode cX4_night 110 = .ok (.getfield 60, 3) := by decide +kernel
theorem dX4_night_113 : decode cX4_night 113 = .ok (.iload_n 2, 1) := by decide +kernel
theorem dX4_night_114 : decode cX4_night 114 = .ok (.invokevirtual 187, 3) := by decide +kernel
theorem dX4_night_117 : decode cX4_night 117 = .ok (.iload_n 3, 1) := by decide +kernel
theorem dX4_night_118 : decode cX4_night 118 = .ok (.ifCond .ne 14, 3) := by decide +kernel
theorem dX4_night_121 : decode cX4_night 121 = .ok (.aload_n 0, 1) := by decide +kernel
theorem dX4_night_122 : decode cX4_night 122 = .ok (.getfield 60, 3) := by decide +kernel
theorem dX4_night_125 : decode cX4_night 125 = .ok (.iload_n 2, 1) := by decide +kernel
theorem dX4_night_126 : decode cX4_night 126 = .ok (.invokevirtual 220, 3) := by decide +kernel
theorem dX4_night_129 : decode cX4_night 129 = .ok (.goto 12, 3) := by decide +kernel
theorem dX4_night_132 : decode cX4_night 132 = .ok (.aload_n 0, 1) := by decide +kernel
theorem dX4_night_133 : decode cX4_night 133 = .ok (.getfield 60, 3) := by decide +kernel
theorem dX4_night_136 : decode cX4_night 136 = .ok (.getfield 149, 3) := by decide +kernel
theorem dX4_night_139 : decode cX4_night 139 = .ok (.iload_n 2, 1) := by decide +kernel
theorem dX4_night_140 : decode cX4_night 140 = .ok (.iaload, 1) := by decide +kernel
theorem dX4_night_141 : decode cX4_night 141 = .ok (.ireturn, 1) := by decide +kernel
theorem dX4_sheet_0 : decode cX4_sheet 0 = .ok (.iload_n 1, 1) := by decide +kernel
theorem dX4_sheet_1 : decode cX4_sheet 1 = .ok (.invokestatic 120, 3) := by decide +kernel
theorem dX4_sheet_4 : decode cX4_sheet 4 = .ok (.ifCond .eq 16, 3) := by decide +kernel
theorem dX4_sheet_7 : decode cX4_sheet 7 = .ok (.iload_n 2, 1) := by decide +kernel
theorem dX4_sheet_8 : decode cX4_sheet 8 = .ok (.invokestatic 223, 3) := by decide +kernel
theorem dX4_sheet_11 : decode cX4_sheet 11 = .ok (.ifCond .eq 9, 3) := by decide +kernel
theorem dX4_sheet_14 : decode cX4_sheet 14 = .ok (.iload_n 3, 1) := by decide +kernel
theorem dX4_sheet_15 : decode cX4_sheet 15 = .ok (.bipush 60, 2) := by decide +kernel
theorem dX4_sheet_17 : decode cX4_sheet 17 = .ok (.if_icmp .le 6, 3) := by decide +kernel
theorem dX4_sheet_20 : decode cX4_sheet 20 = .ok (.bipush (-2), 2) := by decide +kernel
theorem dX4_sheet_22 : decode cX4_sheet 22 = .ok (.ireturn, 1) := by decide +kernel
theorem dX4_sheet_23 : decode cX4_sheet 23 = .ok (.iload_n 3, 1) := by decide +kernel
theorem dX4_sheet_24 : decode cX4_sheet 24 = .ok (.ifCond .ge 9, 3) := by decide +kernel
theorem dX4_sheet_27 : decode cX4_sheet 27 = .ok (.aload_n 0, 1) := by decide +kernel
theorem dX4_sheet_28 : decode cX4_sheet 28 = .ok (.iconst 5, 1) := by decide +kernel
theorem dX4_sheet_29 : decode cX4_sheet 29 = .ok (.invokevirtual 126, 3) := by decide +kernel
theorem dX4_sheet_32 : decode cX4_sheet 32 = .ok (.ireturn, 1) := by decide +kernel
theorem dX4_sheet_33 : decode cX4_sheet 33 = .ok (.aload_n 0, 1) := by decide +kernel
theorem dX4_sheet_34 : decode cX4_sheet 34 = .ok (.getfield 42, 3) := by decide +kernel
theorem dX4_sheet_37 : decode cX4_sheet 37 = .ok (.iload_n 1, 1) := by decide +kernel
theorem dX4_sheet_38 : decode cX4_sheet 38 = .ok (.aaload, 1) := by decide +kernel
theorem dX4_sheet_39 : decode cX4_sheet 39 = .ok (.iload_n 2, 1) := by decide +kernel
theorem dX4_sheet_40 : decode cX4_sheet 40 = .ok (.iload_n 3, 1) := by decide +kernel
theorem dX4_sheet_41 : decode cX4_sheet 41 = .ok (.invokevirtual 226, 3) := by decide +kernel
theorem dX4_sheet_44 : decode cX4_sheet 44 = .ok (.iload_n 3, 1) := by decide +kernel
theorem dX4_sheet_45 : decode cX4_sheet 45 = .ok (.ireturn, 1) := by decide +kernel
theorem dX4_lose_0 : decode cX4_lose 0 = .ok (.iload_n 1, 1) := by decide +kernel
theorem dX4_lose_1 : decode cX4_lose 1 = .ok (.invokestatic 120, 3) := by decide +kernel
theorem dX4_lose_4 : decode cX4_lose 4 = .ok (.ifCond .ne 6, 3) := by decide +kernel
theorem dX4_lose_7 : decode cX4_lose 7 = .ok (.bipush (-2), 2) := by decide +kernel
theorem dX4_lose_9 : decode cX4_lose 9 = .ok (.ireturn, 1) := by decide +kernel
theorem dX4_lose_10 : decode cX4_lose 10 = .ok (.aload_n 0, 1) := by decide +kernel
theorem dX4_lose_11 : decode cX4_lose 11 = .ok (.getfield 42, 3) := by decide +kernel
theorem dX4_lose_14 : decode cX4_lose 14 = .ok (.iload_n 1, 1) := by decide +kernel
theorem dX4_lose_15 : decode cX4_lose 15 = .ok (.aaload, 1) := by decide +kernel
theorem dX4_lose_16 : decode cX4_lose 16 = .ok (.getfield 123, 3) := by decide +kernel
theorem dX4_lose_19 : decode cX4_lose 19 = .ok (.ifCond .eq 9, 3) := by decide +kernel
theorem dX4_lose_22 : decode cX4_lose 22 = .ok (.aload_n 0, 1) := by decide +kernel
theorem dX4_lose_23 : decode cX4_lose 23 = .ok (.iconst 1, 1) := by decide +kernel
theorem dX4_lose_24 : decode cX4_lose 24 = .ok (.invokevirtual 126, 3) := by decide +kernel
theorem dX4_lose_27 : decode cX4_lose 27 = .ok (.ireturn, 1) := by decide +kernel
theorem dX4_lose_28 : decode cX4_lose 28 = .ok (.aload_n 0, 1) := by decide +kernel
theorem dX4_lose_29 : decode cX4_lose 29 = .ok (.getfield 42, 3) := by decide +kernel
theorem dX4_lose_32 : decode cX4_lose 32 = .ok (.iload_n 1, 1) := by decide +kernel
theorem dX4_lose_33 : decode cX4_lose 33 = .ok (.aaload, 1) := by decide +kernel
theorem dX4_lose_34 : decode cX4_lose 34 = .ok (.iconst 1, 1) := by decide +kernel
theorem dX4_lose_35 : decode cX4_lose 35 = .ok (.putfield 123, 3) := by decide +kernel
theorem dX4_lose_38 : decode cX4_lose 38 = .ok (.aload_n 0, 1) := by decide +kernel
theorem dX4_lose_39 : decode cX4_lose 39 = .ok (.getfield 42, 3) := by decide +kernel
theorem dX4_lose_42 : decode cX4_lose 42 = .ok (.iload_n 1, 1) := by decide +kernel
theorem dX4_lose_43 : decode cX4_lose 43 = .ok (.aaload, 1) := by decide +kernel
theorem dX4_lose_44 : decode cX4_lose 44 = .ok (.getfield 129, 3) := by decide +kernel
theorem dX4_lose_47 : decode cX4_lose 47 = .ok (.ireturn, 1) := by decide +kernel
theorem dX4_lay_0 : decode cX4_lay 0 = .ok (.iload_n 1, 1) := by decide +kernel
theorem dX4_lay_1 : decode cX4_lay 1 = .ok (.invokestatic 120, 3) := by decide +kernel
theorem dX4_lay_4 : decode cX4_lay 4 = .ok (.ifCond .eq 10, 3) := by decide +kernel
theorem dX4_lay_7 : decode cX4_lay 7 = .ok (.iload_n 2, 1) := by decide +kernel
theorem dX4_lay_8 : decode cX4_lay 8 = .ok (.invokestatic 223, 3) := by decide +kernel
theorem dX4_lay_11 : decode cX4_lay 11 = .ok (.ifCond .ne 6, 3) := by decide +kernel
theorem dX4_lay_14 : decode cX4_lay 14 = .ok (.bipush (-2), 2) := by decide +kernel
theorem dX4_lay_16 : decode cX4_lay 16 = .ok (.ireturn, 1) := by decide +kernel
theorem dX4_lay_17 : decode cX4_lay 17 = .ok (.aload_n 0, 1) := by decide +kernel
theorem dX4_lay_18 : decode cX4_lay 18 = .ok (.getfield 42, 3) := by decide +kernel
theorem dX4_lay_21 : decode cX4_lay 21 = .ok (.iload_n 1, 1) := by decide +kernel
theorem dX4_lay_22 : decode cX4_lay 22 = .ok (.aaload, 1) := by decide +kernel
theorem dX4_lay_23 : decode cX4_lay 23 = .ok (.iload_n 2, 1) := by decide +kernel
theorem dX4_lay_24 : decode cX4_lay 24 = .ok (.iload_n 3, 1) := by decide +kernel
theorem dX4_lay_25 : decode cX4_lay 25 = .ok (.invokevirtual 230, 3) := by decide +kernel
theorem dX4_lay_28 : decode cX4_lay 28 = .ok (.istore 5, 2) := by decide +kernel
theorem dX4_lay_30 : decode cX4_lay 30 = .ok (.iload 5, 2) := by decide +kernel
theorem dX4_lay_32 : decode cX4_lay 32 = .ok (.ifCond .eq 10, 3) := by decide +kernel
theorem dX4_lay_35 : decode cX4_lay 35 = .ok (.aload_n 0, 1) := by decide +kernel
theorem dX4_lay_36 : decode cX4_lay 36 = .ok (.iload 5, 2) := by decide +kernel
theorem dX4_lay_38 : decode cX4_lay 38 = .ok (.invokevirtual 126, 3) := by decide +kernel
theorem dX4_lay_41 : decode cX4_lay 41 = .ok (.ireturn, 1) := by decide +kernel
theorem dX4_lay_42 : decode cX4_lay 42 = .ok (.aload_n 0, 1) := by decide +kernel
theorem dX4_lay_43 : decode cX4_lay 43 = .ok (.getfield 42, 3) := by decide +kernel
theorem dX4_lay_46 : decode cX4_lay 46 = .ok (.iload_n 1, 1) := by decide +kernel
end
section
theorem dX4_lay_47 : decode cX4_lay 47 = .ok (.aaload, 1) := by decide +kernel
theorem dX4_lay_48 : decode cX4_lay 48 = .ok (.iload_n 3, 1) := by decide +kernel
theorem dX4_lay_49 : decode cX4_lay 49 = .ok (.iload 4, 2) := by decide +kernel
theorem dX4_lay_51 : decode cX4_lay 51 = .ok (.invokevirtual 233, 3) := by decide +kernel
theorem dX4_lay_54 : decode cX4_lay 54 = .ok (.iconst 1, 1) := by decide +kernel
theorem dX4_lay_55 : decode cX4_lay 55 = .ok (.ireturn, 1) := by decide +kernel
theorem dX4_get_0 : decode cX4_get 0 = .ok (.iload_n 1, 1) := by decide +kernel
theorem dX4_get_1 : decode cX4_get 1 = .ok (.invokestatic 120, 3) := by decide +kernel
theorem dX4_get_4 : decode cX4_get 4 = .ok (.ifCond .eq 10, 3) := by decide +kernel
theorem dX4_get_7 : decode cX4_get 7 = .ok (.iload_n 2, 1) := by decide +kernel
theorem dX4_get_8 : decode cX4_get 8 = .ok (.invokestatic 223, 3) := by decide +kernel
theorem dX4_get_11 : decode cX4_get 11 = .ok (.ifCond .ne 6, 3) := by decide +kernel
theorem dX4_get_14 : decode cX4_get 14 = .ok (.ldc 236, 2) := by decide +kernel
theorem dX4_get_16 : decode cX4_get 16 = .ok (.ireturn, 1) := by decide +kernel
theorem dX4_get_17 : decode cX4_get 17 = .ok (.aload_n 0, 1) := by decide +kernel
theorem dX4_get_18 : decode cX4_get 18 = .ok (.getfield 42, 3) := by decide +kernel
theorem dX4_get_21 : decode cX4_get 21 = .ok (.iload_n 1, 1) := by decide +kernel
theorem dX4_get_22 : decode cX4_get 22 = .ok (.aaload, 1) := by decide +kernel
theorem dX4_get_23 : decode cX4_get 23 = .ok (.iload_n 2, 1) := by decide +kernel
theorem dX4_get_24 : decode cX4_get 24 = .ok (.iload_n 3, 1) := by decide +kernel
theorem dX4_get_25 : decode cX4_get 25 = .ok (.invokevirtual 230, 3) := by decide +kernel
theorem dX4_get_28 : decode cX4_get 28 = .ok (.istore 4, 2) := by decide +kernel
theorem dX4_get_30 : decode cX4_get 30 = .ok (.iload 4, 2) := by decide +kernel
theorem dX4_get_32 : decode cX4_get 32 = .ok (.ifCond .eq 13, 3) := by decide +kernel
theorem dX4_get_35 : decode cX4_get 35 = .ok (.aload_n 0, 1) := by decide +kernel
theorem dX4_get_36 : decode cX4_get 36 = .ok (.iload 4, 2) := by decide +kernel
theorem dX4_get_38 : decode cX4_get 38 = .ok (.invokevirtual 126, 3) := by decide +kernel
theorem dX4_get_41 : decode cX4_get 41 = .ok (.pop, 1) := by decide +kernel
theorem dX4_get_42 : decode cX4_get 42 = .ok (.ldc 236, 2) := by decide +kernel
theorem dX4_get_44 : decode cX4_get 44 = .ok (.ireturn, 1) := by decide +kernel
theorem dX4_get_45 : decode cX4_get 45 = .ok (.aload_n 0, 1) := by decide +kernel
theorem dX4_get_46 : decode cX4_get 46 = .ok (.getfield 42, 3) := by decide +kernel
theorem dX4_get_49 : decode cX4_get 49 = .ok (.iload_n 1, 1) := by decide +kernel
theorem dX4_get_50 : decode cX4_get 50 = .ok (.aaload, 1) := by decide +kernel
theorem dX4_get_51 : decode cX4_get 51 = .ok (.getfield 130, 3) := by decide +kernel
theorem dX4_get_54 : decode cX4_get 54 = .ok (.iload_n 3, 1) := by decide +kernel
theorem dX4_get_55 : decode cX4_get 55 = .ok (.iaload, 1) := by decide +kernel
theorem dX4_get_56 : decode cX4_get 56 = .ok (.ireturn, 1) := by decide +kernel
theorem dX4_copy_0 : decode cX4_copy 0 = .ok (.iload_n 1, 1) := by decide +kernel
theorem dX4_copy_1 : decode cX4_copy 1 = .ok (.invokestatic 120, 3) := by decide +kernel
theorem dX4_copy_4 : decode cX4_copy 4 = .ok (.ifCond .eq 10, 3) := by decide +kernel
theorem dX4_copy_7 : decode cX4_copy 7 = .ok (.iload_n 3, 1) := by decide +kernel
theorem dX4_copy_8 : decode cX4_copy 8 = .ok (.invokestatic 120, 3) := by decide +kernel
theorem dX4_copy_11 : decode cX4_copy 11 = .ok (.ifCond .ne 6, 3) := by decide +kernel
theorem dX4_copy_14 : decode cX4_copy 14 = .ok (.bipush (-2), 2) := by decide +kernel
theorem dX4_copy_16 : decode cX4_copy 16 = .ok (.ireturn, 1) := by decide +kernel
theorem dX4_copy_17 : decode cX4_copy 17 = .ok (.aload_n 0, 1) := by decide +kernel
theorem dX4_copy_18 : decode cX4_copy 18 = .ok (.getfield 42, 3) := by decide +kernel
theorem dX4_copy_21 : decode cX4_copy 21 = .ok (.iload_n 1, 1) := by decide +kernel
theorem dX4_copy_22 : decode cX4_copy 22 = .ok (.aaload, 1) := by decide +kernel
theorem dX4_copy_23 : decode cX4_copy 23 = .ok (.astore 6, 2) := by decide +kernel
theorem dX4_copy_25 : decode cX4_copy 25 = .ok (.aload_n 0, 1) := by decide +kernel
theorem dX4_copy_26 : decode cX4_copy 26 = .ok (.getfield 42, 3) := by decide +kernel
theorem dX4_copy_29 : decode cX4_copy 29 = .ok (.iload_n 3, 1) := by decide +kernel
theorem dX4_copy_30 : decode cX4_copy 30 = .ok (.aaload, 1) := by decide +kernel
theorem dX4_copy_31 : decode cX4_copy 31 = .ok (.astore 7, 2) := by decide +kernel
theorem dX4_copy_33 : decode cX4_copy 33 = .ok (.aload 6, 2) := by decide +kernel
theorem dX4_copy_35 : decode cX4_copy 35 = .ok (.getfield 123, 3) := by decide +kernel
theorem dX4_copy_38 : decode cX4_copy 38 = .ok (.ifCond .ne 11, 3) := by decide +kernel
theorem dX4_copy_41 : decode cX4_copy 41 = .ok (.aload 7, 2) := by decide +kernel
theorem dX4_copy_43 : decode cX4_copy 43 = .ok (.getfield 123, 3) := by decide +kernel
theorem dX4_copy_46 : decode cX4_copy 46 = .ok (.ifCond .eq 9, 3) := by decide +kernel
theorem dX4_copy_49 : decode cX4_copy 49 = .ok (.aload_n 0, 1) := by decide +kernel
theorem dX4_copy_50 : decode cX4_copy 50 = .ok (.iconst 1, 1) := by decide +kernel
theorem dX4_copy_51 : decode cX4_copy 51 = .ok (.invokevirtual 126, 3) := by decide +kernel
theorem dX4_copy_54 : decode cX4_copy 54 = .ok (.ireturn, 1) := by decide +kernel
theorem dX4_copy_55 : decode cX4_copy 55 = .ok (.aload 6, 2) := by decide +kernel
theorem dX4_copy_57 : decode cX4_copy 57 = .ok (.getfield 237, 3) := by decide +kernel
theorem dX4_copy_60 : decode cX4_copy 60 = .ok (.aload 7, 2) := by decide +kernel
theorem dX4_copy_62 : decode cX4_copy 62 = .ok (.getfield 237, 3) := by decide +kernel
theorem dX4_copy_65 : decode cX4_copy 65 = .ok (.if_icmp .eq 9, 3) := by decide +kernel
theorem dX4_copy_68 : decode cX4_copy 68 = .ok (.aload_n 0, 1) := by decide +kernel
theorem dX4_copy_69 : decode cX4_copy 69 = .ok (.iconst 4, 1) := by decide +kernel
theorem dX4_copy_70 : decode cX4_copy 70 = .ok (.invokevirtual 126, 3) := by decide +kernel
theorem dX4_copy_73 : decode cX4_copy 73 = .ok (.ireturn, 1) := by decide +kernel
theorem dX4_copy_74 : decode cX4_copy 74 = .ok (.aload 6, 2) := by decide +kernel
theorem dX4_copy_76 : decode cX4_copy 76 = .ok (.iload_n 2, 1) := by decide +kernel
theorem dX4_copy_77 : decode cX4_copy 77 = .ok (.iload 5, 2) := by decide +kernel
theorem dX4_copy_79 : decode cX4_copy 79 = .ok (.invokevirtual 240, 3) := by decide +kernel
theorem dX4_copy_82 : decode cX4_copy 82 = .ok (.ifCond .eq 15, 3) := by decide +kernel
theorem dX4_copy_85 : decode cX4_copy 85 = .ok (.aload 7, 2) := by decide +kernel
theorem dX4_copy_87 : decode cX4_copy 87 = .ok (.iload 4, 2) := by decide +kernel
theorem dX4_copy_89 : decode cX4_copy 89 = .ok (.iload 5, 2) := by decide +kernel
theorem dX4_copy_91 : decode cX4_copy 91 = .ok (.invokevirtual 240, 3) := by decide +kernel
theorem dX4_copy_94 : decode cX4_copy 94 = .ok (.ifCond .ne 9, 3) := by decide +kernel
theorem dX4_copy_97 : decode cX4_copy 97 = .ok (.aload_n 0, 1) := by decide +kernel
theorem dX4_copy_98 : decode cX4_copy 98 = .ok (.iconst 2, 1) := by decide +kernel
theorem dX4_copy_99 : decode cX4_copy 99 = .ok (.invokevirtual 126, 3) := by decide +kernel
theorem dX4_copy_102 : decode cX4_copy 102 = .ok (.ireturn, 1) := by decide +kernel
theorem dX4_copy_103 : decode cX4_copy 103 = .ok (.aload 6, 2) := by decide +kernel
theorem dX4_copy_105 : decode cX4_copy 105 = .ok (.getfield 130, 3) := by decide +kernel
theorem dX4_copy_108 : decode cX4_copy 108 = .ok (.iload_n 2, 1) := by decide +kernel
theorem dX4_copy_109 : decode cX4_copy 109 = .ok (.aload 7, 2) := by decide +kernel
theorem dX4_copy_111 : decode cX4_copy 111 = .ok (.getfield 130, 3) := by decide +kernel
theorem dX4_copy_114 : decode cX4_copy 114 = .ok (.iload 4, 2) := by decide +kernel
theorem dX4_copy_116 : decode cX4_copy 116 = .ok (.iload 5, 2) := by decide +kernel
theorem dX4_copy_118 : decode cX4_copy 118 = .ok (.invokestatic 243, 3) := by decide +kernel
theorem dX4_copy_121 : decode cX4_copy 121 = .ok (.iconst 1, 1) := by decide +kernel
theorem dX4_copy_122 : decode cX4_copy 122 = .ok (.ireturn, 1) := by decide +kernel
theorem dX4_write_0 : decode cX4_write 0 = .ok (.iload_n 1, 1) := by decide +kernel
theorem dX4_write_1 : decode cX4_write 1 = .ok (.invokestatic 140, 3) := by decide +kernel
theorem dX4_write_4 : decode cX4_write 4 = .ok (.ifCond .eq 10, 3) := by decide +kernel
theorem dX4_write_7 : decode cX4_write 7 = .ok (.iload_n 2, 1) := by decide +kernel
theorem dX4_write_8 : decode cX4_write 8 = .ok (.invokestatic 120, 3) := by decide +kernel
theorem dX4_write_11 : decode cX4_write 11 = .ok (.ifCond .ne 6, 3) := by decide +kernel
theorem dX4_write_14 : decode cX4_write 14 = .ok (.bipush (-2), 2) := by decide +kernel
theorem dX4_write_16 : decode cX4_write 16 = .ok (.ireturn, 1) := by decide +kernel
theorem dX4_write_17 : decode cX4_write 17 = .ok (.aload_n 0, 1) := by decide +kernel
theorem dX4_write_18 : decode cX4_write 18 = .ok (.getfield 42, 3) := by decide +kernel
theorem dX4_write_21 : decode cX4_write 21 = .ok (.iload_n 2, 1) := by decide +kernel
theorem dX4_write_22 : decode cX4_write 22 = .ok (.aaload, 1) := by decide +kernel
theorem dX4_write_23 : decode cX4_write 23 = .ok (.astore_n 3, 1) := by decide +kernel
theorem dX4_write_24 : decode cX4_write 24 = .ok (.aload_n 3, 1) := by decide +kernel
theorem dX4_write_25 : decode cX4_write 25 = .ok (.getfield 123, 3) := by decide +kernel
theorem dX4_write_28 : decode cX4_write 28 = .ok (.ifCond .eq 9, 3) := by decide +kernel
theorem dX4_write_31 : decode cX4_write 31 = .ok (.aload_n 0, 1) := by decide +kernel
theorem dX4_write_32 : decode cX4_write 32 = .ok (.iconst 1, 1) := by decide +kernel
theorem dX4_write_33 : decode cX4_write 33 = .ok (.invokevirtual 126, 3) := by decide +kernel
theorem dX4_write_36 : decode cX4_write 36 = .ok (.ireturn, 1) := by decide +kernel
theorem dX4_write_37 : decode cX4_write 37 = .ok (.aload_n 0, 1) := by decide +kernel
theorem dX4_write_38 : decode cX4_write 38 = .ok (.invokevirtual 143, 3) := by decide +kernel
theorem dX4_write_41 : decode cX4_write 41 = .ok (.iconst 0, 1) := by decide +kernel
theorem dX4_write_42 : decode cX4_write 42 = .ok (.istore 4, 2) := by decide +kernel
theorem dX4_write_44 : decode cX4_write 44 = .ok (.iload 4, 2) := by decide +kernel
theorem dX4_write_46 : decode cX4_write 46 = .ok (.aload_n 3, 1) := by decide +kernel
theorem dX4_write_47 : decode cX4_write 47 = .ok (.getfield 129, 3) := by decide +kernel
theorem dX4_write_50 : decode cX4_write 50 = .ok (.if_icmp .ge 49, 3) := by decide +kernel
theorem dX4_write_53 : decode cX4_write 53 = .ok (.iload 4, 2) := by decide +kernel
theorem dX4_write_55 : decode cX4_write 55 = .ok (.bipush 60, 2) := by decide +kernel
theorem dX4_write_57 : decode cX4_write 57 = .ok (.if_icmp .ge 42, 3) := by decide +kernel
theorem dX4_write_60 : decode cX4_write 60 = .ok (.aload_n 3, 1) := by decide +kernel
theorem dX4_write_61 : decode cX4_write 61 = .ok (.iload 4, 2) := by decide +kernel
theorem dX4_write_63 : decode cX4_write 63 = .ok (.iload_n 1, 1) := by decide +kernel
theorem dX4_write_64 : decode cX4_write 64 = .ok (.ifCond .ne 16, 3) := by decide +kernel
theorem dX4_write_67 : decode cX4_write 67 = .ok (.aload_n 0, 1) := by decide +kernel
theorem dX4_write_68 : decode cX4_write 68 = .ok (.getfield 52, 3) := by decide +kernel
theorem dX4_write_71 : decode cX4_write 71 = .ok (.getfield 146, 3) := by decide +kernel
theorem dX4_write_74 : decode cX4_write 74 = .ok (.iload 4, 2) := by decide +kernel
theorem dX4_write_76 : decode cX4_write 76 = .ok (.iaload, 1) := by decide +kernel
theorem dX4_write_77 : decode cX4_write 77 = .ok (.goto 13, 3) := by decide +kernel
theorem dX4_write_80 : decode cX4_write 80 = .ok (.aload_n 0, 1) := by decide +kernel
theorem dX4_write_81 : decode cX4_write 81 = .ok (.getfield 52, 3) := by decide +kernel
theorem dX4_write_84 : decode cX4_write 84 = .ok (.getfield 149, 3) := by decide +kernel
theorem dX4_write_87 : decode cX4_write 87 = .ok (.iload 4, 2) := by decide +kernel
theorem dX4_write_89 : decode cX4_write 89 = .ok (.iaload, 1) := by decide +kernel
theorem dX4_write_90 : decode cX4_write 90 = .ok (.invokevirtual 233, 3) := by decide +kernel
theorem dX4_write_93 : decode cX4_write 93 = .ok (.iinc 4 1, 3) := by decide +kernel
theorem dX4_write_96 : decode cX4_write 96 = .ok (.goto (-52), 3) := by decide +kernel
theorem dX4_write_99 : decode cX4_write 99 = .ok (.aload_n 3, 1) := by decide +kernel
theorem dX4_write_100 : decode cX4_write 100 = .ok (.getfield 129, 3) := by decide +kernel
theorem dX4_write_103 : decode cX4_write 103 = .ok (.ireturn, 1) := by decide +kernel
theorem dX4_count_0 : decode cX4_count 0 = .ok (.iload_n 1, 1) := by decide +kernel
theorem dX4_count_1 : decode cX4_count 1 = .ok (.tableswitch 121 0 8 #[51, 59, 67, 75, 80, 85, 93, 107, 116], 51) := by decide +kernel
theorem dX4_count_52 : decode cX4_count 52 = .ok (.aload_n 0, 1) := by decide +kernel
theorem dX4_count_53 : decode cX4_count 53 = .ok (.getfield 10, 3) := by decide +kernel
theorem dX4_count_56 : decode cX4_count 56 = .ok (.getfield 173, 3) := by decide +kernel
theorem dX4_count_59 : decode cX4_count 59 = .ok (.ireturn, 1) := by decide +kernel
theorem dX4_count_60 : decode cX4_count 60 = .ok (.aload_n 0, 1) := by decide +kernel
theorem dX4_count_61 : decode cX4_count 61 = .ok (.getfield 10, 3) := by decide +kernel
theorem dX4_count_64 : decode cX4_count 64 = .ok (.getfield 76, 3) := by decide +kernel
theorem dX4_count_67 : decode cX4_count 67 = .ok (.ireturn, 1) := by decide +kernel
theorem dX4_count_68 : decode cX4_count 68 = .ok (.aload_n 0, 1) := by decide +kernel
theorem dX4_count_69 : decode cX4_count 69 = .ok (.getfield 27, 3) := by decide +kernel
theorem dX4_count_72 : decode cX4_count 72 = .ok (.getfield 113, 3) := by decide +kernel
theorem dX4_count_75 : decode cX4_count 75 = .ok (.ireturn, 1) := by decide +kernel
theorem dX4_count_76 : decode cX4_count 76 = .ok (.aload_n 0, 1) := by decide +kernel
theorem dX4_count_77 : decode cX4_count 77 = .ok (.getfield 37, 3) := by decide +kernel
theorem dX4_count_80 : decode cX4_count 80 = .ok (.ireturn, 1) := by decide +kernel
theorem dX4_count_81 : decode cX4_count 81 = .ok (.aload_n 0, 1) := by decide +kernel
theorem dX4_count_82 : decode cX4_count 82 = .ok (.getfield 20, 3) := by decide +kernel
theorem dX4_count_85 : decode cX4_count 85 = .ok (.ireturn, 1) := by decide +kernel
theorem dX4_count_86 : decode cX4_count 86 = .ok (.aload_n 0, 1) := by decide +kernel
theorem dX4_count_87 : decode cX4_count 87 = .ok (.getfield 10, 3) := by decide +kernel
theorem dX4_count_90 : decode cX4_count 90 = .ok (.invokevirtual 249, 3) := by decide +kernel
theorem dX4_count_93 : decode cX4_count 93 = .ok (.ireturn, 1) := by decide +kernel
theorem dX4_count_94 : decode cX4_count 94 = .ok (.aload_n 0, 1) := by decide +kernel
theorem dX4_count_95 : decode cX4_count 95 = .ok (.invokevirtual 143, 3) := by decide +kernel
theorem dX4_count_98 : decode cX4_count 98 = .ok (.aload_n 0, 1) := by decide +kernel
theorem dX4_count_99 : decode cX4_count 99 = .ok (.getfield 52, 3) := by decide +kernel
theorem dX4_count_102 : decode cX4_count 102 = .ok (.bipush 59, 2) := by decide +kernel
theorem dX4_count_104 : decode cX4_count 104 = .ok (.invokevirtual 220, 3) := by decide +kernel
theorem dX4_count_107 : decode cX4_count 107 = .ok (.ireturn, 1) := by decide +kernel
theorem dX4_count_108 : decode cX4_count 108 = .ok (.aload_n 0, 1) := by decide +kernel
theorem dX4_count_109 : decode cX4_count 109 = .ok (.getfield 10, 3) := by decide +kernel
theorem dX4_count_112 : decode cX4_count 112 = .ok (.iconst 4, 1) := by decide +kernel
theorem dX4_count_113 : decode cX4_count 113 = .ok (.invokevirtual 252, 3) := by decide +kernel
theorem dX4_count_116 : decode cX4_count 116 = .ok (.ireturn, 1) := by decide +kernel
theorem dX4_count_117 : decode cX4_count 117 = .ok (.aload_n 0, 1) := by decide +kernel
theorem dX4_count_118 : decode cX4_count 118 = .ok (.getfield 46, 3) := by decide +kernel
theorem dX4_count_121 : decode cX4_count 121 = .ok (.ireturn, 1) := by decide +kernel
theorem dX4_count_122 : decode cX4_count 122 = .ok (.bipush (-2), 2) := by decide +kernel
theorem dX4_count_124 : decode cX4_count 124 = .ok (.ireturn, 1) := by decide +kernel
theorem dX4_digest_0 : decode cX4_digest 0 = .ok (.ldc2_w 255, 3) := by decide +kernel
theorem dX4_digest_3 : decode cX4_digest 3 = .ok (.lstore_n 1, 1) := by decide +kernel
theorem dX4_digest_4 : decode cX4_digest 4 = .ok (.iconst 0, 1) := by decide +kernel
theorem dX4_digest_5 : decode cX4_digest 5 = .ok (.istore_n 3, 1) := by decide +kernel
theorem dX4_digest_6 : decode cX4_digest 6 = .ok (.iload_n 3, 1) := by decide +kernel
theorem dX4_digest_7 : decode cX4_digest 7 = .ok (.bipush 7, 2) := by decide +kernel
theorem dX4_digest_9 : decode cX4_digest 9 = .ok (.if_icmp .gt 22, 3) := by decide +kernel
theorem dX4_digest_12 : decode cX4_digest 12 = .ok (.ldc2_w 257, 3) := by decide +kernel
theorem dX4_digest_15 : decode cX4_digest 15 = .ok (.lload_n 1, 1) := by decide +kernel
theorem dX4_digest_16 : decode cX4_digest 16 = .ok (.lmul, 1) := by decide +kernel
theorem dX4_digest_17 : decode cX4_digest 17 = .ok (.aload_n 0, 1) := by decide +kernel
theorem dX4_digest_18 : decode cX4_digest 18 = .ok (.iload_n 3, 1) := by decide +kernel
theorem dX4_digest_19 : decode cX4_digest 19 = .ok (.invokevirtual 259, 3) := by decide +kernel
theorem dX4_digest_22 : decode cX4_digest 22 = .ok (.i2l, 1) := by decide +kernel
theorem dX4_digest_23 : decode cX4_digest 23 = .ok (.ladd, 1) := by decide +kernel
theorem dX4_digest_24 : decode cX4_digest 24 = .ok (.lstore_n 1, 1) := by decide +kernel
theorem dX4_digest_25 : decode cX4_digest 25 = .ok (.iinc 3 1, 3) := by decide +kernel
theorem dX4_digest_28 : decode cX4_digest 28 = .ok (.goto (-22), 3) := by decide +kernel
theorem dX4_digest_31 : decode cX4_digest 31 = .ok (.ldc2_w 257, 3) := by decide +kernel
theorem dX4_digest_34 : decode cX4_digest 34 = .ok (.lload_n 1, 1) := by decide +kernel
theorem dX4_digest_35 : decode cX4_digest 35 = .ok (.lmul, 1) := by decide +kernel
theorem dX4_digest_36 : decode cX4_digest 36 = .ok (.aload_n 0, 1) := by decide +kernel
theorem dX4_digest_37 : decode cX4_digest 37 = .ok (.invokevirtual 261, 3) := by decide +kernel
theorem dX4_digest_40 : decode cX4_digest 40 = .ok (.i2l, 1) := by decide +kernel
theorem dX4_digest_41 : decode cX4_digest 41 = .ok (.ladd, 1) := by decide +kernel
theorem dX4_digest_42 : decode cX4_digest 42 = .ok (.lstore_n 1, 1) := by decide +kernel
theorem dX4_digest_43 : decode cX4_digest 43 = .ok (.iconst 0, 1) := by decide +kernel
theorem dX4_digest_44 : decode cX4_digest 44 = .ok (.istore_n 3, 1) := by decide +kernel
theorem dX4_digest_45 : decode cX4_digest 45 = .ok (.iload_n 3, 1) := by decide +kernel
theorem dX4_digest_46 : decode cX4_digest 46 = .ok (.bipush 9, 2) := by decide +kernel
theorem dX4_digest_48 : decode cX4_digest 48 = .ok (.if_icmp .ge 22, 3) := by decide +kernel
theorem dX4_digest_51 : decode cX4_digest 51 = .ok (.ldc2_w 257, 3) := by decide +kernel
theorem dX4_digest_54 : decode cX4_digest 54 = .ok (.lload_n 1, 1) := by decide +kernel
theorem dX4_digest_55 : decode cX4_digest 55 = .ok (.lmul, 1) := by decide +kernel
theorem dX4_digest_56 : decode cX4_digest 56 = .ok (.aload_n 0, 1) := by decide +kernel
theorem dX4_digest_57 : decode cX4_digest 57 = .ok (.iload_n 3, 1) := by decide +kernel
theorem dX4_digest_58 : decode cX4_digest 58 = .ok (.invokevirtual 263, 3) := by decide +kernel
theorem dX4_digest_61 : decode cX4_digest 61 = .ok (.i2l, 1) := by decide +kernel
theorem dX4_digest_62 : decode cX4_digest 62 = .ok (.ladd, 1) := by decide +kernel
theorem dX4_digest_63 : decode cX4_digest 63 = .ok (.lstore_n 1, 1) := by decide +kernel
theorem dX4_digest_64 : decode cX4_digest 64 = .ok (.iinc 3 1, 3) := by decide +kernel
theorem dX4_digest_67 : decode cX4_digest 67 = .ok (.goto (-22), 3) := by decide +kernel
theorem dX4_digest_70 : decode cX4_digest 70 = .ok (.iconst 0, 1) := by decide +kernel
theorem dX4_digest_71 : decode cX4_digest 71 = .ok (.istore_n 3, 1) := by decide +kernel
theorem dX4_digest_72 : decode cX4_digest 72 = .ok (.iload_n 3, 1) := by decide +kernel
theorem dX4_digest_73 : decode cX4_digest 73 = .ok (.aload_n 0, 1) := by decide +kernel
theorem dX4_digest_74 : decode cX4_digest 74 = .ok (.getfield 10, 3) := by decide +kernel
theorem dX4_digest_77 : decode cX4_digest 77 = .ok (.getfield 173, 3) := by decide +kernel
theorem dX4_digest_80 : decode cX4_digest 80 = .ok (.if_icmp .ge 16, 3) := by decide +kernel
theorem dX4_digest_83 : decode cX4_digest 83 = .ok (.aload_n 0, 1) := by decide +kernel
theorem dX4_digest_84 : decode cX4_digest 84 = .ok (.lload_n 1, 1) := by decide +kernel
theorem dX4_digest_85 : decode cX4_digest 85 = .ok (.iload_n 3, 1) := by decide +kernel
theorem dX4_digest_86 : decode cX4_digest 86 = .ok (.invokevirtual 266, 3) := by decide +kernel
theorem dX4_digest_89 : decode cX4_digest 89 = .ok (.lstore_n 1, 1) := by decide +kernel
theorem dX4_digest_90 : decode cX4_digest 90 = .ok (.iinc 3 1, 3) := by decide +kernel
theorem dX4_digest_93 : decode cX4_digest 93 = .ok (.goto (-21), 3) := by decide +kernel
theorem dX4_digest_96 : decode cX4_digest 96 = .ok (.getstatic 270, 3) := by decide +kernel
theorem dX4_digest_99 : decode cX4_digest 99 = .ok (.astore_n 3, 1) := by decide +kernel
theorem dX4_digest_100 : decode cX4_digest 100 = .ok (.aload_n 3, 1) := by decide +kernel
theorem dX4_digest_101 : decode cX4_digest 101 = .ok (.arraylength, 1) := by decide +kernel
theorem dX4_digest_102 : decode cX4_digest 102 = .ok (.istore 4, 2) := by decide +kernel
theorem dX4_digest_104 : decode cX4_digest 104 = .ok (.iconst 0, 1) := by decide +kernel
theorem dX4_digest_105 : decode cX4_digest 105 = .ok (.istore 5, 2) := by decide +kernel
theorem dX4_digest_107 : decode cX4_digest 107 = .ok (.iload 5, 2) := by decide +kernel
theorem dX4_digest_109 : decode cX4_digest 109 = .ok (.iload 4, 2) := by decide +kernel
theorem dX4_digest_111 : decode cX4_digest 111 = .ok (.if_icmp .ge 45, 3) := by decide +kernel
theorem dX4_digest_114 : decode cX4_digest 114 = .ok (.aload_n 3, 1) := by decide +kernel
theorem dX4_digest_115 : decode cX4_digest 115 = .ok (.iload 5, 2) := by decide +kernel
theorem dX4_digest_117 : decode cX4_digest 117 = .ok (.iaload, 1) := by decide +kernel
theorem dX4_digest_118 : decode cX4_digest 118 = .ok (.istore 6, 2) := by decide +kernel
theorem dX4_digest_120 : decode cX4_digest 120 = .ok (.ldc2_w 257, 3) := by decide +kernel
theorem dX4_digest_123 : decode cX4_digest 123 = .ok (.lload_n 1, 1) := by decide +kernel
theorem dX4_digest_124 : decode cX4_digest 124 = .ok (.lmul, 1) := by decide +kernel
theorem dX4_digest_125 : decode cX4_digest 125 = .ok (.aload_n 0, 1) := by decide +kernel
theorem dX4_digest_126 : decode cX4_digest 126 = .ok (.iload 6, 2) := by decide +kernel
theorem dX4_digest_128 : decode cX4_digest 128 = .ok (.iconst 0, 1) := by decide +kernel
theorem dX4_digest_129 : decode cX4_digest 129 = .ok (.invokevirtual 273, 3) := by decide +kernel
theorem dX4_digest_132 : decode cX4_digest 132 = .ok (.i2l, 1) := by decide +kernel
theorem dX4_digest_133 : decode cX4_digest 133 = .ok (.ladd, 1) := by decide +kernel
theorem dX4_digest_134 : decode cX4_digest 134 = .ok (.lstore_n 1, 1) := by decide +kernel
theorem dX4_digest_135 : decode cX4_digest 135 = .ok (.ldc2_w 257, 3) := by decide +kernel
theorem dX4_digest_138 : decode cX4_digest 138 = .ok (.lload_n 1, 1) := by decide +kernel
theorem dX4_digest_139 : decode cX4_digest 139 = .ok (.lmul, 1) := by decide +kernel
theorem dX4_digest_140 : decode cX4_digest 140 = .ok (.aload_n 0, 1) := by decide +kernel
theorem dX4_digest_141 : decode cX4_digest 141 = .ok (.iload 6, 2) := by decide +kernel
theorem dX4_digest_143 : decode cX4_digest 143 = .ok (.iconst 1, 1) := by decide +kernel
theorem dX4_digest_144 : decode cX4_digest 144 = .ok (.invokevirtual 273, 3) := by decide +kernel
theorem dX4_digest_147 : decode cX4_digest 147 = .ok (.i2l, 1) := by decide +kernel
theorem dX4_digest_148 : decode cX4_digest 148 = .ok (.ladd, 1) := by decide +kernel
theorem dX4_digest_149 : decode cX4_digest 149 = .ok (.lstore_n 1, 1) := by decide +kernel
theorem dX4_digest_150 : decode cX4_digest 150 = .ok (.iinc 5 1, 3) := by decide +kernel
theorem dX4_digest_153 : decode cX4_digest 153 = .ok (.goto (-46), 3) := by decide +kernel
theorem dX4_digest_156 : decode cX4_digest 156 = .ok (.ldc2_w 257, 3) := by decide +kernel
theorem dX4_digest_159 : decode cX4_digest 159 = .ok (.lload_n 1, 1) := by decide +kernel
theorem dX4_digest_160 : decode cX4_digest 160 = .ok (.lmul, 1) := by decide +kernel
theorem dX4_digest_161 : decode cX4_digest 161 = .ok (.aload_n 0, 1) := by decide +kernel
theorem dX4_digest_162 : decode cX4_digest 162 = .ok (.invokevirtual 276, 3) := by decide +kernel
theorem dX4_digest_165 : decode cX4_digest 165 = .ok (.i2l, 1) := by decide +kernel
theorem dX4_digest_166 : decode cX4_digest 166 = .ok (.ladd, 1) := by decide +kernel
theorem dX4_digest_167 : decode cX4_digest 167 = .ok (.lstore_n 1, 1) := by decide +kernel
theorem dX4_digest_168 : decode cX4_digest 168 = .ok (.ldc2_w 257, 3) := by decide +kernel
theorem dX4_digest_171 : decode cX4_digest 171 = .ok (.lload_n 1, 1) := by decide +kernel
theorem dX4_digest_172 : decode cX4_digest 172 = .ok (.lmul, 1) := by decide +kernel
theorem dX4_digest_173 : decode cX4_digest 173 = .ok (.aload_n 0, 1) := by decide +kernel
theorem dX4_digest_174 : decode cX4_digest 174 = .ok (.iconst 0, 1) := by decide +kernel
theorem dX4_digest_175 : decode cX4_digest 175 = .ok (.invokevirtual 279, 3) := by decide +kernel
theorem dX4_digest_178 : decode cX4_digest 178 = .ok (.i2l, 1) := by decide +kernel
theorem dX4_digest_179 : decode cX4_digest 179 = .ok (.ladd, 1) := by decide +kernel
theorem dX4_digest_180 : decode cX4_digest 180 = .ok (.lstore_n 1, 1) := by decide +kernel
theorem dX4_digest_181 : decode cX4_digest 181 = .ok (.ldc2_w 257, 3) := by decide +kernel
theorem dX4_digest_184 : decode cX4_digest 184 = .ok (.lload_n 1, 1) := by decide +kernel
theorem dX4_digest_185 : decode cX4_digest 185 = .ok (.lmul, 1) := by decide +kernel
theorem dX4_digest_186 : decode cX4_digest 186 = .ok (.aload_n 0, 1) := by decide +kernel
theorem dX4_digest_187 : decode cX4_digest 187 = .ok (.iconst 1, 1) := by decide +kernel
theorem dX4_digest_188 : decode cX4_digest 188 = .ok (.invokevirtual 279, 3) := by decide +kernel
theorem dX4_digest_191 : decode cX4_digest 191 = .ok (.i2l, 1) := by decide +kernel
theorem dX4_digest_192 : decode cX4_digest 192 = .ok (.ladd, 1) := by decide +kernel
theorem dX4_digest_193 : decode cX4_digest 193 = .ok (.lstore_n 1, 1) := by decide +kernel
theorem dX4_digest_194 : decode cX4_digest 194 = .ok (.ldc2_w 257, 3) := by decide +kernel
theorem dX4_digest_197 : decode cX4_digest 197 = .ok (.lload_n 1, 1) := by decide +kernel
theorem dX4_digest_198 : decode cX4_digest 198 = .ok (.lmul, 1) := by decide +kernel
theorem dX4_digest_199 : decode cX4_digest 199 = .ok (.aload_n 0, 1) := by decide +kernel
theorem dX4_digest_200 : decode cX4_digest 200 = .ok (.iconst 0, 1) := by decide +kernel
theorem dX4_digest_201 : decode cX4_digest 201 = .ok (.iconst 0, 1) := by decide +kernel
theorem dX4_digest_202 : decode cX4_digest 202 = .ok (.iconst 1, 1) := by decide +kernel
theorem dX4_digest_203 : decode cX4_digest 203 = .ok (.invokevirtual 282, 3) := by decide +kernel
theorem dX4_digest_206 : decode cX4_digest 206 = .ok (.i2l, 1) := by decide +kernel
theorem dX4_digest_207 : decode cX4_digest 207 = .ok (.ladd, 1) := by decide +kernel
theorem dX4_digest_208 : decode cX4_digest 208 = .ok (.lstore_n 1, 1) := by decide +kernel
theorem dX4_digest_209 : decode cX4_digest 209 = .ok (.ldc2_w 257, 3) := by decide +kernel
theorem dX4_digest_212 : decode cX4_digest 212 = .ok (.lload_n 1, 1) := by decide +kernel
theorem dX4_digest_213 : decode cX4_digest 213 = .ok (.lmul, 1) := by decide +kernel
theorem dX4_digest_214 : decode cX4_digest 214 = .ok (.aload_n 0, 1) := by decide +kernel
theorem dX4_digest_215 : decode cX4_digest 215 = .ok (.bipush 9, 2) := by decide +kernel
theorem dX4_digest_217 : decode cX4_digest 217 = .ok (.iconst 0, 1) := by decide +kernel
theorem dX4_digest_218 : decode cX4_digest 218 = .ok (.invokevirtual 285, 3) := by decide +kernel
theorem dX4_digest_221 : decode cX4_digest 221 = .ok (.i2l, 1) := by decide +kernel
theorem dX4_digest_222 : decode cX4_digest 222 = .ok (.ladd, 1) := by decide +kernel
theorem dX4_digest_223 : decode cX4_digest 223 = .ok (.lstore_n 1, 1) := by decide +kernel
theorem dX4_digest_224 : decode cX4_digest 224 = .ok (.ldc2_w 257, 3) := by decide +kernel
theorem dX4_digest_227 : decode cX4_digest 227 = .ok (.lload_n 1, 1) := by decide +kernel
theorem dX4_digest_228 : decode cX4_digest 228 = .ok (.lmul, 1) := by decide +kernel
theorem dX4_digest_229 : decode cX4_digest 229 = .ok (.aload_n 0, 1) := by decide +kernel
theorem dX4_digest_230 : decode cX4_digest 230 = .ok (.bipush 9, 2) := by decide +kernel
theorem dX4_digest_232 : decode cX4_digest 232 = .ok (.iconst 1, 1) := by decide +kernel
theorem dX4_digest_233 : decode cX4_digest 233 = .ok (.invokevirtual 285, 3) := by decide +kernel
theorem dX4_digest_236 : decode cX4_digest 236 = .ok (.i2l, 1) := by decide +kernel
theorem dX4_digest_237 : decode cX4_digest 237 = .ok (.ladd, 1) := by decide +kernel
theorem dX4_digest_238 : decode cX4_digest 238 = .ok (.lstore_n 1, 1) := by decide +kernel
theorem dX4_digest_239 : decode cX4_digest 239 = .ok (.iconst 0, 1) := by decide +kernel
theorem dX4_digest_240 : decode cX4_digest 240 = .ok (.istore_n 3, 1) := by decide +kernel
theorem dX4_digest_241 : decode cX4_digest 241 = .ok (.iload_n 3, 1) := by decide +kernel
theorem dX4_digest_242 : decode cX4_digest 242 = .ok (.iconst 1, 1) := by decide +kernel
theorem dX4_digest_243 : decode cX4_digest 243 = .ok (.if_icmp .gt 39, 3) := by decide +kernel
theorem dX4_digest_246 : decode cX4_digest 246 = .ok (.ldc2_w 257, 3) := by decide +kernel
theorem dX4_digest_249 : decode cX4_digest 249 = .ok (.lload_n 1, 1) := by decide +kernel
theorem dX4_digest_250 : decode cX4_digest 250 = .ok (.lmul, 1) := by decide +kernel
theorem dX4_digest_251 : decode cX4_digest 251 = .ok (.aload_n 0, 1) := by decide +kernel
theorem dX4_digest_252 : decode cX4_digest 252 = .ok (.iconst 3, 1) := by decide +kernel
theorem dX4_digest_253 : decode cX4_digest 253 = .ok (.iload_n 3, 1) := by decide +kernel
theorem dX4_digest_254 : decode cX4_digest 254 = .ok (.iconst (-1), 1) := by decide +kernel
theorem dX4_digest_255 : decode cX4_digest 255 = .ok (.invokevirtual 288, 3) := by decide +kernel
theorem dX4_digest_258 : decode cX4_digest 258 = .ok (.i2l, 1) := by decide +kernel
theorem dX4_digest_259 : decode cX4_digest 259 = .ok (.ladd, 1) := by decide +kernel
theorem dX4_digest_260 : decode cX4_digest 260 = .ok (.lstore_n 1, 1) := by decide +kernel
theorem dX4_digest_261 : decode cX4_digest 261 = .ok (.ldc2_w 257, 3) := by decide +kernel
theorem dX4_digest_264 : decode cX4_digest 264 = .ok (.lload_n 1, 1) := by decide +kernel
theorem dX4_digest_265 : decode cX4_digest 265 = .ok (.lmul, 1) := by decide +kernel
theorem dX4_digest_266 : decode cX4_digest 266 = .ok (.aload_n 0, 1) := by decide +kernel
theorem dX4_digest_267 : decode cX4_digest 267 = .ok (.iconst 3, 1) := by decide +kernel
theorem dX4_digest_268 : decode cX4_digest 268 = .ok (.iload_n 3, 1) := by decide +kernel
theorem dX4_digest_269 : decode cX4_digest 269 = .ok (.iconst 0, 1) := by decide +kernel
theorem dX4_digest_270 : decode cX4_digest 270 = .ok (.invokevirtual 288, 3) := by decide +kernel
theorem dX4_digest_273 : decode cX4_digest 273 = .ok (.i2l, 1) := by decide +kernel
theorem dX4_digest_274 : decode cX4_digest 274 = .ok (.ladd, 1) := by decide +kernel
theorem dX4_digest_275 : decode cX4_digest 275 = .ok (.lstore_n 1, 1) := by decide +kernel
theorem dX4_digest_276 : decode cX4_digest 276 = .ok (.iinc 3 1, 3) := by decide +kernel
theorem dX4_digest_279 : decode cX4_digest 279 = .ok (.goto (-38), 3) := by decide +kernel
theorem dX4_digest_282 : decode cX4_digest 282 = .ok (.ldc2_w 257, 3) := by decide +kernel
theorem dX4_digest_285 : decode cX4_digest 285 = .ok (.lload_n 1, 1) := by decide +kernel
theorem dX4_digest_286 : decode cX4_digest 286 = .ok (.lmul, 1) := by decide +kernel
theorem dX4_digest_287 : decode cX4_digest 287 = .ok (.aload_n 0, 1) := by decide +kernel
theorem dX4_digest_288 : decode cX4_digest 288 = .ok (.invokevirtual 291, 3) := by decide +kernel
theorem dX4_digest_291 : decode cX4_digest 291 = .ok (.i2l, 1) := by decide +kernel
theorem dX4_digest_292 : decode cX4_digest 292 = .ok (.ladd, 1) := by decide +kernel
theorem dX4_digest_293 : decode cX4_digest 293 = .ok (.lstore_n 1, 1) := by decide +kernel
theorem dX4_digest_294 : decode cX4_digest 294 = .ok (.ldc2_w 257, 3) := by decide +kernel
theorem dX4_digest_297 : decode cX4_digest 297 = .ok (.lload_n 1, 1) := by decide +kernel
theorem dX4_digest_298 : decode cX4_digest 298 = .ok (.lmul, 1) := by decide +kernel
theorem dX4_digest_299 : decode cX4_digest 299 = .ok (.aload_n 0, 1) := by decide +kernel
theorem dX4_digest_300 : decode cX4_digest 300 = .ok (.iconst 0, 1) := by decide +kernel
theorem dX4_digest_301 : decode cX4_digest 301 = .ok (.iconst 4, 1) := by decide +kernel
theorem dX4_digest_302 : decode cX4_digest 302 = .ok (.invokevirtual 294, 3) := by decide +kernel
theorem dX4_digest_305 : decode cX4_digest 305 = .ok (.i2l, 1) := by decide +kernel
theorem dX4_digest_306 : decode cX4_digest 306 = .ok (.ladd, 1) := by decide +kernel
theorem dX4_digest_307 : decode cX4_digest 307 = .ok (.lstore_n 1, 1) := by decide +kernel
theorem dX4_digest_308 : decode cX4_digest 308 = .ok (.ldc2_w 257, 3) := by decide +kernel
theorem dX4_digest_311 : decode cX4_digest 311 = .ok (.lload_n 1, 1) := by decide +kernel
theorem dX4_digest_312 : decode cX4_digest 312 = .ok (.lmul, 1) := by decide +kernel
theorem dX4_digest_313 : decode cX4_digest 313 = .ok (.aload_n 0, 1) := by decide +kernel
theorem dX4_digest_314 : decode cX4_digest 314 = .ok (.bipush 7, 2) := by decide +kernel
theorem dX4_digest_316 : decode cX4_digest 316 = .ok (.bipush 20, 2) := by decide +kernel
theorem dX4_digest_318 : decode cX4_digest 318 = .ok (.iconst 0, 1) := by decide +kernel
theorem dX4_digest_319 : decode cX4_digest 319 = .ok (.invokevirtual 297, 3) := by decide +kernel
theorem dX4_digest_322 : decode cX4_digest 322 = .ok (.i2l, 1) := by decide +kernel
theorem dX4_digest_323 : decode cX4_digest 323 = .ok (.ladd, 1) := by decide +kernel
theorem dX4_digest_324 : decode cX4_digest 324 = .ok (.lstore_n 1, 1) := by decide +kernel
theorem dX4_digest_325 : decode cX4_digest 325 = .ok (.ldc2_w 257, 3) := by decide +kernel
theorem dX4_digest_328 : decode cX4_digest 328 = .ok (.lload_n 1, 1) := by decide +kernel
theorem dX4_digest_329 : decode cX4_digest 329 = .ok (.lmul, 1) := by decide +kernel
theorem dX4_digest_330 : decode cX4_digest 330 = .ok (.aload_n 0, 1) := by decide +kernel
theorem dX4_digest_331 : decode cX4_digest 331 = .ok (.bipush 7, 2) := by decide +kernel
theorem dX4_digest_333 : decode cX4_digest 333 = .ok (.bipush 20, 2) := by decide +kernel
theorem dX4_digest_335 : decode cX4_digest 335 = .ok (.iconst 1, 1) := by decide +kernel
theorem dX4_digest_336 : decode cX4_digest 336 = .ok (.invokevirtual 297, 3) := by decide +kernel
theorem dX4_digest_339 : decode cX4_digest 339 = .ok (.i2l, 1) := by decide +kernel
theorem dX4_digest_340 : decode cX4_digest 340 = .ok (.ladd, 1) := by decide +kernel
theorem dX4_digest_341 : decode cX4_digest 341 = .ok (.lreturn, 1) := by decide +kernel
theorem dX4_digestBox_0 : decode cX4_digestBox 0 = .ok (.lload_n 1, 1) := by decide +kernel
theorem dX4_digestBox_1 : decode cX4_digestBox 1 = .ok (.lstore 4, 2) := by decide +kernel
theorem dX4_digestBox_3 : decode cX4_digestBox 3 = .ok (.iconst 0, 1) := by decide +kernel
theorem dX4_digestBox_4 : decode cX4_digestBox 4 = .ok (.istore 6, 2) := by decide +kernel
theorem dX4_digestBox_6 : decode cX4_digestBox 6 = .ok (.iload 6, 2) := by decide +kernel
theorem dX4_digestBox_8 : decode cX4_digestBox 8 = .ok (.iconst 2, 1) := by decide +kernel
theorem dX4_digestBox_9 : decode cX4_digestBox 9 = .ok (.if_icmp .gt 26, 3) := by decide +kernel
theorem dX4_digestBox_12 : decode cX4_digestBox 12 = .ok (.ldc2_w 257, 3) := by decide +kernel
theorem dX4_digestBox_15 : decode cX4_digestBox 15 = .ok (.lload 4, 2) := by decide +kernel
theorem dX4_digestBox_17 : decode cX4_digestBox 17 = .ok (.lmul, 1) := by decide +kernel
theorem dX4_digestBox_18 : decode cX4_digestBox 18 = .ok (.aload_n 0, 1) := by decide +kernel
theorem dX4_digestBox_19 : decode cX4_digestBox 19 = .ok (.iload_n 3, 1) := by decide +kernel
theorem dX4_digestBox_20 : decode cX4_digestBox 20 = .ok (.iload 6, 2) := by decide +kernel
theorem dX4_digestBox_22 : decode cX4_digestBox 22 = .ok (.invokevirtual 300, 3) := by decide +kernel
theorem dX4_digestBox_25 : decode cX4_digestBox 25 = .ok (.i2l, 1) := by decide +kernel
theorem dX4_digestBox_26 : decode cX4_digestBox 26 = .ok (.ladd, 1) := by decide +kernel
theorem dX4_digestBox_27 : decode cX4_digestBox 27 = .ok (.lstore 4, 2) := by decide +kernel
theorem dX4_digestBox_29 : decode cX4_digestBox 29 = .ok (.iinc 6 1, 3) := by decide +kernel
theorem dX4_digestBox_32 : decode cX4_digestBox 32 = .ok (.goto (-26), 3) := by decide +kernel
theorem dX4_digestBox_35 : decode cX4_digestBox 35 = .ok (.ldc2_w 257, 3) := by decide +kernel
theorem dX4_digestBox_38 : decode cX4_digestBox 38 = .ok (.lload 4, 2) := by decide +kernel
theorem dX4_digestBox_40 : decode cX4_digestBox 40 = .ok (.lmul, 1) := by decide +kernel
theorem dX4_digestBox_41 : decode cX4_digestBox 41 = .ok (.aload_n 0, 1) := by decide +kernel
theorem dX4_digestBox_42 : decode cX4_digestBox 42 = .ok (.iload_n 3, 1) := by decide +kernel
theorem dX4_digestBox_43 : decode cX4_digestBox 43 = .ok (.invokevirtual 303, 3) := by decide +kernel
theorem dX4_digestBox_46 : decode cX4_digestBox 46 = .ok (.i2l, 1) := by decide +kernel
theorem dX4_digestBox_47 : decode cX4_digestBox 47 = .ok (.ladd, 1) := by decide +kernel
theorem dX4_digestBox_48 : decode cX4_digestBox 48 = .ok (.lstore 4, 2) := by decide +kernel
theorem dX4_digestBox_50 : decode cX4_digestBox 50 = .ok (.ldc2_w 257, 3) := by decide +kernel
theorem dX4_digestBox_53 : decode cX4_digestBox 53 = .ok (.lload 4, 2) := by decide +kernel
theorem dX4_digestBox_55 : decode cX4_digestBox 55 = .ok (.lmul, 1) := by decide +kernel
theorem dX4_digestBox_56 : decode cX4_digestBox 56 = .ok (.aload_n 0, 1) := by decide +kernel
theorem dX4_digestBox_57 : decode cX4_digestBox 57 = .ok (.bipush 9, 2) := by decide +kernel
theorem dX4_digestBox_59 : decode cX4_digestBox 59 = .ok (.iload_n 3, 1) := by decide +kernel
theorem dX4_digestBox_60 : decode cX4_digestBox 60 = .ok (.invokevirtual 306, 3) := by decide +kernel
theorem dX4_digestBox_63 : decode cX4_digestBox 63 = .ok (.i2l, 1) := by decide +kernel
theorem dX4_digestBox_64 : decode cX4_digestBox 64 = .ok (.ladd, 1) := by decide +kernel
theorem dX4_digestBox_65 : decode cX4_digestBox 65 = .ok (.lstore 4, 2) := by decide +kernel
theorem dX4_digestBox_67 : decode cX4_digestBox 67 = .ok (.ldc2_w 257, 3) := by decide +kernel
theorem dX4_digestBox_70 : decode cX4_digestBox 70 = .ok (.lload 4, 2) := by decide +kernel
theorem dX4_digestBox_72 : decode cX4_digestBox 72 = .ok (.lmul, 1) := by decide +kernel
theorem dX4_digestBox_73 : decode cX4_digestBox 73 = .ok (.aload_n 0, 1) := by decide +kernel
theorem dX4_digestBox_74 : decode cX4_digestBox 74 = .ok (.iload_n 3, 1) := by decide +kernel
theorem dX4_digestBox_75 : decode cX4_digestBox 75 = .ok (.iconst 0, 1) := by decide +kernel
theorem dX4_digestBox_76 : decode cX4_digestBox 76 = .ok (.invokevirtual 309, 3) := by decide +kernel
theorem dX4_digestBox_79 : decode cX4_digestBox 79 = .ok (.i2l, 1) := by decide +kernel
theorem dX4_digestBox_80 : decode cX4_digestBox 80 = .ok (.ladd, 1) := by decide +kernel
theorem dX4_digestBox_81 : decode cX4_digestBox 81 = .ok (.lstore 4, 2) := by decide +kernel
theorem dX4_digestBox_83 : decode cX4_digestBox 83 = .ok (.ldc2_w 257, 3) := by decide +kernel
theorem dX4_digestBox_86 : decode cX4_digestBox 86 = .ok (.lload 4, 2) := by decide +kernel
theorem dX4_digestBox_88 : decode cX4_digestBox 88 = .ok (.lmul, 1) := by decide +kernel
theorem dX4_digestBox_89 : decode cX4_digestBox 89 = .ok (.aload_n 0, 1) := by decide +kernel
theorem dX4_digestBox_90 : decode cX4_digestBox 90 = .ok (.iload_n 3, 1) := by decide +kernel
theorem dX4_digestBox_91 : decode cX4_digestBox 91 = .ok (.iconst 2, 1) := by decide +kernel
theorem dX4_digestBox_92 : decode cX4_digestBox 92 = .ok (.invokevirtual 312, 3) := by decide +kernel
theorem dX4_digestBox_95 : decode cX4_digestBox 95 = .ok (.i2l, 1) := by decide +kernel
theorem dX4_digestBox_96 : decode cX4_digestBox 96 = .ok (.ladd, 1) := by decide +kernel
theorem dX4_digestBox_97 : decode cX4_digestBox 97 = .ok (.lstore 4, 2) := by decide +kernel
theorem dX4_digestBox_99 : decode cX4_digestBox 99 = .ok (.ldc2_w 257, 3) := by decide +kernel
theorem dX4_digestBox_102 : decode cX4_digestBox 102 = .ok (.lload 4, 2) := by decide +kernel
theorem dX4_digestBox_104 : decode cX4_digestBox 104 = .ok (.lmul, 1) := by decide +kernel
theorem dX4_digestBox_105 : decode cX4_digestBox 105 = .ok (.aload_n 0, 1) := by decide +kernel
theorem dX4_digestBox_106 : decode cX4_digestBox 106 = .ok (.iload_n 3, 1) := by decide +kernel
theorem dX4_digestBox_107 : decode cX4_digestBox 107 = .ok (.iconst (-1), 1) := by decide +kernel
theorem dX4_digestBox_108 : decode cX4_digestBox 108 = .ok (.invokevirtual 315, 3) := by decide +kernel
theorem dX4_digestBox_111 : decode cX4_digestBox 111 = .ok (.i2l, 1) := by decide +kernel
theorem dX4_digestBox_112 : decode cX4_digestBox 112 = .ok (.ladd, 1) := by decide +kernel
theorem dX4_digestBox_113 : decode cX4_digestBox 113 = .ok (.lstore 4, 2) := by decide +kernel
theorem dX4_digestBox_115 : decode cX4_digestBox 115 = .ok (.ldc2_w 257, 3) := by decide +kernel
theorem dX4_digestBox_118 : decode cX4_digestBox 118 = .ok (.lload 4, 2) := by decide +kernel
theorem dX4_digestBox_120 : decode cX4_digestBox 120 = .ok (.lmul, 1) := by decide +kernel
theorem dX4_digestBox_121 : decode cX4_digestBox 121 = .ok (.aload_n 0, 1) := by decide +kernel
theorem dX4_digestBox_122 : decode cX4_digestBox 122 = .ok (.iload_n 3, 1) := by decide +kernel
theorem dX4_digestBox_123 : decode cX4_digestBox 123 = .ok (.iconst 0, 1) := by decide +kernel
theorem dX4_digestBox_124 : decode cX4_digestBox 124 = .ok (.invokevirtual 315, 3) := by decide +kernel
theorem dX4_digestBox_127 : decode cX4_digestBox 127 = .ok (.i2l, 1) := by decide +kernel
theorem dX4_digestBox_128 : decode cX4_digestBox 128 = .ok (.ladd, 1) := by decide +kernel
theorem dX4_digestBox_129 : decode cX4_digestBox 129 = .ok (.lstore 4, 2) := by decide +kernel
theorem dX4_digestBox_131 : decode cX4_digestBox 131 = .ok (.ldc2_w 257, 3) := by decide +kernel
theorem dX4_digestBox_134 : decode cX4_digestBox 134 = .ok (.lload 4, 2) := by decide +kernel
theorem dX4_digestBox_136 : decode cX4_digestBox 136 = .ok (.lmul, 1) := by decide +kernel
theorem dX4_digestBox_137 : decode cX4_digestBox 137 = .ok (.aload_n 0, 1) := by decide +kernel
theorem dX4_digestBox_138 : decode cX4_digestBox 138 = .ok (.iconst 5, 1) := by decide +kernel
theorem dX4_digestBox_139 : decode cX4_digestBox 139 = .ok (.iload_n 3, 1) := by decide +kernel
theorem dX4_digestBox_140 : decode cX4_digestBox 140 = .ok (.iconst 4, 1) := by decide +kernel
theorem dX4_digestBox_141 : decode cX4_digestBox 141 = .ok (.iconst 0, 1) := by decide +kernel
theorem dX4_digestBox_142 : decode cX4_digestBox 142 = .ok (.invokevirtual 318, 3) := by decide +kernel
theorem dX4_digestBox_145 : decode cX4_digestBox 145 = .ok (.ladd, 1) := by decide +kernel
theorem dX4_digestBox_146 : decode cX4_digestBox 146 = .ok (.lstore 4, 2) := by decide +kernel
theorem dX4_digestBox_148 : decode cX4_digestBox 148 = .ok (.ldc2_w 257, 3) := by decide +kernel
theorem dX4_digestBox_151 : decode cX4_digestBox 151 = .ok (.lload 4, 2) := by decide +kernel
theorem dX4_digestBox_153 : decode cX4_digestBox 153 = .ok (.lmul, 1) := by decide +kernel
theorem dX4_digestBox_154 : decode cX4_digestBox 154 = .ok (.aload_n 0, 1) := by decide +kernel
theorem dX4_digestBox_155 : decode cX4_digestBox 155 = .ok (.iconst 5, 1) := by decide +kernel
theorem dX4_digestBox_156 : decode cX4_digestBox 156 = .ok (.iload_n 3, 1) := by decide +kernel
theorem dX4_digestBox_157 : decode cX4_digestBox 157 = .ok (.iconst 4, 1) := by decide +kernel
theorem dX4_digestBox_158 : decode cX4_digestBox 158 = .ok (.iconst 1, 1) := by decide +kernel
theorem dX4_digestBox_159 : decode cX4_digestBox 159 = .ok (.invokevirtual 318, 3) := by decide +kernel
theorem dX4_digestBox_162 : decode cX4_digestBox 162 = .ok (.ladd, 1) := by decide +kernel
theorem dX4_digestBox_163 : decode cX4_digestBox 163 = .ok (.lreturn, 1) := by decide +kernel
theorem dX4_isBox_0 : decode cX4_isBox 0 = .ok (.iload_n 1, 1) := by decide +kernel
theorem dX4_isBox_1 : decode cX4_isBox 1 = .ok (.ifCond .lt 18, 3) := by decide +kernel
theorem dX4_isBox_4 : decode cX4_isBox 4 = .ok (.iload_n 1, 1) := by decide +kernel
theorem dX4_isBox_5 : decode cX4_isBox 5 = .ok (.aload_n 0, 1) := by decide +kernel
theorem dX4_isBox_6 : decode cX4_isBox 6 = .ok (.getfield 10, 3) := by decide +kernel
theorem dX4_isBox_9 : decode cX4_isBox 9 = .ok (.getfield 173, 3) := by decide +kernel
theorem dX4_isBox_12 : decode cX4_isBox 12 = .ok (.if_icmp .ge 7, 3) := by decide +kernel
theorem dX4_isBox_15 : decode cX4_isBox 15 = .ok (.iconst 1, 1) := by decide +kernel
theorem dX4_isBox_16 : decode cX4_isBox 16 = .ok (.goto 4, 3) := by decide +kernel
theorem dX4_isBox_19 : decode cX4_isBox 19 = .ok (.iconst 0, 1) := by decide +kernel
theorem dX4_isBox_20 : decode cX4_isBox 20 = .ok (.ireturn, 1) := by decide +kernel
theorem dX4_isNumber_0 : decode cX4_isNumber 0 = .ok (.iload_n 0, 1) := by decide +kernel
theorem dX4_isNumber_1 : decode cX4_isNumber 1 = .ok (.ifCond .lt 13, 3) := by decide +kernel
theorem dX4_isNumber_4 : decode cX4_isNumber 4 = .ok (.iload_n 0, 1) := by decide +kernel
theorem dX4_isNumber_5 : decode cX4_isNumber 5 = .ok (.bipush 9, 2) := by decide +kernel
theorem dX4_isNumber_7 : decode cX4_isNumber 7 = .ok (.if_icmp .ge 7, 3) := by decide +kernel
theorem dX4_isNumber_10 : decode cX4_isNumber 10 = .ok (.iconst 1, 1) := by decide +kernel
theorem dX4_isNumber_11 : decode cX4_isNumber 11 = .ok (.goto 4, 3) := by decide +kernel
theorem dX4_isNumber_14 : decode cX4_isNumber 14 = .ok (.iconst 0, 1) := by decide +kernel
theorem dX4_isNumber_15 : decode cX4_isNumber 15 = .ok (.ireturn, 1) := by decide +kernel
theorem dX4_isStep_0 : decode cX4_isStep 0 = .ok (.iload_n 0, 1) := by decide +kernel
theorem dX4_isStep_1 : decode cX4_isStep 1 = .ok (.ifCond .lt 13, 3) := by decide +kernel
theorem dX4_isStep_4 : decode cX4_isStep 4 = .ok (.iload_n 0, 1) := by decide +kernel
theorem dX4_isStep_5 : decode cX4_isStep 5 = .ok (.bipush 60, 2) := by decide +kernel
theorem dX4_isStep_7 : decode cX4_isStep 7 = .ok (.if_icmp .ge 7, 3) := by decide +kernel
theorem dX4_isStep_10 : decode cX4_isStep 10 = .ok (.iconst 1, 1) := by decide +kernel
theorem dX4_isStep_11 : decode cX4_isStep 11 = .ok (.goto 4, 3) := by decide +kernel
theorem dX4_isStep_14 : decode cX4_isStep 14 = .ok (.iconst 0, 1) := by decide +kernel
theorem dX4_isStep_15 : decode cX4_isStep 15 = .ok (.ireturn, 1) := by decide +kernel
theorem dX4_isEither_0 : decode cX4_isEither 0 = .ok (.iload_n 0, 1) := by decide +kernel
theorem dX4_isEither_1 : decode cX4_isEither 1 = .ok (.ifCond .eq 8, 3) := by decide +kernel
theorem dX4_isEither_4 : decode cX4_isEither 4 = .ok (.iload_n 0, 1) := by decide +kernel
theorem dX4_isEither_5 : decode cX4_isEither 5 = .ok (.iconst 1, 1) := by decide +kernel
theorem dX4_isEither_6 : decode cX4_isEither 6 = .ok (.if_icmp .ne 7, 3) := by decide +kernel
theorem dX4_isEither_9 : decode cX4_isEither 9 = .ok (.iconst 1, 1) := by decide +kernel
theorem dX4_isEither_10 : decode cX4_isEither 10 = .ok (.goto 4, 3) := by decide +kernel
theorem dX4_isEither_13 : decode cX4_isEither 13 = .ok (.iconst 0, 1) := by decide +kernel
theorem dX4_isEither_14 : decode cX4_isEither 14 = .ok (.ireturn, 1) := by decide +kernel
theorem dX4_isSheet_0 : decode cX4_isSheet 0 = .ok (.iload_n 0, 1) := by decide +kernel
theorem dX4_isSheet_1 : decode cX4_isSheet 1 = .ok (.ifCond .lt 12, 3) := by decide +kernel
theorem dX4_isSheet_4 : decode cX4_isSheet 4 = .ok (.iload_n 0, 1) := by decide +kernel
theorem dX4_isSheet_5 : decode cX4_isSheet 5 = .ok (.iconst 4, 1) := by decide +kernel
theorem dX4_isSheet_6 : decode cX4_isSheet 6 = .ok (.if_icmp .ge 7, 3) := by decide +kernel
theorem dX4_isSheet_9 : decode cX4_isSheet 9 = .ok (.iconst 1, 1) := by decide +kernel
theorem dX4_isSheet_10 : decode cX4_isSheet 10 = .ok (.goto 4, 3) := by decide +kernel
theorem dX4_isSheet_13 : decode cX4_isSheet 13 = .ok (.iconst 0, 1) := by decide +kernel
theorem dX4_isSheet_14 : decode cX4_isSheet 14 = .ok (.ireturn, 1) := by decide +kernel
theorem dX4_isForm_0 : decode cX4_isForm 0 = .ok (.iload_n 0, 1) := by decide +kernel
theorem dX4_isForm_1 : decode cX4_isForm 1 = .ok (.ifCond .lt 12, 3) := by decide +kernel
theorem dX4_isForm_4 : decode cX4_isForm 4 = .ok (.iload_n 0, 1) := by decide +kernel
theorem dX4_isForm_5 : decode cX4_isForm 5 = .ok (.iconst 3, 1) := by decide +kernel
theorem dX4_isForm_6 : decode cX4_isForm 6 = .ok (.if_icmp .ge 7, 3) := by decide +kernel
theorem dX4_isForm_9 : decode cX4_isForm 9 = .ok (.iconst 1, 1) := by decide +kernel
theorem dX4_isForm_10 : decode cX4_isForm 10 = .ok (.goto 4, 3) := by decide +kernel
theorem dX4_isForm_13 : decode cX4_isForm 13 = .ok (.iconst 0, 1) := by decide +kernel
theorem dX4_isForm_14 : decode cX4_isForm 14 = .ok (.ireturn, 1) := by decide +kernel
theorem dX4_finding_0 : decode cX4_finding 0 = .ok (.aload_n 0, 1) := by decide +kernel
theorem dX4_finding_1 : decode cX4_finding 1 = .ok (.iload_n 1, 1) := by decide +kernel
theorem dX4_finding_2 : decode cX4_finding 2 = .ok (.putfield 46, 3) := by decide +kernel
theorem dX4_finding_5 : decode cX4_finding 5 = .ok (.bipush (-10), 2) := by decide +kernel
theorem dX4_finding_7 : decode cX4_finding 7 = .ok (.iload_n 1, 1) := by decide +kernel
theorem dX4_finding_8 : decode cX4_finding 8 = .ok (.isub, 1) := by decide +kernel
theorem dX4_finding_9 : decode cX4_finding 9 = .ok (.ireturn, 1) := by decide +kernel
theorem dX4_lengthen_0 : decode cX4_lengthen 0 = .ok (.aload_n 0, 1) := by decide +kernel
theorem dX4_lengthen_1 : decode cX4_lengthen 1 = .ok (.getfield 10, 3) := by decide +kernel
theorem dX4_lengthen_4 : decode cX4_lengthen 4 = .ok (.iload_n 1, 1) := by decide +kernel
theorem dX4_lengthen_5 : decode cX4_lengthen 5 = .ok (.putfield 76, 3) := by decide +kernel
theorem dX4_lengthen_8 : decode cX4_lengthen 8 = .ok (.aload_n 0, 1) := by decide +kernel
theorem dX4_lengthen_9 : decode cX4_lengthen 9 = .ok (.getfield 10, 3) := by decide +kernel
theorem dX4_lengthen_12 : decode cX4_lengthen 12 = .ok (.invokevirtual 322, 3) := by decide +kernel
theorem dX4_lengthen_15 : decode cX4_lengthen 15 = .ok (.aload_n 0, 1) := by decide +kernel
theorem dX4_lengthen_16 : decode cX4_lengthen 16 = .ok (.iconst 1, 1) := by decide +kernel
theorem dX4_lengthen_17 : decode cX4_lengthen 17 = .ok (.putfield 56, 3) := by decide +kernel
theorem dX4_lengthen_20 : decode cX4_lengthen 20 = .ok (.iload_n 1, 1) := by decide +kernel
theorem dX4_lengthen_21 : decode cX4_lengthen 21 = .ok (.ireturn, 1) := by decide +kernel
theorem dX4_runAsTold_0 : decode cX4_runAsTold 0 = .ok (.aload_n 0, 1) := by decide +kernel
theorem dX4_runAsTold_1 : decode cX4_runAsTold 1 = .ok (.getfield 56, 3) := by decide +kernel
theorem dX4_runAsTold_4 : decode cX4_runAsTold 4 = .ok (.ifCond .eq 40, 3) := by decide +kernel
theorem dX4_runAsTold_7 : decode cX4_runAsTold 7 = .ok (.aload_n 0, 1) := by decide +kernel
theorem dX4_runAsTold_8 : decode cX4_runAsTold 8 = .ok (.getfield 52, 3) := by decide +kernel
theorem dX4_runAsTold_11 : decode cX4_runAsTold 11 = .ok (.aload_n 0, 1) := by decide +kernel
theorem dX4_runAsTold_12 : decode cX4_runAsTold 12 = .ok (.getfield 10, 3) := by decide +kernel
theorem dX4_runAsTold_15 : decode cX4_runAsTold 15 = .ok (.aload_n 0, 1) := by decide +kernel
theorem dX4_runAsTold_16 : decode cX4_runAsTold 16 = .ok (.getfield 16, 3) := by decide +kernel
theorem dX4_runAsTold_19 : decode cX4_runAsTold 19 = .ok (.aload_n 0, 1) := by decide +kernel
theorem dX4_runAsTold_20 : decode cX4_runAsTold 20 = .ok (.getfield 20, 3) := by decide +kernel
theorem dX4_runAsTold_23 : decode cX4_runAsTold 23 = .ok (.aload_n 0, 1) := by decide +kernel
theorem dX4_runAsTold_24 : decode cX4_runAsTold 24 = .ok (.getfield 27, 3) := by decide +kernel
theorem dX4_runAsTold_27 : decode cX4_runAsTold 27 = .ok (.invokevirtual 161, 3) := by decide +kernel
theorem dX4_runAsTold_30 : decode cX4_runAsTold 30 = .ok (.aload_n 0, 1) := by decide +kernel
theorem dX4_runAsTold_31 : decode cX4_runAsTold 31 = .ok (.getfield 52, 3) := by decide +kernel
theorem dX4_runAsTold_34 : decode cX4_runAsTold 34 = .ok (.bipush 59, 2) := by decide +kernel
theorem dX4_runAsTold_36 : decode cX4_runAsTold 36 = .ok (.invokevirtual 187, 3) := by decide +kernel
theorem dX4_runAsTold_39 : decode cX4_runAsTold 39 = .ok (.aload_n 0, 1) := by decide +kernel
theorem dX4_runAsTold_40 : decode cX4_runAsTold 40 = .ok (.iconst 0, 1) := by decide +kernel
theorem dX4_runAsTold_41 : decode cX4_runAsTold 41 = .ok (.putfield 56, 3) := by decide +kernel
theorem dX4_runAsTold_44 : decode cX4_runAsTold 44 = .ok (.return_, 1) := by decide +kernel
theorem dX4_spread_0 : decode cX4_spread 0 = .ok (.iload_n 0, 1) := by decide +kernel
theorem dX4_spread_1 : decode cX4_spread 1 = .ok (.iload_n 1, 1) := by decide +kernel
theorem dX4_spread_2 : decode cX4_spread 2 = .ok (.iand, 1) := by decide +kernel
theorem dX4_spread_3 : decode cX4_spread 3 = .ok (.ifCond .eq 9, 3) := by decide +kernel
theorem dX4_spread_6 : decode cX4_spread 6 = .ok (.iload_n 0, 1) := by decide +kernel
theorem dX4_spread_7 : decode cX4_spread 7 = .ok (.iload_n 1, 1) := by decide +kernel
theorem dX4_spread_8 : decode cX4_spread 8 = .ok (.ior, 1) := by decide +kernel
theorem dX4_spread_9 : decode cX4_spread 9 = .ok (.goto 4, 3) := by decide +kernel
theorem dX4_spread_12 : decode cX4_spread 12 = .ok (.iload_n 0, 1) := by decide +kernel
theorem dX4_spread_13 : decode cX4_spread 13 = .ok (.ireturn, 1) := by decide +kernel
theorem dX4_exchange_0 : decode cX4_exchange 0 = .ok (.aload_n 0, 1) := by decide +kernel
theorem dX4_exchange_1 : decode cX4_exchange 1 = .ok (.iload_n 1, 1) := by decide +kernel
theorem dX4_exchange_2 : decode cX4_exchange 2 = .ok (.iaload, 1) := by decide +kernel
theorem dX4_exchange_3 : decode cX4_exchange 3 = .ok (.istore_n 3, 1) := by decide +kernel
theorem dX4_exchange_4 : decode cX4_exchange 4 = .ok (.aload_n 0, 1) := by decide +kernel
theorem dX4_exchange_5 : decode cX4_exchange 5 = .ok (.iload_n 1, 1) := by decide +kernel
theorem dX4_exchange_6 : decode cX4_exchange 6 = .ok (.aload_n 0, 1) := by decide +kernel
theorem dX4_exchange_7 : decode cX4_exchange 7 = .ok (.iload_n 2, 1) := by decide +kernel
theorem dX4_exchange_8 : decode cX4_exchange 8 = .ok (.iaload, 1) := by decide +kernel
theorem dX4_exchange_9 : decode cX4_exchange 9 = .ok (.iastore, 1) := by decide +kernel
theorem dX4_exchange_10 : decode cX4_exchange 10 = .ok (.aload_n 0, 1) := by decide +kernel
theorem dX4_exchange_11 : decode cX4_exchange 11 = .ok (.iload_n 2, 1) := by decide +kernel
theorem dX4_exchange_12 : decode cX4_exchange 12 = .ok (.iload_n 3, 1) := by decide +kernel
theorem dX4_exchange_13 : decode cX4_exchange 13 = .ok (.iastore, 1) := by decide +kernel
theorem dX4_exchange_14 : decode cX4_exchange 14 = .ok (.return_, 1) := by decide +kernel
theorem dX4_isHushed_0 : decode cX4_isHushed 0 = .ok (.aload_n 0, 1) := by decide +kernel
theorem dX4_isHushed_1 : decode cX4_isHushed 1 = .ok (.getfield 60, 3) := by decide +kernel
theorem dX4_isHushed_4 : decode cX4_isHushed 4 = .ok (.aload_n 0, 1) := by decide +kernel
theorem dX4_isHushed_5 : decode cX4_isHushed 5 = .ok (.getfield 20, 3) := by decide +kernel
theorem dX4_isHushed_8 : decode cX4_isHushed 8 = .ok (.iload_n 1, 1) := by decide +kernel
theorem dX4_isHushed_9 : decode cX4_isHushed 9 = .ok (.ior, 1) := by decide +kernel
theorem dX4_isHushed_10 : decode cX4_isHushed 10 = .ok (.putfield 325, 3) := by decide +kernel
theorem dX4_isHushed_13 : decode cX4_isHushed 13 = .ok (.aload_n 0, 1) := by decide +kernel
theorem dX4_isHushed_14 : decode cX4_isHushed 14 = .ok (.getfield 60, 3) := by decide +kernel
theorem dX4_isHushed_17 : decode cX4_isHushed 17 = .ok (.iload_n 2, 1) := by decide +kernel
theorem dX4_isHushed_18 : decode cX4_isHushed 18 = .ok (.invokevirtual 187, 3) := by decide +kernel
theorem dX4_isHushed_21 : decode cX4_isHushed 21 = .ok (.aload_n 0, 1) := by decide +kernel
theorem dX4_isHushed_22 : decode cX4_isHushed 22 = .ok (.getfield 60, 3) := by decide +kernel
theorem dX4_isHushed_25 : decode cX4_isHushed 25 = .ok (.getfield 149, 3) := by decide +kernel
theorem dX4_isHushed_28 : decode cX4_isHushed 28 = .ok (.iload_n 2, 1) := by decide +kernel
theorem dX4_isHushed_29 : decode cX4_isHushed 29 = .ok (.iaload, 1) := by decide +kernel
theorem dX4_isHushed_30 : decode cX4_isHushed 30 = .ok (.ifCond .ne 7, 3) := by decide +kernel
theorem dX4_isHushed_33 : decode cX4_isHushed 33 = .ok (.iconst 1, 1) := by decide +kernel
theorem dX4_isHushed_34 : decode cX4_isHushed 34 = .ok (.goto 4, 3) := by decide +kernel
theorem dX4_isHushed_37 : decode cX4_isHushed 37 = .ok (.iconst 0, 1) := by decide +kernel
theorem dX4_isHushed_38 : decode cX4_isHushed 38 = .ok (.ireturn, 1) := by decide +kernel
theorem dX4_findShelf_0 : decode cX4_findShelf 0 = .ok (.aload_n 0, 1) := by decide +kernel
theorem dX4_findShelf_1 : decode cX4_findShelf 1 = .ok (.getfield 60, 3) := by decide +kernel
theorem dX4_findShelf_4 : decode cX4_findShelf 4 = .ok (.aload_n 0, 1) := by decide +kernel
theorem dX4_findShelf_5 : decode cX4_findShelf 5 = .ok (.getfield 10, 3) := by decide +kernel
theorem dX4_findShelf_8 : decode cX4_findShelf 8 = .ok (.aload_n 0, 1) := by decide +kernel
theorem dX4_findShelf_9 : decode cX4_findShelf 9 = .ok (.getfield 16, 3) := by decide +kernel
theorem dX4_findShelf_12 : decode cX4_findShelf 12 = .ok (.aload_n 0, 1) := by decide +kernel
theorem dX4_findShelf_13 : decode cX4_findShelf 13 = .ok (.getfield 20, 3) := by decide +kernel
theorem dX4_findShelf_16 : decode cX4_findShelf 16 = .ok (.aload_n 0, 1) := by decide +kernel
theorem dX4_findShelf_17 : decode cX4_findShelf 17 = .ok (.getfield 27, 3) := by decide +kernel
theorem dX4_findShelf_20 : decode cX4_findShelf 20 = .ok (.invokevirtual 161, 3) := by decide +kernel
theorem dX4_findShelf_23 : decode cX4_findShelf 23 = .ok (.iconst 0, 1) := by decide +kernel
theorem dX4_findShelf_24 : decode cX4_findShelf 24 = .ok (.istore_n 3, 1) := by decide +kernel
theorem dX4_findShelf_25 : decode cX4_findShelf 25 = .ok (.iload_n 3, 1) := by decide +kernel
theorem dX4_findShelf_26 : decode cX4_findShelf 26 = .ok (.bipush 9, 2) := by decide +kernel
theorem dX4_findShelf_28 : decode cX4_findShelf 28 = .ok (.if_icmp .ge 16, 3) := by decide +kernel
theorem dX4_findShelf_31 : decode cX4_findShelf 31 = .ok (.aload_n 0, 1) := by decide +kernel
theorem dX4_findShelf_32 : decode cX4_findShelf 32 = .ok (.getfield 69, 3) := by decide +kernel
theorem dX4_findShelf_35 : decode cX4_findShelf 35 = .ok (.iload_n 3, 1) := by decide +kernel
theorem dX4_findShelf_36 : decode cX4_findShelf 36 = .ok (.iload_n 3, 1) := by decide +kernel
theorem dX4_findShelf_37 : decode cX4_findShelf 37 = .ok (.iastore, 1) := by decide +kernel
theorem dX4_findShelf_38 : decode cX4_findShelf 38 = .ok (.iinc 3 1, 3) := by decide +kernel
theorem dX4_findShelf_41 : decode cX4_findShelf 41 = .ok (.goto (-16), 3) := by decide +kernel
theorem dX4_findShelf_44 : decode cX4_findShelf 44 = .ok (.iconst (-1), 1) := by decide +kernel
theorem dX4_findShelf_45 : decode cX4_findShelf 45 = .ok (.istore_n 3, 1) := by decide +kernel
theorem dX4_findShelf_46 : decode cX4_findShelf 46 = .ok (.iconst 1, 1) := by decide +kernel
theorem dX4_findShelf_47 : decode cX4_findShelf 47 = .ok (.istore 4, 2) := by decide +kernel
theorem dX4_findShelf_49 : decode cX4_findShelf 49 = .ok (.iconst 0, 1) := by decide +kernel
theorem dX4_findShelf_50 : decode cX4_findShelf 50 = .ok (.istore 5, 2) := by decide +kernel
theorem dX4_findShelf_52 : decode cX4_findShelf 52 = .ok (.iload 5, 2) := by decide +kernel
theorem dX4_findShelf_54 : decode cX4_findShelf 54 = .ok (.sipush 720, 3) := by decide +kernel
theorem dX4_findShelf_57 : decode cX4_findShelf 57 = .ok (.if_icmp .ge 94, 3) := by decide +kernel
theorem dX4_findShelf_60 : decode cX4_findShelf 60 = .ok (.iload 4, 2) := by decide +kernel
theorem dX4_findShelf_62 : decode cX4_findShelf 62 = .ok (.ifCond .eq 89, 3) := by decide +kernel
theorem dX4_findShelf_65 : decode cX4_findShelf 65 = .ok (.aload_n 0, 1) := by decide +kernel
theorem dX4_findShelf_66 : decode cX4_findShelf 66 = .ok (.getfield 60, 3) := by decide +kernel
theorem dX4_findShelf_69 : decode cX4_findShelf 69 = .ok (.aload_n 0, 1) := by decide +kernel
theorem dX4_findShelf_70 : decode cX4_findShelf 70 = .ok (.getfield 69, 3) := by decide +kernel
theorem dX4_findShelf_73 : decode cX4_findShelf 73 = .ok (.invokevirtual 328, 3) := by decide +kernel
theorem dX4_findShelf_76 : decode cX4_findShelf 76 = .ok (.aload_n 0, 1) := by decide +kernel
theorem dX4_findShelf_77 : decode cX4_findShelf 77 = .ok (.getfield 60, 3) := by decide +kernel
theorem dX4_findShelf_80 : decode cX4_findShelf 80 = .ok (.bipush 19, 2) := by decide +kernel
theorem dX4_findShelf_82 : decode cX4_findShelf 82 = .ok (.invokevirtual 187, 3) := by decide +kernel
theorem dX4_findShelf_85 : decode cX4_findShelf 85 = .ok (.aload_n 0, 1) := by decide +kernel
theorem dX4_findShelf_86 : decode cX4_findShelf 86 = .ok (.getfield 60, 3) := by decide +kernel
theorem dX4_findShelf_89 : decode cX4_findShelf 89 = .ok (.bipush 19, 2) := by decide +kernel
theorem dX4_findShelf_91 : decode cX4_findShelf 91 = .ok (.invokevirtual 220, 3) := by decide +kernel
theorem dX4_findShelf_94 : decode cX4_findShelf 94 = .ok (.istore 6, 2) := by decide +kernel
theorem dX4_findShelf_96 : decode cX4_findShelf 96 = .ok (.iload_n 3, 1) := by decide +kernel
theorem dX4_findShelf_97 : decode cX4_findShelf 97 = .ok (.iconst (-1), 1) := by decide +kernel
theorem dX4_findShelf_98 : decode cX4_findShelf 98 = .ok (.if_icmp .eq 22, 3) := by decide +kernel
theorem dX4_findShelf_101 : decode cX4_findShelf 101 = .ok (.iload_n 2, 1) := by decide +kernel
theorem dX4_findShelf_102 : decode cX4_findShelf 102 = .ok (.ifCond .eq 12, 3) := by decide +kernel
theorem dX4_findShelf_105 : decode cX4_findShelf 105 = .ok (.iload 6, 2) := by decide +kernel
theorem dX4_findShelf_107 : decode cX4_findShelf 107 = .ok (.iload_n 3, 1) := by decide +kernel
theorem dX4_findShelf_108 : decode cX4_findShelf 108 = .ok (.if_icmp .le 30, 3) := by decide +kernel
theorem dX4_findShelf_111 : decode cX4_findShelf 111 = .ok (.goto 9, 3) := by decide +kernel
theorem dX4_findShelf_114 : decode cX4_findShelf 114 = .ok (.iload 6, 2) := by decide +kernel
theorem dX4_findShelf_116 : decode cX4_findShelf 116 = .ok (.iload_n 3, 1) := by decide +kernel
theorem dX4_findShelf_117 : decode cX4_findShelf 117 = .ok (.if_icmp .ge 21, 3) := by decide +kernel
theorem dX4_findShelf_120 : decode cX4_findShelf 120 = .ok (.iload 6, 2) := by decide +kernel
theorem dX4_findShelf_122 : decode cX4_findShelf 122 = .ok (.istore_n 3, 1) := by decide +kernel
theorem dX4_findShelf_123 : decode cX4_findShelf 123 = .ok (.aload_n 0, 1) := by decide +kernel
theorem dX4_findShelf_124 : decode cX4_findShelf 124 = .ok (.getfield 69, 3) := by decide +kernel
theorem dX4_findShelf_127 : decode cX4_findShelf 127 = .ok (.iconst 0, 1) := by decide +kernel
theorem dX4_findShelf_128 : decode cX4_findShelf 128 = .ok (.aload_n 0, 1) := by decide +kernel
theorem dX4_findShelf_129 : decode cX4_findShelf 129 = .ok (.getfield 72, 3) := by decide +kernel
theorem dX4_findShelf_132 : decode cX4_findShelf 132 = .ok (.iconst 0, 1) := by decide +kernel
theorem dX4_findShelf_133 : decode cX4_findShelf 133 = .ok (.bipush 9, 2) := by decide +kernel
theorem dX4_findShelf_135 : decode cX4_findShelf 135 = .ok (.invokestatic 243, 3) := by decide +kernel
theorem dX4_findShelf_138 : decode cX4_findShelf 138 = .ok (.aload_n 0, 1) := by decide +kernel
theorem dX4_findShelf_139 : decode cX4_findShelf 139 = .ok (.iload_n 1, 1) := by decide +kernel
theorem dX4_findShelf_140 : decode cX4_findShelf 140 = .ok (.invokevirtual 332, 3) := by decide +kernel
theorem dX4_findShelf_143 : decode cX4_findShelf 143 = .ok (.istore 4, 2) := by decide +kernel
theorem dX4_findShelf_145 : decode cX4_findShelf 145 = .ok (.iinc 5 1, 3) := by decide +kernel
theorem dX4_findShelf_148 : decode cX4_findShelf 148 = .ok (.goto (-96), 3) := by decide +kernel
theorem dX4_findShelf_151 : decode cX4_findShelf 151 = .ok (.iload_n 3, 1) := by decide +kernel
theorem dX4_findShelf_152 : decode cX4_findShelf 152 = .ok (.ireturn, 1) := by decide +kernel
theorem dX4_stepToNextRow_0 : decode cX4_stepToNextRow 0 = .ok (.iload_n 1, 1) := by decide +kernel
theorem dX4_stepToNextRow_1 : decode cX4_stepToNextRow 1 = .ok (.iconst 2, 1) := by decide +kernel
theorem dX4_stepToNextRow_2 : decode cX4_stepToNextRow 2 = .ok (.isub, 1) := by decide +kernel
theorem dX4_stepToNextRow_3 : decode cX4_stepToNextRow 3 = .ok (.istore_n 2, 1) := by decide +kernel
theorem dX4_stepToNextRow_4 : decode cX4_stepToNextRow 4 = .ok (.iload_n 2, 1) := by decide +kernel
theorem dX4_stepToNextRow_5 : decode cX4_stepToNextRow 5 = .ok (.ifCond .lt 26, 3) := by decide +kernel
theorem dX4_stepToNextRow_8 : decode cX4_stepToNextRow 8 = .ok (.aload_n 0, 1) := by decide +kernel
theorem dX4_stepToNextRow_9 : decode cX4_stepToNextRow 9 = .ok (.getfield 69, 3) := by decide +kernel
theorem dX4_stepToNextRow_12 : decode cX4_stepToNextRow 12 = .ok (.iload_n 2, 1) := by decide +kernel
theorem dX4_stepToNextRow_13 : decode cX4_stepToNextRow 13 = .ok (.iaload, 1) := by decide +kernel
theorem dX4_stepToNextRow_14 : decode cX4_stepToNextRow 14 = .ok (.aload_n 0, 1) := by decide +kernel
theorem dX4_stepToNextRow_15 : decode cX4_stepToNextRow 15 = .ok (.getfield 69, 3) := by decide +kernel
theorem dX4_stepToNextRow_18 : decode cX4_stepToNextRow 18 = .ok (.iload_n 2, 1) := by decide +kernel
theorem dX4_stepToNextRow_19 : decode cX4_stepToNextRow 19 = .ok (.iconst 1, 1) := by decide +kernel
theorem dX4_stepToNextRow_20 : decode cX4_stepToNextRow 20 = .ok (.iadd, 1) := by decide +kernel
theorem dX4_stepToNextRow_21 : decode cX4_stepToNextRow 21 = .ok (.iaload, 1) := by decide +kernel
theorem dX4_stepToNextRow_22 : decode cX4_stepToNextRow 22 = .ok (.if_icmp .le 9, 3) := by decide +kernel
theorem dX4_stepToNextRow_25 : decode cX4_stepToNextRow 25 = .ok (.iinc 2 (-1), 3) := by decide +kernel
theorem dX4_stepToNextRow_28 : decode cX4_stepToNextRow 28 = .ok (.goto (-24), 3) := by decide +kernel
theorem dX4_stepToNextRow_31 : decode cX4_stepToNextRow 31 = .ok (.iload_n 2, 1) := by decide +kernel
theorem dX4_stepToNextRow_32 : decode cX4_stepToNextRow 32 = .ok (.ifCond .ge 5, 3) := by decide +kernel
theorem dX4_stepToNextRow_35 : decode cX4_stepToNextRow 35 = .ok (.iconst 0, 1) := by decide +kernel
theorem dX4_stepToNextRow_36 : decode cX4_stepToNextRow 36 = .ok (.ireturn, 1) := by decide +kernel
theorem dX4_stepToNextRow_37 : decode cX4_stepToNextRow 37 = .ok (.iload_n 1, 1) := by decide +kernel
theorem dX4_stepToNextRow_38 : decode cX4_stepToNextRow 38 = .ok (.iconst 1, 1) := by decide +kernel
theorem dX4_stepToNextRow_39 : decode cX4_stepToNextRow 39 = .ok (.isub, 1) := by decide +kernel
theorem dX4_stepToNextRow_40 : decode cX4_stepToNextRow 40 = .ok (.istore_n 3, 1) := by decide +kernel
theorem dX4_stepToNextRow_41 : decode cX4_stepToNextRow 41 = .ok (.iload_n 3, 1) := by decide +kernel
theorem dX4_stepToNextRow_42 : decode cX4_stepToNextRow 42 = .ok (.iload_n 2, 1) := by decide +kernel
theorem dX4_stepToNextRow_43 : decode cX4_stepToNextRow 43 = .ok (.if_icmp .le 24, 3) := by decide +kernel
theorem dX4_stepToNextRow_46 : decode cX4_stepToNextRow 46 = .ok (.aload_n 0, 1) := by decide +kernel
theorem dX4_stepToNextRow_47 : decode cX4_stepToNextRow 47 = .ok (.getfield 69, 3) := by decide +kernel
theorem dX4_stepToNextRow_50 : decode cX4_stepToNextRow 50 = .ok (.iload_n 3, 1) := by decide +kernel
theorem dX4_stepToNextRow_51 : decode cX4_stepToNextRow 51 = .ok (.iaload, 1) := by decide +kernel
theorem dX4_stepToNextRow_52 : decode cX4_stepToNextRow 52 = .ok (.aload_n 0, 1) := by decide +kernel
theorem dX4_stepToNextRow_53 : decode cX4_stepToNextRow 53 = .ok (.getfield 69, 3) := by decide +kernel
theorem dX4_stepToNextRow_56 : decode cX4_stepToNextRow 56 = .ok (.iload_n 2, 1) := by decide +kernel
theorem dX4_stepToNextRow_57 : decode cX4_stepToNextRow 57 = .ok (.iaload, 1) := by decide +kernel
theorem dX4_stepToNextRow_58 : decode cX4_stepToNextRow 58 = .ok (.if_icmp .ge 9, 3) := by decide +kernel
theorem dX4_stepToNextRow_61 : decode cX4_stepToNextRow 61 = .ok (.iinc 3 (-1), 3) := by decide +kernel
theorem dX4_stepToNextRow_64 : decode cX4_stepToNextRow 64 = .ok (.goto (-23), 3) := by decide +kernel
theorem dX4_stepToNextRow_67 : decode cX4_stepToNextRow 67 = .ok (.aload_n 0, 1) := by decide +kernel
theorem dX4_stepToNextRow_68 : decode cX4_stepToNextRow 68 = .ok (.getfield 69, 3) := by decide +kernel
theorem dX4_stepToNextRow_71 : decode cX4_stepToNextRow 71 = .ok (.iload_n 2, 1) := by decide +kernel
theorem dX4_stepToNextRow_72 : decode cX4_stepToNextRow 72 = .ok (.iload_n 3, 1) := by decide +kernel
theorem dX4_stepToNextRow_73 : decode cX4_stepToNextRow 73 = .ok (.invokestatic 105, 3) := by decide +kernel
theorem dX4_stepToNextRow_76 : decode cX4_stepToNextRow 76 = .ok (.iload_n 2, 1) := by decide +kernel
theorem dX4_stepToNextRow_77 : decode cX4_stepToNextRow 77 = .ok (.iconst 1, 1) := by decide +kernel
theorem dX4_stepToNextRow_78 : decode cX4_stepToNextRow 78 = .ok (.iadd, 1) := by decide +kernel
theorem dX4_stepToNextRow_79 : decode cX4_stepToNextRow 79 = .ok (.istore 4, 2) := by decide +kernel
theorem dX4_stepToNextRow_81 : decode cX4_stepToNextRow 81 = .ok (.iload_n 1, 1) := by decide +kernel
theorem dX4_stepToNextRow_82 : decode cX4_stepToNextRow 82 = .ok (.iconst 1, 1) := by decide +kernel
theorem dX4_stepToNextRow_83 : decode cX4_stepToNextRow 83 = .ok (.isub, 1) := by decide +kernel
theorem dX4_stepToNextRow_84 : decode cX4_stepToNextRow 84 = .ok (.istore 5, 2) := by decide +kernel
theorem dX4_stepToNextRow_86 : decode cX4_stepToNextRow 86 = .ok (.iload 4, 2) := by decide +kernel
theorem dX4_stepToNextRow_88 : decode cX4_stepToNextRow 88 = .ok (.iload 5, 2) := by decide +kernel
theorem dX4_stepToNextRow_90 : decode cX4_stepToNextRow 90 = .ok (.if_icmp .ge 23, 3) := by decide +kernel
theorem dX4_stepToNextRow_93 : decode cX4_stepToNextRow 93 = .ok (.aload_n 0, 1) := by decide +kernel
theorem dX4_stepToNextRow_94 : decode cX4_stepToNextRow 94 = .ok (.getfield 69, 3) := by decide +kernel
theorem dX4_stepToNextRow_97 : decode cX4_stepToNextRow 97 = .ok (.iload 4, 2) := by decide +kernel
theorem dX4_stepToNextRow_99 : decode cX4_stepToNextRow 99 = .ok (.iload 5, 2) := by decide +kernel
theorem dX4_stepToNextRow_101 : decode cX4_stepToNextRow 101 = .ok (.invokestatic 105, 3) := by decide +kernel
theorem dX4_stepToNextRow_104 : decode cX4_stepToNextRow 104 = .ok (.iinc 4 1, 3) := by decide +kernel
theorem dX4_stepToNextRow_107 : decode cX4_stepToNextRow 107 = .ok (.iinc 5 (-1), 3) := by decide +kernel
theorem dX4_stepToNextRow_110 : decode cX4_stepToNextRow 110 = .ok (.goto (-24), 3) := by decide +kernel
theorem dX4_stepToNextRow_113 : decode cX4_stepToNextRow 113 = .ok (.iconst 1, 1) := by decide +kernel
theorem dX4_stepToNextRow_114 : decode cX4_stepToNextRow 114 = .ok (.ireturn, 1) := by decide +kernel
theorem dX4_lastHeardStep_0 : decode cX4_lastHeardStep 0 = .ok (.iconst (-1), 1) := by decide +kernel
theorem dX4_lastHeardStep_1 : decode cX4_lastHeardStep 1 = .ok (.istore_n 1, 1) := by decide +kernel
theorem dX4_lastHeardStep_2 : decode cX4_lastHeardStep 2 = .ok (.iconst 0, 1) := by decide +kernel
theorem dX4_lastHeardStep_3 : decode cX4_lastHeardStep 3 = .ok (.istore_n 2, 1) := by decide +kernel
theorem dX4_lastHeardStep_4 : decode cX4_lastHeardStep 4 = .ok (.iload_n 2, 1) := by decide +kernel
theorem dX4_lastHeardStep_5 : decode cX4_lastHeardStep 5 = .ok (.aload_n 0, 1) := by decide +kernel
theorem dX4_lastHeardStep_6 : decode cX4_lastHeardStep 6 = .ok (.getfield 37, 3) := by decide +kernel
theorem dX4_lastHeardStep_9 : decode cX4_lastHeardStep 9 = .ok (.if_icmp .ge 20, 3) := by decide +kernel
theorem dX4_lastHeardStep_12 : decode cX4_lastHeardStep 12 = .ok (.iload_n 1, 1) := by decide +kernel
theorem dX4_lastHeardStep_13 : decode cX4_lastHeardStep 13 = .ok (.aload_n 0, 1) := by decide +kernel
theorem dX4_lastHeardStep_14 : decode cX4_lastHeardStep 14 = .ok (.getfield 31, 3) := by decide +kernel
theorem dX4_lastHeardStep_17 : decode cX4_lastHeardStep 17 = .ok (.iload_n 2, 1) := by decide +kernel
theorem dX4_lastHeardStep_18 : decode cX4_lastHeardStep 18 = .ok (.iaload, 1) := by decide +kernel
theorem dX4_lastHeardStep_19 : decode cX4_lastHeardStep 19 = .ok (.invokestatic 335, 3) := by decide +kernel
theorem dX4_lastHeardStep_22 : decode cX4_lastHeardStep 22 = .ok (.istore_n 1, 1) := by decide +kernel
theorem dX4_lastHeardStep_23 : decode cX4_lastHeardStep 23 = .ok (.iinc 2 1, 3) := by decide +kernel
theorem dX4_lastHeardStep_26 : decode cX4_lastHeardStep 26 = .ok (.goto (-22), 3) := by decide +kernel
theorem dX4_lastHeardStep_29 : decode cX4_lastHeardStep 29 = .ok (.iload_n 1, 1) := by decide +kernel
theorem dX4_lastHeardStep_30 : decode cX4_lastHeardStep 30 = .ok (.ireturn, 1) := by decide +kernel
theorem dX4_isAsHeard_0 : decode cX4_isAsHeard 0 = .ok (.iconst 0, 1) := by decide +kernel
theorem dX4_isAsHeard_1 : decode cX4_isAsHeard 1 = .ok (.istore_n 1, 1) := by decide +kernel
theorem dX4_isAsHeard_2 : decode cX4_isAsHeard 2 = .ok (.iload_n 1, 1) := by decide +kernel
theorem dX4_isAsHeard_3 : decode cX4_isAsHeard 3 = .ok (.aload_n 0, 1) := by decide +kernel
theorem dX4_isAsHeard_4 : decode cX4_isAsHeard 4 = .ok (.getfield 37, 3) := by decide +kernel
theorem dX4_isAsHeard_7 : decode cX4_isAsHeard 7 = .ok (.if_icmp .ge 37, 3) := by decide +kernel
theorem dX4_isAsHeard_10 : decode cX4_isAsHeard 10 = .ok (.aload_n 0, 1) := by decide +kernel
theorem dX4_isAsHeard_11 : decode cX4_isAsHeard 11 = .ok (.getfield 60, 3) := by decide +kernel
theorem dX4_isAsHeard_14 : decode cX4_isAsHeard 14 = .ok (.getfield 146, 3) := by decide +kernel
theorem dX4_isAsHeard_17 : decode cX4_isAsHeard 17 = .ok (.aload_n 0, 1) := by decide +kernel
theorem dX4_isAsHeard_18 : decode cX4_isAsHeard 18 = .ok (.getfield 31, 3) := by decide +kernel
theorem dX4_isAsHeard_21 : decode cX4_isAsHeard 21 = .ok (.iload_n 1, 1) := by decide +kernel
theorem dX4_isAsHeard_22 : decode cX4_isAsHeard 22 = .ok (.iaload, 1) := by decide +kernel
theorem dX4_isAsHeard_23 : decode cX4_isAsHeard 23 = .ok (.iaload, 1) := by decide +kernel
theorem dX4_isAsHeard_24 : decode cX4_isAsHeard 24 = .ok (.invokestatic 152, 3) := by decide +kernel
theorem dX4_isAsHeard_27 : decode cX4_isAsHeard 27 = .ok (.aload_n 0, 1) := by decide +kernel
theorem dX4_isAsHeard_28 : decode cX4_isAsHeard 28 = .ok (.getfield 34, 3) := by decide +kernel
theorem dX4_isAsHeard_31 : decode cX4_isAsHeard 31 = .ok (.iload_n 1, 1) := by decide +kernel
theorem dX4_isAsHeard_32 : decode cX4_isAsHeard 32 = .ok (.iaload, 1) := by decide +kernel
theorem dX4_isAsHeard_33 : decode cX4_isAsHeard 33 = .ok (.if_icmp .eq 5, 3) := by decide +kernel
theorem dX4_isAsHeard_36 : decode cX4_isAsHeard 36 = .ok (.iconst 0, 1) := by decide +kernel
theorem dX4_isAsHeard_37 : decode cX4_isAsHeard 37 = .ok (.ireturn, 1) := by decide +kernel
theorem dX4_isAsHeard_38 : decode cX4_isAsHeard 38 = .ok (.iinc 1 1, 3) := by decide +kernel
theorem dX4_isAsHeard_41 : decode cX4_isAsHeard 41 = .ok (.goto (-39), 3) := by decide +kernel
theorem dX4_isAsHeard_44 : decode cX4_isAsHeard 44 = .ok (.iconst 1, 1) := by decide +kernel
theorem dX4_isAsHeard_45 : decode cX4_isAsHeard 45 = .ok (.ireturn, 1) := by decide +kernel
theorem dX4_findFitting_0 : decode cX4_findFitting 0 = .ok (.aload_n 0, 1) := by decide +kernel
theorem dX4_findFitting_1 : decode cX4_findFitting 1 = .ok (.getfield 60, 3) := by decide +kernel
theorem dX4_findFitting_4 : decode cX4_findFitting 4 = .ok (.aload_n 0, 1) := by decide +kernel
theorem dX4_findFitting_5 : decode cX4_findFitting 5 = .ok (.getfield 10, 3) := by decide +kernel
theorem dX4_findFitting_8 : decode cX4_findFitting 8 = .ok (.aload_n 0, 1) := by decide +kernel
theorem dX4_findFitting_9 : decode cX4_findFitting 9 = .ok (.getfield 16, 3) := by decide +kernel
theorem dX4_findFitting_12 : decode cX4_findFitting 12 = .ok (.aload_n 0, 1) := by decide +kernel
theorem dX4_findFitting_13 : decode cX4_findFitting 13 = .ok (.getfield 20, 3) := by decide +kernel
theorem dX4_findFitting_16 : decode cX4_findFitting 16 = .ok (.aload_n 0, 1) := by decide +kernel
theorem dX4_findFitting_17 : decode cX4_findFitting 17 = .ok (.getfield 27, 3) := by decide +kernel
theorem dX4_findFitting_20 : decode cX4_findFitting 20 = .ok (.invokevirtual 161, 3) := by decide +kernel
theorem dX4_findFitting_23 : decode cX4_findFitting 23 = .ok (.aload_n 0, 1) := by decide +kernel
theorem dX4_findFitting_24 : decode cX4_findFitting 24 = .ok (.invokevirtual 183, 3) := by decide +kernel
theorem dX4_findFitting_27 : decode cX4_findFitting 27 = .ok (.istore_n 2, 1) := by decide +kernel
theorem dX4_findFitting_28 : decode cX4_findFitting 28 = .ok (.iconst 0, 1) := by decide +kernel
theorem dX4_findFitting_29 : decode cX4_findFitting 29 = .ok (.istore_n 3, 1) := by decide +kernel
theorem dX4_findFitting_30 : decode cX4_findFitting 30 = .ok (.iconst 1, 1) := by decide +kernel
theorem dX4_findFitting_31 : decode cX4_findFitting 31 = .ok (.istore 4, 2) := by decide +kernel
theorem dX4_findFitting_33 : decode cX4_findFitting 33 = .ok (.iload 4, 2) := by decide +kernel
theorem dX4_findFitting_35 : decode cX4_findFitting 35 = .ok (.bipush 40, 2) := by decide +kernel
theorem dX4_findFitting_37 : decode cX4_findFitting 37 = .ok (.if_icmp .gt 69, 3) := by decide +kernel
theorem dX4_findFitting_40 : decode cX4_findFitting 40 = .ok (.iload_n 3, 1) := by decide +kernel
theorem dX4_findFitting_41 : decode cX4_findFitting 41 = .ok (.bipush 37, 2) := by decide +kernel
theorem dX4_findFitting_43 : decode cX4_findFitting 43 = .ok (.if_icmp .ge 63, 3) := by decide +kernel
theorem dX4_findFitting_46 : decode cX4_findFitting 46 = .ok (.iload 4, 2) := by decide +kernel
theorem dX4_findFitting_48 : decode cX4_findFitting 48 = .ok (.bipush 10, 2) := by decide +kernel
theorem dX4_findFitting_50 : decode cX4_findFitting 50 = .ok (.irem, 1) := by decide +kernel
theorem dX4_findFitting_51 : decode cX4_findFitting 51 = .ok (.ifCond .ne 13, 3) := by decide +kernel
theorem dX4_findFitting_54 : decode cX4_findFitting 54 = .ok (.iload 4, 2) := by decide +kernel
theorem dX4_findFitting_56 : decode cX4_findFitting 56 = .ok (.bipush 40, 2) := by decide +kernel
theorem dX4_findFitting_58 : decode cX4_findFitting 58 = .ok (.if_icmp .eq 6, 3) := by decide +kernel
theorem dX4_findFitting_61 : decode cX4_findFitting 61 = .ok (.goto 39, 3) := by decide +kernel
theorem dX4_findFitting_64 : decode cX4_findFitting 64 = .ok (.aload_n 0, 1) := by decide +kernel
theorem dX4_findFitting_65 : decode cX4_findFitting 65 = .ok (.getfield 60, 3) := by decide +kernel
theorem dX4_findFitting_68 : decode cX4_findFitting 68 = .ok (.iload_n 1, 1) := by decide +kernel
theorem dX4_findFitting_69 : decode cX4_findFitting 69 = .ok (.iload 4, 2) := by decide +kernel
theorem dX4_findFitting_71 : decode cX4_findFitting 71 = .ok (.invokevirtual 340, 3) := by decide +kernel
theorem dX4_findFitting_74 : decode cX4_findFitting 74 = .ok (.aload_n 0, 1) := by decide +kernel
theorem dX4_findFitting_75 : decode cX4_findFitting 75 = .ok (.getfield 60, 3) := by decide +kernel
theorem dX4_findFitting_78 : decode cX4_findFitting 78 = .ok (.iload_n 2, 1) := by decide +kernel
theorem dX4_findFitting_79 : decode cX4_findFitting 79 = .ok (.invokevirtual 187, 3) := by decide +kernel
theorem dX4_findFitting_82 : decode cX4_findFitting 82 = .ok (.aload_n 0, 1) := by decide +kernel
theorem dX4_findFitting_83 : decode cX4_findFitting 83 = .ok (.invokevirtual 191, 3) := by decide +kernel
theorem dX4_findFitting_86 : decode cX4_findFitting 86 = .ok (.ifCond .eq 14, 3) := by decide +kernel
theorem dX4_findFitting_89 : decode cX4_findFitting 89 = .ok (.aload_n 0, 1) := by decide +kernel
theorem dX4_findFitting_90 : decode cX4_findFitting 90 = .ok (.getfield 63, 3) := by decide +kernel
theorem dX4_findFitting_93 : decode cX4_findFitting 93 = .ok (.iload_n 3, 1) := by decide +kernel
theorem dX4_findFitting_94 : decode cX4_findFitting 94 = .ok (.iload 4, 2) := by decide +kernel
theorem dX4_findFitting_96 : decode cX4_findFitting 96 = .ok (.iastore, 1) := by decide +kernel
theorem dX4_findFitting_97 : decode cX4_findFitting 97 = .ok (.iinc 3 1, 3) := by decide +kernel
theorem dX4_findFitting_100 : decode cX4_findFitting 100 = .ok (.iinc 4 1, 3) := by decide +kernel
theorem dX4_findFitting_103 : decode cX4_findFitting 103 = .ok (.goto (-70), 3) := by decide +kernel
theorem dX4_findFitting_106 : decode cX4_findFitting 106 = .ok (.iload_n 3, 1) := by decide +kernel
theorem dX4_findFitting_107 : decode cX4_findFitting 107 = .ok (.ireturn, 1) := by decide +kernel
theorem dX4_greatestAlike_0 : decode cX4_greatestAlike 0 = .ok (.aload_n 0, 1) := by decide +kernel
theorem dX4_greatestAlike_1 : decode cX4_greatestAlike 1 = .ok (.getfield 60, 3) := by decide +kernel
theorem dX4_greatestAlike_4 : decode cX4_greatestAlike 4 = .ok (.getfield 216, 3) := by decide +kernel
theorem dX4_greatestAlike_7 : decode cX4_greatestAlike 7 = .ok (.iconst 0, 1) := by decide +kernel
theorem dX4_greatestAlike_8 : decode cX4_greatestAlike 8 = .ok (.aaload, 1) := by decide +kernel
theorem dX4_greatestAlike_9 : decode cX4_greatestAlike 9 = .ok (.iload_n 2, 1) := by decide +kernel
theorem dX4_greatestAlike_10 : decode cX4_greatestAlike 10 = .ok (.iaload, 1) := by decide +kernel
theorem dX4_greatestAlike_11 : decode cX4_greatestAlike 11 = .ok (.istore 5, 2) := by decide +kernel
theorem dX4_greatestAlike_13 : decode cX4_greatestAlike 13 = .ok (.aload_n 0, 1) := by decide +kernel
theorem dX4_greatestAlike_14 : decode cX4_greatestAlike 14 = .ok (.getfield 60, 3) := by decide +kernel
theorem dX4_greatestAlike_17 : decode cX4_greatestAlike 17 = .ok (.getfield 216, 3) := by decide +kernel
theorem dX4_greatestAlike_20 : decode cX4_greatestAlike 20 = .ok (.iconst 0, 1) := by decide +kernel
theorem dX4_greatestAlike_21 : decode cX4_greatestAlike 21 = .ok (.aaload, 1) := by decide +kernel
theorem dX4_greatestAlike_22 : decode cX4_greatestAlike 22 = .ok (.iload_n 2, 1) := by decide +kernel
theorem dX4_greatestAlike_23 : decode cX4_greatestAlike 23 = .ok (.iload 5, 2) := by decide +kernel
theorem dX4_greatestAlike_25 : decode cX4_greatestAlike 25 = .ok (.iconst 1, 1) := by decide +kernel
theorem dX4_greatestAlike_26 : decode cX4_greatestAlike 26 = .ok (.iload_n 3, 1) := by decide +kernel
theorem dX4_greatestAlike_27 : decode cX4_greatestAlike 27 = .ok (.ishl, 1) := by decide +kernel
theorem dX4_greatestAlike_28 : decode cX4_greatestAlike 28 = .ok (.ior, 1) := by decide +kernel
theorem dX4_greatestAlike_29 : decode cX4_greatestAlike 29 = .ok (.iastore, 1) := by decide +kernel
theorem dX4_greatestAlike_30 : decode cX4_greatestAlike 30 = .ok (.aload_n 0, 1) := by decide +kernel
theorem dX4_greatestAlike_31 : decode cX4_greatestAlike 31 = .ok (.getfield 66, 3) := by decide +kernel
theorem dX4_greatestAlike_34 : decode cX4_greatestAlike 34 = .ok (.iconst 0, 1) := by decide +kernel
theorem dX4_greatestAlike_35 : decode cX4_greatestAlike 35 = .ok (.invokestatic 343, 3) := by decide +kernel
theorem dX4_greatestAlike_38 : decode cX4_greatestAlike 38 = .ok (.iconst 0, 1) := by decide +kernel
theorem dX4_greatestAlike_39 : decode cX4_greatestAlike 39 = .ok (.istore 6, 2) := by decide +kernel
theorem dX4_greatestAlike_41 : decode cX4_greatestAlike 41 = .ok (.iconst 0, 1) := by decide +kernel
theorem dX4_greatestAlike_42 : decode cX4_greatestAlike 42 = .ok (.istore 7, 2) := by decide +kernel
theorem dX4_greatestAlike_44 : decode cX4_greatestAlike 44 = .ok (.iload 7, 2) := by decide +kernel
theorem dX4_greatestAlike_46 : decode cX4_greatestAlike 46 = .ok (.iload 4, 2) := by decide +kernel
theorem dX4_greatestAlike_48 : decode cX4_greatestAlike 48 = .ok (.if_icmp .ge 71, 3) := by decide +kernel
theorem dX4_greatestAlike_51 : decode cX4_greatestAlike 51 = .ok (.aload_n 0, 1) := by decide +kernel
theorem dX4_greatestAlike_52 : decode cX4_greatestAlike 52 = .ok (.getfield 60, 3) := by decide +kernel
theorem dX4_greatestAlike_55 : decode cX4_greatestAlike 55 = .ok (.iload_n 1, 1) := by decide +kernel
theorem dX4_greatestAlike_56 : decode cX4_greatestAlike 56 = .ok (.aload_n 0, 1) := by decide +kernel
theorem dX4_greatestAlike_57 : decode cX4_greatestAlike 57 = .ok (.getfield 63, 3) := by decide +kernel
theorem dX4_greatestAlike_60 : decode cX4_greatestAlike 60 = .ok (.iload 7, 2) := by decide +kernel
theorem dX4_greatestAlike_62 : decode cX4_greatestAlike 62 = .ok (.iaload, 1) := by decide +kernel
theorem dX4_greatestAlike_63 : decode cX4_greatestAlike 63 = .ok (.invokevirtual 340, 3) := by decide +kernel
theorem dX4_greatestAlike_66 : decode cX4_greatestAlike 66 = .ok (.aload_n 0, 1) := by decide +kernel
theorem dX4_greatestAlike_67 : decode cX4_greatestAlike 67 = .ok (.getfield 60, 3) := by decide +kernel
theorem dX4_greatestAlike_70 : decode cX4_greatestAlike 70 = .ok (.iload_n 2, 1) := by decide +kernel
theorem dX4_greatestAlike_71 : decode cX4_greatestAlike 71 = .ok (.invokevirtual 187, 3) := by decide +kernel
theorem dX4_greatestAlike_74 : decode cX4_greatestAlike 74 = .ok (.aload_n 0, 1) := by decide +kernel
theorem dX4_greatestAlike_75 : decode cX4_greatestAlike 75 = .ok (.getfield 60, 3) := by decide +kernel
theorem dX4_greatestAlike_78 : decode cX4_greatestAlike 78 = .ok (.getfield 146, 3) := by decide +kernel
theorem dX4_greatestAlike_81 : decode cX4_greatestAlike 81 = .ok (.iload_n 2, 1) := by decide +kernel
theorem dX4_greatestAlike_82 : decode cX4_greatestAlike 82 = .ok (.iaload, 1) := by decide +kernel
theorem dX4_greatestAlike_83 : decode cX4_greatestAlike 83 = .ok (.invokestatic 152, 3) := by decide +kernel
theorem dX4_greatestAlike_86 : decode cX4_greatestAlike 86 = .ok (.istore 8, 2) := by decide +kernel
theorem dX4_greatestAlike_88 : decode cX4_greatestAlike 88 = .ok (.aload_n 0, 1) := by decide +kernel
theorem dX4_greatestAlike_89 : decode cX4_greatestAlike 89 = .ok (.getfield 66, 3) := by decide +kernel
theorem dX4_greatestAlike_92 : decode cX4_greatestAlike 92 = .ok (.iload 8, 2) := by decide +kernel
theorem dX4_greatestAlike_94 : decode cX4_greatestAlike 94 = .ok (.dup2, 1) := by decide +kernel
theorem dX4_greatestAlike_95 : decode cX4_greatestAlike 95 = .ok (.iaload, 1) := by decide +kernel
theorem dX4_greatestAlike_96 : decode cX4_greatestAlike 96 = .ok (.iconst 1, 1) := by decide +kernel
theorem dX4_greatestAlike_97 : decode cX4_greatestAlike 97 = .ok (.iadd, 1) := by decide +kernel
theorem dX4_greatestAlike_98 : decode cX4_greatestAlike 98 = .ok (.iastore, 1) := by decide +kernel
theorem dX4_greatestAlike_99 : decode cX4_greatestAlike 99 = .ok (.iload 6, 2) := by decide +kernel
theorem dX4_greatestAlike_101 : decode cX4_greatestAlike 101 = .ok (.aload_n 0, 1) := by decide +kernel
theorem dX4_greatestAlike_102 : decode cX4_greatestAlike 102 = .ok (.getfield 66, 3) := by decide +kernel
theorem dX4_greatestAlike_105 : decode cX4_greatestAlike 105 = .ok (.iload 8, 2) := by decide +kernel
theorem dX4_greatestAlike_107 : decode cX4_greatestAlike 107 = .ok (.iaload, 1) := by decide +kernel
theorem dX4_greatestAlike_108 : decode cX4_greatestAlike 108 = .ok (.invokestatic 335, 3) := by decide +kernel
theorem dX4_greatestAlike_111 : decode cX4_greatestAlike 111 = .ok (.istore 6, 2) := by decide +kernel
theorem dX4_greatestAlike_113 : decode cX4_greatestAlike 113 = .ok (.iinc 7 1, 3) := by decide +kernel
theorem dX4_greatestAlike_116 : decode cX4_greatestAlike 116 = .ok (.goto (-72), 3) := by decide +kernel
theorem dX4_greatestAlike_119 : decode cX4_greatestAlike 119 = .ok (.aload_n 0, 1) := by decide +kernel
theorem dX4_greatestAlike_120 : decode cX4_greatestAlike 120 = .ok (.getfield 60, 3) := by decide +kernel
theorem dX4_greatestAlike_123 : decode cX4_greatestAlike 123 = .ok (.getfield 216, 3) := by decide +kernel
theorem dX4_greatestAlike_126 : decode cX4_greatestAlike 126 = .ok (.iconst 0, 1) := by decide +kernel
theorem dX4_greatestAlike_127 : decode cX4_greatestAlike 127 = .ok (.aaload, 1) := by decide +kernel
theorem dX4_greatestAlike_128 : decode cX4_greatestAlike 128 = .ok (.iload_n 2, 1) := by decide +kernel
theorem dX4_greatestAlike_129 : decode cX4_greatestAlike 129 = .ok (.iload 5, 2) := by decide +kernel
theorem dX4_greatestAlike_131 : decode cX4_greatestAlike 131 = .ok (.iastore, 1) := by decide +kernel
theorem dX4_greatestAlike_132 : decode cX4_greatestAlike 132 = .ok (.iload 6, 2) := by decide +kernel
theorem dX4_greatestAlike_134 : decode cX4_greatestAlike 134 = .ok (.ireturn, 1) := by decide +kernel
theorem dX4_weightUp_0 : decode cX4_weightUp 0 = .ok (.aload_n 0, 1) := by decide +kernel
theorem dX4_weightUp_1 : decode cX4_weightUp 1 = .ok (.getfield 60, 3) := by decide +kernel
theorem dX4_weightUp_4 : decode cX4_weightUp 4 = .ok (.aload_n 0, 1) := by decide +kernel
theorem dX4_weightUp_5 : decode cX4_weightUp 5 = .ok (.getfield 10, 3) := by decide +kernel
theorem dX4_weightUp_8 : decode cX4_weightUp 8 = .ok (.aload_n 0, 1) := by decide +kernel
theorem dX4_weightUp_9 : decode cX4_weightUp 9 = .ok (.getfield 16, 3) := by decide +kernel
theorem dX4_weightUp_12 : decode cX4_weightUp 12 = .ok (.aload_n 0, 1) := by decide +kernel
theorem dX4_weightUp_13 : decode cX4_weightUp 13 = .ok (.getfield 20, 3) := by decide +kernel
theorem dX4_weightUp_16 : decode cX4_weightUp 16 = .ok (.aload_n 0, 1) := by decide +kernel
theorem dX4_weightUp_17 : decode cX4_weightUp 17 = .ok (.getfield 27, 3) := by decide +kernel
theorem dX4_weightUp_20 : decode cX4_weightUp 20 = .ok (.invokevirtual 161, 3) := by decide +kernel
theorem dX4_weightUp_23 : decode cX4_weightUp 23 = .ok (.aload_n 0, 1) := by decide +kernel
theorem dX4_weightUp_24 : decode cX4_weightUp 24 = .ok (.getfield 10, 3) := by decide +kernel
theorem dX4_weightUp_27 : decode cX4_weightUp 27 = .ok (.getfield 93, 3) := by decide +kernel
theorem dX4_weightUp_30 : decode cX4_weightUp 30 = .ok (.iload_n 2, 1) := by decide +kernel
theorem dX4_weightUp_31 : decode cX4_weightUp 31 = .ok (.iaload, 1) := by decide +kernel
theorem dX4_weightUp_32 : decode cX4_weightUp 32 = .ok (.iconst 2, 1) := by decide +kernel
theorem dX4_weightUp_33 : decode cX4_weightUp 33 = .ok (.if_icmp .eq 32, 3) := by decide +kernel
theorem dX4_weightUp_36 : decode cX4_weightUp 36 = .ok (.aload_n 0, 1) := by decide +kernel
theorem dX4_weightUp_37 : decode cX4_weightUp 37 = .ok (.getfield 60, 3) := by decide +kernel
theorem dX4_weightUp_40 : decode cX4_weightUp 40 = .ok (.iload_n 3, 1) := by decide +kernel
theorem dX4_weightUp_41 : decode cX4_weightUp 41 = .ok (.invokevirtual 187, 3) := by decide +kernel
theorem dX4_weightUp_44 : decode cX4_weightUp 44 = .ok (.aload_n 0, 1) := by decide +kernel
theorem dX4_weightUp_45 : decode cX4_weightUp 45 = .ok (.getfield 60, 3) := by decide +kernel
theorem dX4_weightUp_48 : decode cX4_weightUp 48 = .ok (.iload_n 2, 1) := by decide +kernel
theorem dX4_weightUp_49 : decode cX4_weightUp 49 = .ok (.iload_n 3, 1) := by decide +kernel
theorem dX4_weightUp_50 : decode cX4_weightUp 50 = .ok (.invokevirtual 349, 3) := by decide +kernel
theorem dX4_weightUp_53 : decode cX4_weightUp 53 = .ok (.ifCond .eq 10, 3) := by decide +kernel
theorem dX4_weightUp_56 : decode cX4_weightUp 56 = .ok (.iload_n 3, 1) := by decide +kernel
theorem dX4_weightUp_57 : decode cX4_weightUp 57 = .ok (.invokestatic 203, 3) := by decide +kernel
theorem dX4_weightUp_60 : decode cX4_weightUp 60 = .ok (.goto 4, 3) := by decide +kernel
theorem dX4_weightUp_63 : decode cX4_weightUp 63 = .ok (.lconst 0, 1) := by decide +kernel
theorem dX4_weightUp_64 : decode cX4_weightUp 64 = .ok (.lreturn, 1) := by decide +kernel
theorem dX4_weightUp_65 : decode cX4_weightUp 65 = .ok (.lconst 0, 1) := by decide +kernel
theorem dX4_weightUp_66 : decode cX4_weightUp 66 = .ok (.lstore 4, 2) := by decide +kernel
theorem dX4_weightUp_68 : decode cX4_weightUp 68 = .ok (.iconst 1, 1) := by decide +kernel
theorem dX4_weightUp_69 : decode cX4_weightUp 69 = .ok (.iload_n 3, 1) := by decide +kernel
theorem dX4_weightUp_70 : decode cX4_weightUp 70 = .ok (.iconst 1, 1) := by decide +kernel
theorem dX4_weightUp_71 : decode cX4_weightUp 71 = .ok (.iadd, 1) := by decide +kernel
theorem dX4_weightUp_72 : decode cX4_weightUp 72 = .ok (.ishl, 1) := by decide +kernel
theorem dX4_weightUp_73 : decode cX4_weightUp 73 = .ok (.istore 6, 2) := by decide +kernel
theorem dX4_weightUp_75 : decode cX4_weightUp 75 = .ok (.iconst 0, 1) := by decide +kernel
theorem dX4_weightUp_76 : decode cX4_weightUp 76 = .ok (.istore 7, 2) := by decide +kernel
theorem dX4_weightUp_78 : decode cX4_weightUp 78 = .ok (.iload 7, 2) := by decide +kernel
theorem dX4_weightUp_80 : decode cX4_weightUp 80 = .ok (.iload 6, 2) := by decide +kernel
theorem dX4_weightUp_82 : decode cX4_weightUp 82 = .ok (.if_icmp .ge 66, 3) := by decide +kernel
theorem dX4_weightUp_85 : decode cX4_weightUp 85 = .ok (.iload_n 1, 1) := by decide +kernel
theorem dX4_weightUp_86 : decode cX4_weightUp 86 = .ok (.iload 7, 2) := by decide +kernel
theorem dX4_weightUp_88 : decode cX4_weightUp 88 = .ok (.iload_n 3, 1) := by decide +kernel
theorem dX4_weightUp_89 : decode cX4_weightUp 89 = .ok (.invokestatic 352, 3) := by decide +kernel
theorem dX4_weightUp_92 : decode cX4_weightUp 92 = .ok (.lstore 8, 2) := by decide +kernel
theorem dX4_weightUp_94 : decode cX4_weightUp 94 = .ok (.lload 8, 2) := by decide +kernel
theorem dX4_weightUp_96 : decode cX4_weightUp 96 = .ok (.lconst 0, 1) := by decide +kernel
theorem dX4_weightUp_97 : decode cX4_weightUp 97 = .ok (.lcmp, 1) := by decide +kernel
theorem dX4_weightUp_98 : decode cX4_weightUp 98 = .ok (.ifCond .ne 6, 3) := by decide +kernel
theorem dX4_weightUp_101 : decode cX4_weightUp 101 = .ok (.goto 41, 3) := by decide +kernel
theorem dX4_weightUp_104 : decode cX4_weightUp 104 = .ok (.aload_n 0, 1) := by decide +kernel
theorem dX4_weightUp_105 : decode cX4_weightUp 105 = .ok (.getfield 60, 3) := by decide +kernel
theorem dX4_weightUp_108 : decode cX4_weightUp 108 = .ok (.iload_n 2, 1) := by decide +kernel
theorem dX4_weightUp_109 : decode cX4_weightUp 109 = .ok (.iload 7, 2) := by decide +kernel
theorem dX4_weightUp_111 : decode cX4_weightUp 111 = .ok (.iload_n 3, 1) := by decide +kernel
theorem dX4_weightUp_112 : decode cX4_weightUp 112 = .ok (.invokevirtual 355, 3) := by decide +kernel
theorem dX4_weightUp_115 : decode cX4_weightUp 115 = .ok (.aload_n 0, 1) := by decide +kernel
theorem dX4_weightUp_116 : decode cX4_weightUp 116 = .ok (.getfield 60, 3) := by decide +kernel
theorem dX4_weightUp_119 : decode cX4_weightUp 119 = .ok (.iload_n 3, 1) := by decide +kernel
theorem dX4_weightUp_120 : decode cX4_weightUp 120 = .ok (.invokevirtual 187, 3) := by decide +kernel
theorem dX4_weightUp_123 : decode cX4_weightUp 123 = .ok (.aload_n 0, 1) := by decide +kernel
theorem dX4_weightUp_124 : decode cX4_weightUp 124 = .ok (.getfield 60, 3) := by decide +kernel
theorem dX4_weightUp_127 : decode cX4_weightUp 127 = .ok (.iload_n 2, 1) := by decide +kernel
theorem dX4_weightUp_128 : decode cX4_weightUp 128 = .ok (.iload_n 3, 1) := by decide +kernel
theorem dX4_weightUp_129 : decode cX4_weightUp 129 = .ok (.invokevirtual 349, 3) := by decide +kernel
theorem dX4_weightUp_132 : decode cX4_weightUp 132 = .ok (.ifCond .eq 10, 3) := by decide +kernel
theorem dX4_weightUp_135 : decode cX4_weightUp 135 = .ok (.lload 4, 2) := by decide +kernel
theorem dX4_weightUp_137 : decode cX4_weightUp 137 = .ok (.lload 8, 2) := by decide +kernel
theorem dX4_weightUp_139 : decode cX4_weightUp 139 = .ok (.ladd, 1) := by decide +kernel
theorem dX4_weightUp_140 : decode cX4_weightUp 140 = .ok (.lstore 4, 2) := by decide +kernel
theorem dX4_weightUp_142 : decode cX4_weightUp 142 = .ok (.iinc 7 1, 3) := by decide +kernel
theorem dX4_weightUp_145 : decode cX4_weightUp 145 = .ok (.goto (-67), 3) := by decide +kernel
theorem dX4_weightUp_148 : decode cX4_weightUp 148 = .ok (.lload 4, 2) := by decide +kernel
theorem dX4_weightUp_150 : decode cX4_weightUp 150 = .ok (.lreturn, 1) := by decide +kernel
theorem dX4_wholeWeight_0 : decode cX4_wholeWeight 0 = .ok (.lconst 1, 1) := by decide +kernel
theorem dX4_wholeWeight_1 : decode cX4_wholeWeight 1 = .ok (.iconst 4, 1) := by decide +kernel
theorem dX4_wholeWeight_2 : decode cX4_wholeWeight 2 = .ok (.iload_n 0, 1) := by decide +kernel
theorem dX4_wholeWeight_3 : decode cX4_wholeWeight 3 = .ok (.iconst 1, 1) := by decide +kernel
theorem dX4_wholeWeight_4 : decode cX4_wholeWeight 4 = .ok (.iadd, 1) := by decide +kernel
theorem dX4_wholeWeight_5 : decode cX4_wholeWeight 5 = .ok (.imul, 1) := by decide +kernel
theorem dX4_wholeWeight_6 : decode cX4_wholeWeight 6 = .ok (.lshl, 1) := by decide +kernel
theorem dX4_wholeWeight_7 : decode cX4_wholeWeight 7 = .ok (.lreturn, 1) := by decide +kernel
theorem dX4_weight_0 : decode cX4_weight 0 = .ok (.lconst 1, 1) := by decide +kernel
theorem dX4_weight_1 : decode cX4_weight 1 = .ok (.lstore_n 3, 1) := by decide +kernel
theorem dX4_weight_2 : decode cX4_weight 2 = .ok (.iconst 0, 1) := by decide +kernel
theorem dX4_weight_3 : decode cX4_weight 3 = .ok (.istore 5, 2) := by decide +kernel
theorem dX4_weight_5 : decode cX4_weight 5 = .ok (.iload 5, 2) := by decide +kernel
theorem dX4_weight_7 : decode cX4_weight 7 = .ok (.iload_n 2, 1) := by decide +kernel
theorem dX4_weight_8 : decode cX4_weight 8 = .ok (.if_icmp .gt 31, 3) := by decide +kernel
theorem dX4_weight_11 : decode cX4_weight 11 = .ok (.lload_n 3, 1) := by decide +kernel
theorem dX4_weight_12 : decode cX4_weight 12 = .ok (.iload_n 1, 1) := by decide +kernel
theorem dX4_weight_13 : decode cX4_weight 13 = .ok (.iload 5, 2) := by decide +kernel
theorem dX4_weight_15 : decode cX4_weight 15 = .ok (.ishr, 1) := by decide +kernel
theorem dX4_weight_16 : decode cX4_weight 16 = .ok (.iconst 1, 1) := by decide +kernel
theorem dX4_weight_17 : decode cX4_weight 17 = .ok (.iand, 1) := by decide +kernel
theorem dX4_weight_18 : decode cX4_weight 18 = .ok (.ifCond .eq 8, 3) := by decide +kernel
theorem dX4_weight_21 : decode cX4_weight 21 = .ok (.iload_n 0, 1) := by decide +kernel
theorem dX4_weight_22 : decode cX4_weight 22 = .ok (.i2l, 1) := by decide +kernel
theorem dX4_weight_23 : decode cX4_weight 23 = .ok (.goto 8, 3) := by decide +kernel
theorem dX4_weight_26 : decode cX4_weight 26 = .ok (.bipush 16, 2) := by decide +kernel
theorem dX4_weight_28 : decode cX4_weight 28 = .ok (.iload_n 0, 1) := by decide +kernel
theorem dX4_weight_29 : decode cX4_weight 29 = .ok (.isub, 1) := by decide +kernel
theorem dX4_weight_30 : decode cX4_weight 30 = .ok (.i2l, 1) := by decide +kernel
theorem dX4_weight_31 : decode cX4_weight 31 = .ok (.lmul, 1) := by decide +kernel
theorem dX4_weight_32 : decode cX4_weight 32 = .ok (.lstore_n 3, 1) := by decide +kernel
theorem dX4_weight_33 : decode cX4_weight 33 = .ok (.iinc 5 1, 3) := by decide +kernel
theorem dX4_weight_36 : decode cX4_weight 36 = .ok (.goto (-31), 3) := by decide +kernel
theorem dX4_weight_39 : decode cX4_weight 39 = .ok (.lload_n 3, 1) := by decide +kernel
theorem dX4_weight_40 : decode cX4_weight 40 = .ok (.lreturn, 1) := by decide +kernel
theorem dX4_commonDivisor_0 : decode cX4_commonDivisor 0 = .ok (.lload_n 2, 1) := by decide +kernel
theorem dX4_commonDivisor_1 : decode cX4_commonDivisor 1 = .ok (.lstore 4, 2) := by decide +kernel
theorem dX4_commonDivisor_3 : decode cX4_commonDivisor 3 = .ok (.lload_n 0, 1) := by decide +kernel
theorem dX4_commonDivisor_4 : decode cX4_commonDivisor 4 = .ok (.lstore 6, 2) := by decide +kernel
theorem dX4_commonDivisor_6 : decode cX4_commonDivisor 6 = .ok (.iconst 0, 1) := by decide +kernel
theorem dX4_commonDivisor_7 : decode cX4_commonDivisor 7 = .ok (.istore 8, 2) := by decide +kernel
theorem dX4_commonDivisor_9 : decode cX4_commonDivisor 9 = .ok (.iload 8, 2) := by decide +kernel
theorem dX4_commonDivisor_11 : decode cX4_commonDivisor 11 = .ok (.bipush 100, 2) := by decide +kernel
theorem dX4_commonDivisor_13 : decode cX4_commonDivisor 13 = .ok (.if_icmp .ge 31, 3) := by decide +kernel
theorem dX4_commonDivisor_16 : decode cX4_commonDivisor 16 = .ok (.lload 6, 2) := by decide +kernel
theorem dX4_commonDivisor_18 : decode cX4_commonDivisor 18 = .ok (.lconst 0, 1) := by decide +kernel
theorem dX4_commonDivisor_19 : decode cX4_commonDivisor 19 = .ok (.lcmp, 1) := by decide +kernel
theorem dX4_commonDivisor_20 : decode cX4_commonDivisor 20 = .ok (.ifCond .eq 24, 3) := by decide +kernel
theorem dX4_commonDivisor_23 : decode cX4_commonDivisor 23 = .ok (.lload 4, 2) := by decide +kernel
theorem dX4_commonDivisor_25 : decode cX4_commonDivisor 25 = .ok (.lload 6, 2) := by decide +kernel
theorem dX4_commonDivisor_27 : decode cX4_commonDivisor 27 = .ok (.lrem, 1) := by decide +kernel
theorem dX4_commonDivisor_28 : decode cX4_commonDivisor 28 = .ok (.lstore 9, 2) := by decide +kernel
theorem dX4_commonDivisor_30 : decode cX4_commonDivisor 30 = .ok (.lload 6, 2) := by decide +kernel
theorem dX4_commonDivisor_32 : decode cX4_commonDivisor 32 = .ok (.lstore 4, 2) := by decide +kernel
theorem dX4_commonDivisor_34 : decode cX4_commonDivisor 34 = .ok (.lload 9, 2) := by decide +kernel
theorem dX4_commonDivisor_36 : decode cX4_commonDivisor 36 = .ok (.lstore 6, 2) := by decide +kernel
theorem dX4_commonDivisor_38 : decode cX4_commonDivisor 38 = .ok (.iinc 8 1, 3) := by decide +kernel
theorem dX4_commonDivisor_41 : decode cX4_commonDivisor 41 = .ok (.goto (-32), 3) := by decide +kernel
theorem dX4_commonDivisor_44 : decode cX4_commonDivisor 44 = .ok (.lload 4, 2) := by decide +kernel
theorem dX4_commonDivisor_46 : decode cX4_commonDivisor 46 = .ok (.lreturn, 1) := by decide +kernel
end
section
theorem dX5_init_0 : decode cX5_init 0 = .ok (.aload_n 0, 1) := by decide +kernel
theorem dX5_init_1 : decode cX5_init 1 = .ok (.invokespecial 1, 3) := by decide +kernel
theorem dX5_init_4 : decode cX5_init 4 = .ok (.aload_n 0, 1) := by decide +kernel
theorem dX5_init_5 : decode cX5_init 5 = .ok (.iconst 4, 1) := by decide +kernel
theorem dX5_init_6 : decode cX5_init 6 = .ok (.newarray .int, 2) := by decide +kernel
theorem dX5_init_8 : decode cX5_init 8 = .ok (.putfield 7, 3) := by decide +kernel
theorem dX5_init_11 : decode cX5_init 11 = .ok (.aload_n 0, 1) := by decide +kernel
theorem dX5_init_12 : decode cX5_init 12 = .ok (.iconst 4, 1) := by decide +kernel
theorem dX5_init_13 : decode cX5_init 13 = .ok (.newarray .int, 2) := by decide +kernel
theorem dX5_init_15 : decode cX5_init 15 = .ok (.putfield 13, 3) := by decide +kernel
theorem dX5_init_18 : decode cX5_init 18 = .ok (.aload_n 0, 1) := by decide +kernel
theorem dX5_init_19 : decode cX5_init 19 = .ok (.sipush 240, 3) := by decide +kernel
theorem dX5_init_22 : decode cX5_init 22 = .ok (.newarray .int, 2) := by decide +kernel
theorem dX5_init_24 : decode cX5_init 24 = .ok (.putfield 16, 3) := by decide +kernel
theorem dX5_init_27 : decode cX5_init 27 = .ok (.aload_n 0, 1) := by decide +kernel
theorem dX5_init_28 : decode cX5_init 28 = .ok (.bipush 60, 2) := by decide +kernel
theorem dX5_init_30 : decode cX5_init 30 = .ok (.newarray .int, 2) := by decide +kernel
theorem dX5_init_32 : decode cX5_init 32 = .ok (.putfield 19, 3) := by decide +kernel
theorem dX5_init_35 : decode cX5_init 35 = .ok (.aload_n 0, 1) := by decide +kernel
theorem dX5_init_36 : decode cX5_init 36 = .ok (.bipush 35, 2) := by decide +kernel
theorem dX5_init_38 : decode cX5_init 38 = .ok (.newarray .int, 2) := by decide +kernel
theorem dX5_init_40 : decode cX5_init 40 = .ok (.putfield 22, 3) := by decide +kernel
theorem dX5_init_43 : decode cX5_init 43 = .ok (.aload_n 0, 1) := by decide +kernel
theorem dX5_init_44 : decode cX5_init 44 = .ok (.bipush 27, 2) := by decide +kernel
theorem dX5_init_46 : decode cX5_init 46 = .ok (.newarray .int, 2) := by decide +kernel
theorem dX5_init_48 : decode cX5_init 48 = .ok (.putfield 25, 3) := by decide +kernel
theorem dX5_init_51 : decode cX5_init 51 = .ok (.aload_n 0, 1) := by decide +kernel
theorem dX5_init_52 : decode cX5_init 52 = .ok (.bipush 9, 2) := by decide +kernel
theorem dX5_init_54 : decode cX5_init 54 = .ok (.newarray .int, 2) := by decide +kernel
theorem dX5_init_56 : decode cX5_init 56 = .ok (.putfield 28, 3) := by decide +kernel
theorem dX5_init_59 : decode cX5_init 59 = .ok (.aload_n 0, 1) := by decide +kernel
theorem dX5_init_60 : decode cX5_init 60 = .ok (.bipush 72, 2) := by decide +kernel
theorem dX5_init_62 : decode cX5_init 62 = .ok (.newarray .int, 2) := by decide +kernel
theorem dX5_init_64 : decode cX5_init 64 = .ok (.putfield 31, 3) := by decide +kernel
theorem dX5_init_67 : decode cX5_init 67 = .ok (.aload_n 0, 1) := by decide +kernel
theorem dX5_init_68 : decode cX5_init 68 = .ok (.sipush 180, 3) := by decide +kernel
theorem dX5_init_71 : decode cX5_init 71 = .ok (.newarray .int, 2) := by decide +kernel
theorem dX5_init_73 : decode cX5_init 73 = .ok (.putfield 34, 3) := by decide +kernel
theorem dX5_init_76 : decode cX5_init 76 = .ok (.aload_n 0, 1) := by decide +kernel
theorem dX5_init_77 : decode cX5_init 77 = .ok (.bipush 60, 2) := by decide +kernel
theorem dX5_init_79 : decode cX5_init 79 = .ok (.newarray .int, 2) := by decide +kernel
theorem dX5_init_81 : decode cX5_init 81 = .ok (.putfield 37, 3) := by decide +kernel
theorem dX5_init_84 : decode cX5_init 84 = .ok (.aload_n 0, 1) := by decide +kernel
theorem dX5_init_85 : decode cX5_init 85 = .ok (.bipush 60, 2) := by decide +kernel
theorem dX5_init_87 : decode cX5_init 87 = .ok (.newarray .int, 2) := by decide +kernel
theorem dX5_init_89 : decode cX5_init 89 = .ok (.putfield 40, 3) := by decide +kernel
theorem dX5_init_92 : decode cX5_init 92 = .ok (.aload_n 0, 1) := by decide +kernel
theorem dX5_init_93 : decode cX5_init 93 = .ok (.sipush 540, 3) := by decide +kernel
theorem dX5_init_96 : decode cX5_init 96 = .ok (.newarray .int, 2) := by decide +kernel
theorem dX5_init_98 : decode cX5_init 98 = .ok (.putfield 43, 3) := by decide +kernel
theorem dX5_init_101 : decode cX5_init 101 = .ok (.aload_n 0, 1) := by decide +kernel
theorem dX5_init_102 : decode cX5_init 102 = .ok (.bipush 9, 2) := by decide +kernel
theorem dX5_init_104 : decode cX5_init 104 = .ok (.newarray .int, 2) := by decide +kernel
theorem dX5_init_106 : decode cX5_init 106 = .ok (.putfield 46, 3) := by decide +kernel
theorem dX5_init_109 : decode cX5_init 109 = .ok (.aload_n 0, 1) := by decide +kernel
theorem dX5_init_110 : decode cX5_init 110 = .ok (.bipush 9, 2) := by decide +kernel
theorem dX5_init_112 : decode cX5_init 112 = .ok (.newarray .int, 2) := by decide +kernel
theorem dX5_init_114 : decode cX5_init 114 = .ok (.putfield 49, 3) := by decide +kernel
theorem dX5_init_117 : decode cX5_init 117 = .ok (.aload_n 0, 1) := by decide +kernel
theorem dX5_init_118 : decode cX5_init 118 = .ok (.bipush 9, 2) := by decide +kernel
theorem dX5_init_120 : decode cX5_init 120 = .ok (.newarray .int, 2) := by decide +kernel
theorem dX5_init_122 : decode cX5_init 122 = .ok (.putfield 52, 3) := by decide +kernel
theorem dX5_init_125 : decode cX5_init 125 = .ok (.aload_n 0, 1) := by decide +kernel
theorem dX5_init_126 : decode cX5_init 126 = .ok (.bipush 9, 2) := by decide +kernel
theorem dX5_init_128 : decode cX5_init 128 = .ok (.newarray .int, 2) := by decide +kernel
theorem dX5_init_130 : decode cX5_init 130 = .ok (.putfield 55, 3) := by decide +kernel
theorem dX5_init_133 : decode cX5_init 133 = .ok (.aload_n 0, 1) := by decide +kernel
theorem dX5_init_134 : decode cX5_init 134 = .ok (.bipush 9, 2) := by decide +kernel
theorem dX5_init_136 : decode cX5_init 136 = .ok (.newarray .int, 2) := by decide +kernel
theorem dX5_init_138 : decode cX5_init 138 = .ok (.putfield 58, 3) := by decide +kernel
theorem dX5_init_141 : decode cX5_init 141 = .ok (.aload_n 0, 1) := by decide +kernel
theorem dX5_init_142 : decode cX5_init 142 = .ok (.bipush 6, 2) := by decide +kernel
theorem dX5_init_144 : decode cX5_init 144 = .ok (.newarray .int, 2) := by decide +kernel
theorem dX5_init_146 : decode cX5_init 146 = .ok (.putfield 61, 3) := by decide +kernel
theorem dX5_init_149 : decode cX5_init 149 = .ok (.aload_n 0, 1) := by decide +kernel
theorem dX5_init_150 : decode cX5_init 150 = .ok (.bipush 6, 2) := by decide +kernel
theorem dX5_init_152 : decode cX5_init 152 = .ok (.newarray .int, 2) := by decide +kernel
theorem dX5_init_154 : decode cX5_init 154 = .ok (.putfield 64, 3) := by decide +kernel
theorem dX5_init_157 : decode cX5_init 157 = .ok (.aload_n 0, 1) := by decide +kernel
theorem dX5_init_158 : decode cX5_init 158 = .ok (.bipush 16, 2) := by decide +kernel
theorem dX5_init_160 : decode cX5_init 160 = .ok (.newarray .int, 2) := by decide +kernel
theorem dX5_init_162 : decode cX5_init 162 = .ok (.putfield 67, 3) := by decide +kernel
theorem dX5_init_165 : decode cX5_init 165 = .ok (.aload_n 0, 1) := by decide +kernel
theorem dX5_init_166 : decode cX5_init 166 = .ok (.bipush 10, 2) := by decide +kernel
theorem dX5_init_168 : decode cX5_init 168 = .ok (.newarray .int, 2) := by decide +kernel
theorem dX5_init_170 : decode cX5_init 170 = .ok (.putfield 70, 3) := by decide +kernel
theorem dX5_init_173 : decode cX5_init 173 = .ok (.iconst 0, 1) := by decide +kernel
theorem dX5_init_174 : decode cX5_init 174 = .ok (.istore_n 1, 1) := by decide +kernel
theorem dX5_init_175 : decode cX5_init 175 = .ok (.iload_n 1, 1) := by decide +kernel
theorem dX5_init_176 : decode cX5_init 176 = .ok (.iconst 4, 1) := by decide +kernel
theorem dX5_init_177 : decode cX5_init 177 = .ok (.if_icmp .ge 16, 3) := by decide +kernel
theorem dX5_init_180 : decode cX5_init 180 = .ok (.aload_n 0, 1) := by decide +kernel
theorem dX5_init_181 : decode cX5_init 181 = .ok (.getfield 7, 3) := by decide +kernel
theorem dX5_init_184 : decode cX5_init 184 = .ok (.iload_n 1, 1) := by decide +kernel
theorem dX5_init_185 : decode cX5_init 185 = .ok (.iconst (-1), 1) := by decide +kernel
theorem dX5_init_186 : decode cX5_init 186 = .ok (.iastore, 1) := by decide +kernel
theorem dX5_init_187 : decode cX5_init 187 = .ok (.iinc 1 1, 3) := by decide +kernel
theorem dX5_init_190 : decode cX5_init 190 = .ok (.goto (-15), 3) := by decide +kernel
theorem dX5_init_193 : decode cX5_init 193 = .ok (.iconst 0, 1) := by decide +kernel
theorem dX5_init_194 : decode cX5_init 194 = .ok (.istore_n 1, 1) := by decide +kernel
theorem dX5_init_195 : decode cX5_init 195 = .ok (.iload_n 1, 1) := by decide +kernel
theorem dX5_init_196 : decode cX5_init 196 = .ok (.bipush 9, 2) := by decide +kernel
theorem dX5_init_198 : decode cX5_init 198 = .ok (.if_icmp .ge 16, 3) := by decide +kernel
theorem dX5_init_201 : decode cX5_init 201 = .ok (.aload_n 0, 1) := by decide +kernel
theorem dX5_init_202 : decode cX5_init 202 = .ok (.getfield 28, 3) := by decide +kernel
theorem dX5_init_205 : decode cX5_init 205 = .ok (.iload_n 1, 1) := by decide +kernel
theorem dX5_init_206 : decode cX5_init 206 = .ok (.iload_n 1, 1) := by decide +kernel
theorem dX5_init_207 : decode cX5_init 207 = .ok (.iastore, 1) := by decide +kernel
theorem dX5_init_208 : decode cX5_init 208 = .ok (.iinc 1 1, 3) := by decide +kernel
theorem dX5_init_211 : decode cX5_init 211 = .ok (.goto (-16), 3) := by decide +kernel
theorem dX5_init_214 : decode cX5_init 214 = .ok (.return_, 1) := by decide +kernel
theorem dX5_in_0 : decode cX5_in 0 = .ok (.lload_n 0, 1) := by decide +kernel
theorem dX5_in_1 : decode cX5_in 1 = .ok (.lload_n 2, 1) := by decide +kernel
theorem dX5_in_2 : decode cX5_in 2 = .ok (.lcmp, 1) := by decide +kernel
theorem dX5_in_3 : decode cX5_in 3 = .ok (.ifCond .lt 14, 3) := by decide +kernel
theorem dX5_in_6 : decode cX5_in 6 = .ok (.lload_n 0, 1) := by decide +kernel
theorem dX5_in_7 : decode cX5_in 7 = .ok (.lload 4, 2) := by decide +kernel
theorem dX5_in_9 : decode cX5_in 9 = .ok (.lcmp, 1) := by decide +kernel
theorem dX5_in_10 : decode cX5_in 10 = .ok (.ifCond .gt 7, 3) := by decide +kernel
theorem dX5_in_13 : decode cX5_in 13 = .ok (.iconst 1, 1) := by decide +kernel
theorem dX5_in_14 : decode cX5_in 14 = .ok (.goto 4, 3) := by decide +kernel
theorem dX5_in_17 : decode cX5_in 17 = .ok (.iconst 0, 1) := by decide +kernel
theorem dX5_in_18 : decode cX5_in 18 = .ok (.ireturn, 1) := by decide +kernel
theorem dX5_no_0 : decode cX5_no 0 = .ok (.ldc2_w 73, 3) := by decide +kernel
theorem dX5_no_3 : decode cX5_no 3 = .ok (.iload_n 0, 1) := by decide +kernel
theorem dX5_no_4 : decode cX5_no 4 = .ok (.i2l, 1) := by decide +kernel
theorem dX5_no_5 : decode cX5_no 5 = .ok (.lsub, 1) := by decide +kernel
theorem dX5_no_6 : decode cX5_no 6 = .ok (.lreturn, 1) := by decide +kernel
theorem dX5_isTwo_0 : decode cX5_isTwo 0 = .ok (.iload_n 0, 1) := by decide +kernel
theorem dX5_isTwo_1 : decode cX5_isTwo 1 = .ok (.i2l, 1) := by decide +kernel
theorem dX5_isTwo_2 : decode cX5_isTwo 2 = .ok (.lconst 0, 1) := by decide +kernel
theorem dX5_isTwo_3 : decode cX5_isTwo 3 = .ok (.lconst 1, 1) := by decide +kernel
theorem dX5_isTwo_4 : decode cX5_isTwo 4 = .ok (.invokestatic 75, 3) := by decide +kernel
theorem dX5_isTwo_7 : decode cX5_isTwo 7 = .ok (.ireturn, 1) := by decide +kernel
theorem dX5_isIn_0 : decode cX5_isIn 0 = .ok (.iload_n 0, 1) := by decide +kernel
theorem dX5_isIn_1 : decode cX5_isIn 1 = .ok (.iload_n 1, 1) := by decide +kernel
theorem dX5_isIn_2 : decode cX5_isIn 2 = .ok (.ishr, 1) := by decide +kernel
theorem dX5_isIn_3 : decode cX5_isIn 3 = .ok (.iconst 1, 1) := by decide +kernel
theorem dX5_isIn_4 : decode cX5_isIn 4 = .ok (.iand, 1) := by decide +kernel
theorem dX5_isIn_5 : decode cX5_isIn 5 = .ok (.iconst 1, 1) := by decide +kernel
theorem dX5_isIn_6 : decode cX5_isIn 6 = .ok (.if_icmp .ne 7, 3) := by decide +kernel
theorem dX5_isIn_9 : decode cX5_isIn 9 = .ok (.iconst 1, 1) := by decide +kernel
theorem dX5_isIn_10 : decode cX5_isIn 10 = .ok (.goto 4, 3) := by decide +kernel
theorem dX5_isIn_13 : decode cX5_isIn 13 = .ok (.iconst 0, 1) := by decide +kernel
theorem dX5_isIn_14 : decode cX5_isIn 14 = .ok (.ireturn, 1) := by decide +kernel
theorem dX5_ones_0 : decode cX5_ones 0 = .ok (.iconst 0, 1) := by decide +kernel
theorem dX5_ones_1 : decode cX5_ones 1 = .ok (.istore_n 1, 1) := by decide +kernel
theorem dX5_ones_2 : decode cX5_ones 2 = .ok (.iload_n 0, 1) := by decide +kernel
theorem dX5_ones_3 : decode cX5_ones 3 = .ok (.istore_n 2, 1) := by decide +kernel
theorem dX5_ones_4 : decode cX5_ones 4 = .ok (.iload_n 2, 1) := by decide +kernel
theorem dX5_ones_5 : decode cX5_ones 5 = .ok (.ifCond .eq 15, 3) := by decide +kernel
theorem dX5_ones_8 : decode cX5_ones 8 = .ok (.iinc 1 1, 3) := by decide +kernel
theorem dX5_ones_11 : decode cX5_ones 11 = .ok (.iload_n 2, 1) := by decide +kernel
theorem dX5_ones_12 : decode cX5_ones 12 = .ok (.iload_n 2, 1) := by decide +kernel
theorem dX5_ones_13 : decode cX5_ones 13 = .ok (.iconst 1, 1) := by decide +kernel
theorem dX5_ones_14 : decode cX5_ones 14 = .ok (.isub, 1) := by decide +kernel
theorem dX5_ones_15 : decode cX5_ones 15 = .ok (.iand, 1) := by decide +kernel
theorem dX5_ones_16 : decode cX5_ones 16 = .ok (.istore_n 2, 1) := by decide +kernel
theorem dX5_ones_17 : decode cX5_ones 17 = .ok (.goto (-13), 3) := by decide +kernel
theorem dX5_ones_20 : decode cX5_ones 20 = .ok (.iload_n 1, 1) := by decide +kernel
theorem dX5_ones_21 : decode cX5_ones 21 = .ok (.ireturn, 1) := by decide +kernel
theorem dX5_amount_0 : decode cX5_amount 0 = .ok (.iload_n 0, 1) := by decide +kernel
theorem dX5_amount_1 : decode cX5_amount 1 = .ok (.ifCond .ge 8, 3) := by decide +kernel
theorem dX5_amount_4 : decode cX5_amount 4 = .ok (.iload_n 0, 1) := by decide +kernel
theorem dX5_amount_5 : decode cX5_amount 5 = .ok (.ineg, 1) := by decide +kernel
theorem dX5_amount_6 : decode cX5_amount 6 = .ok (.goto 4, 3) := by decide +kernel
theorem dX5_amount_9 : decode cX5_amount 9 = .ok (.iload_n 0, 1) := by decide +kernel
theorem dX5_amount_10 : decode cX5_amount 10 = .ok (.ireturn, 1) := by decide +kernel
theorem dX5_part_0 : decode cX5_part 0 = .ok (.lload_n 0, 1) := by decide +kernel
theorem dX5_part_1 : decode cX5_part 1 = .ok (.lstore 5, 2) := by decide +kernel
theorem dX5_part_3 : decode cX5_part 3 = .ok (.lload_n 2, 1) := by decide +kernel
theorem dX5_part_4 : decode cX5_part 4 = .ok (.lstore 7, 2) := by decide +kernel
theorem dX5_part_6 : decode cX5_part 6 = .ok (.lload 7, 2) := by decide +kernel
theorem dX5_part_8 : decode cX5_part 8 = .ok (.lconst 0, 1) := by decide +kernel
theorem dX5_part_9 : decode cX5_part 9 = .ok (.lcmp, 1) := by decide +kernel
theorem dX5_part_10 : decode cX5_part 10 = .ok (.ifCond .eq 21, 3) := by decide +kernel
theorem dX5_part_13 : decode cX5_part 13 = .ok (.lload 5, 2) := by decide +kernel
theorem dX5_part_15 : decode cX5_part 15 = .ok (.lload 7, 2) := by decide +kernel
theorem dX5_part_17 : decode cX5_part 17 = .ok (.lrem, 1) := by decide +kernel
theorem dX5_part_18 : decode cX5_part 18 = .ok (.lstore 9, 2) := by decide +kernel
theorem dX5_part_20 : decode cX5_part 20 = .ok (.lload 7, 2) := by decide +kernel
theorem dX5_part_22 : decode cX5_part 22 = .ok (.lstore 5, 2) := by decide +kernel
theorem dX5_part_24 : decode cX5_part 24 = .ok (.lload 9, 2) := by decide +kernel
theorem dX5_part_26 : decode cX5_part 26 = .ok (.lstore 7, 2) := by decide +kernel
theorem dX5_part_28 : decode cX5_part 28 = .ok (.goto (-22), 3) := by decide +kernel
theorem dX5_part_31 : decode cX5_part 31 = .ok (.iload 4, 2) := by decide +kernel
theorem dX5_part_33 : decode cX5_part 33 = .ok (.ifCond .ne 7, 3) := by decide +kernel
theorem dX5_part_36 : decode cX5_part 36 = .ok (.lload_n 0, 1) := by decide +kernel
theorem dX5_part_37 : decode cX5_part 37 = .ok (.goto 4, 3) := by decide +kernel
theorem dX5_part_40 : decode cX5_part 40 = .ok (.lload_n 2, 1) := by decide +kernel
theorem dX5_part_41 : decode cX5_part 41 = .ok (.lload 5, 2) := by decide +kernel
theorem dX5_part_43 : decode cX5_part 43 = .ok (.ldiv, 1) := by decide +kernel
theorem dX5_part_44 : decode cX5_part 44 = .ok (.lreturn, 1) := by decide +kernel
theorem dX5_finds_0 : decode cX5_finds 0 = .ok (.aload_n 0, 1) := by decide +kernel
theorem dX5_finds_1 : decode cX5_finds 1 = .ok (.iload_n 1, 1) := by decide +kernel
theorem dX5_finds_2 : decode cX5_finds 2 = .ok (.putfield 79, 3) := by decide +kernel
theorem dX5_finds_5 : decode cX5_finds 5 = .ok (.bipush (-10), 2) := by decide +kernel
theorem dX5_finds_7 : decode cX5_finds 7 = .ok (.iload_n 1, 1) := by decide +kernel
theorem dX5_finds_8 : decode cX5_finds 8 = .ok (.isub, 1) := by decide +kernel
theorem dX5_finds_9 : decode cX5_finds 9 = .ok (.ireturn, 1) := by decide +kernel
theorem dX5_isSheet_0 : decode cX5_isSheet 0 = .ok (.iload_n 0, 1) := by decide +kernel
theorem dX5_isSheet_1 : decode cX5_isSheet 1 = .ok (.i2l, 1) := by decide +kernel
theorem dX5_isSheet_2 : decode cX5_isSheet 2 = .ok (.lconst 0, 1) := by decide +kernel
theorem dX5_isSheet_3 : decode cX5_isSheet 3 = .ok (.ldc2_w 83, 3) := by decide +kernel
theorem dX5_isSheet_6 : decode cX5_isSheet 6 = .ok (.invokestatic 75, 3) := by decide +kernel
theorem dX5_isSheet_9 : decode cX5_isSheet 9 = .ok (.ireturn, 1) := by decide +kernel
theorem dX5_sheet_0 : decode cX5_sheet 0 = .ok (.iload_n 1, 1) := by decide +kernel
theorem dX5_sheet_1 : decode cX5_sheet 1 = .ok (.invokestatic 85, 3) := by decide +kernel
theorem dX5_sheet_4 : decode cX5_sheet 4 = .ok (.ifCond .eq 21, 3) := by decide +kernel
theorem dX5_sheet_7 : decode cX5_sheet 7 = .ok (.iload_n 2, 1) := by decide +kernel
theorem dX5_sheet_8 : decode cX5_sheet 8 = .ok (.i2l, 1) := by decide +kernel
theorem dX5_sheet_9 : decode cX5_sheet 9 = .ok (.lconst 0, 1) := by decide +kernel
theorem dX5_sheet_10 : decode cX5_sheet 10 = .ok (.ldc2_w 89, 3) := by decide +kernel
theorem dX5_sheet_13 : decode cX5_sheet 13 = .ok (.invokestatic 75, 3) := by decide +kernel
theorem dX5_sheet_16 : decode cX5_sheet 16 = .ok (.ifCond .eq 9, 3) := by decide +kernel
theorem dX5_sheet_19 : decode cX5_sheet 19 = .ok (.iload_n 3, 1) := by decide +kernel
theorem dX5_sheet_20 : decode cX5_sheet 20 = .ok (.bipush 60, 2) := by decide +kernel
theorem dX5_sheet_22 : decode cX5_sheet 22 = .ok (.if_icmp .le 6, 3) := by decide +kernel
theorem dX5_sheet_25 : decode cX5_sheet 25 = .ok (.bipush (-2), 2) := by decide +kernel
theorem dX5_sheet_27 : decode cX5_sheet 27 = .ok (.ireturn, 1) := by decide +kernel
theorem dX5_sheet_28 : decode cX5_sheet 28 = .ok (.iload_n 3, 1) := by decide +kernel
theorem dX5_sheet_29 : decode cX5_sheet 29 = .ok (.ifCond .ge 9, 3) := by decide +kernel
theorem dX5_sheet_32 : decode cX5_sheet 32 = .ok (.aload_n 0, 1) := by decide +kernel
theorem dX5_sheet_33 : decode cX5_sheet 33 = .ok (.iconst 5, 1) := by decide +kernel
theorem dX5_sheet_34 : decode cX5_sheet 34 = .ok (.invokevirtual 91, 3) := by decide +kernel
theorem dX5_sheet_37 : decode cX5_sheet 37 = .ok (.ireturn, 1) := by decide +kernel
theorem dX5_sheet_38 : decode cX5_sheet 38 = .ok (.aload_n 0, 1) := by decide +kernel
theorem dX5_sheet_39 : decode cX5_sheet 39 = .ok (.getfield 7, 3) := by decide +kernel
theorem dX5_sheet_42 : decode cX5_sheet 42 = .ok (.iload_n 1, 1) := by decide +kernel
theorem dX5_sheet_43 : decode cX5_sheet 43 = .ok (.iload_n 2, 1) := by decide +kernel
theorem dX5_sheet_44 : decode cX5_sheet 44 = .ok (.iastore, 1) := by decide +kernel
theorem dX5_sheet_45 : decode cX5_sheet 45 = .ok (.aload_n 0, 1) := by decide +kernel
theorem dX5_sheet_46 : decode cX5_sheet 46 = .ok (.getfield 13, 3) := by decide +kernel
theorem dX5_sheet_49 : decode cX5_sheet 49 = .ok (.iload_n 1, 1) := by decide +kernel
theorem dX5_sheet_50 : decode cX5_sheet 50 = .ok (.iload_n 3, 1) := by decide +kernel
theorem dX5_sheet_51 : decode cX5_sheet 51 = .ok (.iastore, 1) := by decide +kernel
theorem dX5_sheet_52 : decode cX5_sheet 52 = .ok (.iconst 0, 1) := by decide +kernel
theorem dX5_sheet_53 : decode cX5_sheet 53 = .ok (.istore 4, 2) := by decide +kernel
theorem dX5_sheet_55 : decode cX5_sheet 55 = .ok (.iload 4, 2) := by decide +kernel
theorem dX5_sheet_57 : decode cX5_sheet 57 = .ok (.iload_n 3, 1) := by decide +kernel
theorem dX5_sheet_58 : decode cX5_sheet 58 = .ok (.if_icmp .ge 22, 3) := by decide +kernel
theorem dX5_sheet_61 : decode cX5_sheet 61 = .ok (.aload_n 0, 1) := by decide +kernel
theorem dX5_sheet_62 : decode cX5_sheet 62 = .ok (.getfield 16, 3) := by decide +kernel
theorem dX5_sheet_65 : decode cX5_sheet 65 = .ok (.bipush 60, 2) := by decide +kernel
theorem dX5_sheet_67 : decode cX5_sheet 67 = .ok (.iload_n 1, 1) := by decide +kernel
theorem dX5_sheet_68 : decode cX5_sheet 68 = .ok (.imul, 1) := by decide +kernel
theorem dX5_sheet_69 : decode cX5_sheet 69 = .ok (.iload 4, 2) := by decide +kernel
theorem dX5_sheet_71 : decode cX5_sheet 71 = .ok (.iadd, 1) := by decide +kernel
theorem dX5_sheet_72 : decode cX5_sheet 72 = .ok (.iconst 0, 1) := by decide +kernel
theorem dX5_sheet_73 : decode cX5_sheet 73 = .ok (.iastore, 1) := by decide +kernel
theorem dX5_sheet_74 : decode cX5_sheet 74 = .ok (.iinc 4 1, 3) := by decide +kernel
theorem dX5_sheet_77 : decode cX5_sheet 77 = .ok (.goto (-22), 3) := by decide +kernel
theorem dX5_sheet_80 : decode cX5_sheet 80 = .ok (.iload_n 3, 1) := by decide +kernel
theorem dX5_sheet_81 : decode cX5_sheet 81 = .ok (.ireturn, 1) := by decide +kernel
theorem dX5_lose_0 : decode cX5_lose 0 = .ok (.iload_n 1, 1) := by decide +kernel
theorem dX5_lose_1 : decode cX5_lose 1 = .ok (.invokestatic 85, 3) := by decide +kernel
theorem dX5_lose_4 : decode cX5_lose 4 = .ok (.ifCond .ne 6, 3) := by decide +kernel
theorem dX5_lose_7 : decode cX5_lose 7 = .ok (.bipush (-2), 2) := by decide +kernel
theorem dX5_lose_9 : decode cX5_lose 9 = .ok (.ireturn, 1) := by decide +kernel
theorem dX5_lose_10 : decode cX5_lose 10 = .ok (.aload_n 0, 1) := by decide +kernel
theorem dX5_lose_11 : decode cX5_lose 11 = .ok (.getfield 7, 3) := by decide +kernel
theorem dX5_lose_14 : decode cX5_lose 14 = .ok (.iload_n 1, 1) := by decide +kernel
theorem dX5_lose_15 : decode cX5_lose 15 = .ok (.iaload, 1) := by decide +kernel
theorem dX5_lose_16 : decode cX5_lose 16 = .ok (.ifCond .ge 9, 3) := by decide +kernel
theorem dX5_lose_19 : decode cX5_lose 19 = .ok (.aload_n 0, 1) := by decide +kernel
theorem dX5_lose_20 : decode cX5_lose 20 = .ok (.iconst 1, 1) := by decide +kernel
theorem dX5_lose_21 : decode cX5_lose 21 = .ok (.invokevirtual 91, 3) := by decide +kernel
theorem dX5_lose_24 : decode cX5_lose 24 = .ok (.ireturn, 1) := by decide +kernel
theorem dX5_lose_25 : decode cX5_lose 25 = .ok (.aload_n 0, 1) := by decide +kernel
theorem dX5_lose_26 : decode cX5_lose 26 = .ok (.getfield 7, 3) := by decide +kernel
theorem dX5_lose_29 : decode cX5_lose 29 = .ok (.iload_n 1, 1) := by decide +kernel
theorem dX5_lose_30 : decode cX5_lose 30 = .ok (.iconst (-1), 1) := by decide +kernel
theorem dX5_lose_31 : decode cX5_lose 31 = .ok (.iastore, 1) := by decide +kernel
theorem dX5_lose_32 : decode cX5_lose 32 = .ok (.aload_n 0, 1) := by decide +kernel
theorem dX5_lose_33 : decode cX5_lose 33 = .ok (.getfield 13, 3) := by decide +kernel
theorem dX5_lose_36 : decode cX5_lose 36 = .ok (.iload_n 1, 1) := by decide +kernel
theorem dX5_lose_37 : decode cX5_lose 37 = .ok (.iaload, 1) := by decide +kernel
theorem dX5_lose_38 : decode cX5_lose 38 = .ok (.ireturn, 1) := by decide +kernel
theorem dX5_lacks_0 : decode cX5_lacks 0 = .ok (.aload_n 0, 1) := by decide +kernel
theorem dX5_lacks_1 : decode cX5_lacks 1 = .ok (.getfield 7, 3) := by decide +kernel
theorem dX5_lacks_4 : decode cX5_lacks 4 = .ok (.iload_n 1, 1) := by decide +kernel
theorem dX5_lacks_5 : decode cX5_lacks 5 = .ok (.iaload, 1) := by decide +kernel
theorem dX5_lacks_6 : decode cX5_lacks 6 = .ok (.ifCond .ge 9, 3) := by decide +kernel
theorem dX5_lacks_9 : decode cX5_lacks 9 = .ok (.aload_n 0, 1) := by decide +kernel
theorem dX5_lacks_10 : decode cX5_lacks 10 = .ok (.iconst 1, 1) := by decide +kernel
theorem dX5_lacks_11 : decode cX5_lacks 11 = .ok (.invokevirtual 91, 3) := by decide +kernel
theorem dX5_lacks_14 : decode cX5_lacks 14 = .ok (.ireturn, 1) := by decide +kernel
theorem dX5_lacks_15 : decode cX5_lacks 15 = .ok (.aload_n 0, 1) := by decide +kernel
theorem dX5_lacks_16 : decode cX5_lacks 16 = .ok (.getfield 7, 3) := by decide +kernel
theorem dX5_lacks_19 : decode cX5_lacks 19 = .ok (.iload_n 1, 1) := by decide +kernel
theorem dX5_lacks_20 : decode cX5_lacks 20 = .ok (.iaload, 1) := by decide +kernel
theorem dX5_lacks_21 : decode cX5_lacks 21 = .ok (.iload_n 2, 1) := by decide +kernel
theorem dX5_lacks_22 : decode cX5_lacks 22 = .ok (.if_icmp .eq 9, 3) := by decide +kernel
theorem dX5_lacks_25 : decode cX5_lacks 25 = .ok (.aload_n 0, 1) := by decide +kernel
theorem dX5_lacks_26 : decode cX5_lacks 26 = .ok (.iconst 3, 1) := by decide +kernel
theorem dX5_lacks_27 : decode cX5_lacks 27 = .ok (.invokevirtual 91, 3) := by decide +kernel
theorem dX5_lacks_30 : decode cX5_lacks 30 = .ok (.ireturn, 1) := by decide +kernel
theorem dX5_lacks_31 : decode cX5_lacks 31 = .ok (.iload_n 3, 1) := by decide +kernel
theorem dX5_lacks_32 : decode cX5_lacks 32 = .ok (.i2l, 1) := by decide +kernel
theorem dX5_lacks_33 : decode cX5_lacks 33 = .ok (.lconst 0, 1) := by decide +kernel
theorem dX5_lacks_34 : decode cX5_lacks 34 = .ok (.aload_n 0, 1) := by decide +kernel
theorem dX5_lacks_35 : decode cX5_lacks 35 = .ok (.getfield 13, 3) := by decide +kernel
theorem dX5_lacks_38 : decode cX5_lacks 38 = .ok (.iload_n 1, 1) := by decide +kernel
theorem dX5_lacks_39 : decode cX5_lacks 39 = .ok (.iaload, 1) := by decide +kernel
theorem dX5_lacks_40 : decode cX5_lacks 40 = .ok (.iconst 1, 1) := by decide +kernel
theorem dX5_lacks_41 : decode cX5_lacks 41 = .ok (.isub, 1) := by decide +kernel
theorem dX5_lacks_42 : decode cX5_lacks 42 = .ok (.i2l, 1) := by decide +kernel
theorem dX5_lacks_43 : decode cX5_lacks 43 = .ok (.invokestatic 75, 3) := by decide +kernel
theorem dX5_lacks_46 : decode cX5_lacks 46 = .ok (.ifCond .eq 7, 3) := by decide +kernel
theorem dX5_lacks_49 : decode cX5_lacks 49 = .ok (.iconst 0, 1) := by decide +kernel
theorem dX5_lacks_50 : decode cX5_lacks 50 = .ok (.goto 8, 3) := by decide +kernel
theorem dX5_lacks_53 : decode cX5_lacks 53 = .ok (.aload_n 0, 1) := by decide +kernel
theorem dX5_lacks_54 : decode cX5_lacks 54 = .ok (.iconst 2, 1) := by decide +kernel
theorem dX5_lacks_55 : decode cX5_lacks 55 = .ok (.invokevirtual 91, 3) := by decide +kernel
theorem dX5_lacks_58 : decode cX5_lacks 58 = .ok (.ireturn, 1) := by decide +kernel
theorem dX5_cut_0 : decode cX5_cut 0 = .ok (.iload_n 0, 1) := by decide +kernel
theorem dX5_cut_1 : decode cX5_cut 1 = .ok (.ifCond .ne 8, 3) := by decide +kernel
theorem dX5_cut_4 : decode cX5_cut 4 = .ok (.iload_n 1, 1) := by decide +kernel
theorem dX5_cut_5 : decode cX5_cut 5 = .ok (.i2b, 1) := by decide +kernel
theorem dX5_cut_6 : decode cX5_cut 6 = .ok (.goto 14, 3) := by decide +kernel
theorem dX5_cut_9 : decode cX5_cut 9 = .ok (.iload_n 0, 1) := by decide +kernel
theorem dX5_cut_10 : decode cX5_cut 10 = .ok (.iconst 1, 1) := by decide +kernel
theorem dX5_cut_11 : decode cX5_cut 11 = .ok (.if_icmp .ne 8, 3) := by decide +kernel
theorem dX5_cut_14 : decode cX5_cut 14 = .ok (.iload_n 1, 1) := by decide +kernel
theorem dX5_cut_15 : decode cX5_cut 15 = .ok (.i2s, 1) := by decide +kernel
theorem dX5_cut_16 : decode cX5_cut 16 = .ok (.goto 4, 3) := by decide +kernel
theorem dX5_cut_19 : decode cX5_cut 19 = .ok (.iload_n 1, 1) := by decide +kernel
theorem dX5_cut_20 : decode cX5_cut 20 = .ok (.ireturn, 1) := by decide +kernel
theorem dX5_lay_0 : decode cX5_lay 0 = .ok (.iload_n 1, 1) := by decide +kernel
theorem dX5_lay_1 : decode cX5_lay 1 = .ok (.invokestatic 85, 3) := by decide +kernel
theorem dX5_lay_4 : decode cX5_lay 4 = .ok (.ifCond .eq 15, 3) := by decide +kernel
theorem dX5_lay_7 : decode cX5_lay 7 = .ok (.iload_n 2, 1) := by decide +kernel
theorem dX5_lay_8 : decode cX5_lay 8 = .ok (.i2l, 1) := by decide +kernel
theorem dX5_lay_9 : decode cX5_lay 9 = .ok (.lconst 0, 1) := by decide +kernel
theorem dX5_lay_10 : decode cX5_lay 10 = .ok (.ldc2_w 89, 3) := by decide +kernel
theorem dX5_lay_13 : decode cX5_lay 13 = .ok (.invokestatic 75, 3) := by decide +kernel
theorem dX5_lay_16 : decode cX5_lay 16 = .ok (.ifCond .ne 6, 3) := by decide +kernel
theorem dX5_lay_19 : decode cX5_lay 19 = .ok (.bipush (-2), 2) := by decide +kernel
theorem dX5_lay_21 : decode cX5_lay 21 = .ok (.ireturn, 1) := by decide +kernel
theorem dX5_lay_22 : decode cX5_lay 22 = .ok (.aload_n 0, 1) := by decide +kernel
theorem dX5_lay_23 : decode cX5_lay 23 = .ok (.iload_n 1, 1) := by decide +kernel
theorem dX5_lay_24 : decode cX5_lay 24 = .ok (.iload_n 2, 1) := by decide +kernel
theorem dX5_lay_25 : decode cX5_lay 25 = .ok (.iload_n 3, 1) := by decide +kernel
theorem dX5_lay_26 : decode cX5_lay 26 = .ok (.invokevirtual 95, 3) := by decide +kernel
theorem dX5_lay_29 : decode cX5_lay 29 = .ok (.istore 5, 2) := by decide +kernel
theorem dX5_lay_31 : decode cX5_lay 31 = .ok (.iload 5, 2) := by decide +kernel
theorem dX5_lay_33 : decode cX5_lay 33 = .ok (.ifCond .eq 6, 3) := by decide +kernel
theorem dX5_lay_36 : decode cX5_lay 36 = .ok (.iload 5, 2) := by decide +kernel
theorem dX5_lay_38 : decode cX5_lay 38 = .ok (.ireturn, 1) := by decide +kernel
theorem dX5_lay_39 : decode cX5_lay 39 = .ok (.aload_n 0, 1) := by decide +kernel
theorem dX5_lay_40 : decode cX5_lay 40 = .ok (.getfield 16, 3) := by decide +kernel
theorem dX5_lay_43 : decode cX5_lay 43 = .ok (.bipush 60, 2) := by decide +kernel
theorem dX5_lay_45 : decode cX5_lay 45 = .ok (.iload_n 1, 1) := by decide +kernel
theorem dX5_lay_46 : decode cX5_lay 46 = .ok (.imul, 1) := by decide +kernel
theorem dX5_lay_47 : decode cX5_lay 47 = .ok (.iload_n 3, 1) := by decide +kernel
theorem dX5_lay_48 : decode cX5_lay 48 = .ok (.iadd, 1) := by decide +kernel
theorem dX5_lay_49 : decode cX5_lay 49 = .ok (.iload_n 2, 1) := by decide +kernel
theorem dX5_lay_50 : decode cX5_lay 50 = .ok (.iload 4, 2) := by decide +kernel
theorem dX5_lay_52 : decode cX5_lay 52 = .ok (.invokestatic 99, 3) := by decide +kernel
theorem dX5_lay_55 : decode cX5_lay 55 = .ok (.iastore, 1) := by decide +kernel
theorem dX5_lay_56 : decode cX5_lay 56 = .ok (.iconst 1, 1) := by decide +kernel
theorem dX5_lay_57 : decode cX5_lay 57 = .ok (.ireturn, 1) := by decide +kernel
theorem dX5_get_0 : decode cX5_get 0 = .ok (.iload_n 1, 1) := by decide +kernel
theorem dX5_get_1 : decode cX5_get 1 = .ok (.invokestatic 85, 3) := by decide +kernel
theorem dX5_get_4 : decode cX5_get 4 = .ok (.ifCond .eq 25, 3) := by decide +kernel
theorem dX5_get_7 : decode cX5_get 7 = .ok (.iload_n 2, 1) := by decide +kernel
theorem dX5_get_8 : decode cX5_get 8 = .ok (.i2l, 1) := by decide +kernel
theorem dX5_get_9 : decode cX5_get 9 = .ok (.lconst 0, 1) := by decide +kernel
theorem dX5_get_10 : decode cX5_get 10 = .ok (.ldc2_w 89, 3) := by decide +kernel
theorem dX5_get_13 : decode cX5_get 13 = .ok (.invokestatic 75, 3) := by decide +kernel
theorem dX5_get_16 : decode cX5_get 16 = .ok (.ifCond .eq 13, 3) := by decide +kernel
theorem dX5_get_19 : decode cX5_get 19 = .ok (.aload_n 0, 1) := by decide +kernel
theorem dX5_get_20 : decode cX5_get 20 = .ok (.iload_n 1, 1) := by decide +kernel
theorem dX5_get_21 : decode cX5_get 21 = .ok (.iload_n 2, 1) := by decide +kernel
theorem dX5_get_22 : decode cX5_get 22 = .ok (.iload_n 3, 1) := by decide +kernel
theorem dX5_get_23 : decode cX5_get 23 = .ok (.invokevirtual 95, 3) := by decide +kernel
theorem dX5_get_26 : decode cX5_get 26 = .ok (.ifCond .eq 6, 3) := by decide +kernel
theorem dX5_get_29 : decode cX5_get 29 = .ok (.ldc 103, 2) := by decide +kernel
theorem dX5_get_31 : decode cX5_get 31 = .ok (.ireturn, 1) := by decide +kernel
theorem dX5_get_32 : decode cX5_get 32 = .ok (.aload_n 0, 1) := by decide +kernel
theorem dX5_get_33 : decode cX5_get 33 = .ok (.getfield 16, 3) := by decide +kernel
theorem dX5_get_36 : decode cX5_get 36 = .ok (.bipush 60, 2) := by decide +kernel
theorem dX5_get_38 : decode cX5_get 38 = .ok (.iload_n 1, 1) := by decide +kernel
theorem dX5_get_39 : decode cX5_get 39 = .ok (.imul, 1) := by decide +kernel
theorem dX5_get_40 : decode cX5_get 40 = .ok (.iload_n 3, 1) := by decide +kernel
theorem dX5_get_41 : decode cX5_get 41 = .ok (.iadd, 1) := by decide +kernel
theorem dX5_get_42 : decode cX5_get 42 = .ok (.iaload, 1) := by decide +kernel
theorem dX5_get_43 : decode cX5_get 43 = .ok (.ireturn, 1) := by decide +kernel
theorem dX5_copy_0 : decode cX5_copy 0 = .ok (.iload_n 1, 1) := by decide +kernel
theorem dX5_copy_1 : decode cX5_copy 1 = .ok (.invokestatic 85, 3) := by decide +kernel
theorem dX5_copy_4 : decode cX5_copy 4 = .ok (.ifCond .eq 10, 3) := by decide +kernel
theorem dX5_copy_7 : decode cX5_copy 7 = .ok (.iload_n 3, 1) := by decide +kernel
theorem dX5_copy_8 : decode cX5_copy 8 = .ok (.invokestatic 85, 3) := by decide +kernel
theorem dX5_copy_11 : decode cX5_copy 11 = .ok (.ifCond .ne 6, 3) := by decide +kernel
theorem dX5_copy_14 : decode cX5_copy 14 = .ok (.bipush (-2), 2) := by decide +kernel
theorem dX5_copy_16 : decode cX5_copy 16 = .ok (.ireturn, 1) := by decide +kernel
theorem dX5_copy_17 : decode cX5_copy 17 = .ok (.aload_n 0, 1) := by decide +kernel
theorem dX5_copy_18 : decode cX5_copy 18 = .ok (.getfield 7, 3) := by decide +kernel
theorem dX5_copy_21 : decode cX5_copy 21 = .ok (.iload_n 1, 1) := by decide +kernel
theorem dX5_copy_22 : decode cX5_copy 22 = .ok (.iaload, 1) := by decide +kernel
theorem dX5_copy_23 : decode cX5_copy 23 = .ok (.ifCond .lt 12, 3) := by decide +kernel
theorem dX5_copy_26 : decode cX5_copy 26 = .ok (.aload_n 0, 1) := by decide +kernel
theorem dX5_copy_27 : decode cX5_copy 27 = .ok (.getfield 7, 3) := by decide +kernel
theorem dX5_copy_30 : decode cX5_copy 30 = .ok (.iload_n 3, 1) := by decide +kernel
theorem dX5_copy_31 : decode cX5_copy 31 = .ok (.iaload, 1) := by decide +kernel
theorem dX5_copy_32 : decode cX5_copy 32 = .ok (.ifCond .ge 9, 3) := by decide +kernel
theorem dX5_copy_35 : decode cX5_copy 35 = .ok (.aload_n 0, 1) := by decide +kernel
theorem dX5_copy_36 : decode cX5_copy 36 = .ok (.iconst 1, 1) := by decide +kernel
theorem dX5_copy_37 : decode cX5_copy 37 = .ok (.invokevirtual 91, 3) := by decide +kernel
theorem dX5_copy_40 : decode cX5_copy 40 = .ok (.ireturn, 1) := by decide +kernel
theorem dX5_copy_41 : decode cX5_copy 41 = .ok (.aload_n 0, 1) := by decide +kernel
theorem dX5_copy_42 : decode cX5_copy 42 = .ok (.getfield 7, 3) := by decide +kernel
theorem dX5_copy_45 : decode cX5_copy 45 = .ok (.iload_n 1, 1) := by decide +kernel
theorem dX5_copy_46 : decode cX5_copy 46 = .ok (.iaload, 1) := by decide +kernel
theorem dX5_copy_47 : decode cX5_copy 47 = .ok (.aload_n 0, 1) := by decide +kernel
theorem dX5_copy_48 : decode cX5_copy 48 = .ok (.getfield 7, 3) := by decide +kernel
theorem dX5_copy_51 : decode cX5_copy 51 = .ok (.iload_n 3, 1) := by decide +kernel
theorem dX5_copy_52 : decode cX5_copy 52 = .ok (.iaload, 1) := by decide +kernel
theorem dX5_copy_53 : decode cX5_copy 53 = .ok (.if_icmp .eq 9, 3) := by decide +kernel
theorem dX5_copy_56 : decode cX5_copy 56 = .ok (.aload_n 0, 1) := by decide +kernel
theorem dX5_copy_57 : decode cX5_copy 57 = .ok (.iconst 4, 1) := by decide +kernel
theorem dX5_copy_58 : decode cX5_copy 58 = .ok (.invokevirtual 91, 3) := by decide +kernel
theorem dX5_copy_61 : decode cX5_copy 61 = .ok (.ireturn, 1) := by decide +kernel
theorem dX5_copy_62 : decode cX5_copy 62 = .ok (.iload_n 2, 1) := by decide +kernel
theorem dX5_copy_63 : decode cX5_copy 63 = .ok (.ifCond .lt 48, 3) := by decide +kernel
theorem dX5_copy_66 : decode cX5_copy 66 = .ok (.iload 4, 2) := by decide +kernel
theorem dX5_copy_68 : decode cX5_copy 68 = .ok (.ifCond .lt 43, 3) := by decide +kernel
theorem dX5_copy_71 : decode cX5_copy 71 = .ok (.iload 5, 2) := by decide +kernel
theorem dX5_copy_73 : decode cX5_copy 73 = .ok (.ifCond .lt 38, 3) := by decide +kernel
theorem dX5_copy_76 : decode cX5_copy 76 = .ok (.iload_n 2, 1) := by decide +kernel
theorem dX5_copy_77 : decode cX5_copy 77 = .ok (.i2l, 1) := by decide +kernel
theorem dX5_copy_78 : decode cX5_copy 78 = .ok (.iload 5, 2) := by decide +kernel
theorem dX5_copy_80 : decode cX5_copy 80 = .ok (.i2l, 1) := by decide +kernel
theorem dX5_copy_81 : decode cX5_copy 81 = .ok (.ladd, 1) := by decide +kernel
theorem dX5_copy_82 : decode cX5_copy 82 = .ok (.aload_n 0, 1) := by decide +kernel
theorem dX5_copy_83 : decode cX5_copy 83 = .ok (.getfield 13, 3) := by decide +kernel
theorem dX5_copy_86 : decode cX5_copy 86 = .ok (.iload_n 1, 1) := by decide +kernel
theorem dX5_copy_87 : decode cX5_copy 87 = .ok (.iaload, 1) := by decide +kernel
theorem dX5_copy_88 : decode cX5_copy 88 = .ok (.i2l, 1) := by decide +kernel
theorem dX5_copy_89 : decode cX5_copy 89 = .ok (.lcmp, 1) := by decide +kernel
theorem dX5_copy_90 : decode cX5_copy 90 = .ok (.ifCond .gt 21, 3) := by decide +kernel
theorem dX5_copy_93 : decode cX5_copy 93 = .ok (.iload 4, 2) := by decide +kernel
theorem dX5_copy_95 : decode cX5_copy 95 = .ok (.i2l, 1) := by decide +kernel
theorem dX5_copy_96 : decode cX5_copy 96 = .ok (.iload 5, 2) := by decide +kernel
theorem dX5_copy_98 : decode cX5_copy 98 = .ok (.i2l, 1) := by decide +kernel
theorem dX5_copy_99 : decode cX5_copy 99 = .ok (.ladd, 1) := by decide +kernel
theorem dX5_copy_100 : decode cX5_copy 100 = .ok (.aload_n 0, 1) := by decide +kernel
theorem dX5_copy_101 : decode cX5_copy 101 = .ok (.getfield 13, 3) := by decide +kernel
theorem dX5_copy_104 : decode cX5_copy 104 = .ok (.iload_n 3, 1) := by decide +kernel
theorem dX5_copy_105 : decode cX5_copy 105 = .ok (.iaload, 1) := by decide +kernel
theorem dX5_copy_106 : decode cX5_copy 106 = .ok (.i2l, 1) := by decide +kernel
theorem dX5_copy_107 : decode cX5_copy 107 = .ok (.lcmp, 1) := by decide +kernel
theorem dX5_copy_108 : decode cX5_copy 108 = .ok (.ifCond .le 9, 3) := by decide +kernel
theorem dX5_copy_111 : decode cX5_copy 111 = .ok (.aload_n 0, 1) := by decide +kernel
theorem dX5_copy_112 : decode cX5_copy 112 = .ok (.iconst 2, 1) := by decide +kernel
theorem dX5_copy_113 : decode cX5_copy 113 = .ok (.invokevirtual 91, 3) := by decide +kernel
theorem dX5_copy_116 : decode cX5_copy 116 = .ok (.ireturn, 1) := by decide +kernel
theorem dX5_copy_117 : decode cX5_copy 117 = .ok (.iconst 0, 1) := by decide +kernel
theorem dX5_copy_118 : decode cX5_copy 118 = .ok (.istore 6, 2) := by decide +kernel
theorem dX5_copy_120 : decode cX5_copy 120 = .ok (.iload 6, 2) := by decide +kernel
theorem dX5_copy_122 : decode cX5_copy 122 = .ok (.iload 5, 2) := by decide +kernel
theorem dX5_copy_124 : decode cX5_copy 124 = .ok (.if_icmp .ge 30, 3) := by decide +kernel
theorem dX5_copy_127 : decode cX5_copy 127 = .ok (.aload_n 0, 1) := by decide +kernel
theorem dX5_copy_128 : decode cX5_copy 128 = .ok (.getfield 19, 3) := by decide +kernel
theorem dX5_copy_131 : decode cX5_copy 131 = .ok (.iload 6, 2) := by decide +kernel
theorem dX5_copy_133 : decode cX5_copy 133 = .ok (.aload_n 0, 1) := by decide +kernel
theorem dX5_copy_134 : decode cX5_copy 134 = .ok (.getfield 16, 3) := by decide +kernel
theorem dX5_copy_137 : decode cX5_copy 137 = .ok (.bipush 60, 2) := by decide +kernel
theorem dX5_copy_139 : decode cX5_copy 139 = .ok (.iload_n 1, 1) := by decide +kernel
theorem dX5_copy_140 : decode cX5_copy 140 = .ok (.imul, 1) := by decide +kernel
theorem dX5_copy_141 : decode cX5_copy 141 = .ok (.iload_n 2, 1) := by decide +kernel
theorem dX5_copy_142 : decode cX5_copy 142 = .ok (.iadd, 1) := by decide +kernel
theorem dX5_copy_143 : decode cX5_copy 143 = .ok (.iload 6, 2) := by decide +kernel
theorem dX5_copy_145 : decode cX5_copy 145 = .ok (.iadd, 1) := by decide +kernel
theorem dX5_copy_146 : decode cX5_copy 146 = .ok (.iaload, 1) := by decide +kernel
theorem dX5_copy_147 : decode cX5_copy 147 = .ok (.iastore, 1) := by decide +kernel
theorem dX5_copy_148 : decode cX5_copy 148 = .ok (.iinc 6 1, 3) := by decide +kernel
theorem dX5_copy_151 : decode cX5_copy 151 = .ok (.goto (-31), 3) := by decide +kernel
theorem dX5_copy_154 : decode cX5_copy 154 = .ok (.iconst 0, 1) := by decide +kernel
theorem dX5_copy_155 : decode cX5_copy 155 = .ok (.istore 6, 2) := by decide +kernel
theorem dX5_copy_157 : decode cX5_copy 157 = .ok (.iload 6, 2) := by decide +kernel
theorem dX5_copy_159 : decode cX5_copy 159 = .ok (.iload 5, 2) := by decide +kernel
theorem dX5_copy_161 : decode cX5_copy 161 = .ok (.if_icmp .ge 31, 3) := by decide +kernel
theorem dX5_copy_164 : decode cX5_copy 164 = .ok (.aload_n 0, 1) := by decide +kernel
theorem dX5_copy_165 : decode cX5_copy 165 = .ok (.getfield 16, 3) := by decide +kernel
theorem dX5_copy_168 : decode cX5_copy 168 = .ok (.bipush 60, 2) := by decide +kernel
theorem dX5_copy_170 : decode cX5_copy 170 = .ok (.iload_n 3, 1) := by decide +kernel
theorem dX5_copy_171 : decode cX5_copy 171 = .ok (.imul, 1) := by decide +kernel
theorem dX5_copy_172 : decode cX5_copy 172 = .ok (.iload 4, 2) := by decide +kernel
theorem dX5_copy_174 : decode cX5_copy 174 = .ok (.iadd, 1) := by decide +kernel
theorem dX5_copy_175 : decode cX5_copy 175 = .ok (.iload 6, 2) := by decide +kernel
theorem dX5_copy_177 : decode cX5_copy 177 = .ok (.iadd, 1) := by decide +kernel
theorem dX5_copy_178 : decode cX5_copy 178 = .ok (.aload_n 0, 1) := by decide +kernel
theorem dX5_copy_179 : decode cX5_copy 179 = .ok (.getfield 19, 3) := by decide +kernel
theorem dX5_copy_182 : decode cX5_copy 182 = .ok (.iload 6, 2) := by decide +kernel
theorem dX5_copy_184 : decode cX5_copy 184 = .ok (.iaload, 1) := by decide +kernel
theorem dX5_copy_185 : decode cX5_copy 185 = .ok (.iastore, 1) := by decide +kernel
theorem dX5_copy_186 : decode cX5_copy 186 = .ok (.iinc 6 1, 3) := by decide +kernel
theorem dX5_copy_189 : decode cX5_copy 189 = .ok (.goto (-32), 3) := by decide +kernel
theorem dX5_copy_192 : decode cX5_copy 192 = .ok (.iconst 1, 1) := by decide +kernel
theorem dX5_copy_193 : decode cX5_copy 193 = .ok (.ireturn, 1) := by decide +kernel
theorem dX5_type_0 : decode cX5_type 0 = .ok (.iload_n 1, 1) := by decide +kernel
theorem dX5_type_1 : decode cX5_type 1 = .ok (.i2l, 1) := by decide +kernel
theorem dX5_type_2 : decode cX5_type 2 = .ok (.lconst 0, 1) := by decide +kernel
theorem dX5_type_3 : decode cX5_type 3 = .ok (.ldc2_w 104, 3) := by decide +kernel
theorem dX5_type_6 : decode cX5_type 6 = .ok (.invokestatic 75, 3) := by decide +kernel
theorem dX5_type_9 : decode cX5_type 9 = .ok (.ifCond .ne 6, 3) := by decide +kernel
theorem dX5_type_12 : decode cX5_type 12 = .ok (.bipush (-2), 2) := by decide +kernel
theorem dX5_type_14 : decode cX5_type 14 = .ok (.ireturn, 1) := by decide +kernel
theorem dX5_type_15 : decode cX5_type 15 = .ok (.aload_n 0, 1) := by decide +kernel
theorem dX5_type_16 : decode cX5_type 16 = .ok (.getfield 106, 3) := by decide +kernel
theorem dX5_type_19 : decode cX5_type 19 = .ok (.bipush 35, 2) := by decide +kernel
theorem dX5_type_21 : decode cX5_type 21 = .ok (.if_icmp .ne 6, 3) := by decide +kernel
theorem dX5_type_24 : decode cX5_type 24 = .ok (.bipush (-4), 2) := by decide +kernel
theorem dX5_type_26 : decode cX5_type 26 = .ok (.ireturn, 1) := by decide +kernel
theorem dX5_type_27 : decode cX5_type 27 = .ok (.aload_n 0, 1) := by decide +kernel
theorem dX5_type_28 : decode cX5_type 28 = .ok (.getfield 22, 3) := by decide +kernel
theorem dX5_type_31 : decode cX5_type 31 = .ok (.aload_n 0, 1) := by decide +kernel
theorem dX5_type_32 : decode cX5_type 32 = .ok (.getfield 106, 3) := by decide +kernel
theorem dX5_type_35 : decode cX5_type 35 = .ok (.iload_n 1, 1) := by decide +kernel
theorem dX5_type_36 : decode cX5_type 36 = .ok (.iastore, 1) := by decide +kernel
theorem dX5_type_37 : decode cX5_type 37 = .ok (.aload_n 0, 1) := by decide +kernel
theorem dX5_type_38 : decode cX5_type 38 = .ok (.dup, 1) := by decide +kernel
theorem dX5_type_39 : decode cX5_type 39 = .ok (.getfield 106, 3) := by decide +kernel
theorem dX5_type_42 : decode cX5_type 42 = .ok (.iconst 1, 1) := by decide +kernel
theorem dX5_type_43 : decode cX5_type 43 = .ok (.iadd, 1) := by decide +kernel
theorem dX5_type_44 : decode cX5_type 44 = .ok (.putfield 106, 3) := by decide +kernel
theorem dX5_type_47 : decode cX5_type 47 = .ok (.aload_n 0, 1) := by decide +kernel
theorem dX5_type_48 : decode cX5_type 48 = .ok (.getfield 106, 3) := by decide +kernel
theorem dX5_type_51 : decode cX5_type 51 = .ok (.ireturn, 1) := by decide +kernel
theorem dX5_wipe_0 : decode cX5_wipe 0 = .ok (.aload_n 0, 1) := by decide +kernel
theorem dX5_wipe_1 : decode cX5_wipe 1 = .ok (.getfield 106, 3) := by decide +kernel
theorem dX5_wipe_4 : decode cX5_wipe 4 = .ok (.istore_n 1, 1) := by decide +kernel
theorem dX5_wipe_5 : decode cX5_wipe 5 = .ok (.aload_n 0, 1) := by decide +kernel
theorem dX5_wipe_6 : decode cX5_wipe 6 = .ok (.iconst 0, 1) := by decide +kernel
theorem dX5_wipe_7 : decode cX5_wipe 7 = .ok (.putfield 106, 3) := by decide +kernel
theorem dX5_wipe_10 : decode cX5_wipe 10 = .ok (.iload_n 1, 1) := by decide +kernel
theorem dX5_wipe_11 : decode cX5_wipe 11 = .ok (.ireturn, 1) := by decide +kernel
theorem dX5_undo_0 : decode cX5_undo 0 = .ok (.aload_n 0, 1) := by decide +kernel
theorem dX5_undo_1 : decode cX5_undo 1 = .ok (.getfield 106, 3) := by decide +kernel
theorem dX5_undo_4 : decode cX5_undo 4 = .ok (.ifCond .ne 6, 3) := by decide +kernel
theorem dX5_undo_7 : decode cX5_undo 7 = .ok (.bipush (-3), 2) := by decide +kernel
theorem dX5_undo_9 : decode cX5_undo 9 = .ok (.ireturn, 1) := by decide +kernel
theorem dX5_undo_10 : decode cX5_undo 10 = .ok (.aload_n 0, 1) := by decide +kernel
theorem dX5_undo_11 : decode cX5_undo 11 = .ok (.dup, 1) := by decide +kernel
theorem dX5_undo_12 : decode cX5_undo 12 = .ok (.getfield 106, 3) := by decide +kernel
theorem dX5_undo_15 : decode cX5_undo 15 = .ok (.iconst 1, 1) := by decide +kernel
theorem dX5_undo_16 : decode cX5_undo 16 = .ok (.isub, 1) := by decide +kernel
theorem dX5_undo_17 : decode cX5_undo 17 = .ok (.putfield 106, 3) := by decide +kernel
theorem dX5_undo_20 : decode cX5_undo 20 = .ok (.aload_n 0, 1) := by decide +kernel
theorem dX5_undo_21 : decode cX5_undo 21 = .ok (.getfield 106, 3) := by decide +kernel
theorem dX5_undo_24 : decode cX5_undo 24 = .ok (.ireturn, 1) := by decide +kernel
theorem dX5_lawOf_0 : decode cX5_lawOf 0 = .ok (.iload_n 0, 1) := by decide +kernel
theorem dX5_lawOf_1 : decode cX5_lawOf 1 = .ok (.bipush 116, 2) := by decide +kernel
theorem dX5_lawOf_3 : decode cX5_lawOf 3 = .ok (.if_icmp .ne 7, 3) := by decide +kernel
theorem dX5_lawOf_6 : decode cX5_lawOf 6 = .ok (.iconst 0, 1) := by decide +kernel
theorem dX5_lawOf_7 : decode cX5_lawOf 7 = .ok (.goto 44, 3) := by decide +kernel
theorem dX5_lawOf_10 : decode cX5_lawOf 10 = .ok (.iload_n 0, 1) := by decide +kernel
theorem dX5_lawOf_11 : decode cX5_lawOf 11 = .ok (.bipush 101, 2) := by decide +kernel
theorem dX5_lawOf_13 : decode cX5_lawOf 13 = .ok (.if_icmp .ne 7, 3) := by decide +kernel
theorem dX5_lawOf_16 : decode cX5_lawOf 16 = .ok (.iconst 1, 1) := by decide +kernel
theorem dX5_lawOf_17 : decode cX5_lawOf 17 = .ok (.goto 34, 3) := by decide +kernel
theorem dX5_lawOf_20 : decode cX5_lawOf 20 = .ok (.iload_n 0, 1) := by decide +kernel
theorem dX5_lawOf_21 : decode cX5_lawOf 21 = .ok (.bipush 108, 2) := by decide +kernel
theorem dX5_lawOf_23 : decode cX5_lawOf 23 = .ok (.if_icmp .ne 7, 3) := by decide +kernel
theorem dX5_lawOf_26 : decode cX5_lawOf 26 = .ok (.iconst 2, 1) := by decide +kernel
theorem dX5_lawOf_27 : decode cX5_lawOf 27 = .ok (.goto 24, 3) := by decide +kernel
theorem dX5_lawOf_30 : decode cX5_lawOf 30 = .ok (.iload_n 0, 1) := by decide +kernel
theorem dX5_lawOf_31 : decode cX5_lawOf 31 = .ok (.bipush 119, 2) := by decide +kernel
theorem dX5_lawOf_33 : decode cX5_lawOf 33 = .ok (.if_icmp .ne 7, 3) := by decide +kernel
theorem dX5_lawOf_36 : decode cX5_lawOf 36 = .ok (.iconst 3, 1) := by decide +kernel
theorem dX5_lawOf_37 : decode cX5_lawOf 37 = .ok (.goto 14, 3) := by decide +kernel
theorem dX5_lawOf_40 : decode cX5_lawOf 40 = .ok (.iload_n 0, 1) := by decide +kernel
theorem dX5_lawOf_41 : decode cX5_lawOf 41 = .ok (.bipush 120, 2) := by decide +kernel
theorem dX5_lawOf_43 : decode cX5_lawOf 43 = .ok (.if_icmp .ne 7, 3) := by decide +kernel
theorem dX5_lawOf_46 : decode cX5_lawOf 46 = .ok (.iconst 4, 1) := by decide +kernel
theorem dX5_lawOf_47 : decode cX5_lawOf 47 = .ok (.goto 4, 3) := by decide +kernel
theorem dX5_lawOf_50 : decode cX5_lawOf 50 = .ok (.iconst (-1), 1) := by decide +kernel
theorem dX5_lawOf_51 : decode cX5_lawOf 51 = .ok (.ireturn, 1) := by decide +kernel
theorem dX5_readsBox_0 : decode cX5_readsBox 0 = .ok (.aload_n 0, 1) := by decide +kernel
theorem dX5_readsBox_1 : decode cX5_readsBox 1 = .ok (.getfield 109, 3) := by decide +kernel
theorem dX5_readsBox_4 : decode cX5_readsBox 4 = .ok (.bipush 9, 2) := by decide +kernel
theorem dX5_readsBox_6 : decode cX5_readsBox 6 = .ok (.if_icmp .ne 5, 3) := by decide +kernel
theorem dX5_readsBox_9 : decode cX5_readsBox 9 = .ok (.iconst 0, 1) := by decide +kernel
theorem dX5_readsBox_10 : decode cX5_readsBox 10 = .ok (.ireturn, 1) := by decide +kernel
theorem dX5_readsBox_11 : decode cX5_readsBox 11 = .ok (.iconst 0, 1) := by decide +kernel
theorem dX5_readsBox_12 : decode cX5_readsBox 12 = .ok (.istore_n 1, 1) := by decide +kernel
theorem dX5_readsBox_13 : decode cX5_readsBox 13 = .ok (.iload_n 1, 1) := by decide +kernel
theorem dX5_readsBox_14 : decode cX5_readsBox 14 = .ok (.iconst 3, 1) := by decide +kernel
theorem dX5_readsBox_15 : decode cX5_readsBox 15 = .ok (.if_icmp .ge 99, 3) := by decide +kernel
theorem dX5_readsBox_18 : decode cX5_readsBox 18 = .ok (.aload_n 0, 1) := by decide +kernel
theorem dX5_readsBox_19 : decode cX5_readsBox 19 = .ok (.getfield 112, 3) := by decide +kernel
theorem dX5_readsBox_22 : decode cX5_readsBox 22 = .ok (.aload_n 0, 1) := by decide +kernel
theorem dX5_readsBox_23 : decode cX5_readsBox 23 = .ok (.getfield 106, 3) := by decide +kernel
theorem dX5_readsBox_26 : decode cX5_readsBox 26 = .ok (.if_icmp .ge 15, 3) := by decide +kernel
theorem dX5_readsBox_29 : decode cX5_readsBox 29 = .ok (.aload_n 0, 1) := by decide +kernel
theorem dX5_readsBox_30 : decode cX5_readsBox 30 = .ok (.getfield 22, 3) := by decide +kernel
theorem dX5_readsBox_33 : decode cX5_readsBox 33 = .ok (.aload_n 0, 1) := by decide +kernel
theorem dX5_readsBox_34 : decode cX5_readsBox 34 = .ok (.getfield 112, 3) := by decide +kernel
theorem dX5_readsBox_37 : decode cX5_readsBox 37 = .ok (.iaload, 1) := by decide +kernel
theorem dX5_readsBox_38 : decode cX5_readsBox 38 = .ok (.goto 4, 3) := by decide +kernel
theorem dX5_readsBox_41 : decode cX5_readsBox 41 = .ok (.iconst (-1), 1) := by decide +kernel
theorem dX5_readsBox_42 : decode cX5_readsBox 42 = .ok (.istore_n 2, 1) := by decide +kernel
theorem dX5_readsBox_43 : decode cX5_readsBox 43 = .ok (.iload_n 1, 1) := by decide +kernel
theorem dX5_readsBox_44 : decode cX5_readsBox 44 = .ok (.ifCond .ne 10, 3) := by decide +kernel
theorem dX5_readsBox_47 : decode cX5_readsBox 47 = .ok (.iload_n 2, 1) := by decide +kernel
theorem dX5_readsBox_48 : decode cX5_readsBox 48 = .ok (.invokestatic 115, 3) := by decide +kernel
theorem dX5_readsBox_51 : decode cX5_readsBox 51 = .ok (.goto 25, 3) := by decide +kernel
theorem dX5_readsBox_54 : decode cX5_readsBox 54 = .ok (.iload_n 2, 1) := by decide +kernel
theorem dX5_readsBox_55 : decode cX5_readsBox 55 = .ok (.i2l, 1) := by decide +kernel
theorem dX5_readsBox_56 : decode cX5_readsBox 56 = .ok (.ldc2_w 118, 3) := by decide +kernel
theorem dX5_readsBox_59 : decode cX5_readsBox 59 = .ok (.ldc2_w 120, 3) := by decide +kernel
theorem dX5_readsBox_62 : decode cX5_readsBox 62 = .ok (.invokestatic 75, 3) := by decide +kernel
theorem dX5_readsBox_65 : decode cX5_readsBox 65 = .ok (.ifCond .eq 10, 3) := by decide +kernel
theorem dX5_readsBox_68 : decode cX5_readsBox 68 = .ok (.iload_n 2, 1) := by decide +kernel
theorem dX5_readsBox_69 : decode cX5_readsBox 69 = .ok (.bipush 48, 2) := by decide +kernel
theorem dX5_readsBox_71 : decode cX5_readsBox 71 = .ok (.isub, 1) := by decide +kernel
theorem dX5_readsBox_72 : decode cX5_readsBox 72 = .ok (.goto 4, 3) := by decide +kernel
theorem dX5_readsBox_75 : decode cX5_readsBox 75 = .ok (.iconst (-1), 1) := by decide +kernel
theorem dX5_readsBox_76 : decode cX5_readsBox 76 = .ok (.istore_n 3, 1) := by decide +kernel
theorem dX5_readsBox_77 : decode cX5_readsBox 77 = .ok (.iload_n 3, 1) := by decide +kernel
theorem dX5_readsBox_78 : decode cX5_readsBox 78 = .ok (.iconst (-1), 1) := by decide +kernel
theorem dX5_readsBox_79 : decode cX5_readsBox 79 = .ok (.if_icmp .ne 5, 3) := by decide +kernel
theorem dX5_readsBox_82 : decode cX5_readsBox 82 = .ok (.iconst 0, 1) := by decide +kernel
theorem dX5_readsBox_83 : decode cX5_readsBox 83 = .ok (.ireturn, 1) := by decide +kernel
theorem dX5_readsBox_84 : decode cX5_readsBox 84 = .ok (.aload_n 0, 1) := by decide +kernel
theorem dX5_readsBox_85 : decode cX5_readsBox 85 = .ok (.getfield 25, 3) := by decide +kernel
theorem dX5_readsBox_88 : decode cX5_readsBox 88 = .ok (.iconst 3, 1) := by decide +kernel
theorem dX5_readsBox_89 : decode cX5_readsBox 89 = .ok (.aload_n 0, 1) := by decide +kernel
theorem dX5_readsBox_90 : decode cX5_readsBox 90 = .ok (.getfield 109, 3) := by decide +kernel
theorem dX5_readsBox_93 : decode cX5_readsBox 93 = .ok (.imul, 1) := by decide +kernel
theorem dX5_readsBox_94 : decode cX5_readsBox 94 = .ok (.iload_n 1, 1) := by decide +kernel
theorem dX5_readsBox_95 : decode cX5_readsBox 95 = .ok (.iadd, 1) := by decide +kernel
theorem dX5_readsBox_96 : decode cX5_readsBox 96 = .ok (.iload_n 3, 1) := by decide +kernel
theorem dX5_readsBox_97 : decode cX5_readsBox 97 = .ok (.iastore, 1) := by decide +kernel
theorem dX5_readsBox_98 : decode cX5_readsBox 98 = .ok (.aload_n 0, 1) := by decide +kernel
theorem dX5_readsBox_99 : decode cX5_readsBox 99 = .ok (.dup, 1) := by decide +kernel
theorem dX5_readsBox_100 : decode cX5_readsBox 100 = .ok (.getfield 112, 3) := by decide +kernel
theorem dX5_readsBox_103 : decode cX5_readsBox 103 = .ok (.iconst 1, 1) := by decide +kernel
theorem dX5_readsBox_104 : decode cX5_readsBox 104 = .ok (.iadd, 1) := by decide +kernel
theorem dX5_readsBox_105 : decode cX5_readsBox 105 = .ok (.putfield 112, 3) := by decide +kernel
theorem dX5_readsBox_108 : decode cX5_readsBox 108 = .ok (.iinc 1 1, 3) := by decide +kernel
theorem dX5_readsBox_111 : decode cX5_readsBox 111 = .ok (.goto (-98), 3) := by decide +kernel
theorem dX5_readsBox_114 : decode cX5_readsBox 114 = .ok (.aload_n 0, 1) := by decide +kernel
theorem dX5_readsBox_115 : decode cX5_readsBox 115 = .ok (.dup, 1) := by decide +kernel
theorem dX5_readsBox_116 : decode cX5_readsBox 116 = .ok (.getfield 109, 3) := by decide +kernel
theorem dX5_readsBox_119 : decode cX5_readsBox 119 = .ok (.iconst 1, 1) := by decide +kernel
theorem dX5_readsBox_120 : decode cX5_readsBox 120 = .ok (.iadd, 1) := by decide +kernel
theorem dX5_readsBox_121 : decode cX5_readsBox 121 = .ok (.putfield 109, 3) := by decide +kernel
theorem dX5_readsBox_124 : decode cX5_readsBox 124 = .ok (.iconst 1, 1) := by decide +kernel
theorem dX5_readsBox_125 : decode cX5_readsBox 125 = .ok (.ireturn, 1) := by decide +kernel
theorem dX5_reads_0 : decode cX5_reads 0 = .ok (.aload_n 0, 1) := by decide +kernel
theorem dX5_reads_1 : decode cX5_reads 1 = .ok (.iconst 0, 1) := by decide +kernel
theorem dX5_reads_2 : decode cX5_reads 2 = .ok (.putfield 112, 3) := by decide +kernel
theorem dX5_reads_5 : decode cX5_reads 5 = .ok (.aload_n 0, 1) := by decide +kernel
theorem dX5_reads_6 : decode cX5_reads 6 = .ok (.iconst 0, 1) := by decide +kernel
theorem dX5_reads_7 : decode cX5_reads 7 = .ok (.putfield 109, 3) := by decide +kernel
theorem dX5_reads_10 : decode cX5_reads 10 = .ok (.aload_n 0, 1) := by decide +kernel
theorem dX5_reads_11 : decode cX5_reads 11 = .ok (.getfield 106, 3) := by decide +kernel
theorem dX5_reads_14 : decode cX5_reads 14 = .ok (.ifCond .le 7, 3) := by decide +kernel
theorem dX5_reads_17 : decode cX5_reads 17 = .ok (.iconst 1, 1) := by decide +kernel
theorem dX5_reads_18 : decode cX5_reads 18 = .ok (.goto 4, 3) := by decide +kernel
theorem dX5_reads_21 : decode cX5_reads 21 = .ok (.iconst 0, 1) := by decide +kernel
theorem dX5_reads_22 : decode cX5_reads 22 = .ok (.istore_n 1, 1) := by decide +kernel
theorem dX5_reads_23 : decode cX5_reads 23 = .ok (.iload_n 1, 1) := by decide +kernel
theorem dX5_reads_24 : decode cX5_reads 24 = .ok (.ifCond .eq 82, 3) := by decide +kernel
theorem dX5_reads_27 : decode cX5_reads 27 = .ok (.aload_n 0, 1) := by decide +kernel
theorem dX5_reads_28 : decode cX5_reads 28 = .ok (.invokevirtual 122, 3) := by decide +kernel
theorem dX5_reads_31 : decode cX5_reads 31 = .ok (.istore_n 2, 1) := by decide +kernel
theorem dX5_reads_32 : decode cX5_reads 32 = .ok (.iload_n 2, 1) := by decide +kernel
theorem dX5_reads_33 : decode cX5_reads 33 = .ok (.ifCond .eq 18, 3) := by decide +kernel
theorem dX5_reads_36 : decode cX5_reads 36 = .ok (.aload_n 0, 1) := by decide +kernel
theorem dX5_reads_37 : decode cX5_reads 37 = .ok (.getfield 112, 3) := by decide +kernel
theorem dX5_reads_40 : decode cX5_reads 40 = .ok (.aload_n 0, 1) := by decide +kernel
theorem dX5_reads_41 : decode cX5_reads 41 = .ok (.getfield 106, 3) := by decide +kernel
theorem dX5_reads_44 : decode cX5_reads 44 = .ok (.if_icmp .ge 7, 3) := by decide +kernel
theorem dX5_reads_47 : decode cX5_reads 47 = .ok (.iconst 1, 1) := by decide +kernel
theorem dX5_reads_48 : decode cX5_reads 48 = .ok (.goto 4, 3) := by decide +kernel
theorem dX5_reads_51 : decode cX5_reads 51 = .ok (.iconst 0, 1) := by decide +kernel
theorem dX5_reads_52 : decode cX5_reads 52 = .ok (.istore_n 1, 1) := by decide +kernel
theorem dX5_reads_53 : decode cX5_reads 53 = .ok (.iload_n 2, 1) := by decide +kernel
theorem dX5_reads_54 : decode cX5_reads 54 = .ok (.ifCond .eq 21, 3) := by decide +kernel
theorem dX5_reads_57 : decode cX5_reads 57 = .ok (.iload_n 1, 1) := by decide +kernel
theorem dX5_reads_58 : decode cX5_reads 58 = .ok (.ifCond .eq 27, 3) := by decide +kernel
theorem dX5_reads_61 : decode cX5_reads 61 = .ok (.aload_n 0, 1) := by decide +kernel
theorem dX5_reads_62 : decode cX5_reads 62 = .ok (.getfield 22, 3) := by decide +kernel
theorem dX5_reads_65 : decode cX5_reads 65 = .ok (.aload_n 0, 1) := by decide +kernel
theorem dX5_reads_66 : decode cX5_reads 66 = .ok (.getfield 112, 3) := by decide +kernel
theorem dX5_reads_69 : decode cX5_reads 69 = .ok (.iaload, 1) := by decide +kernel
theorem dX5_reads_70 : decode cX5_reads 70 = .ok (.bipush 59, 2) := by decide +kernel
theorem dX5_reads_72 : decode cX5_reads 72 = .ok (.if_icmp .eq 13, 3) := by decide +kernel
theorem dX5_reads_75 : decode cX5_reads 75 = .ok (.aload_n 0, 1) := by decide +kernel
theorem dX5_reads_76 : decode cX5_reads 76 = .ok (.iconst 0, 1) := by decide +kernel
theorem dX5_reads_77 : decode cX5_reads 77 = .ok (.putfield 109, 3) := by decide +kernel
theorem dX5_reads_80 : decode cX5_reads 80 = .ok (.aload_n 0, 1) := by decide +kernel
theorem dX5_reads_81 : decode cX5_reads 81 = .ok (.getfield 112, 3) := by decide +kernel
theorem dX5_reads_84 : decode cX5_reads 84 = .ok (.ireturn, 1) := by decide +kernel
theorem dX5_reads_85 : decode cX5_reads 85 = .ok (.aload_n 0, 1) := by decide +kernel
theorem dX5_reads_86 : decode cX5_reads 86 = .ok (.dup, 1) := by decide +kernel
theorem dX5_reads_87 : decode cX5_reads 87 = .ok (.getfield 112, 3) := by decide +kernel
theorem dX5_reads_90 : decode cX5_reads 90 = .ok (.iload_n 1, 1) := by decide +kernel
theorem dX5_reads_91 : decode cX5_reads 91 = .ok (.ifCond .eq 7, 3) := by decide +kernel
theorem dX5_reads_94 : decode cX5_reads 94 = .ok (.iconst 1, 1) := by decide +kernel
theorem dX5_reads_95 : decode cX5_reads 95 = .ok (.goto 4, 3) := by decide +kernel
theorem dX5_reads_98 : decode cX5_reads 98 = .ok (.iconst 0, 1) := by decide +kernel
theorem dX5_reads_99 : decode cX5_reads 99 = .ok (.iadd, 1) := by decide +kernel
theorem dX5_reads_100 : decode cX5_reads 100 = .ok (.putfield 112, 3) := by decide +kernel
theorem dX5_reads_103 : decode cX5_reads 103 = .ok (.goto (-80), 3) := by decide +kernel
theorem dX5_reads_106 : decode cX5_reads 106 = .ok (.iconst (-1), 1) := by decide +kernel
theorem dX5_reads_107 : decode cX5_reads 107 = .ok (.ireturn, 1) := by decide +kernel
theorem dX5_fault_0 : decode cX5_fault 0 = .ok (.aload_n 0, 1) := by decide +kernel
theorem dX5_fault_1 : decode cX5_fault 1 = .ok (.invokevirtual 126, 3) := by decide +kernel
theorem dX5_fault_4 : decode cX5_fault 4 = .ok (.ireturn, 1) := by decide +kernel
theorem dX5_isBox_0 : decode cX5_isBox 0 = .ok (.iload_n 1, 1) := by decide +kernel
theorem dX5_isBox_1 : decode cX5_isBox 1 = .ok (.i2l, 1) := by decide +kernel
theorem dX5_isBox_2 : decode cX5_isBox 2 = .ok (.lconst 0, 1) := by decide +kernel
theorem dX5_isBox_3 : decode cX5_isBox 3 = .ok (.aload_n 0, 1) := by decide +kernel
theorem dX5_isBox_4 : decode cX5_isBox 4 = .ok (.getfield 109, 3) := by decide +kernel
theorem dX5_isBox_7 : decode cX5_isBox 7 = .ok (.iconst 1, 1) := by decide +kernel
theorem dX5_isBox_8 : decode cX5_isBox 8 = .ok (.isub, 1) := by decide +kernel
theorem dX5_isBox_9 : decode cX5_isBox 9 = .ok (.i2l, 1) := by decide +kernel
theorem dX5_isBox_10 : decode cX5_isBox 10 = .ok (.invokestatic 75, 3) := by decide +kernel
theorem dX5_isBox_13 : decode cX5_isBox 13 = .ok (.ireturn, 1) := by decide +kernel
theorem dX5_isAny_0 : decode cX5_isAny 0 = .ok (.iload_n 0, 1) := by decide +kernel
theorem dX5_isAny_1 : decode cX5_isAny 1 = .ok (.i2l, 1) := by decide +kernel
theorem dX5_isAny_2 : decode cX5_isAny 2 = .ok (.lconst 0, 1) := by decide +kernel
theorem dX5_isAny_3 : decode cX5_isAny 3 = .ok (.ldc2_w 130, 3) := by decide +kernel
theorem dX5_isAny_6 : decode cX5_isAny 6 = .ok (.invokestatic 75, 3) := by decide +kernel
theorem dX5_isAny_9 : decode cX5_isAny 9 = .ok (.ireturn, 1) := by decide +kernel
theorem dX5_isStep_0 : decode cX5_isStep 0 = .ok (.iload_n 0, 1) := by decide +kernel
theorem dX5_isStep_1 : decode cX5_isStep 1 = .ok (.i2l, 1) := by decide +kernel
theorem dX5_isStep_2 : decode cX5_isStep 2 = .ok (.lconst 0, 1) := by decide +kernel
theorem dX5_isStep_3 : decode cX5_isStep 3 = .ok (.ldc2_w 132, 3) := by decide +kernel
theorem dX5_isStep_6 : decode cX5_isStep 6 = .ok (.invokestatic 75, 3) := by decide +kernel
theorem dX5_isStep_9 : decode cX5_isStep 9 = .ok (.ireturn, 1) := by decide +kernel
theorem dX5_box_0 : decode cX5_box 0 = .ok (.aload_n 0, 1) := by decide +kernel
theorem dX5_box_1 : decode cX5_box 1 = .ok (.invokevirtual 126, 3) := by decide +kernel
theorem dX5_box_4 : decode cX5_box 4 = .ok (.pop, 1) := by decide +kernel
theorem dX5_box_5 : decode cX5_box 5 = .ok (.aload_n 0, 1) := by decide +kernel
theorem dX5_box_6 : decode cX5_box 6 = .ok (.iload_n 1, 1) := by decide +kernel
theorem dX5_box_7 : decode cX5_box 7 = .ok (.invokevirtual 134, 3) := by decide +kernel
theorem dX5_box_10 : decode cX5_box 10 = .ok (.ifCond .eq 28, 3) := by decide +kernel
theorem dX5_box_13 : decode cX5_box 13 = .ok (.iload_n 2, 1) := by decide +kernel
theorem dX5_box_14 : decode cX5_box 14 = .ok (.i2l, 1) := by decide +kernel
theorem dX5_box_15 : decode cX5_box 15 = .ok (.lconst 0, 1) := by decide +kernel
theorem dX5_box_16 : decode cX5_box 16 = .ok (.ldc2_w 89, 3) := by decide +kernel
theorem dX5_box_19 : decode cX5_box 19 = .ok (.invokestatic 75, 3) := by decide +kernel
theorem dX5_box_22 : decode cX5_box 22 = .ok (.ifCond .eq 16, 3) := by decide +kernel
theorem dX5_box_25 : decode cX5_box 25 = .ok (.aload_n 0, 1) := by decide +kernel
theorem dX5_box_26 : decode cX5_box 26 = .ok (.getfield 25, 3) := by decide +kernel
theorem dX5_box_29 : decode cX5_box 29 = .ok (.iconst 3, 1) := by decide +kernel
theorem dX5_box_30 : decode cX5_box 30 = .ok (.iload_n 1, 1) := by decide +kernel
theorem dX5_box_31 : decode cX5_box 31 = .ok (.imul, 1) := by decide +kernel
theorem dX5_box_32 : decode cX5_box 32 = .ok (.iload_n 2, 1) := by decide +kernel
theorem dX5_box_33 : decode cX5_box 33 = .ok (.iadd, 1) := by decide +kernel
theorem dX5_box_34 : decode cX5_box 34 = .ok (.iaload, 1) := by decide +kernel
theorem dX5_box_35 : decode cX5_box 35 = .ok (.goto 5, 3) := by decide +kernel
theorem dX5_box_38 : decode cX5_box 38 = .ok (.bipush (-2), 2) := by decide +kernel
theorem dX5_box_40 : decode cX5_box 40 = .ok (.ireturn, 1) := by decide +kernel
theorem dX5_place_0 : decode cX5_place 0 = .ok (.iload_n 1, 1) := by decide +kernel
theorem dX5_place_1 : decode cX5_place 1 = .ok (.invokestatic 137, 3) := by decide +kernel
theorem dX5_place_4 : decode cX5_place 4 = .ok (.ifCond .eq 12, 3) := by decide +kernel
theorem dX5_place_7 : decode cX5_place 7 = .ok (.aload_n 0, 1) := by decide +kernel
theorem dX5_place_8 : decode cX5_place 8 = .ok (.getfield 28, 3) := by decide +kernel
theorem dX5_place_11 : decode cX5_place 11 = .ok (.iload_n 1, 1) := by decide +kernel
theorem dX5_place_12 : decode cX5_place 12 = .ok (.iaload, 1) := by decide +kernel
theorem dX5_place_13 : decode cX5_place 13 = .ok (.goto 5, 3) := by decide +kernel
theorem dX5_place_16 : decode cX5_place 16 = .ok (.bipush (-2), 2) := by decide +kernel
theorem dX5_place_18 : decode cX5_place 18 = .ok (.ireturn, 1) := by decide +kernel
theorem dX5_swap_0 : decode cX5_swap 0 = .ok (.iload_n 1, 1) := by decide +kernel
theorem dX5_swap_1 : decode cX5_swap 1 = .ok (.invokestatic 137, 3) := by decide +kernel
theorem dX5_swap_4 : decode cX5_swap 4 = .ok (.ifCond .eq 10, 3) := by decide +kernel
theorem dX5_swap_7 : decode cX5_swap 7 = .ok (.iload_n 2, 1) := by decide +kernel
theorem dX5_swap_8 : decode cX5_swap 8 = .ok (.invokestatic 137, 3) := by decide +kernel
theorem dX5_swap_11 : decode cX5_swap 11 = .ok (.ifCond .ne 6, 3) := by decide +kernel
theorem dX5_swap_14 : decode cX5_swap 14 = .ok (.bipush (-2), 2) := by decide +kernel
theorem dX5_swap_16 : decode cX5_swap 16 = .ok (.ireturn, 1) := by decide +kernel
theorem dX5_swap_17 : decode cX5_swap 17 = .ok (.aload_n 0, 1) := by decide +kernel
theorem dX5_swap_18 : decode cX5_swap 18 = .ok (.getfield 28, 3) := by decide +kernel
theorem dX5_swap_21 : decode cX5_swap 21 = .ok (.iload_n 1, 1) := by decide +kernel
theorem dX5_swap_22 : decode cX5_swap 22 = .ok (.iaload, 1) := by decide +kernel
theorem dX5_swap_23 : decode cX5_swap 23 = .ok (.istore_n 3, 1) := by decide +kernel
theorem dX5_swap_24 : decode cX5_swap 24 = .ok (.aload_n 0, 1) := by decide +kernel
theorem dX5_swap_25 : decode cX5_swap 25 = .ok (.getfield 28, 3) := by decide +kernel
theorem dX5_swap_28 : decode cX5_swap 28 = .ok (.iload_n 1, 1) := by decide +kernel
theorem dX5_swap_29 : decode cX5_swap 29 = .ok (.aload_n 0, 1) := by decide +kernel
theorem dX5_swap_30 : decode cX5_swap 30 = .ok (.getfield 28, 3) := by decide +kernel
theorem dX5_swap_33 : decode cX5_swap 33 = .ok (.iload_n 2, 1) := by decide +kernel
theorem dX5_swap_34 : decode cX5_swap 34 = .ok (.iaload, 1) := by decide +kernel
theorem dX5_swap_35 : decode cX5_swap 35 = .ok (.iastore, 1) := by decide +kernel
theorem dX5_swap_36 : decode cX5_swap 36 = .ok (.aload_n 0, 1) := by decide +kernel
theorem dX5_swap_37 : decode cX5_swap 37 = .ok (.getfield 28, 3) := by decide +kernel
theorem dX5_swap_40 : decode cX5_swap 40 = .ok (.iload_n 2, 1) := by decide +kernel
theorem dX5_swap_41 : decode cX5_swap 41 = .ok (.iload_n 3, 1) := by decide +kernel
theorem dX5_swap_42 : decode cX5_swap 42 = .ok (.iastore, 1) := by decide +kernel
theorem dX5_swap_43 : decode cX5_swap 43 = .ok (.iload_n 1, 1) := by decide +kernel
theorem dX5_swap_44 : decode cX5_swap 44 = .ok (.iload_n 2, 1) := by decide +kernel
theorem dX5_swap_45 : decode cX5_swap 45 = .ok (.if_icmp .ne 7, 3) := by decide +kernel
theorem dX5_swap_48 : decode cX5_swap 48 = .ok (.iconst 0, 1) := by decide +kernel
theorem dX5_swap_49 : decode cX5_swap 49 = .ok (.goto 4, 3) := by decide +kernel
theorem dX5_swap_52 : decode cX5_swap 52 = .ok (.iconst 1, 1) := by decide +kernel
theorem dX5_swap_53 : decode cX5_swap 53 = .ok (.ireturn, 1) := by decide +kernel
theorem dX5_lids_0 : decode cX5_lids 0 = .ok (.iload_n 1, 1) := by decide +kernel
theorem dX5_lids_1 : decode cX5_lids 1 = .ok (.i2l, 1) := by decide +kernel
theorem dX5_lids_2 : decode cX5_lids 2 = .ok (.lconst 0, 1) := by decide +kernel
theorem dX5_lids_3 : decode cX5_lids 3 = .ok (.ldc2_w 140, 3) := by decide +kernel
theorem dX5_lids_6 : decode cX5_lids 6 = .ok (.invokestatic 75, 3) := by decide +kernel
theorem dX5_lids_9 : decode cX5_lids 9 = .ok (.ifCond .ne 6, 3) := by decide +kernel
theorem dX5_lids_12 : decode cX5_lids 12 = .ok (.bipush (-2), 2) := by decide +kernel
theorem dX5_lids_14 : decode cX5_lids 14 = .ok (.ireturn, 1) := by decide +kernel
theorem dX5_lids_15 : decode cX5_lids 15 = .ok (.aload_n 0, 1) := by decide +kernel
theorem dX5_lids_16 : decode cX5_lids 16 = .ok (.getfield 142, 3) := by decide +kernel
theorem dX5_lids_19 : decode cX5_lids 19 = .ok (.istore_n 2, 1) := by decide +kernel
theorem dX5_lids_20 : decode cX5_lids 20 = .ok (.aload_n 0, 1) := by decide +kernel
theorem dX5_lids_21 : decode cX5_lids 21 = .ok (.iload_n 1, 1) := by decide +kernel
theorem dX5_lids_22 : decode cX5_lids 22 = .ok (.putfield 142, 3) := by decide +kernel
theorem dX5_lids_25 : decode cX5_lids 25 = .ok (.iload_n 2, 1) := by decide +kernel
theorem dX5_lids_26 : decode cX5_lids 26 = .ok (.ireturn, 1) := by decide +kernel
theorem dX5_tell_0 : decode cX5_tell 0 = .ok (.iload_n 1, 1) := by decide +kernel
theorem dX5_tell_1 : decode cX5_tell 1 = .ok (.invokestatic 145, 3) := by decide +kernel
theorem dX5_tell_4 : decode cX5_tell 4 = .ok (.ifCond .eq 22, 3) := by decide +kernel
theorem dX5_tell_7 : decode cX5_tell 7 = .ok (.iload_n 2, 1) := by decide +kernel
theorem dX5_tell_8 : decode cX5_tell 8 = .ok (.invokestatic 137, 3) := by decide +kernel
theorem dX5_tell_11 : decode cX5_tell 11 = .ok (.ifCond .eq 15, 3) := by decide +kernel
theorem dX5_tell_14 : decode cX5_tell 14 = .ok (.iload_n 3, 1) := by decide +kernel
theorem dX5_tell_15 : decode cX5_tell 15 = .ok (.i2l, 1) := by decide +kernel
theorem dX5_tell_16 : decode cX5_tell 16 = .ok (.lconst 0, 1) := by decide +kernel
theorem dX5_tell_17 : decode cX5_tell 17 = .ok (.ldc2_w 89, 3) := by decide +kernel
theorem dX5_tell_20 : decode cX5_tell 20 = .ok (.invokestatic 75, 3) := by decide +kernel
theorem dX5_tell_23 : decode cX5_tell 23 = .ok (.ifCond .ne 6, 3) := by decide +kernel
theorem dX5_tell_26 : decode cX5_tell 26 = .ok (.bipush (-2), 2) := by decide +kernel
theorem dX5_tell_28 : decode cX5_tell 28 = .ok (.ireturn, 1) := by decide +kernel
theorem dX5_tell_29 : decode cX5_tell 29 = .ok (.aload_n 0, 1) := by decide +kernel
theorem dX5_tell_30 : decode cX5_tell 30 = .ok (.getfield 148, 3) := by decide +kernel
theorem dX5_tell_33 : decode cX5_tell 33 = .ok (.bipush 24, 2) := by decide +kernel
theorem dX5_tell_35 : decode cX5_tell 35 = .ok (.if_icmp .ne 6, 3) := by decide +kernel
theorem dX5_tell_38 : decode cX5_tell 38 = .ok (.bipush (-4), 2) := by decide +kernel
theorem dX5_tell_40 : decode cX5_tell 40 = .ok (.ireturn, 1) := by decide +kernel
theorem dX5_tell_41 : decode cX5_tell 41 = .ok (.aload_n 0, 1) := by decide +kernel
theorem dX5_tell_42 : decode cX5_tell 42 = .ok (.getfield 31, 3) := by decide +kernel
theorem dX5_tell_45 : decode cX5_tell 45 = .ok (.iconst 3, 1) := by decide +kernel
theorem dX5_tell_46 : decode cX5_tell 46 = .ok (.aload_n 0, 1) := by decide +kernel
theorem dX5_tell_47 : decode cX5_tell 47 = .ok (.getfield 148, 3) := by decide +kernel
theorem dX5_tell_50 : decode cX5_tell 50 = .ok (.imul, 1) := by decide +kernel
theorem dX5_tell_51 : decode cX5_tell 51 = .ok (.iload_n 1, 1) := by decide +kernel
theorem dX5_tell_52 : decode cX5_tell 52 = .ok (.iastore, 1) := by decide +kernel
theorem dX5_tell_53 : decode cX5_tell 53 = .ok (.aload_n 0, 1) := by decide +kernel
theorem dX5_tell_54 : decode cX5_tell 54 = .ok (.getfield 31, 3) := by decide +kernel
theorem dX5_tell_57 : decode cX5_tell 57 = .ok (.iconst 3, 1) := by decide +kernel
theorem dX5_tell_58 : decode cX5_tell 58 = .ok (.aload_n 0, 1) := by decide +kernel
theorem dX5_tell_59 : decode cX5_tell 59 = .ok (.getfield 148, 3) := by decide +kernel
theorem dX5_tell_62 : decode cX5_tell 62 = .ok (.imul, 1) := by decide +kernel
theorem dX5_tell_63 : decode cX5_tell 63 = .ok (.iconst 1, 1) := by decide +kernel
theorem dX5_tell_64 : decode cX5_tell 64 = .ok (.iadd, 1) := by decide +kernel
theorem dX5_tell_65 : decode cX5_tell 65 = .ok (.iload_n 2, 1) := by decide +kernel
theorem dX5_tell_66 : decode cX5_tell 66 = .ok (.iastore, 1) := by decide +kernel
theorem dX5_tell_67 : decode cX5_tell 67 = .ok (.aload_n 0, 1) := by decide +kernel
theorem dX5_tell_68 : decode cX5_tell 68 = .ok (.getfield 31, 3) := by decide +kernel
theorem dX5_tell_71 : decode cX5_tell 71 = .ok (.iconst 3, 1) := by decide +kernel
theorem dX5_tell_72 : decode cX5_tell 72 = .ok (.aload_n 0, 1) := by decide +kernel
theorem dX5_tell_73 : decode cX5_tell 73 = .ok (.getfield 148, 3) := by decide +kernel
theorem dX5_tell_76 : decode cX5_tell 76 = .ok (.imul, 1) := by decide +kernel
theorem dX5_tell_77 : decode cX5_tell 77 = .ok (.iconst 2, 1) := by decide +kernel
theorem dX5_tell_78 : decode cX5_tell 78 = .ok (.iadd, 1) := by decide +kernel
theorem dX5_tell_79 : decode cX5_tell 79 = .ok (.iload_n 3, 1) := by decide +kernel
theorem dX5_tell_80 : decode cX5_tell 80 = .ok (.iastore, 1) := by decide +kernel
theorem dX5_tell_81 : decode cX5_tell 81 = .ok (.aload_n 0, 1) := by decide +kernel
theorem dX5_tell_82 : decode cX5_tell 82 = .ok (.dup, 1) := by decide +kernel
theorem dX5_tell_83 : decode cX5_tell 83 = .ok (.getfield 148, 3) := by decide +kernel
theorem dX5_tell_86 : decode cX5_tell 86 = .ok (.iconst 1, 1) := by decide +kernel
theorem dX5_tell_87 : decode cX5_tell 87 = .ok (.iadd, 1) := by decide +kernel
theorem dX5_tell_88 : decode cX5_tell 88 = .ok (.putfield 148, 3) := by decide +kernel
theorem dX5_tell_91 : decode cX5_tell 91 = .ok (.aload_n 0, 1) := by decide +kernel
theorem dX5_tell_92 : decode cX5_tell 92 = .ok (.getfield 148, 3) := by decide +kernel
theorem dX5_tell_95 : decode cX5_tell 95 = .ok (.ireturn, 1) := by decide +kernel
theorem dX5_back_0 : decode cX5_back 0 = .ok (.aload_n 0, 1) := by decide +kernel
theorem dX5_back_1 : decode cX5_back 1 = .ok (.getfield 148, 3) := by decide +kernel
theorem dX5_back_4 : decode cX5_back 4 = .ok (.ifCond .ne 6, 3) := by decide +kernel
theorem dX5_back_7 : decode cX5_back 7 = .ok (.bipush (-3), 2) := by decide +kernel
theorem dX5_back_9 : decode cX5_back 9 = .ok (.ireturn, 1) := by decide +kernel
theorem dX5_back_10 : decode cX5_back 10 = .ok (.aload_n 0, 1) := by decide +kernel
theorem dX5_back_11 : decode cX5_back 11 = .ok (.dup, 1) := by decide +kernel
theorem dX5_back_12 : decode cX5_back 12 = .ok (.getfield 148, 3) := by decide +kernel
theorem dX5_back_15 : decode cX5_back 15 = .ok (.iconst 1, 1) := by decide +kernel
theorem dX5_back_16 : decode cX5_back 16 = .ok (.isub, 1) := by decide +kernel
theorem dX5_back_17 : decode cX5_back 17 = .ok (.putfield 148, 3) := by decide +kernel
theorem dX5_back_20 : decode cX5_back 20 = .ok (.aload_n 0, 1) := by decide +kernel
theorem dX5_back_21 : decode cX5_back 21 = .ok (.getfield 148, 3) := by decide +kernel
theorem dX5_back_24 : decode cX5_back 24 = .ok (.ireturn, 1) := by decide +kernel
theorem dX5_read_0 : decode cX5_read 0 = .ok (.iload_n 1, 1) := by decide +kernel
theorem dX5_read_1 : decode cX5_read 1 = .ok (.invokestatic 85, 3) := by decide +kernel
theorem dX5_read_4 : decode cX5_read 4 = .ok (.ifCond .ne 6, 3) := by decide +kernel
theorem dX5_read_7 : decode cX5_read 7 = .ok (.bipush (-2), 2) := by decide +kernel
theorem dX5_read_9 : decode cX5_read 9 = .ok (.ireturn, 1) := by decide +kernel
theorem dX5_read_10 : decode cX5_read 10 = .ok (.aload_n 0, 1) := by decide +kernel
theorem dX5_read_11 : decode cX5_read 11 = .ok (.getfield 7, 3) := by decide +kernel
theorem dX5_read_14 : decode cX5_read 14 = .ok (.iload_n 1, 1) := by decide +kernel
theorem dX5_read_15 : decode cX5_read 15 = .ok (.iaload, 1) := by decide +kernel
theorem dX5_read_16 : decode cX5_read 16 = .ok (.ifCond .ge 9, 3) := by decide +kernel
theorem dX5_read_19 : decode cX5_read 19 = .ok (.aload_n 0, 1) := by decide +kernel
theorem dX5_read_20 : decode cX5_read 20 = .ok (.iconst 1, 1) := by decide +kernel
theorem dX5_read_21 : decode cX5_read 21 = .ok (.invokevirtual 91, 3) := by decide +kernel
theorem dX5_read_24 : decode cX5_read 24 = .ok (.ireturn, 1) := by decide +kernel
theorem dX5_read_25 : decode cX5_read 25 = .ok (.iconst 0, 1) := by decide +kernel
theorem dX5_read_26 : decode cX5_read 26 = .ok (.istore_n 2, 1) := by decide +kernel
theorem dX5_read_27 : decode cX5_read 27 = .ok (.iconst 1, 1) := by decide +kernel
theorem dX5_read_28 : decode cX5_read 28 = .ok (.istore_n 3, 1) := by decide +kernel
theorem dX5_read_29 : decode cX5_read 29 = .ok (.iload_n 3, 1) := by decide +kernel
theorem dX5_read_30 : decode cX5_read 30 = .ok (.ifCond .eq 80, 3) := by decide +kernel
theorem dX5_read_33 : decode cX5_read 33 = .ok (.iconst 3, 1) := by decide +kernel
theorem dX5_read_34 : decode cX5_read 34 = .ok (.iload_n 2, 1) := by decide +kernel
theorem dX5_read_35 : decode cX5_read 35 = .ok (.imul, 1) := by decide +kernel
theorem dX5_read_36 : decode cX5_read 36 = .ok (.iconst 3, 1) := by decide +kernel
theorem dX5_read_37 : decode cX5_read 37 = .ok (.iadd, 1) := by decide +kernel
theorem dX5_read_38 : decode cX5_read 38 = .ok (.aload_n 0, 1) := by decide +kernel
theorem dX5_read_39 : decode cX5_read 39 = .ok (.getfield 13, 3) := by decide +kernel
theorem dX5_read_42 : decode cX5_read 42 = .ok (.iload_n 1, 1) := by decide +kernel
theorem dX5_read_43 : decode cX5_read 43 = .ok (.iaload, 1) := by decide +kernel
theorem dX5_read_44 : decode cX5_read 44 = .ok (.if_icmp .gt 66, 3) := by decide +kernel
theorem dX5_read_47 : decode cX5_read 47 = .ok (.bipush 60, 2) := by decide +kernel
theorem dX5_read_49 : decode cX5_read 49 = .ok (.iload_n 1, 1) := by decide +kernel
theorem dX5_read_50 : decode cX5_read 50 = .ok (.imul, 1) := by decide +kernel
theorem dX5_read_51 : decode cX5_read 51 = .ok (.iconst 3, 1) := by decide +kernel
theorem dX5_read_52 : decode cX5_read 52 = .ok (.iload_n 2, 1) := by decide +kernel
theorem dX5_read_53 : decode cX5_read 53 = .ok (.imul, 1) := by decide +kernel
theorem dX5_read_54 : decode cX5_read 54 = .ok (.iadd, 1) := by decide +kernel
theorem dX5_read_55 : decode cX5_read 55 = .ok (.istore 4, 2) := by decide +kernel
theorem dX5_read_57 : decode cX5_read 57 = .ok (.aload_n 0, 1) := by decide +kernel
theorem dX5_read_58 : decode cX5_read 58 = .ok (.aload_n 0, 1) := by decide +kernel
theorem dX5_read_59 : decode cX5_read 59 = .ok (.getfield 16, 3) := by decide +kernel
theorem dX5_read_62 : decode cX5_read 62 = .ok (.iload 4, 2) := by decide +kernel
theorem dX5_read_64 : decode cX5_read 64 = .ok (.iaload, 1) := by decide +kernel
theorem dX5_read_65 : decode cX5_read 65 = .ok (.aload_n 0, 1) := by decide +kernel
theorem dX5_read_66 : decode cX5_read 66 = .ok (.getfield 16, 3) := by decide +kernel
theorem dX5_read_69 : decode cX5_read 69 = .ok (.iload 4, 2) := by decide +kernel
theorem dX5_read_71 : decode cX5_read 71 = .ok (.iconst 1, 1) := by decide +kernel
theorem dX5_read_72 : decode cX5_read 72 = .ok (.iadd, 1) := by decide +kernel
theorem dX5_read_73 : decode cX5_read 73 = .ok (.iaload, 1) := by decide +kernel
theorem dX5_read_74 : decode cX5_read 74 = .ok (.aload_n 0, 1) := by decide +kernel
theorem dX5_read_75 : decode cX5_read 75 = .ok (.getfield 16, 3) := by decide +kernel
theorem dX5_read_78 : decode cX5_read 78 = .ok (.iload 4, 2) := by decide +kernel
theorem dX5_read_80 : decode cX5_read 80 = .ok (.iconst 2, 1) := by decide +kernel
theorem dX5_read_81 : decode cX5_read 81 = .ok (.iadd, 1) := by decide +kernel
theorem dX5_read_82 : decode cX5_read 82 = .ok (.iaload, 1) := by decide +kernel
theorem dX5_read_83 : decode cX5_read 83 = .ok (.invokevirtual 151, 3) := by decide +kernel
theorem dX5_read_86 : decode cX5_read 86 = .ok (.ifCond .lt 7, 3) := by decide +kernel
theorem dX5_read_89 : decode cX5_read 89 = .ok (.iconst 1, 1) := by decide +kernel
theorem dX5_read_90 : decode cX5_read 90 = .ok (.goto 4, 3) := by decide +kernel
theorem dX5_read_93 : decode cX5_read 93 = .ok (.iconst 0, 1) := by decide +kernel
theorem dX5_read_94 : decode cX5_read 94 = .ok (.istore_n 3, 1) := by decide +kernel
theorem dX5_read_95 : decode cX5_read 95 = .ok (.iload_n 2, 1) := by decide +kernel
theorem dX5_read_96 : decode cX5_read 96 = .ok (.iload_n 3, 1) := by decide +kernel
theorem dX5_read_97 : decode cX5_read 97 = .ok (.ifCond .eq 7, 3) := by decide +kernel
theorem dX5_read_100 : decode cX5_read 100 = .ok (.iconst 1, 1) := by decide +kernel
theorem dX5_read_101 : decode cX5_read 101 = .ok (.goto 4, 3) := by decide +kernel
theorem dX5_read_104 : decode cX5_read 104 = .ok (.iconst 0, 1) := by decide +kernel
theorem dX5_read_105 : decode cX5_read 105 = .ok (.iadd, 1) := by decide +kernel
theorem dX5_read_106 : decode cX5_read 106 = .ok (.istore_n 2, 1) := by decide +kernel
theorem dX5_read_107 : decode cX5_read 107 = .ok (.goto (-78), 3) := by decide +kernel
theorem dX5_read_110 : decode cX5_read 110 = .ok (.iload_n 2, 1) := by decide +kernel
theorem dX5_read_111 : decode cX5_read 111 = .ok (.ireturn, 1) := by decide +kernel
theorem dX5_plain_0 : decode cX5_plain 0 = .ok (.aload_n 0, 1) := by decide +kernel
theorem dX5_plain_1 : decode cX5_plain 1 = .ok (.invokevirtual 126, 3) := by decide +kernel
theorem dX5_plain_4 : decode cX5_plain 4 = .ok (.pop, 1) := by decide +kernel
theorem dX5_plain_5 : decode cX5_plain 5 = .ok (.iconst 0, 1) := by decide +kernel
theorem dX5_plain_6 : decode cX5_plain 6 = .ok (.istore_n 1, 1) := by decide +kernel
theorem dX5_plain_7 : decode cX5_plain 7 = .ok (.iload_n 1, 1) := by decide +kernel
theorem dX5_plain_8 : decode cX5_plain 8 = .ok (.bipush 9, 2) := by decide +kernel
theorem dX5_plain_10 : decode cX5_plain 10 = .ok (.if_icmp .ge 21, 3) := by decide +kernel
theorem dX5_plain_13 : decode cX5_plain 13 = .ok (.aload_n 0, 1) := by decide +kernel
theorem dX5_plain_14 : decode cX5_plain 14 = .ok (.getfield 46, 3) := by decide +kernel
theorem dX5_plain_17 : decode cX5_plain 17 = .ok (.aload_n 0, 1) := by decide +kernel
theorem dX5_plain_18 : decode cX5_plain 18 = .ok (.getfield 28, 3) := by decide +kernel
theorem dX5_plain_21 : decode cX5_plain 21 = .ok (.iload_n 1, 1) := by decide +kernel
theorem dX5_plain_22 : decode cX5_plain 22 = .ok (.iaload, 1) := by decide +kernel
theorem dX5_plain_23 : decode cX5_plain 23 = .ok (.iload_n 1, 1) := by decide +kernel
theorem dX5_plain_24 : decode cX5_plain 24 = .ok (.iastore, 1) := by decide +kernel
theorem dX5_plain_25 : decode cX5_plain 25 = .ok (.iinc 1 1, 3) := by decide +kernel
theorem dX5_plain_28 : decode cX5_plain 28 = .ok (.goto (-21), 3) := by decide +kernel
theorem dX5_plain_31 : decode cX5_plain 31 = .ok (.iconst 0, 1) := by decide +kernel
theorem dX5_plain_32 : decode cX5_plain 32 = .ok (.istore_n 1, 1) := by decide +kernel
theorem dX5_plain_33 : decode cX5_plain 33 = .ok (.iload_n 1, 1) := by decide +kernel
theorem dX5_plain_34 : decode cX5_plain 34 = .ok (.aload_n 0, 1) := by decide +kernel
theorem dX5_plain_35 : decode cX5_plain 35 = .ok (.getfield 109, 3) := by decide +kernel
theorem dX5_plain_38 : decode cX5_plain 38 = .ok (.if_icmp .ge 39, 3) := by decide +kernel
theorem dX5_plain_41 : decode cX5_plain 41 = .ok (.aload_n 0, 1) := by decide +kernel
theorem dX5_plain_42 : decode cX5_plain 42 = .ok (.getfield 49, 3) := by decide +kernel
theorem dX5_plain_45 : decode cX5_plain 45 = .ok (.iload_n 1, 1) := by decide +kernel
theorem dX5_plain_46 : decode cX5_plain 46 = .ok (.aload_n 0, 1) := by decide +kernel
theorem dX5_plain_47 : decode cX5_plain 47 = .ok (.getfield 25, 3) := by decide +kernel
theorem dX5_plain_50 : decode cX5_plain 50 = .ok (.iconst 3, 1) := by decide +kernel
theorem dX5_plain_51 : decode cX5_plain 51 = .ok (.iload_n 1, 1) := by decide +kernel
theorem dX5_plain_52 : decode cX5_plain 52 = .ok (.imul, 1) := by decide +kernel
theorem dX5_plain_53 : decode cX5_plain 53 = .ok (.iaload, 1) := by decide +kernel
theorem dX5_plain_54 : decode cX5_plain 54 = .ok (.iastore, 1) := by decide +kernel
theorem dX5_plain_55 : decode cX5_plain 55 = .ok (.aload_n 0, 1) := by decide +kernel
theorem dX5_plain_56 : decode cX5_plain 56 = .ok (.getfield 52, 3) := by decide +kernel
theorem dX5_plain_59 : decode cX5_plain 59 = .ok (.iload_n 1, 1) := by decide +kernel
theorem dX5_plain_60 : decode cX5_plain 60 = .ok (.aload_n 0, 1) := by decide +kernel
theorem dX5_plain_61 : decode cX5_plain 61 = .ok (.getfield 25, 3) := by decide +kernel
theorem dX5_plain_64 : decode cX5_plain 64 = .ok (.iconst 3, 1) := by decide +kernel
theorem dX5_plain_65 : decode cX5_plain 65 = .ok (.iload_n 1, 1) := by decide +kernel
theorem dX5_plain_66 : decode cX5_plain 66 = .ok (.imul, 1) := by decide +kernel
theorem dX5_plain_67 : decode cX5_plain 67 = .ok (.iconst 1, 1) := by decide +kernel
theorem dX5_plain_68 : decode cX5_plain 68 = .ok (.iadd, 1) := by decide +kernel
theorem dX5_plain_69 : decode cX5_plain 69 = .ok (.iaload, 1) := by decide +kernel
theorem dX5_plain_70 : decode cX5_plain 70 = .ok (.iastore, 1) := by decide +kernel
theorem dX5_plain_71 : decode cX5_plain 71 = .ok (.iinc 1 1, 3) := by decide +kernel
theorem dX5_plain_74 : decode cX5_plain 74 = .ok (.goto (-41), 3) := by decide +kernel
theorem dX5_plain_77 : decode cX5_plain 77 = .ok (.aload_n 0, 1) := by decide +kernel
theorem dX5_plain_78 : decode cX5_plain 78 = .ok (.aload_n 0, 1) := by decide +kernel
theorem dX5_plain_79 : decode cX5_plain 79 = .ok (.getfield 142, 3) := by decide +kernel
theorem dX5_plain_82 : decode cX5_plain 82 = .ok (.putfield 154, 3) := by decide +kernel
theorem dX5_plain_85 : decode cX5_plain 85 = .ok (.iconst 0, 1) := by decide +kernel
theorem dX5_plain_86 : decode cX5_plain 86 = .ok (.istore_n 1, 1) := by decide +kernel
theorem dX5_plain_87 : decode cX5_plain 87 = .ok (.iload_n 1, 1) := by decide +kernel
theorem dX5_plain_88 : decode cX5_plain 88 = .ok (.sipush 180, 3) := by decide +kernel
theorem dX5_plain_91 : decode cX5_plain 91 = .ok (.if_icmp .ge 16, 3) := by decide +kernel
theorem dX5_plain_94 : decode cX5_plain 94 = .ok (.aload_n 0, 1) := by decide +kernel
theorem dX5_plain_95 : decode cX5_plain 95 = .ok (.getfield 34, 3) := by decide +kernel
theorem dX5_plain_98 : decode cX5_plain 98 = .ok (.iload_n 1, 1) := by decide +kernel
theorem dX5_plain_99 : decode cX5_plain 99 = .ok (.iconst 0, 1) := by decide +kernel
theorem dX5_plain_100 : decode cX5_plain 100 = .ok (.iastore, 1) := by decide +kernel
theorem dX5_plain_101 : decode cX5_plain 101 = .ok (.iinc 1 1, 3) := by decide +kernel
theorem dX5_plain_104 : decode cX5_plain 104 = .ok (.goto (-17), 3) := by decide +kernel
theorem dX5_plain_107 : decode cX5_plain 107 = .ok (.iconst 0, 1) := by decide +kernel
theorem dX5_plain_108 : decode cX5_plain 108 = .ok (.istore_n 1, 1) := by decide +kernel
end
section
theorem dX5_plain_109 : decode cX5_plain 109 = .ok (.iload_n 1, 1) := by decide +kernel
theorem dX5_plain_110 : decode cX5_plain 110 = .ok (.aload_n 0, 1) := by decide +kernel
theorem dX5_plain_111 : decode cX5_plain 111 = .ok (.getfield 148, 3) := by decide +kernel
theorem dX5_plain_114 : decode cX5_plain 114 = .ok (.if_icmp .ge 50, 3) := by decide +kernel
theorem dX5_plain_117 : decode cX5_plain 117 = .ok (.aload_n 0, 1) := by decide +kernel
theorem dX5_plain_118 : decode cX5_plain 118 = .ok (.getfield 34, 3) := by decide +kernel
theorem dX5_plain_121 : decode cX5_plain 121 = .ok (.iconst 3, 1) := by decide +kernel
theorem dX5_plain_122 : decode cX5_plain 122 = .ok (.aload_n 0, 1) := by decide +kernel
theorem dX5_plain_123 : decode cX5_plain 123 = .ok (.getfield 31, 3) := by decide +kernel
theorem dX5_plain_126 : decode cX5_plain 126 = .ok (.iconst 3, 1) := by decide +kernel
theorem dX5_plain_127 : decode cX5_plain 127 = .ok (.iload_n 1, 1) := by decide +kernel
theorem dX5_plain_128 : decode cX5_plain 128 = .ok (.imul, 1) := by decide +kernel
theorem dX5_plain_129 : decode cX5_plain 129 = .ok (.iaload, 1) := by decide +kernel
theorem dX5_plain_130 : decode cX5_plain 130 = .ok (.imul, 1) := by decide +kernel
theorem dX5_plain_131 : decode cX5_plain 131 = .ok (.aload_n 0, 1) := by decide +kernel
theorem dX5_plain_132 : decode cX5_plain 132 = .ok (.getfield 31, 3) := by decide +kernel
theorem dX5_plain_135 : decode cX5_plain 135 = .ok (.iconst 3, 1) := by decide +kernel
theorem dX5_plain_136 : decode cX5_plain 136 = .ok (.iload_n 1, 1) := by decide +kernel
theorem dX5_plain_137 : decode cX5_plain 137 = .ok (.imul, 1) := by decide +kernel
theorem dX5_plain_138 : decode cX5_plain 138 = .ok (.iconst 2, 1) := by decide +kernel
theorem dX5_plain_139 : decode cX5_plain 139 = .ok (.iadd, 1) := by decide +kernel
theorem dX5_plain_140 : decode cX5_plain 140 = .ok (.iaload, 1) := by decide +kernel
theorem dX5_plain_141 : decode cX5_plain 141 = .ok (.iadd, 1) := by decide +kernel
theorem dX5_plain_142 : decode cX5_plain 142 = .ok (.dup2, 1) := by decide +kernel
theorem dX5_plain_143 : decode cX5_plain 143 = .ok (.iaload, 1) := by decide +kernel
theorem dX5_plain_144 : decode cX5_plain 144 = .ok (.iconst 1, 1) := by decide +kernel
theorem dX5_plain_145 : decode cX5_plain 145 = .ok (.aload_n 0, 1) := by decide +kernel
theorem dX5_plain_146 : decode cX5_plain 146 = .ok (.getfield 31, 3) := by decide +kernel
theorem dX5_plain_149 : decode cX5_plain 149 = .ok (.iconst 3, 1) := by decide +kernel
theorem dX5_plain_150 : decode cX5_plain 150 = .ok (.iload_n 1, 1) := by decide +kernel
theorem dX5_plain_151 : decode cX5_plain 151 = .ok (.imul, 1) := by decide +kernel
theorem dX5_plain_152 : decode cX5_plain 152 = .ok (.iconst 1, 1) := by decide +kernel
theorem dX5_plain_153 : decode cX5_plain 153 = .ok (.iadd, 1) := by decide +kernel
theorem dX5_plain_154 : decode cX5_plain 154 = .ok (.iaload, 1) := by decide +kernel
theorem dX5_plain_155 : decode cX5_plain 155 = .ok (.ishl, 1) := by decide +kernel
theorem dX5_plain_156 : decode cX5_plain 156 = .ok (.ior, 1) := by decide +kernel
theorem dX5_plain_157 : decode cX5_plain 157 = .ok (.iastore, 1) := by decide +kernel
theorem dX5_plain_158 : decode cX5_plain 158 = .ok (.iinc 1 1, 3) := by decide +kernel
theorem dX5_plain_161 : decode cX5_plain 161 = .ok (.goto (-52), 3) := by decide +kernel
theorem dX5_plain_164 : decode cX5_plain 164 = .ok (.return_, 1) := by decide +kernel
theorem dX5_isNear_0 : decode cX5_isNear 0 = .ok (.iconst 0, 1) := by decide +kernel
theorem dX5_isNear_1 : decode cX5_isNear 1 = .ok (.istore_n 3, 1) := by decide +kernel
theorem dX5_isNear_2 : decode cX5_isNear 2 = .ok (.iconst 0, 1) := by decide +kernel
theorem dX5_isNear_3 : decode cX5_isNear 3 = .ok (.istore 4, 2) := by decide +kernel
theorem dX5_isNear_5 : decode cX5_isNear 5 = .ok (.iload 4, 2) := by decide +kernel
theorem dX5_isNear_7 : decode cX5_isNear 7 = .ok (.aload_n 0, 1) := by decide +kernel
theorem dX5_isNear_8 : decode cX5_isNear 8 = .ok (.getfield 109, 3) := by decide +kernel
theorem dX5_isNear_11 : decode cX5_isNear 11 = .ok (.if_icmp .ge 60, 3) := by decide +kernel
theorem dX5_isNear_14 : decode cX5_isNear 14 = .ok (.iload_n 3, 1) := by decide +kernel
theorem dX5_isNear_15 : decode cX5_isNear 15 = .ok (.ifCond .ne 44, 3) := by decide +kernel
theorem dX5_isNear_18 : decode cX5_isNear 18 = .ok (.iload 4, 2) := by decide +kernel
theorem dX5_isNear_20 : decode cX5_isNear 20 = .ok (.iload_n 1, 1) := by decide +kernel
theorem dX5_isNear_21 : decode cX5_isNear 21 = .ok (.if_icmp .eq 42, 3) := by decide +kernel
theorem dX5_isNear_24 : decode cX5_isNear 24 = .ok (.iload_n 2, 1) := by decide +kernel
theorem dX5_isNear_25 : decode cX5_isNear 25 = .ok (.iload 4, 2) := by decide +kernel
theorem dX5_isNear_27 : decode cX5_isNear 27 = .ok (.invokestatic 157, 3) := by decide +kernel
theorem dX5_isNear_30 : decode cX5_isNear 30 = .ok (.ifCond .eq 33, 3) := by decide +kernel
theorem dX5_isNear_33 : decode cX5_isNear 33 = .ok (.aload_n 0, 1) := by decide +kernel
theorem dX5_isNear_34 : decode cX5_isNear 34 = .ok (.getfield 46, 3) := by decide +kernel
theorem dX5_isNear_37 : decode cX5_isNear 37 = .ok (.iload_n 1, 1) := by decide +kernel
theorem dX5_isNear_38 : decode cX5_isNear 38 = .ok (.iaload, 1) := by decide +kernel
theorem dX5_isNear_39 : decode cX5_isNear 39 = .ok (.aload_n 0, 1) := by decide +kernel
theorem dX5_isNear_40 : decode cX5_isNear 40 = .ok (.getfield 46, 3) := by decide +kernel
theorem dX5_isNear_43 : decode cX5_isNear 43 = .ok (.iload 4, 2) := by decide +kernel
theorem dX5_isNear_45 : decode cX5_isNear 45 = .ok (.iaload, 1) := by decide +kernel
theorem dX5_isNear_46 : decode cX5_isNear 46 = .ok (.isub, 1) := by decide +kernel
theorem dX5_isNear_47 : decode cX5_isNear 47 = .ok (.invokestatic 161, 3) := by decide +kernel
theorem dX5_isNear_50 : decode cX5_isNear 50 = .ok (.aload_n 0, 1) := by decide +kernel
theorem dX5_isNear_51 : decode cX5_isNear 51 = .ok (.getfield 52, 3) := by decide +kernel
theorem dX5_isNear_54 : decode cX5_isNear 54 = .ok (.iload_n 1, 1) := by decide +kernel
theorem dX5_isNear_55 : decode cX5_isNear 55 = .ok (.iaload, 1) := by decide +kernel
theorem dX5_isNear_56 : decode cX5_isNear 56 = .ok (.if_icmp .gt 7, 3) := by decide +kernel
theorem dX5_isNear_59 : decode cX5_isNear 59 = .ok (.iconst 1, 1) := by decide +kernel
theorem dX5_isNear_60 : decode cX5_isNear 60 = .ok (.goto 4, 3) := by decide +kernel
theorem dX5_isNear_63 : decode cX5_isNear 63 = .ok (.iconst 0, 1) := by decide +kernel
theorem dX5_isNear_64 : decode cX5_isNear 64 = .ok (.istore_n 3, 1) := by decide +kernel
theorem dX5_isNear_65 : decode cX5_isNear 65 = .ok (.iinc 4 1, 3) := by decide +kernel
theorem dX5_isNear_68 : decode cX5_isNear 68 = .ok (.goto (-63), 3) := by decide +kernel
theorem dX5_isNear_71 : decode cX5_isNear 71 = .ok (.iload_n 3, 1) := by decide +kernel
theorem dX5_isNear_72 : decode cX5_isNear 72 = .ok (.ireturn, 1) := by decide +kernel
theorem dX5_opensNow_0 : decode cX5_opensNow 0 = .ok (.aload_n 0, 1) := by decide +kernel
theorem dX5_opensNow_1 : decode cX5_opensNow 1 = .ok (.getfield 52, 3) := by decide +kernel
theorem dX5_opensNow_4 : decode cX5_opensNow 4 = .ok (.iload_n 2, 1) := by decide +kernel
theorem dX5_opensNow_5 : decode cX5_opensNow 5 = .ok (.iaload, 1) := by decide +kernel
theorem dX5_opensNow_6 : decode cX5_opensNow 6 = .ok (.istore_n 3, 1) := by decide +kernel
theorem dX5_opensNow_7 : decode cX5_opensNow 7 = .ok (.aload_n 0, 1) := by decide +kernel
theorem dX5_opensNow_8 : decode cX5_opensNow 8 = .ok (.getfield 49, 3) := by decide +kernel
theorem dX5_opensNow_11 : decode cX5_opensNow 11 = .ok (.iload_n 2, 1) := by decide +kernel
theorem dX5_opensNow_12 : decode cX5_opensNow 12 = .ok (.iaload, 1) := by decide +kernel
theorem dX5_opensNow_13 : decode cX5_opensNow 13 = .ok (.tableswitch 129 0 3 #[31, 62, 88, 104], 31) := by decide +kernel
theorem dX5_opensNow_44 : decode cX5_opensNow 44 = .ok (.aload_n 0, 1) := by decide +kernel
theorem dX5_opensNow_45 : decode cX5_opensNow 45 = .ok (.getfield 34, 3) := by decide +kernel
theorem dX5_opensNow_48 : decode cX5_opensNow 48 = .ok (.iconst 3, 1) := by decide +kernel
theorem dX5_opensNow_49 : decode cX5_opensNow 49 = .ok (.iload_n 1, 1) := by decide +kernel
theorem dX5_opensNow_50 : decode cX5_opensNow 50 = .ok (.imul, 1) := by decide +kernel
theorem dX5_opensNow_51 : decode cX5_opensNow 51 = .ok (.iaload, 1) := by decide +kernel
theorem dX5_opensNow_52 : decode cX5_opensNow 52 = .ok (.iload_n 2, 1) := by decide +kernel
theorem dX5_opensNow_53 : decode cX5_opensNow 53 = .ok (.invokestatic 157, 3) := by decide +kernel
theorem dX5_opensNow_56 : decode cX5_opensNow 56 = .ok (.ifCond .eq 17, 3) := by decide +kernel
theorem dX5_opensNow_59 : decode cX5_opensNow 59 = .ok (.aload_n 0, 1) := by decide +kernel
theorem dX5_opensNow_60 : decode cX5_opensNow 60 = .ok (.getfield 55, 3) := by decide +kernel
theorem dX5_opensNow_63 : decode cX5_opensNow 63 = .ok (.iload_n 2, 1) := by decide +kernel
theorem dX5_opensNow_64 : decode cX5_opensNow 64 = .ok (.iaload, 1) := by decide +kernel
theorem dX5_opensNow_65 : decode cX5_opensNow 65 = .ok (.iload_n 3, 1) := by decide +kernel
theorem dX5_opensNow_66 : decode cX5_opensNow 66 = .ok (.if_icmp .ne 7, 3) := by decide +kernel
theorem dX5_opensNow_69 : decode cX5_opensNow 69 = .ok (.iconst 1, 1) := by decide +kernel
theorem dX5_opensNow_70 : decode cX5_opensNow 70 = .ok (.goto 4, 3) := by decide +kernel
theorem dX5_opensNow_73 : decode cX5_opensNow 73 = .ok (.iconst 0, 1) := by decide +kernel
theorem dX5_opensNow_74 : decode cX5_opensNow 74 = .ok (.ireturn, 1) := by decide +kernel
theorem dX5_opensNow_75 : decode cX5_opensNow 75 = .ok (.iload_n 1, 1) := by decide +kernel
theorem dX5_opensNow_76 : decode cX5_opensNow 76 = .ok (.ifCond .le 23, 3) := by decide +kernel
theorem dX5_opensNow_79 : decode cX5_opensNow 79 = .ok (.aload_n 0, 1) := by decide +kernel
theorem dX5_opensNow_80 : decode cX5_opensNow 80 = .ok (.iload_n 2, 1) := by decide +kernel
theorem dX5_opensNow_81 : decode cX5_opensNow 81 = .ok (.aload_n 0, 1) := by decide +kernel
theorem dX5_opensNow_82 : decode cX5_opensNow 82 = .ok (.getfield 37, 3) := by decide +kernel
theorem dX5_opensNow_85 : decode cX5_opensNow 85 = .ok (.iload_n 1, 1) := by decide +kernel
theorem dX5_opensNow_86 : decode cX5_opensNow 86 = .ok (.iconst 1, 1) := by decide +kernel
theorem dX5_opensNow_87 : decode cX5_opensNow 87 = .ok (.isub, 1) := by decide +kernel
theorem dX5_opensNow_88 : decode cX5_opensNow 88 = .ok (.iaload, 1) := by decide +kernel
theorem dX5_opensNow_89 : decode cX5_opensNow 89 = .ok (.invokevirtual 164, 3) := by decide +kernel
theorem dX5_opensNow_92 : decode cX5_opensNow 92 = .ok (.ifCond .eq 7, 3) := by decide +kernel
theorem dX5_opensNow_95 : decode cX5_opensNow 95 = .ok (.iconst 1, 1) := by decide +kernel
theorem dX5_opensNow_96 : decode cX5_opensNow 96 = .ok (.goto 4, 3) := by decide +kernel
theorem dX5_opensNow_99 : decode cX5_opensNow 99 = .ok (.iconst 0, 1) := by decide +kernel
theorem dX5_opensNow_100 : decode cX5_opensNow 100 = .ok (.ireturn, 1) := by decide +kernel
theorem dX5_opensNow_101 : decode cX5_opensNow 101 = .ok (.aload_n 0, 1) := by decide +kernel
theorem dX5_opensNow_102 : decode cX5_opensNow 102 = .ok (.getfield 58, 3) := by decide +kernel
theorem dX5_opensNow_105 : decode cX5_opensNow 105 = .ok (.iload_n 2, 1) := by decide +kernel
theorem dX5_opensNow_106 : decode cX5_opensNow 106 = .ok (.iaload, 1) := by decide +kernel
theorem dX5_opensNow_107 : decode cX5_opensNow 107 = .ok (.iload_n 3, 1) := by decide +kernel
theorem dX5_opensNow_108 : decode cX5_opensNow 108 = .ok (.if_icmp .lt 7, 3) := by decide +kernel
theorem dX5_opensNow_111 : decode cX5_opensNow 111 = .ok (.iconst 1, 1) := by decide +kernel
theorem dX5_opensNow_112 : decode cX5_opensNow 112 = .ok (.goto 4, 3) := by decide +kernel
theorem dX5_opensNow_115 : decode cX5_opensNow 115 = .ok (.iconst 0, 1) := by decide +kernel
theorem dX5_opensNow_116 : decode cX5_opensNow 116 = .ok (.ireturn, 1) := by decide +kernel
theorem dX5_opensNow_117 : decode cX5_opensNow 117 = .ok (.iload_n 1, 1) := by decide +kernel
theorem dX5_opensNow_118 : decode cX5_opensNow 118 = .ok (.ifCond .le 22, 3) := by decide +kernel
theorem dX5_opensNow_121 : decode cX5_opensNow 121 = .ok (.aload_n 0, 1) := by decide +kernel
theorem dX5_opensNow_122 : decode cX5_opensNow 122 = .ok (.getfield 40, 3) := by decide +kernel
theorem dX5_opensNow_125 : decode cX5_opensNow 125 = .ok (.iload_n 1, 1) := by decide +kernel
theorem dX5_opensNow_126 : decode cX5_opensNow 126 = .ok (.iconst 1, 1) := by decide +kernel
theorem dX5_opensNow_127 : decode cX5_opensNow 127 = .ok (.isub, 1) := by decide +kernel
theorem dX5_opensNow_128 : decode cX5_opensNow 128 = .ok (.iaload, 1) := by decide +kernel
theorem dX5_opensNow_129 : decode cX5_opensNow 129 = .ok (.invokestatic 167, 3) := by decide +kernel
theorem dX5_opensNow_132 : decode cX5_opensNow 132 = .ok (.iload_n 3, 1) := by decide +kernel
theorem dX5_opensNow_133 : decode cX5_opensNow 133 = .ok (.if_icmp .lt 7, 3) := by decide +kernel
theorem dX5_opensNow_136 : decode cX5_opensNow 136 = .ok (.iconst 1, 1) := by decide +kernel
theorem dX5_opensNow_137 : decode cX5_opensNow 137 = .ok (.goto 4, 3) := by decide +kernel
theorem dX5_opensNow_140 : decode cX5_opensNow 140 = .ok (.iconst 0, 1) := by decide +kernel
theorem dX5_opensNow_141 : decode cX5_opensNow 141 = .ok (.ireturn, 1) := by decide +kernel
theorem dX5_opensNow_142 : decode cX5_opensNow 142 = .ok (.iconst 0, 1) := by decide +kernel
theorem dX5_opensNow_143 : decode cX5_opensNow 143 = .ok (.ireturn, 1) := by decide +kernel
theorem dX5_springAt_0 : decode cX5_springAt 0 = .ok (.iload_n 1, 1) := by decide +kernel
theorem dX5_springAt_1 : decode cX5_springAt 1 = .ok (.ifCond .ge 16, 3) := by decide +kernel
theorem dX5_springAt_4 : decode cX5_springAt 4 = .ok (.aload_n 0, 1) := by decide +kernel
theorem dX5_springAt_5 : decode cX5_springAt 5 = .ok (.getfield 25, 3) := by decide +kernel
theorem dX5_springAt_8 : decode cX5_springAt 8 = .ok (.iconst 3, 1) := by decide +kernel
theorem dX5_springAt_9 : decode cX5_springAt 9 = .ok (.iload_n 2, 1) := by decide +kernel
theorem dX5_springAt_10 : decode cX5_springAt 10 = .ok (.imul, 1) := by decide +kernel
theorem dX5_springAt_11 : decode cX5_springAt 11 = .ok (.iconst 2, 1) := by decide +kernel
theorem dX5_springAt_12 : decode cX5_springAt 12 = .ok (.iadd, 1) := by decide +kernel
theorem dX5_springAt_13 : decode cX5_springAt 13 = .ok (.iaload, 1) := by decide +kernel
theorem dX5_springAt_14 : decode cX5_springAt 14 = .ok (.goto 14, 3) := by decide +kernel
theorem dX5_springAt_17 : decode cX5_springAt 17 = .ok (.aload_n 0, 1) := by decide +kernel
theorem dX5_springAt_18 : decode cX5_springAt 18 = .ok (.getfield 43, 3) := by decide +kernel
theorem dX5_springAt_21 : decode cX5_springAt 21 = .ok (.bipush 9, 2) := by decide +kernel
theorem dX5_springAt_23 : decode cX5_springAt 23 = .ok (.iload_n 1, 1) := by decide +kernel
theorem dX5_springAt_24 : decode cX5_springAt 24 = .ok (.imul, 1) := by decide +kernel
theorem dX5_springAt_25 : decode cX5_springAt 25 = .ok (.iload_n 2, 1) := by decide +kernel
theorem dX5_springAt_26 : decode cX5_springAt 26 = .ok (.iadd, 1) := by decide +kernel
theorem dX5_springAt_27 : decode cX5_springAt 27 = .ok (.iaload, 1) := by decide +kernel
theorem dX5_springAt_28 : decode cX5_springAt 28 = .ok (.ireturn, 1) := by decide +kernel
theorem dX5_lives_0 : decode cX5_lives 0 = .ok (.iconst 0, 1) := by decide +kernel
theorem dX5_lives_1 : decode cX5_lives 1 = .ok (.istore_n 2, 1) := by decide +kernel
theorem dX5_lives_2 : decode cX5_lives 2 = .ok (.iload_n 2, 1) := by decide +kernel
theorem dX5_lives_3 : decode cX5_lives 3 = .ok (.aload_n 0, 1) := by decide +kernel
theorem dX5_lives_4 : decode cX5_lives 4 = .ok (.getfield 109, 3) := by decide +kernel
theorem dX5_lives_7 : decode cX5_lives 7 = .ok (.if_icmp .ge 23, 3) := by decide +kernel
theorem dX5_lives_10 : decode cX5_lives 10 = .ok (.aload_n 0, 1) := by decide +kernel
theorem dX5_lives_11 : decode cX5_lives 11 = .ok (.getfield 55, 3) := by decide +kernel
theorem dX5_lives_14 : decode cX5_lives 14 = .ok (.iload_n 2, 1) := by decide +kernel
theorem dX5_lives_15 : decode cX5_lives 15 = .ok (.iconst 0, 1) := by decide +kernel
theorem dX5_lives_16 : decode cX5_lives 16 = .ok (.iastore, 1) := by decide +kernel
theorem dX5_lives_17 : decode cX5_lives 17 = .ok (.aload_n 0, 1) := by decide +kernel
theorem dX5_lives_18 : decode cX5_lives 18 = .ok (.getfield 58, 3) := by decide +kernel
theorem dX5_lives_21 : decode cX5_lives 21 = .ok (.iload_n 2, 1) := by decide +kernel
theorem dX5_lives_22 : decode cX5_lives 22 = .ok (.iconst 0, 1) := by decide +kernel
theorem dX5_lives_23 : decode cX5_lives 23 = .ok (.iastore, 1) := by decide +kernel
theorem dX5_lives_24 : decode cX5_lives 24 = .ok (.iinc 2 1, 3) := by decide +kernel
theorem dX5_lives_27 : decode cX5_lives 27 = .ok (.goto (-25), 3) := by decide +kernel
theorem dX5_lives_30 : decode cX5_lives 30 = .ok (.iconst 0, 1) := by decide +kernel
theorem dX5_lives_31 : decode cX5_lives 31 = .ok (.istore_n 2, 1) := by decide +kernel
theorem dX5_lives_32 : decode cX5_lives 32 = .ok (.iload_n 2, 1) := by decide +kernel
theorem dX5_lives_33 : decode cX5_lives 33 = .ok (.iload_n 1, 1) := by decide +kernel
theorem dX5_lives_34 : decode cX5_lives 34 = .ok (.if_icmp .gt 354, 3) := by decide +kernel
theorem dX5_lives_37 : decode cX5_lives 37 = .ok (.iload_n 2, 1) := by decide +kernel
theorem dX5_lives_38 : decode cX5_lives 38 = .ok (.ifCond .ne 7, 3) := by decide +kernel
theorem dX5_lives_41 : decode cX5_lives 41 = .ok (.iconst 0, 1) := by decide +kernel
theorem dX5_lives_42 : decode cX5_lives 42 = .ok (.goto 11, 3) := by decide +kernel
theorem dX5_lives_45 : decode cX5_lives 45 = .ok (.aload_n 0, 1) := by decide +kernel
theorem dX5_lives_46 : decode cX5_lives 46 = .ok (.getfield 40, 3) := by decide +kernel
theorem dX5_lives_49 : decode cX5_lives 49 = .ok (.iload_n 2, 1) := by decide +kernel
theorem dX5_lives_50 : decode cX5_lives 50 = .ok (.iconst 1, 1) := by decide +kernel
theorem dX5_lives_51 : decode cX5_lives 51 = .ok (.isub, 1) := by decide +kernel
theorem dX5_lives_52 : decode cX5_lives 52 = .ok (.iaload, 1) := by decide +kernel
theorem dX5_lives_53 : decode cX5_lives 53 = .ok (.istore_n 3, 1) := by decide +kernel
theorem dX5_lives_54 : decode cX5_lives 54 = .ok (.iconst 0, 1) := by decide +kernel
theorem dX5_lives_55 : decode cX5_lives 55 = .ok (.istore 4, 2) := by decide +kernel
theorem dX5_lives_57 : decode cX5_lives 57 = .ok (.iconst 0, 1) := by decide +kernel
theorem dX5_lives_58 : decode cX5_lives 58 = .ok (.istore 5, 2) := by decide +kernel
theorem dX5_lives_60 : decode cX5_lives 60 = .ok (.iload 5, 2) := by decide +kernel
theorem dX5_lives_62 : decode cX5_lives 62 = .ok (.aload_n 0, 1) := by decide +kernel
theorem dX5_lives_63 : decode cX5_lives 63 = .ok (.getfield 109, 3) := by decide +kernel
theorem dX5_lives_66 : decode cX5_lives 66 = .ok (.if_icmp .ge 180, 3) := by decide +kernel
theorem dX5_lives_69 : decode cX5_lives 69 = .ok (.iload_n 3, 1) := by decide +kernel
theorem dX5_lives_70 : decode cX5_lives 70 = .ok (.iload 5, 2) := by decide +kernel
theorem dX5_lives_72 : decode cX5_lives 72 = .ok (.invokestatic 157, 3) := by decide +kernel
theorem dX5_lives_75 : decode cX5_lives 75 = .ok (.ifCond .ne 7, 3) := by decide +kernel
theorem dX5_lives_78 : decode cX5_lives 78 = .ok (.iconst 1, 1) := by decide +kernel
theorem dX5_lives_79 : decode cX5_lives 79 = .ok (.goto 4, 3) := by decide +kernel
theorem dX5_lives_82 : decode cX5_lives 82 = .ok (.iconst 0, 1) := by decide +kernel
theorem dX5_lives_83 : decode cX5_lives 83 = .ok (.istore 6, 2) := by decide +kernel
theorem dX5_lives_85 : decode cX5_lives 85 = .ok (.aload_n 0, 1) := by decide +kernel
theorem dX5_lives_86 : decode cX5_lives 86 = .ok (.getfield 55, 3) := by decide +kernel
theorem dX5_lives_89 : decode cX5_lives 89 = .ok (.iload 5, 2) := by decide +kernel
theorem dX5_lives_91 : decode cX5_lives 91 = .ok (.dup2, 1) := by decide +kernel
theorem dX5_lives_92 : decode cX5_lives 92 = .ok (.iaload, 1) := by decide +kernel
theorem dX5_lives_93 : decode cX5_lives 93 = .ok (.iload 6, 2) := by decide +kernel
theorem dX5_lives_95 : decode cX5_lives 95 = .ok (.ifCond .eq 35, 3) := by decide +kernel
theorem dX5_lives_98 : decode cX5_lives 98 = .ok (.aload_n 0, 1) := by decide +kernel
theorem dX5_lives_99 : decode cX5_lives 99 = .ok (.getfield 34, 3) := by decide +kernel
theorem dX5_lives_102 : decode cX5_lives 102 = .ok (.iconst 3, 1) := by decide +kernel
theorem dX5_lives_103 : decode cX5_lives 103 = .ok (.iload_n 2, 1) := by decide +kernel
theorem dX5_lives_104 : decode cX5_lives 104 = .ok (.imul, 1) := by decide +kernel
theorem dX5_lives_105 : decode cX5_lives 105 = .ok (.iaload, 1) := by decide +kernel
theorem dX5_lives_106 : decode cX5_lives 106 = .ok (.iload 5, 2) := by decide +kernel
theorem dX5_lives_108 : decode cX5_lives 108 = .ok (.invokestatic 157, 3) := by decide +kernel
theorem dX5_lives_111 : decode cX5_lives 111 = .ok (.ifCond .eq 19, 3) := by decide +kernel
theorem dX5_lives_114 : decode cX5_lives 114 = .ok (.aload_n 0, 1) := by decide +kernel
theorem dX5_lives_115 : decode cX5_lives 115 = .ok (.getfield 154, 3) := by decide +kernel
theorem dX5_lives_118 : decode cX5_lives 118 = .ok (.iload 5, 2) := by decide +kernel
theorem dX5_lives_120 : decode cX5_lives 120 = .ok (.invokestatic 157, 3) := by decide +kernel
theorem dX5_lives_123 : decode cX5_lives 123 = .ok (.ifCond .ne 7, 3) := by decide +kernel
theorem dX5_lives_126 : decode cX5_lives 126 = .ok (.iconst 1, 1) := by decide +kernel
theorem dX5_lives_127 : decode cX5_lives 127 = .ok (.goto 4, 3) := by decide +kernel
theorem dX5_lives_130 : decode cX5_lives 130 = .ok (.iconst 0, 1) := by decide +kernel
theorem dX5_lives_131 : decode cX5_lives 131 = .ok (.iadd, 1) := by decide +kernel
theorem dX5_lives_132 : decode cX5_lives 132 = .ok (.iastore, 1) := by decide +kernel
theorem dX5_lives_133 : decode cX5_lives 133 = .ok (.aload_n 0, 1) := by decide +kernel
theorem dX5_lives_134 : decode cX5_lives 134 = .ok (.getfield 58, 3) := by decide +kernel
theorem dX5_lives_137 : decode cX5_lives 137 = .ok (.iload 5, 2) := by decide +kernel
theorem dX5_lives_139 : decode cX5_lives 139 = .ok (.iload 6, 2) := by decide +kernel
theorem dX5_lives_141 : decode cX5_lives 141 = .ok (.ifCond .eq 33, 3) := by decide +kernel
theorem dX5_lives_144 : decode cX5_lives 144 = .ok (.aload_n 0, 1) := by decide +kernel
theorem dX5_lives_145 : decode cX5_lives 145 = .ok (.getfield 34, 3) := by decide +kernel
theorem dX5_lives_148 : decode cX5_lives 148 = .ok (.iconst 3, 1) := by decide +kernel
theorem dX5_lives_149 : decode cX5_lives 149 = .ok (.iload_n 2, 1) := by decide +kernel
theorem dX5_lives_150 : decode cX5_lives 150 = .ok (.imul, 1) := by decide +kernel
theorem dX5_lives_151 : decode cX5_lives 151 = .ok (.iconst 1, 1) := by decide +kernel
theorem dX5_lives_152 : decode cX5_lives 152 = .ok (.iadd, 1) := by decide +kernel
theorem dX5_lives_153 : decode cX5_lives 153 = .ok (.iaload, 1) := by decide +kernel
theorem dX5_lives_154 : decode cX5_lives 154 = .ok (.iload 5, 2) := by decide +kernel
theorem dX5_lives_156 : decode cX5_lives 156 = .ok (.invokestatic 157, 3) := by decide +kernel
theorem dX5_lives_159 : decode cX5_lives 159 = .ok (.ifCond .ne 15, 3) := by decide +kernel
theorem dX5_lives_162 : decode cX5_lives 162 = .ok (.aload_n 0, 1) := by decide +kernel
theorem dX5_lives_163 : decode cX5_lives 163 = .ok (.getfield 58, 3) := by decide +kernel
theorem dX5_lives_166 : decode cX5_lives 166 = .ok (.iload 5, 2) := by decide +kernel
theorem dX5_lives_168 : decode cX5_lives 168 = .ok (.iaload, 1) := by decide +kernel
theorem dX5_lives_169 : decode cX5_lives 169 = .ok (.iconst 1, 1) := by decide +kernel
theorem dX5_lives_170 : decode cX5_lives 170 = .ok (.iadd, 1) := by decide +kernel
theorem dX5_lives_171 : decode cX5_lives 171 = .ok (.goto 4, 3) := by decide +kernel
theorem dX5_lives_174 : decode cX5_lives 174 = .ok (.iconst 0, 1) := by decide +kernel
theorem dX5_lives_175 : decode cX5_lives 175 = .ok (.iastore, 1) := by decide +kernel
theorem dX5_lives_176 : decode cX5_lives 176 = .ok (.iload 6, 2) := by decide +kernel
theorem dX5_lives_178 : decode cX5_lives 178 = .ok (.ifCond .eq 31, 3) := by decide +kernel
theorem dX5_lives_181 : decode cX5_lives 181 = .ok (.aload_n 0, 1) := by decide +kernel
theorem dX5_lives_182 : decode cX5_lives 182 = .ok (.getfield 154, 3) := by decide +kernel
theorem dX5_lives_185 : decode cX5_lives 185 = .ok (.iload 5, 2) := by decide +kernel
theorem dX5_lives_187 : decode cX5_lives 187 = .ok (.invokestatic 157, 3) := by decide +kernel
theorem dX5_lives_190 : decode cX5_lives 190 = .ok (.ifCond .ne 19, 3) := by decide +kernel
theorem dX5_lives_193 : decode cX5_lives 193 = .ok (.aload_n 0, 1) := by decide +kernel
theorem dX5_lives_194 : decode cX5_lives 194 = .ok (.iload_n 2, 1) := by decide +kernel
theorem dX5_lives_195 : decode cX5_lives 195 = .ok (.iconst 1, 1) := by decide +kernel
theorem dX5_lives_196 : decode cX5_lives 196 = .ok (.isub, 1) := by decide +kernel
theorem dX5_lives_197 : decode cX5_lives 197 = .ok (.iload 5, 2) := by decide +kernel
theorem dX5_lives_199 : decode cX5_lives 199 = .ok (.invokevirtual 170, 3) := by decide +kernel
theorem dX5_lives_202 : decode cX5_lives 202 = .ok (.ifCond .le 7, 3) := by decide +kernel
theorem dX5_lives_205 : decode cX5_lives 205 = .ok (.iconst 1, 1) := by decide +kernel
theorem dX5_lives_206 : decode cX5_lives 206 = .ok (.goto 4, 3) := by decide +kernel
theorem dX5_lives_209 : decode cX5_lives 209 = .ok (.iconst 0, 1) := by decide +kernel
theorem dX5_lives_210 : decode cX5_lives 210 = .ok (.istore 7, 2) := by decide +kernel
theorem dX5_lives_212 : decode cX5_lives 212 = .ok (.iload 4, 2) := by decide +kernel
theorem dX5_lives_214 : decode cX5_lives 214 = .ok (.iload 7, 2) := by decide +kernel
theorem dX5_lives_216 : decode cX5_lives 216 = .ok (.ifCond .eq 20, 3) := by decide +kernel
theorem dX5_lives_219 : decode cX5_lives 219 = .ok (.aload_n 0, 1) := by decide +kernel
theorem dX5_lives_220 : decode cX5_lives 220 = .ok (.iload_n 2, 1) := by decide +kernel
theorem dX5_lives_221 : decode cX5_lives 221 = .ok (.iload 5, 2) := by decide +kernel
theorem dX5_lives_223 : decode cX5_lives 223 = .ok (.invokevirtual 173, 3) := by decide +kernel
theorem dX5_lives_226 : decode cX5_lives 226 = .ok (.ifCond .eq 10, 3) := by decide +kernel
theorem dX5_lives_229 : decode cX5_lives 229 = .ok (.iconst 1, 1) := by decide +kernel
theorem dX5_lives_230 : decode cX5_lives 230 = .ok (.iload 5, 2) := by decide +kernel
theorem dX5_lives_232 : decode cX5_lives 232 = .ok (.ishl, 1) := by decide +kernel
theorem dX5_lives_233 : decode cX5_lives 233 = .ok (.goto 4, 3) := by decide +kernel
theorem dX5_lives_236 : decode cX5_lives 236 = .ok (.iconst 0, 1) := by decide +kernel
theorem dX5_lives_237 : decode cX5_lives 237 = .ok (.ior, 1) := by decide +kernel
theorem dX5_lives_238 : decode cX5_lives 238 = .ok (.istore 4, 2) := by decide +kernel
theorem dX5_lives_240 : decode cX5_lives 240 = .ok (.iinc 5 1, 3) := by decide +kernel
theorem dX5_lives_243 : decode cX5_lives 243 = .ok (.goto (-183), 3) := by decide +kernel
theorem dX5_lives_246 : decode cX5_lives 246 = .ok (.iconst 0, 1) := by decide +kernel
theorem dX5_lives_247 : decode cX5_lives 247 = .ok (.istore 5, 2) := by decide +kernel
theorem dX5_lives_249 : decode cX5_lives 249 = .ok (.iload 5, 2) := by decide +kernel
theorem dX5_lives_251 : decode cX5_lives 251 = .ok (.aload_n 0, 1) := by decide +kernel
theorem dX5_lives_252 : decode cX5_lives 252 = .ok (.getfield 109, 3) := by decide +kernel
theorem dX5_lives_255 : decode cX5_lives 255 = .ok (.if_icmp .ge 96, 3) := by decide +kernel
theorem dX5_lives_258 : decode cX5_lives 258 = .ok (.iload 4, 2) := by decide +kernel
theorem dX5_lives_260 : decode cX5_lives 260 = .ok (.iload 5, 2) := by decide +kernel
theorem dX5_lives_262 : decode cX5_lives 262 = .ok (.invokestatic 157, 3) := by decide +kernel
theorem dX5_lives_265 : decode cX5_lives 265 = .ok (.istore 6, 2) := by decide +kernel
theorem dX5_lives_267 : decode cX5_lives 267 = .ok (.aload_n 0, 1) := by decide +kernel
theorem dX5_lives_268 : decode cX5_lives 268 = .ok (.getfield 43, 3) := by decide +kernel
theorem dX5_lives_271 : decode cX5_lives 271 = .ok (.bipush 9, 2) := by decide +kernel
theorem dX5_lives_273 : decode cX5_lives 273 = .ok (.iload_n 2, 1) := by decide +kernel
theorem dX5_lives_274 : decode cX5_lives 274 = .ok (.imul, 1) := by decide +kernel
theorem dX5_lives_275 : decode cX5_lives 275 = .ok (.iload 5, 2) := by decide +kernel
theorem dX5_lives_277 : decode cX5_lives 277 = .ok (.iadd, 1) := by decide +kernel
theorem dX5_lives_278 : decode cX5_lives 278 = .ok (.aload_n 0, 1) := by decide +kernel
theorem dX5_lives_279 : decode cX5_lives 279 = .ok (.iload_n 2, 1) := by decide +kernel
theorem dX5_lives_280 : decode cX5_lives 280 = .ok (.iconst 1, 1) := by decide +kernel
theorem dX5_lives_281 : decode cX5_lives 281 = .ok (.isub, 1) := by decide +kernel
theorem dX5_lives_282 : decode cX5_lives 282 = .ok (.iload 5, 2) := by decide +kernel
theorem dX5_lives_284 : decode cX5_lives 284 = .ok (.invokevirtual 170, 3) := by decide +kernel
theorem dX5_lives_287 : decode cX5_lives 287 = .ok (.iload 6, 2) := by decide +kernel
theorem dX5_lives_289 : decode cX5_lives 289 = .ok (.ifCond .eq 7, 3) := by decide +kernel
theorem dX5_lives_292 : decode cX5_lives 292 = .ok (.iconst 1, 1) := by decide +kernel
theorem dX5_lives_293 : decode cX5_lives 293 = .ok (.goto 4, 3) := by decide +kernel
theorem dX5_lives_296 : decode cX5_lives 296 = .ok (.iconst 0, 1) := by decide +kernel
theorem dX5_lives_297 : decode cX5_lives 297 = .ok (.isub, 1) := by decide +kernel
theorem dX5_lives_298 : decode cX5_lives 298 = .ok (.iastore, 1) := by decide +kernel
theorem dX5_lives_299 : decode cX5_lives 299 = .ok (.aload_n 0, 1) := by decide +kernel
theorem dX5_lives_300 : decode cX5_lives 300 = .ok (.getfield 55, 3) := by decide +kernel
theorem dX5_lives_303 : decode cX5_lives 303 = .ok (.iload 5, 2) := by decide +kernel
theorem dX5_lives_305 : decode cX5_lives 305 = .ok (.iload 6, 2) := by decide +kernel
theorem dX5_lives_307 : decode cX5_lives 307 = .ok (.ifCond .eq 7, 3) := by decide +kernel
theorem dX5_lives_310 : decode cX5_lives 310 = .ok (.iconst 0, 1) := by decide +kernel
theorem dX5_lives_311 : decode cX5_lives 311 = .ok (.goto 10, 3) := by decide +kernel
theorem dX5_lives_314 : decode cX5_lives 314 = .ok (.aload_n 0, 1) := by decide +kernel
theorem dX5_lives_315 : decode cX5_lives 315 = .ok (.getfield 55, 3) := by decide +kernel
theorem dX5_lives_318 : decode cX5_lives 318 = .ok (.iload 5, 2) := by decide +kernel
theorem dX5_lives_320 : decode cX5_lives 320 = .ok (.iaload, 1) := by decide +kernel
theorem dX5_lives_321 : decode cX5_lives 321 = .ok (.iastore, 1) := by decide +kernel
theorem dX5_lives_322 : decode cX5_lives 322 = .ok (.aload_n 0, 1) := by decide +kernel
theorem dX5_lives_323 : decode cX5_lives 323 = .ok (.getfield 58, 3) := by decide +kernel
theorem dX5_lives_326 : decode cX5_lives 326 = .ok (.iload 5, 2) := by decide +kernel
theorem dX5_lives_328 : decode cX5_lives 328 = .ok (.iload 6, 2) := by decide +kernel
theorem dX5_lives_330 : decode cX5_lives 330 = .ok (.ifCond .eq 7, 3) := by decide +kernel
theorem dX5_lives_333 : decode cX5_lives 333 = .ok (.iconst 0, 1) := by decide +kernel
theorem dX5_lives_334 : decode cX5_lives 334 = .ok (.goto 10, 3) := by decide +kernel
theorem dX5_lives_337 : decode cX5_lives 337 = .ok (.aload_n 0, 1) := by decide +kernel
theorem dX5_lives_338 : decode cX5_lives 338 = .ok (.getfield 58, 3) := by decide +kernel
theorem dX5_lives_341 : decode cX5_lives 341 = .ok (.iload 5, 2) := by decide +kernel
theorem dX5_lives_343 : decode cX5_lives 343 = .ok (.iaload, 1) := by decide +kernel
theorem dX5_lives_344 : decode cX5_lives 344 = .ok (.iastore, 1) := by decide +kernel
theorem dX5_lives_345 : decode cX5_lives 345 = .ok (.iinc 5 1, 3) := by decide +kernel
theorem dX5_lives_348 : decode cX5_lives 348 = .ok (.goto (-99), 3) := by decide +kernel
theorem dX5_lives_351 : decode cX5_lives 351 = .ok (.aload_n 0, 1) := by decide +kernel
theorem dX5_lives_352 : decode cX5_lives 352 = .ok (.getfield 37, 3) := by decide +kernel
theorem dX5_lives_355 : decode cX5_lives 355 = .ok (.iload_n 2, 1) := by decide +kernel
theorem dX5_lives_356 : decode cX5_lives 356 = .ok (.iload 4, 2) := by decide +kernel
theorem dX5_lives_358 : decode cX5_lives 358 = .ok (.iastore, 1) := by decide +kernel
theorem dX5_lives_359 : decode cX5_lives 359 = .ok (.aload_n 0, 1) := by decide +kernel
theorem dX5_lives_360 : decode cX5_lives 360 = .ok (.getfield 40, 3) := by decide +kernel
theorem dX5_lives_363 : decode cX5_lives 363 = .ok (.iload_n 2, 1) := by decide +kernel
theorem dX5_lives_364 : decode cX5_lives 364 = .ok (.iload_n 3, 1) := by decide +kernel
theorem dX5_lives_365 : decode cX5_lives 365 = .ok (.iload 4, 2) := by decide +kernel
theorem dX5_lives_367 : decode cX5_lives 367 = .ok (.ior, 1) := by decide +kernel
theorem dX5_lives_368 : decode cX5_lives 368 = .ok (.aload_n 0, 1) := by decide +kernel
theorem dX5_lives_369 : decode cX5_lives 369 = .ok (.getfield 34, 3) := by decide +kernel
theorem dX5_lives_372 : decode cX5_lives 372 = .ok (.iconst 3, 1) := by decide +kernel
theorem dX5_lives_373 : decode cX5_lives 373 = .ok (.iload_n 2, 1) := by decide +kernel
theorem dX5_lives_374 : decode cX5_lives 374 = .ok (.imul, 1) := by decide +kernel
theorem dX5_lives_375 : decode cX5_lives 375 = .ok (.iconst 2, 1) := by decide +kernel
theorem dX5_lives_376 : decode cX5_lives 376 = .ok (.iadd, 1) := by decide +kernel
theorem dX5_lives_377 : decode cX5_lives 377 = .ok (.iaload, 1) := by decide +kernel
theorem dX5_lives_378 : decode cX5_lives 378 = .ok (.iconst (-1), 1) := by decide +kernel
theorem dX5_lives_379 : decode cX5_lives 379 = .ok (.ixor, 1) := by decide +kernel
theorem dX5_lives_380 : decode cX5_lives 380 = .ok (.iand, 1) := by decide +kernel
theorem dX5_lives_381 : decode cX5_lives 381 = .ok (.iastore, 1) := by decide +kernel
theorem dX5_lives_382 : decode cX5_lives 382 = .ok (.iinc 2 1, 3) := by decide +kernel
theorem dX5_lives_385 : decode cX5_lives 385 = .ok (.goto (-353), 3) := by decide +kernel
theorem dX5_lives_388 : decode cX5_lives 388 = .ok (.return_, 1) := by decide +kernel
theorem dX5_find_0 : decode cX5_find 0 = .ok (.aload_n 0, 1) := by decide +kernel
theorem dX5_find_1 : decode cX5_find 1 = .ok (.invokevirtual 176, 3) := by decide +kernel
theorem dX5_find_4 : decode cX5_find 4 = .ok (.aload_n 0, 1) := by decide +kernel
theorem dX5_find_5 : decode cX5_find 5 = .ok (.bipush 59, 2) := by decide +kernel
theorem dX5_find_7 : decode cX5_find 7 = .ok (.invokevirtual 179, 3) := by decide +kernel
theorem dX5_find_10 : decode cX5_find 10 = .ok (.return_, 1) := by decide +kernel
theorem dX5_step_0 : decode cX5_step 0 = .ok (.aload_n 0, 1) := by decide +kernel
theorem dX5_step_1 : decode cX5_step 1 = .ok (.invokevirtual 183, 3) := by decide +kernel
theorem dX5_step_4 : decode cX5_step 4 = .ok (.iload_n 1, 1) := by decide +kernel
theorem dX5_step_5 : decode cX5_step 5 = .ok (.invokestatic 145, 3) := by decide +kernel
theorem dX5_step_8 : decode cX5_step 8 = .ok (.ifCond .eq 32, 3) := by decide +kernel
theorem dX5_step_11 : decode cX5_step 11 = .ok (.iload_n 2, 1) := by decide +kernel
theorem dX5_step_12 : decode cX5_step 12 = .ok (.invokestatic 186, 3) := by decide +kernel
theorem dX5_step_15 : decode cX5_step 15 = .ok (.ifCond .eq 25, 3) := by decide +kernel
theorem dX5_step_18 : decode cX5_step 18 = .ok (.iload_n 2, 1) := by decide +kernel
theorem dX5_step_19 : decode cX5_step 19 = .ok (.ifCond .ne 12, 3) := by decide +kernel
theorem dX5_step_22 : decode cX5_step 22 = .ok (.aload_n 0, 1) := by decide +kernel
theorem dX5_step_23 : decode cX5_step 23 = .ok (.getfield 37, 3) := by decide +kernel
theorem dX5_step_26 : decode cX5_step 26 = .ok (.iload_n 1, 1) := by decide +kernel
theorem dX5_step_27 : decode cX5_step 27 = .ok (.iaload, 1) := by decide +kernel
theorem dX5_step_28 : decode cX5_step 28 = .ok (.goto 14, 3) := by decide +kernel
theorem dX5_step_31 : decode cX5_step 31 = .ok (.aload_n 0, 1) := by decide +kernel
theorem dX5_step_32 : decode cX5_step 32 = .ok (.getfield 40, 3) := by decide +kernel
theorem dX5_step_35 : decode cX5_step 35 = .ok (.iload_n 1, 1) := by decide +kernel
theorem dX5_step_36 : decode cX5_step 36 = .ok (.iaload, 1) := by decide +kernel
theorem dX5_step_37 : decode cX5_step 37 = .ok (.goto 5, 3) := by decide +kernel
theorem dX5_step_40 : decode cX5_step 40 = .ok (.bipush (-2), 2) := by decide +kernel
theorem dX5_step_42 : decode cX5_step 42 = .ok (.ireturn, 1) := by decide +kernel
theorem dX5_spring_0 : decode cX5_spring 0 = .ok (.aload_n 0, 1) := by decide +kernel
theorem dX5_spring_1 : decode cX5_spring 1 = .ok (.invokevirtual 183, 3) := by decide +kernel
theorem dX5_spring_4 : decode cX5_spring 4 = .ok (.iload_n 1, 1) := by decide +kernel
theorem dX5_spring_5 : decode cX5_spring 5 = .ok (.invokestatic 145, 3) := by decide +kernel
theorem dX5_spring_8 : decode cX5_spring 8 = .ok (.ifCond .eq 25, 3) := by decide +kernel
theorem dX5_spring_11 : decode cX5_spring 11 = .ok (.aload_n 0, 1) := by decide +kernel
theorem dX5_spring_12 : decode cX5_spring 12 = .ok (.iload_n 2, 1) := by decide +kernel
theorem dX5_spring_13 : decode cX5_spring 13 = .ok (.invokevirtual 134, 3) := by decide +kernel
theorem dX5_spring_16 : decode cX5_spring 16 = .ok (.ifCond .eq 17, 3) := by decide +kernel
theorem dX5_spring_19 : decode cX5_spring 19 = .ok (.aload_n 0, 1) := by decide +kernel
theorem dX5_spring_20 : decode cX5_spring 20 = .ok (.getfield 43, 3) := by decide +kernel
theorem dX5_spring_23 : decode cX5_spring 23 = .ok (.bipush 9, 2) := by decide +kernel
theorem dX5_spring_25 : decode cX5_spring 25 = .ok (.iload_n 1, 1) := by decide +kernel
theorem dX5_spring_26 : decode cX5_spring 26 = .ok (.imul, 1) := by decide +kernel
theorem dX5_spring_27 : decode cX5_spring 27 = .ok (.iload_n 2, 1) := by decide +kernel
theorem dX5_spring_28 : decode cX5_spring 28 = .ok (.iadd, 1) := by decide +kernel
theorem dX5_spring_29 : decode cX5_spring 29 = .ok (.iaload, 1) := by decide +kernel
theorem dX5_spring_30 : decode cX5_spring 30 = .ok (.goto 5, 3) := by decide +kernel
theorem dX5_spring_33 : decode cX5_spring 33 = .ok (.bipush (-2), 2) := by decide +kernel
theorem dX5_spring_35 : decode cX5_spring 35 = .ok (.ireturn, 1) := by decide +kernel
theorem dX5_quietNow_0 : decode cX5_quietNow 0 = .ok (.bipush 60, 2) := by decide +kernel
theorem dX5_quietNow_2 : decode cX5_quietNow 2 = .ok (.istore_n 1, 1) := by decide +kernel
theorem dX5_quietNow_3 : decode cX5_quietNow 3 = .ok (.iload_n 1, 1) := by decide +kernel
theorem dX5_quietNow_4 : decode cX5_quietNow 4 = .ok (.ifCond .le 20, 3) := by decide +kernel
theorem dX5_quietNow_7 : decode cX5_quietNow 7 = .ok (.aload_n 0, 1) := by decide +kernel
theorem dX5_quietNow_8 : decode cX5_quietNow 8 = .ok (.getfield 37, 3) := by decide +kernel
theorem dX5_quietNow_11 : decode cX5_quietNow 11 = .ok (.iload_n 1, 1) := by decide +kernel
theorem dX5_quietNow_12 : decode cX5_quietNow 12 = .ok (.iconst 1, 1) := by decide +kernel
theorem dX5_quietNow_13 : decode cX5_quietNow 13 = .ok (.isub, 1) := by decide +kernel
theorem dX5_quietNow_14 : decode cX5_quietNow 14 = .ok (.iaload, 1) := by decide +kernel
theorem dX5_quietNow_15 : decode cX5_quietNow 15 = .ok (.ifCond .ne 9, 3) := by decide +kernel
theorem dX5_quietNow_18 : decode cX5_quietNow 18 = .ok (.iinc 1 (-1), 3) := by decide +kernel
theorem dX5_quietNow_21 : decode cX5_quietNow 21 = .ok (.goto (-18), 3) := by decide +kernel
theorem dX5_quietNow_24 : decode cX5_quietNow 24 = .ok (.iload_n 1, 1) := by decide +kernel
theorem dX5_quietNow_25 : decode cX5_quietNow 25 = .ok (.bipush 60, 2) := by decide +kernel
theorem dX5_quietNow_27 : decode cX5_quietNow 27 = .ok (.if_icmp .ne 7, 3) := by decide +kernel
theorem dX5_quietNow_30 : decode cX5_quietNow 30 = .ok (.iconst (-1), 1) := by decide +kernel
theorem dX5_quietNow_31 : decode cX5_quietNow 31 = .ok (.goto 4, 3) := by decide +kernel
theorem dX5_quietNow_34 : decode cX5_quietNow 34 = .ok (.iload_n 1, 1) := by decide +kernel
theorem dX5_quietNow_35 : decode cX5_quietNow 35 = .ok (.ireturn, 1) := by decide +kernel
theorem dX5_quiet_0 : decode cX5_quiet 0 = .ok (.aload_n 0, 1) := by decide +kernel
theorem dX5_quiet_1 : decode cX5_quiet 1 = .ok (.invokevirtual 183, 3) := by decide +kernel
theorem dX5_quiet_4 : decode cX5_quiet 4 = .ok (.aload_n 0, 1) := by decide +kernel
theorem dX5_quiet_5 : decode cX5_quiet 5 = .ok (.invokevirtual 189, 3) := by decide +kernel
theorem dX5_quiet_8 : decode cX5_quiet 8 = .ok (.ireturn, 1) := by decide +kernel
theorem dX5_loudestOf_0 : decode cX5_loudestOf 0 = .ok (.iconst 0, 1) := by decide +kernel
theorem dX5_loudestOf_1 : decode cX5_loudestOf 1 = .ok (.istore_n 2, 1) := by decide +kernel
theorem dX5_loudestOf_2 : decode cX5_loudestOf 2 = .ok (.iconst 1, 1) := by decide +kernel
theorem dX5_loudestOf_3 : decode cX5_loudestOf 3 = .ok (.istore_n 3, 1) := by decide +kernel
theorem dX5_loudestOf_4 : decode cX5_loudestOf 4 = .ok (.iload_n 3, 1) := by decide +kernel
theorem dX5_loudestOf_5 : decode cX5_loudestOf 5 = .ok (.bipush 60, 2) := by decide +kernel
theorem dX5_loudestOf_7 : decode cX5_loudestOf 7 = .ok (.if_icmp .ge 36, 3) := by decide +kernel
theorem dX5_loudestOf_10 : decode cX5_loudestOf 10 = .ok (.aload_n 0, 1) := by decide +kernel
theorem dX5_loudestOf_11 : decode cX5_loudestOf 11 = .ok (.getfield 37, 3) := by decide +kernel
theorem dX5_loudestOf_14 : decode cX5_loudestOf 14 = .ok (.iload_n 3, 1) := by decide +kernel
theorem dX5_loudestOf_15 : decode cX5_loudestOf 15 = .ok (.iaload, 1) := by decide +kernel
theorem dX5_loudestOf_16 : decode cX5_loudestOf 16 = .ok (.invokestatic 167, 3) := by decide +kernel
theorem dX5_loudestOf_19 : decode cX5_loudestOf 19 = .ok (.aload_n 0, 1) := by decide +kernel
theorem dX5_loudestOf_20 : decode cX5_loudestOf 20 = .ok (.getfield 37, 3) := by decide +kernel
theorem dX5_loudestOf_23 : decode cX5_loudestOf 23 = .ok (.iload_n 2, 1) := by decide +kernel
theorem dX5_loudestOf_24 : decode cX5_loudestOf 24 = .ok (.iaload, 1) := by decide +kernel
theorem dX5_loudestOf_25 : decode cX5_loudestOf 25 = .ok (.invokestatic 167, 3) := by decide +kernel
theorem dX5_loudestOf_28 : decode cX5_loudestOf 28 = .ok (.if_icmp .le 7, 3) := by decide +kernel
theorem dX5_loudestOf_31 : decode cX5_loudestOf 31 = .ok (.iload_n 3, 1) := by decide +kernel
theorem dX5_loudestOf_32 : decode cX5_loudestOf 32 = .ok (.goto 4, 3) := by decide +kernel
theorem dX5_loudestOf_35 : decode cX5_loudestOf 35 = .ok (.iload_n 2, 1) := by decide +kernel
theorem dX5_loudestOf_36 : decode cX5_loudestOf 36 = .ok (.istore_n 2, 1) := by decide +kernel
theorem dX5_loudestOf_37 : decode cX5_loudestOf 37 = .ok (.iinc 3 1, 3) := by decide +kernel
theorem dX5_loudestOf_40 : decode cX5_loudestOf 40 = .ok (.goto (-36), 3) := by decide +kernel
theorem dX5_loudestOf_43 : decode cX5_loudestOf 43 = .ok (.aload_n 0, 1) := by decide +kernel
theorem dX5_loudestOf_44 : decode cX5_loudestOf 44 = .ok (.getfield 37, 3) := by decide +kernel
theorem dX5_loudestOf_47 : decode cX5_loudestOf 47 = .ok (.iload_n 2, 1) := by decide +kernel
theorem dX5_loudestOf_48 : decode cX5_loudestOf 48 = .ok (.iaload, 1) := by decide +kernel
theorem dX5_loudestOf_49 : decode cX5_loudestOf 49 = .ok (.ifCond .ne 7, 3) := by decide +kernel
theorem dX5_loudestOf_52 : decode cX5_loudestOf 52 = .ok (.iconst (-1), 1) := by decide +kernel
theorem dX5_loudestOf_53 : decode cX5_loudestOf 53 = .ok (.goto 20, 3) := by decide +kernel
theorem dX5_loudestOf_56 : decode cX5_loudestOf 56 = .ok (.iload_n 1, 1) := by decide +kernel
theorem dX5_loudestOf_57 : decode cX5_loudestOf 57 = .ok (.ifCond .ne 7, 3) := by decide +kernel
theorem dX5_loudestOf_60 : decode cX5_loudestOf 60 = .ok (.iload_n 2, 1) := by decide +kernel
theorem dX5_loudestOf_61 : decode cX5_loudestOf 61 = .ok (.goto 12, 3) := by decide +kernel
theorem dX5_loudestOf_64 : decode cX5_loudestOf 64 = .ok (.aload_n 0, 1) := by decide +kernel
theorem dX5_loudestOf_65 : decode cX5_loudestOf 65 = .ok (.getfield 37, 3) := by decide +kernel
theorem dX5_loudestOf_68 : decode cX5_loudestOf 68 = .ok (.iload_n 2, 1) := by decide +kernel
theorem dX5_loudestOf_69 : decode cX5_loudestOf 69 = .ok (.iaload, 1) := by decide +kernel
theorem dX5_loudestOf_70 : decode cX5_loudestOf 70 = .ok (.invokestatic 167, 3) := by decide +kernel
theorem dX5_loudestOf_73 : decode cX5_loudestOf 73 = .ok (.ireturn, 1) := by decide +kernel
theorem dX5_loudest_0 : decode cX5_loudest 0 = .ok (.aload_n 0, 1) := by decide +kernel
theorem dX5_loudest_1 : decode cX5_loudest 1 = .ok (.invokevirtual 183, 3) := by decide +kernel
theorem dX5_loudest_4 : decode cX5_loudest 4 = .ok (.iload_n 1, 1) := by decide +kernel
theorem dX5_loudest_5 : decode cX5_loudest 5 = .ok (.invokestatic 186, 3) := by decide +kernel
theorem dX5_loudest_8 : decode cX5_loudest 8 = .ok (.ifCond .eq 11, 3) := by decide +kernel
theorem dX5_loudest_11 : decode cX5_loudest 11 = .ok (.aload_n 0, 1) := by decide +kernel
theorem dX5_loudest_12 : decode cX5_loudest 12 = .ok (.iload_n 1, 1) := by decide +kernel
theorem dX5_loudest_13 : decode cX5_loudest 13 = .ok (.invokevirtual 192, 3) := by decide +kernel
theorem dX5_loudest_16 : decode cX5_loudest 16 = .ok (.goto 5, 3) := by decide +kernel
theorem dX5_loudest_19 : decode cX5_loudest 19 = .ok (.bipush (-2), 2) := by decide +kernel
theorem dX5_loudest_21 : decode cX5_loudest 21 = .ok (.ireturn, 1) := by decide +kernel
theorem dX5_firstOf_0 : decode cX5_firstOf 0 = .ok (.iconst 0, 1) := by decide +kernel
theorem dX5_firstOf_1 : decode cX5_firstOf 1 = .ok (.istore_n 2, 1) := by decide +kernel
theorem dX5_firstOf_2 : decode cX5_firstOf 2 = .ok (.iload_n 2, 1) := by decide +kernel
theorem dX5_firstOf_3 : decode cX5_firstOf 3 = .ok (.bipush 60, 2) := by decide +kernel
theorem dX5_firstOf_5 : decode cX5_firstOf 5 = .ok (.if_icmp .ge 24, 3) := by decide +kernel
theorem dX5_firstOf_8 : decode cX5_firstOf 8 = .ok (.aload_n 0, 1) := by decide +kernel
theorem dX5_firstOf_9 : decode cX5_firstOf 9 = .ok (.getfield 37, 3) := by decide +kernel
theorem dX5_firstOf_12 : decode cX5_firstOf 12 = .ok (.iload_n 2, 1) := by decide +kernel
theorem dX5_firstOf_13 : decode cX5_firstOf 13 = .ok (.iaload, 1) := by decide +kernel
theorem dX5_firstOf_14 : decode cX5_firstOf 14 = .ok (.iload_n 1, 1) := by decide +kernel
theorem dX5_firstOf_15 : decode cX5_firstOf 15 = .ok (.invokestatic 157, 3) := by decide +kernel
theorem dX5_firstOf_18 : decode cX5_firstOf 18 = .ok (.ifCond .eq 5, 3) := by decide +kernel
theorem dX5_firstOf_21 : decode cX5_firstOf 21 = .ok (.iload_n 2, 1) := by decide +kernel
theorem dX5_firstOf_22 : decode cX5_firstOf 22 = .ok (.ireturn, 1) := by decide +kernel
theorem dX5_firstOf_23 : decode cX5_firstOf 23 = .ok (.iinc 2 1, 3) := by decide +kernel
theorem dX5_firstOf_26 : decode cX5_firstOf 26 = .ok (.goto (-24), 3) := by decide +kernel
theorem dX5_firstOf_29 : decode cX5_firstOf 29 = .ok (.iconst (-1), 1) := by decide +kernel
theorem dX5_firstOf_30 : decode cX5_firstOf 30 = .ok (.ireturn, 1) := by decide +kernel
theorem dX5_first_0 : decode cX5_first 0 = .ok (.aload_n 0, 1) := by decide +kernel
theorem dX5_first_1 : decode cX5_first 1 = .ok (.invokevirtual 183, 3) := by decide +kernel
theorem dX5_first_4 : decode cX5_first 4 = .ok (.aload_n 0, 1) := by decide +kernel
theorem dX5_first_5 : decode cX5_first 5 = .ok (.iload_n 1, 1) := by decide +kernel
theorem dX5_first_6 : decode cX5_first 6 = .ok (.invokevirtual 134, 3) := by decide +kernel
theorem dX5_first_9 : decode cX5_first 9 = .ok (.ifCond .eq 11, 3) := by decide +kernel
theorem dX5_first_12 : decode cX5_first 12 = .ok (.aload_n 0, 1) := by decide +kernel
theorem dX5_first_13 : decode cX5_first 13 = .ok (.iload_n 1, 1) := by decide +kernel
theorem dX5_first_14 : decode cX5_first 14 = .ok (.invokevirtual 195, 3) := by decide +kernel
theorem dX5_first_17 : decode cX5_first 17 = .ok (.goto 5, 3) := by decide +kernel
theorem dX5_first_20 : decode cX5_first 20 = .ok (.bipush (-2), 2) := by decide +kernel
theorem dX5_first_22 : decode cX5_first 22 = .ok (.ireturn, 1) := by decide +kernel
theorem dX5_areTwo_0 : decode cX5_areTwo 0 = .ok (.aload_n 0, 1) := by decide +kernel
theorem dX5_areTwo_1 : decode cX5_areTwo 1 = .ok (.iload_n 1, 1) := by decide +kernel
theorem dX5_areTwo_2 : decode cX5_areTwo 2 = .ok (.invokevirtual 134, 3) := by decide +kernel
theorem dX5_areTwo_5 : decode cX5_areTwo 5 = .ok (.ifCond .eq 20, 3) := by decide +kernel
theorem dX5_areTwo_8 : decode cX5_areTwo 8 = .ok (.aload_n 0, 1) := by decide +kernel
theorem dX5_areTwo_9 : decode cX5_areTwo 9 = .ok (.iload_n 2, 1) := by decide +kernel
theorem dX5_areTwo_10 : decode cX5_areTwo 10 = .ok (.invokevirtual 134, 3) := by decide +kernel
theorem dX5_areTwo_13 : decode cX5_areTwo 13 = .ok (.ifCond .eq 12, 3) := by decide +kernel
theorem dX5_areTwo_16 : decode cX5_areTwo 16 = .ok (.iload_n 1, 1) := by decide +kernel
theorem dX5_areTwo_17 : decode cX5_areTwo 17 = .ok (.iload_n 2, 1) := by decide +kernel
theorem dX5_areTwo_18 : decode cX5_areTwo 18 = .ok (.if_icmp .eq 7, 3) := by decide +kernel
theorem dX5_areTwo_21 : decode cX5_areTwo 21 = .ok (.iconst 1, 1) := by decide +kernel
theorem dX5_areTwo_22 : decode cX5_areTwo 22 = .ok (.goto 4, 3) := by decide +kernel
theorem dX5_areTwo_25 : decode cX5_areTwo 25 = .ok (.iconst 0, 1) := by decide +kernel
theorem dX5_areTwo_26 : decode cX5_areTwo 26 = .ok (.ireturn, 1) := by decide +kernel
theorem dX5_togetherOf_0 : decode cX5_togetherOf 0 = .ok (.iconst 0, 1) := by decide +kernel
theorem dX5_togetherOf_1 : decode cX5_togetherOf 1 = .ok (.istore_n 3, 1) := by decide +kernel
theorem dX5_togetherOf_2 : decode cX5_togetherOf 2 = .ok (.iconst 0, 1) := by decide +kernel
theorem dX5_togetherOf_3 : decode cX5_togetherOf 3 = .ok (.istore 4, 2) := by decide +kernel
theorem dX5_togetherOf_5 : decode cX5_togetherOf 5 = .ok (.iload 4, 2) := by decide +kernel
theorem dX5_togetherOf_7 : decode cX5_togetherOf 7 = .ok (.bipush 60, 2) := by decide +kernel
theorem dX5_togetherOf_9 : decode cX5_togetherOf 9 = .ok (.if_icmp .ge 45, 3) := by decide +kernel
theorem dX5_togetherOf_12 : decode cX5_togetherOf 12 = .ok (.iload_n 3, 1) := by decide +kernel
theorem dX5_togetherOf_13 : decode cX5_togetherOf 13 = .ok (.aload_n 0, 1) := by decide +kernel
theorem dX5_togetherOf_14 : decode cX5_togetherOf 14 = .ok (.getfield 40, 3) := by decide +kernel
theorem dX5_togetherOf_17 : decode cX5_togetherOf 17 = .ok (.iload 4, 2) := by decide +kernel
theorem dX5_togetherOf_19 : decode cX5_togetherOf 19 = .ok (.iaload, 1) := by decide +kernel
theorem dX5_togetherOf_20 : decode cX5_togetherOf 20 = .ok (.iload_n 1, 1) := by decide +kernel
theorem dX5_togetherOf_21 : decode cX5_togetherOf 21 = .ok (.invokestatic 157, 3) := by decide +kernel
theorem dX5_togetherOf_24 : decode cX5_togetherOf 24 = .ok (.ifCond .eq 21, 3) := by decide +kernel
theorem dX5_togetherOf_27 : decode cX5_togetherOf 27 = .ok (.aload_n 0, 1) := by decide +kernel
theorem dX5_togetherOf_28 : decode cX5_togetherOf 28 = .ok (.getfield 40, 3) := by decide +kernel
theorem dX5_togetherOf_31 : decode cX5_togetherOf 31 = .ok (.iload 4, 2) := by decide +kernel
theorem dX5_togetherOf_33 : decode cX5_togetherOf 33 = .ok (.iaload, 1) := by decide +kernel
theorem dX5_togetherOf_34 : decode cX5_togetherOf 34 = .ok (.iload_n 2, 1) := by decide +kernel
theorem dX5_togetherOf_35 : decode cX5_togetherOf 35 = .ok (.invokestatic 157, 3) := by decide +kernel
theorem dX5_togetherOf_38 : decode cX5_togetherOf 38 = .ok (.ifCond .eq 7, 3) := by decide +kernel
theorem dX5_togetherOf_41 : decode cX5_togetherOf 41 = .ok (.iconst 1, 1) := by decide +kernel
theorem dX5_togetherOf_42 : decode cX5_togetherOf 42 = .ok (.goto 4, 3) := by decide +kernel
theorem dX5_togetherOf_45 : decode cX5_togetherOf 45 = .ok (.iconst 0, 1) := by decide +kernel
theorem dX5_togetherOf_46 : decode cX5_togetherOf 46 = .ok (.iadd, 1) := by decide +kernel
theorem dX5_togetherOf_47 : decode cX5_togetherOf 47 = .ok (.istore_n 3, 1) := by decide +kernel
theorem dX5_togetherOf_48 : decode cX5_togetherOf 48 = .ok (.iinc 4 1, 3) := by decide +kernel
theorem dX5_togetherOf_51 : decode cX5_togetherOf 51 = .ok (.goto (-46), 3) := by decide +kernel
theorem dX5_togetherOf_54 : decode cX5_togetherOf 54 = .ok (.iload_n 3, 1) := by decide +kernel
theorem dX5_togetherOf_55 : decode cX5_togetherOf 55 = .ok (.ireturn, 1) := by decide +kernel
theorem dX5_together_0 : decode cX5_together 0 = .ok (.aload_n 0, 1) := by decide +kernel
theorem dX5_together_1 : decode cX5_together 1 = .ok (.invokevirtual 183, 3) := by decide +kernel
theorem dX5_together_4 : decode cX5_together 4 = .ok (.aload_n 0, 1) := by decide +kernel
theorem dX5_together_5 : decode cX5_together 5 = .ok (.iload_n 1, 1) := by decide +kernel
theorem dX5_together_6 : decode cX5_together 6 = .ok (.iload_n 2, 1) := by decide +kernel
theorem dX5_together_7 : decode cX5_together 7 = .ok (.invokevirtual 198, 3) := by decide +kernel
theorem dX5_together_10 : decode cX5_together 10 = .ok (.ifCond .eq 12, 3) := by decide +kernel
theorem dX5_together_13 : decode cX5_together 13 = .ok (.aload_n 0, 1) := by decide +kernel
theorem dX5_together_14 : decode cX5_together 14 = .ok (.iload_n 1, 1) := by decide +kernel
theorem dX5_together_15 : decode cX5_together 15 = .ok (.iload_n 2, 1) := by decide +kernel
theorem dX5_together_16 : decode cX5_together 16 = .ok (.invokevirtual 201, 3) := by decide +kernel
theorem dX5_together_19 : decode cX5_together 19 = .ok (.goto 5, 3) := by decide +kernel
theorem dX5_together_22 : decode cX5_together 22 = .ok (.bipush (-2), 2) := by decide +kernel
theorem dX5_together_24 : decode cX5_together 24 = .ok (.ireturn, 1) := by decide +kernel
theorem dX5_haveIt_0 : decode cX5_haveIt 0 = .ok (.iconst 1, 1) := by decide +kernel
theorem dX5_haveIt_1 : decode cX5_haveIt 1 = .ok (.iload_n 1, 1) := by decide +kernel
theorem dX5_haveIt_2 : decode cX5_haveIt 2 = .ok (.ishl, 1) := by decide +kernel
theorem dX5_haveIt_3 : decode cX5_haveIt 3 = .ok (.istore 4, 2) := by decide +kernel
theorem dX5_haveIt_5 : decode cX5_haveIt 5 = .ok (.iload_n 2, 1) := by decide +kernel
theorem dX5_haveIt_6 : decode cX5_haveIt 6 = .ok (.istore 5, 2) := by decide +kernel
theorem dX5_haveIt_8 : decode cX5_haveIt 8 = .ok (.iload 5, 2) := by decide +kernel
theorem dX5_haveIt_10 : decode cX5_haveIt 10 = .ok (.iload_n 3, 1) := by decide +kernel
theorem dX5_haveIt_11 : decode cX5_haveIt 11 = .ok (.if_icmp .gt 38, 3) := by decide +kernel
theorem dX5_haveIt_14 : decode cX5_haveIt 14 = .ok (.iload 4, 2) := by decide +kernel
theorem dX5_haveIt_16 : decode cX5_haveIt 16 = .ok (.aload_n 0, 1) := by decide +kernel
theorem dX5_haveIt_17 : decode cX5_haveIt 17 = .ok (.getfield 40, 3) := by decide +kernel
theorem dX5_haveIt_20 : decode cX5_haveIt 20 = .ok (.iload 5, 2) := by decide +kernel
theorem dX5_haveIt_22 : decode cX5_haveIt 22 = .ok (.iaload, 1) := by decide +kernel
theorem dX5_haveIt_23 : decode cX5_haveIt 23 = .ok (.iload 4, 2) := by decide +kernel
theorem dX5_haveIt_25 : decode cX5_haveIt 25 = .ok (.iand, 1) := by decide +kernel
theorem dX5_haveIt_26 : decode cX5_haveIt 26 = .ok (.ifCond .eq 13, 3) := by decide +kernel
theorem dX5_haveIt_29 : decode cX5_haveIt 29 = .ok (.aload_n 0, 1) := by decide +kernel
theorem dX5_haveIt_30 : decode cX5_haveIt 30 = .ok (.getfield 40, 3) := by decide +kernel
theorem dX5_haveIt_33 : decode cX5_haveIt 33 = .ok (.iload 5, 2) := by decide +kernel
theorem dX5_haveIt_35 : decode cX5_haveIt 35 = .ok (.iaload, 1) := by decide +kernel
theorem dX5_haveIt_36 : decode cX5_haveIt 36 = .ok (.goto 4, 3) := by decide +kernel
theorem dX5_haveIt_39 : decode cX5_haveIt 39 = .ok (.iconst 0, 1) := by decide +kernel
theorem dX5_haveIt_40 : decode cX5_haveIt 40 = .ok (.ior, 1) := by decide +kernel
theorem dX5_haveIt_41 : decode cX5_haveIt 41 = .ok (.istore 4, 2) := by decide +kernel
theorem dX5_haveIt_43 : decode cX5_haveIt 43 = .ok (.iinc 5 1, 3) := by decide +kernel
theorem dX5_haveIt_46 : decode cX5_haveIt 46 = .ok (.goto (-38), 3) := by decide +kernel
theorem dX5_haveIt_49 : decode cX5_haveIt 49 = .ok (.iload 4, 2) := by decide +kernel
theorem dX5_haveIt_51 : decode cX5_haveIt 51 = .ok (.ireturn, 1) := by decide +kernel
theorem dX5_newsOf_0 : decode cX5_newsOf 0 = .ok (.iload_n 2, 1) := by decide +kernel
theorem dX5_newsOf_1 : decode cX5_newsOf 1 = .ok (.istore 4, 2) := by decide +kernel
theorem dX5_newsOf_3 : decode cX5_newsOf 3 = .ok (.iload 4, 2) := by decide +kernel
theorem dX5_newsOf_5 : decode cX5_newsOf 5 = .ok (.bipush 60, 2) := by decide +kernel
theorem dX5_newsOf_7 : decode cX5_newsOf 7 = .ok (.if_icmp .ge 27, 3) := by decide +kernel
theorem dX5_newsOf_10 : decode cX5_newsOf 10 = .ok (.aload_n 0, 1) := by decide +kernel
theorem dX5_newsOf_11 : decode cX5_newsOf 11 = .ok (.iload_n 1, 1) := by decide +kernel
theorem dX5_newsOf_12 : decode cX5_newsOf 12 = .ok (.iload_n 2, 1) := by decide +kernel
theorem dX5_newsOf_13 : decode cX5_newsOf 13 = .ok (.iload 4, 2) := by decide +kernel
theorem dX5_newsOf_15 : decode cX5_newsOf 15 = .ok (.invokevirtual 204, 3) := by decide +kernel
theorem dX5_newsOf_18 : decode cX5_newsOf 18 = .ok (.iload_n 3, 1) := by decide +kernel
theorem dX5_newsOf_19 : decode cX5_newsOf 19 = .ok (.invokestatic 157, 3) := by decide +kernel
theorem dX5_newsOf_22 : decode cX5_newsOf 22 = .ok (.ifCond .eq 6, 3) := by decide +kernel
theorem dX5_newsOf_25 : decode cX5_newsOf 25 = .ok (.iload 4, 2) := by decide +kernel
theorem dX5_newsOf_27 : decode cX5_newsOf 27 = .ok (.ireturn, 1) := by decide +kernel
theorem dX5_newsOf_28 : decode cX5_newsOf 28 = .ok (.iinc 4 1, 3) := by decide +kernel
theorem dX5_newsOf_31 : decode cX5_newsOf 31 = .ok (.goto (-28), 3) := by decide +kernel
theorem dX5_newsOf_34 : decode cX5_newsOf 34 = .ok (.iconst (-1), 1) := by decide +kernel
theorem dX5_newsOf_35 : decode cX5_newsOf 35 = .ok (.ireturn, 1) := by decide +kernel
theorem dX5_news_0 : decode cX5_news 0 = .ok (.aload_n 0, 1) := by decide +kernel
theorem dX5_news_1 : decode cX5_news 1 = .ok (.invokevirtual 183, 3) := by decide +kernel
theorem dX5_news_4 : decode cX5_news 4 = .ok (.aload_n 0, 1) := by decide +kernel
theorem dX5_news_5 : decode cX5_news 5 = .ok (.iload_n 1, 1) := by decide +kernel
theorem dX5_news_6 : decode cX5_news 6 = .ok (.iload_n 3, 1) := by decide +kernel
theorem dX5_news_7 : decode cX5_news 7 = .ok (.invokevirtual 198, 3) := by decide +kernel
theorem dX5_news_10 : decode cX5_news 10 = .ok (.ifCond .eq 20, 3) := by decide +kernel
theorem dX5_news_13 : decode cX5_news 13 = .ok (.iload_n 2, 1) := by decide +kernel
theorem dX5_news_14 : decode cX5_news 14 = .ok (.invokestatic 145, 3) := by decide +kernel
theorem dX5_news_17 : decode cX5_news 17 = .ok (.ifCond .eq 13, 3) := by decide +kernel
theorem dX5_news_20 : decode cX5_news 20 = .ok (.aload_n 0, 1) := by decide +kernel
theorem dX5_news_21 : decode cX5_news 21 = .ok (.iload_n 1, 1) := by decide +kernel
theorem dX5_news_22 : decode cX5_news 22 = .ok (.iload_n 2, 1) := by decide +kernel
theorem dX5_news_23 : decode cX5_news 23 = .ok (.iload_n 3, 1) := by decide +kernel
theorem dX5_news_24 : decode cX5_news 24 = .ok (.invokevirtual 207, 3) := by decide +kernel
theorem dX5_news_27 : decode cX5_news 27 = .ok (.goto 5, 3) := by decide +kernel
theorem dX5_news_30 : decode cX5_news 30 = .ok (.bipush (-2), 2) := by decide +kernel
theorem dX5_news_32 : decode cX5_news 32 = .ok (.ireturn, 1) := by decide +kernel
theorem dX5_hears_0 : decode cX5_hears 0 = .ok (.aload_n 0, 1) := by decide +kernel
theorem dX5_hears_1 : decode cX5_hears 1 = .ok (.invokevirtual 183, 3) := by decide +kernel
theorem dX5_hears_4 : decode cX5_hears 4 = .ok (.aload_n 0, 1) := by decide +kernel
theorem dX5_hears_5 : decode cX5_hears 5 = .ok (.iload_n 1, 1) := by decide +kernel
theorem dX5_hears_6 : decode cX5_hears 6 = .ok (.invokevirtual 134, 3) := by decide +kernel
theorem dX5_hears_9 : decode cX5_hears 9 = .ok (.ifCond .eq 21, 3) := by decide +kernel
theorem dX5_hears_12 : decode cX5_hears 12 = .ok (.iload_n 2, 1) := by decide +kernel
theorem dX5_hears_13 : decode cX5_hears 13 = .ok (.invokestatic 145, 3) := by decide +kernel
theorem dX5_hears_16 : decode cX5_hears 16 = .ok (.ifCond .eq 14, 3) := by decide +kernel
theorem dX5_hears_19 : decode cX5_hears 19 = .ok (.aload_n 0, 1) := by decide +kernel
theorem dX5_hears_20 : decode cX5_hears 20 = .ok (.iload_n 1, 1) := by decide +kernel
theorem dX5_hears_21 : decode cX5_hears 21 = .ok (.iload_n 2, 1) := by decide +kernel
theorem dX5_hears_22 : decode cX5_hears 22 = .ok (.bipush 59, 2) := by decide +kernel
theorem dX5_hears_24 : decode cX5_hears 24 = .ok (.invokevirtual 204, 3) := by decide +kernel
theorem dX5_hears_27 : decode cX5_hears 27 = .ok (.goto 5, 3) := by decide +kernel
theorem dX5_hears_30 : decode cX5_hears 30 = .ok (.bipush (-2), 2) := by decide +kernel
theorem dX5_hears_32 : decode cX5_hears 32 = .ok (.ireturn, 1) := by decide +kernel
theorem dX5_tells_0 : decode cX5_tells 0 = .ok (.iload_n 0, 1) := by decide +kernel
theorem dX5_tells_1 : decode cX5_tells 1 = .ok (.iconst (-1), 1) := by decide +kernel
theorem dX5_tells_2 : decode cX5_tells 2 = .ok (.if_icmp .eq 8, 3) := by decide +kernel
theorem dX5_tells_5 : decode cX5_tells 5 = .ok (.iload_n 1, 1) := by decide +kernel
theorem dX5_tells_6 : decode cX5_tells 6 = .ok (.iconst 1, 1) := by decide +kernel
theorem dX5_tells_7 : decode cX5_tells 7 = .ok (.if_icmp .ne 7, 3) := by decide +kernel
theorem dX5_tells_10 : decode cX5_tells 10 = .ok (.iload_n 0, 1) := by decide +kernel
theorem dX5_tells_11 : decode cX5_tells 11 = .ok (.goto 7, 3) := by decide +kernel
theorem dX5_tells_14 : decode cX5_tells 14 = .ok (.iload_n 0, 1) := by decide +kernel
theorem dX5_tells_15 : decode cX5_tells 15 = .ok (.invokestatic 167, 3) := by decide +kernel
theorem dX5_tells_18 : decode cX5_tells 18 = .ok (.ireturn, 1) := by decide +kernel
theorem dX5_hushOf_0 : decode cX5_hushOf 0 = .ok (.iconst (-1), 1) := by decide +kernel
theorem dX5_hushOf_1 : decode cX5_hushOf 1 = .ok (.istore_n 2, 1) := by decide +kernel
theorem dX5_hushOf_2 : decode cX5_hushOf 2 = .ok (.iconst 0, 1) := by decide +kernel
theorem dX5_hushOf_3 : decode cX5_hushOf 3 = .ok (.istore_n 3, 1) := by decide +kernel
theorem dX5_hushOf_4 : decode cX5_hushOf 4 = .ok (.iload_n 3, 1) := by decide +kernel
theorem dX5_hushOf_5 : decode cX5_hushOf 5 = .ok (.iconst 1, 1) := by decide +kernel
theorem dX5_hushOf_6 : decode cX5_hushOf 6 = .ok (.aload_n 0, 1) := by decide +kernel
theorem dX5_hushOf_7 : decode cX5_hushOf 7 = .ok (.getfield 109, 3) := by decide +kernel
theorem dX5_hushOf_10 : decode cX5_hushOf 10 = .ok (.ishl, 1) := by decide +kernel
theorem dX5_hushOf_11 : decode cX5_hushOf 11 = .ok (.if_icmp .ge 64, 3) := by decide +kernel
theorem dX5_hushOf_14 : decode cX5_hushOf 14 = .ok (.iload_n 3, 1) := by decide +kernel
theorem dX5_hushOf_15 : decode cX5_hushOf 15 = .ok (.aload_n 0, 1) := by decide +kernel
theorem dX5_hushOf_16 : decode cX5_hushOf 16 = .ok (.getfield 142, 3) := by decide +kernel
theorem dX5_hushOf_19 : decode cX5_hushOf 19 = .ok (.iand, 1) := by decide +kernel
theorem dX5_hushOf_20 : decode cX5_hushOf 20 = .ok (.ifCond .ne 49, 3) := by decide +kernel
theorem dX5_hushOf_23 : decode cX5_hushOf 23 = .ok (.iload_n 2, 1) := by decide +kernel
theorem dX5_hushOf_24 : decode cX5_hushOf 24 = .ok (.iconst (-1), 1) := by decide +kernel
theorem dX5_hushOf_25 : decode cX5_hushOf 25 = .ok (.if_icmp .eq 14, 3) := by decide +kernel
theorem dX5_hushOf_28 : decode cX5_hushOf 28 = .ok (.iload_n 3, 1) := by decide +kernel
theorem dX5_hushOf_29 : decode cX5_hushOf 29 = .ok (.invokestatic 167, 3) := by decide +kernel
theorem dX5_hushOf_32 : decode cX5_hushOf 32 = .ok (.iload_n 2, 1) := by decide +kernel
theorem dX5_hushOf_33 : decode cX5_hushOf 33 = .ok (.invokestatic 167, 3) := by decide +kernel
theorem dX5_hushOf_36 : decode cX5_hushOf 36 = .ok (.if_icmp .ge 33, 3) := by decide +kernel
theorem dX5_hushOf_39 : decode cX5_hushOf 39 = .ok (.aload_n 0, 1) := by decide +kernel
theorem dX5_hushOf_40 : decode cX5_hushOf 40 = .ok (.aload_n 0, 1) := by decide +kernel
theorem dX5_hushOf_41 : decode cX5_hushOf 41 = .ok (.getfield 142, 3) := by decide +kernel
theorem dX5_hushOf_44 : decode cX5_hushOf 44 = .ok (.iload_n 3, 1) := by decide +kernel
theorem dX5_hushOf_45 : decode cX5_hushOf 45 = .ok (.ior, 1) := by decide +kernel
theorem dX5_hushOf_46 : decode cX5_hushOf 46 = .ok (.putfield 154, 3) := by decide +kernel
theorem dX5_hushOf_49 : decode cX5_hushOf 49 = .ok (.aload_n 0, 1) := by decide +kernel
theorem dX5_hushOf_50 : decode cX5_hushOf 50 = .ok (.iload_n 1, 1) := by decide +kernel
theorem dX5_hushOf_51 : decode cX5_hushOf 51 = .ok (.invokevirtual 179, 3) := by decide +kernel
theorem dX5_hushOf_54 : decode cX5_hushOf 54 = .ok (.aload_n 0, 1) := by decide +kernel
theorem dX5_hushOf_55 : decode cX5_hushOf 55 = .ok (.getfield 40, 3) := by decide +kernel
theorem dX5_hushOf_58 : decode cX5_hushOf 58 = .ok (.iload_n 1, 1) := by decide +kernel
theorem dX5_hushOf_59 : decode cX5_hushOf 59 = .ok (.iaload, 1) := by decide +kernel
theorem dX5_hushOf_60 : decode cX5_hushOf 60 = .ok (.ifCond .ne 7, 3) := by decide +kernel
theorem dX5_hushOf_63 : decode cX5_hushOf 63 = .ok (.iload_n 3, 1) := by decide +kernel
theorem dX5_hushOf_64 : decode cX5_hushOf 64 = .ok (.goto 4, 3) := by decide +kernel
theorem dX5_hushOf_67 : decode cX5_hushOf 67 = .ok (.iload_n 2, 1) := by decide +kernel
theorem dX5_hushOf_68 : decode cX5_hushOf 68 = .ok (.istore_n 2, 1) := by decide +kernel
theorem dX5_hushOf_69 : decode cX5_hushOf 69 = .ok (.iinc 3 1, 3) := by decide +kernel
theorem dX5_hushOf_72 : decode cX5_hushOf 72 = .ok (.goto (-68), 3) := by decide +kernel
theorem dX5_hushOf_75 : decode cX5_hushOf 75 = .ok (.aload_n 0, 1) := by decide +kernel
theorem dX5_hushOf_76 : decode cX5_hushOf 76 = .ok (.aload_n 0, 1) := by decide +kernel
theorem dX5_hushOf_77 : decode cX5_hushOf 77 = .ok (.getfield 142, 3) := by decide +kernel
theorem dX5_hushOf_80 : decode cX5_hushOf 80 = .ok (.putfield 154, 3) := by decide +kernel
theorem dX5_hushOf_83 : decode cX5_hushOf 83 = .ok (.aload_n 0, 1) := by decide +kernel
theorem dX5_hushOf_84 : decode cX5_hushOf 84 = .ok (.bipush 59, 2) := by decide +kernel
theorem dX5_hushOf_86 : decode cX5_hushOf 86 = .ok (.invokevirtual 179, 3) := by decide +kernel
theorem dX5_hushOf_89 : decode cX5_hushOf 89 = .ok (.iload_n 2, 1) := by decide +kernel
theorem dX5_hushOf_90 : decode cX5_hushOf 90 = .ok (.ireturn, 1) := by decide +kernel
theorem dX5_hush_0 : decode cX5_hush 0 = .ok (.aload_n 0, 1) := by decide +kernel
theorem dX5_hush_1 : decode cX5_hush 1 = .ok (.invokevirtual 183, 3) := by decide +kernel
theorem dX5_hush_4 : decode cX5_hush 4 = .ok (.iload_n 1, 1) := by decide +kernel
theorem dX5_hush_5 : decode cX5_hush 5 = .ok (.invokestatic 145, 3) := by decide +kernel
theorem dX5_hush_8 : decode cX5_hush 8 = .ok (.ifCond .eq 22, 3) := by decide +kernel
theorem dX5_hush_11 : decode cX5_hush 11 = .ok (.iload_n 2, 1) := by decide +kernel
theorem dX5_hush_12 : decode cX5_hush 12 = .ok (.invokestatic 186, 3) := by decide +kernel
theorem dX5_hush_15 : decode cX5_hush 15 = .ok (.ifCond .eq 15, 3) := by decide +kernel
theorem dX5_hush_18 : decode cX5_hush 18 = .ok (.aload_n 0, 1) := by decide +kernel
theorem dX5_hush_19 : decode cX5_hush 19 = .ok (.iload_n 1, 1) := by decide +kernel
theorem dX5_hush_20 : decode cX5_hush 20 = .ok (.invokevirtual 210, 3) := by decide +kernel
theorem dX5_hush_23 : decode cX5_hush 23 = .ok (.iload_n 2, 1) := by decide +kernel
theorem dX5_hush_24 : decode cX5_hush 24 = .ok (.invokestatic 213, 3) := by decide +kernel
theorem dX5_hush_27 : decode cX5_hush 27 = .ok (.goto 5, 3) := by decide +kernel
theorem dX5_hush_30 : decode cX5_hush 30 = .ok (.bipush (-2), 2) := by decide +kernel
theorem dX5_hush_32 : decode cX5_hush 32 = .ok (.ireturn, 1) := by decide +kernel
theorem dX5_unfolds_0 : decode cX5_unfolds 0 = .ok (.iload_n 2, 1) := by decide +kernel
theorem dX5_unfolds_1 : decode cX5_unfolds 1 = .ok (.istore_n 3, 1) := by decide +kernel
theorem dX5_unfolds_2 : decode cX5_unfolds 2 = .ok (.iload_n 1, 1) := by decide +kernel
theorem dX5_unfolds_3 : decode cX5_unfolds 3 = .ok (.iconst 1, 1) := by decide +kernel
theorem dX5_unfolds_4 : decode cX5_unfolds 4 = .ok (.isub, 1) := by decide +kernel
theorem dX5_unfolds_5 : decode cX5_unfolds 5 = .ok (.istore 4, 2) := by decide +kernel
theorem dX5_unfolds_7 : decode cX5_unfolds 7 = .ok (.iload 4, 2) := by decide +kernel
theorem dX5_unfolds_9 : decode cX5_unfolds 9 = .ok (.ifCond .lt 29, 3) := by decide +kernel
theorem dX5_unfolds_12 : decode cX5_unfolds 12 = .ok (.aload_n 0, 1) := by decide +kernel
theorem dX5_unfolds_13 : decode cX5_unfolds 13 = .ok (.getfield 61, 3) := by decide +kernel
theorem dX5_unfolds_16 : decode cX5_unfolds 16 = .ok (.iload 4, 2) := by decide +kernel
theorem dX5_unfolds_18 : decode cX5_unfolds 18 = .ok (.iload_n 3, 1) := by decide +kernel
theorem dX5_unfolds_19 : decode cX5_unfolds 19 = .ok (.iload_n 1, 1) := by decide +kernel
theorem dX5_unfolds_20 : decode cX5_unfolds 20 = .ok (.iload 4, 2) := by decide +kernel
theorem dX5_unfolds_22 : decode cX5_unfolds 22 = .ok (.isub, 1) := by decide +kernel
theorem dX5_unfolds_23 : decode cX5_unfolds 23 = .ok (.irem, 1) := by decide +kernel
theorem dX5_unfolds_24 : decode cX5_unfolds 24 = .ok (.iastore, 1) := by decide +kernel
theorem dX5_unfolds_25 : decode cX5_unfolds 25 = .ok (.iload_n 3, 1) := by decide +kernel
theorem dX5_unfolds_26 : decode cX5_unfolds 26 = .ok (.iload_n 1, 1) := by decide +kernel
theorem dX5_unfolds_27 : decode cX5_unfolds 27 = .ok (.iload 4, 2) := by decide +kernel
theorem dX5_unfolds_29 : decode cX5_unfolds 29 = .ok (.isub, 1) := by decide +kernel
theorem dX5_unfolds_30 : decode cX5_unfolds 30 = .ok (.idiv, 1) := by decide +kernel
theorem dX5_unfolds_31 : decode cX5_unfolds 31 = .ok (.istore_n 3, 1) := by decide +kernel
theorem dX5_unfolds_32 : decode cX5_unfolds 32 = .ok (.iinc 4 (-1), 3) := by decide +kernel
theorem dX5_unfolds_35 : decode cX5_unfolds 35 = .ok (.goto (-28), 3) := by decide +kernel
theorem dX5_unfolds_38 : decode cX5_unfolds 38 = .ok (.iload_n 1, 1) := by decide +kernel
theorem dX5_unfolds_39 : decode cX5_unfolds 39 = .ok (.iconst 1, 1) := by decide +kernel
theorem dX5_unfolds_40 : decode cX5_unfolds 40 = .ok (.isub, 1) := by decide +kernel
theorem dX5_unfolds_41 : decode cX5_unfolds 41 = .ok (.istore 4, 2) := by decide +kernel
theorem dX5_unfolds_43 : decode cX5_unfolds 43 = .ok (.iload 4, 2) := by decide +kernel
theorem dX5_unfolds_45 : decode cX5_unfolds 45 = .ok (.ifCond .lt 59, 3) := by decide +kernel
theorem dX5_unfolds_48 : decode cX5_unfolds 48 = .ok (.iload 4, 2) := by decide +kernel
theorem dX5_unfolds_50 : decode cX5_unfolds 50 = .ok (.iconst 1, 1) := by decide +kernel
theorem dX5_unfolds_51 : decode cX5_unfolds 51 = .ok (.iadd, 1) := by decide +kernel
theorem dX5_unfolds_52 : decode cX5_unfolds 52 = .ok (.istore 5, 2) := by decide +kernel
theorem dX5_unfolds_54 : decode cX5_unfolds 54 = .ok (.iload 5, 2) := by decide +kernel
theorem dX5_unfolds_56 : decode cX5_unfolds 56 = .ok (.iload_n 1, 1) := by decide +kernel
theorem dX5_unfolds_57 : decode cX5_unfolds 57 = .ok (.if_icmp .ge 41, 3) := by decide +kernel
theorem dX5_unfolds_60 : decode cX5_unfolds 60 = .ok (.aload_n 0, 1) := by decide +kernel
theorem dX5_unfolds_61 : decode cX5_unfolds 61 = .ok (.getfield 61, 3) := by decide +kernel
theorem dX5_unfolds_64 : decode cX5_unfolds 64 = .ok (.iload 5, 2) := by decide +kernel
theorem dX5_unfolds_66 : decode cX5_unfolds 66 = .ok (.dup2, 1) := by decide +kernel
theorem dX5_unfolds_67 : decode cX5_unfolds 67 = .ok (.iaload, 1) := by decide +kernel
theorem dX5_unfolds_68 : decode cX5_unfolds 68 = .ok (.aload_n 0, 1) := by decide +kernel
theorem dX5_unfolds_69 : decode cX5_unfolds 69 = .ok (.getfield 61, 3) := by decide +kernel
theorem dX5_unfolds_72 : decode cX5_unfolds 72 = .ok (.iload 5, 2) := by decide +kernel
theorem dX5_unfolds_74 : decode cX5_unfolds 74 = .ok (.iaload, 1) := by decide +kernel
theorem dX5_unfolds_75 : decode cX5_unfolds 75 = .ok (.aload_n 0, 1) := by decide +kernel
theorem dX5_unfolds_76 : decode cX5_unfolds 76 = .ok (.getfield 61, 3) := by decide +kernel
theorem dX5_unfolds_79 : decode cX5_unfolds 79 = .ok (.iload 4, 2) := by decide +kernel
theorem dX5_unfolds_81 : decode cX5_unfolds 81 = .ok (.iaload, 1) := by decide +kernel
theorem dX5_unfolds_82 : decode cX5_unfolds 82 = .ok (.if_icmp .lt 7, 3) := by decide +kernel
theorem dX5_unfolds_85 : decode cX5_unfolds 85 = .ok (.iconst 1, 1) := by decide +kernel
theorem dX5_unfolds_86 : decode cX5_unfolds 86 = .ok (.goto 4, 3) := by decide +kernel
theorem dX5_unfolds_89 : decode cX5_unfolds 89 = .ok (.iconst 0, 1) := by decide +kernel
theorem dX5_unfolds_90 : decode cX5_unfolds 90 = .ok (.iadd, 1) := by decide +kernel
theorem dX5_unfolds_91 : decode cX5_unfolds 91 = .ok (.iastore, 1) := by decide +kernel
theorem dX5_unfolds_92 : decode cX5_unfolds 92 = .ok (.iinc 5 1, 3) := by decide +kernel
theorem dX5_unfolds_95 : decode cX5_unfolds 95 = .ok (.goto (-41), 3) := by decide +kernel
theorem dX5_unfolds_98 : decode cX5_unfolds 98 = .ok (.iinc 4 (-1), 3) := by decide +kernel
theorem dX5_unfolds_101 : decode cX5_unfolds 101 = .ok (.goto (-58), 3) := by decide +kernel
theorem dX5_unfolds_104 : decode cX5_unfolds 104 = .ok (.return_, 1) := by decide +kernel
theorem dX5_opened_0 : decode cX5_opened 0 = .ok (.iconst 0, 1) := by decide +kernel
theorem dX5_opened_1 : decode cX5_opened 1 = .ok (.istore_n 2, 1) := by decide +kernel
theorem dX5_opened_2 : decode cX5_opened 2 = .ok (.iconst 0, 1) := by decide +kernel
theorem dX5_opened_3 : decode cX5_opened 3 = .ok (.istore_n 3, 1) := by decide +kernel
theorem dX5_opened_4 : decode cX5_opened 4 = .ok (.iload_n 3, 1) := by decide +kernel
theorem dX5_opened_5 : decode cX5_opened 5 = .ok (.iload_n 1, 1) := by decide +kernel
theorem dX5_opened_6 : decode cX5_opened 6 = .ok (.if_icmp .gt 21, 3) := by decide +kernel
theorem dX5_opened_9 : decode cX5_opened 9 = .ok (.iload_n 2, 1) := by decide +kernel
theorem dX5_opened_10 : decode cX5_opened 10 = .ok (.aload_n 0, 1) := by decide +kernel
theorem dX5_opened_11 : decode cX5_opened 11 = .ok (.getfield 37, 3) := by decide +kernel
theorem dX5_opened_14 : decode cX5_opened 14 = .ok (.iload_n 3, 1) := by decide +kernel
theorem dX5_opened_15 : decode cX5_opened 15 = .ok (.iaload, 1) := by decide +kernel
theorem dX5_opened_16 : decode cX5_opened 16 = .ok (.invokestatic 167, 3) := by decide +kernel
theorem dX5_opened_19 : decode cX5_opened 19 = .ok (.iadd, 1) := by decide +kernel
theorem dX5_opened_20 : decode cX5_opened 20 = .ok (.istore_n 2, 1) := by decide +kernel
theorem dX5_opened_21 : decode cX5_opened 21 = .ok (.iinc 3 1, 3) := by decide +kernel
theorem dX5_opened_24 : decode cX5_opened 24 = .ok (.goto (-20), 3) := by decide +kernel
theorem dX5_opened_27 : decode cX5_opened 27 = .ok (.iload_n 2, 1) := by decide +kernel
theorem dX5_opened_28 : decode cX5_opened 28 = .ok (.ireturn, 1) := by decide +kernel
theorem dX5_findShelf_0 : decode cX5_findShelf 0 = .ok (.iconst 1, 1) := by decide +kernel
theorem dX5_findShelf_1 : decode cX5_findShelf 1 = .ok (.istore_n 3, 1) := by decide +kernel
theorem dX5_findShelf_2 : decode cX5_findShelf 2 = .ok (.iconst 2, 1) := by decide +kernel
theorem dX5_findShelf_3 : decode cX5_findShelf 3 = .ok (.istore 4, 2) := by decide +kernel
theorem dX5_findShelf_5 : decode cX5_findShelf 5 = .ok (.iload 4, 2) := by decide +kernel
theorem dX5_findShelf_7 : decode cX5_findShelf 7 = .ok (.iload_n 1, 1) := by decide +kernel
theorem dX5_findShelf_8 : decode cX5_findShelf 8 = .ok (.if_icmp .gt 14, 3) := by decide +kernel
theorem dX5_findShelf_11 : decode cX5_findShelf 11 = .ok (.iload_n 3, 1) := by decide +kernel
theorem dX5_findShelf_12 : decode cX5_findShelf 12 = .ok (.iload 4, 2) := by decide +kernel
theorem dX5_findShelf_14 : decode cX5_findShelf 14 = .ok (.imul, 1) := by decide +kernel
theorem dX5_findShelf_15 : decode cX5_findShelf 15 = .ok (.istore_n 3, 1) := by decide +kernel
theorem dX5_findShelf_16 : decode cX5_findShelf 16 = .ok (.iinc 4 1, 3) := by decide +kernel
theorem dX5_findShelf_19 : decode cX5_findShelf 19 = .ok (.goto (-14), 3) := by decide +kernel
theorem dX5_findShelf_22 : decode cX5_findShelf 22 = .ok (.iconst 0, 1) := by decide +kernel
theorem dX5_findShelf_23 : decode cX5_findShelf 23 = .ok (.istore 4, 2) := by decide +kernel
theorem dX5_findShelf_25 : decode cX5_findShelf 25 = .ok (.iload 4, 2) := by decide +kernel
theorem dX5_findShelf_27 : decode cX5_findShelf 27 = .ok (.bipush 9, 2) := by decide +kernel
theorem dX5_findShelf_29 : decode cX5_findShelf 29 = .ok (.if_icmp .ge 18, 3) := by decide +kernel
theorem dX5_findShelf_32 : decode cX5_findShelf 32 = .ok (.aload_n 0, 1) := by decide +kernel
theorem dX5_findShelf_33 : decode cX5_findShelf 33 = .ok (.getfield 46, 3) := by decide +kernel
theorem dX5_findShelf_36 : decode cX5_findShelf 36 = .ok (.iload 4, 2) := by decide +kernel
theorem dX5_findShelf_38 : decode cX5_findShelf 38 = .ok (.iload 4, 2) := by decide +kernel
theorem dX5_findShelf_40 : decode cX5_findShelf 40 = .ok (.iastore, 1) := by decide +kernel
theorem dX5_findShelf_41 : decode cX5_findShelf 41 = .ok (.iinc 4 1, 3) := by decide +kernel
theorem dX5_findShelf_44 : decode cX5_findShelf 44 = .ok (.goto (-19), 3) := by decide +kernel
theorem dX5_findShelf_47 : decode cX5_findShelf 47 = .ok (.iconst (-1), 1) := by decide +kernel
theorem dX5_findShelf_48 : decode cX5_findShelf 48 = .ok (.istore 4, 2) := by decide +kernel
theorem dX5_findShelf_50 : decode cX5_findShelf 50 = .ok (.iconst 0, 1) := by decide +kernel
theorem dX5_findShelf_51 : decode cX5_findShelf 51 = .ok (.istore 5, 2) := by decide +kernel
theorem dX5_findShelf_53 : decode cX5_findShelf 53 = .ok (.iload 5, 2) := by decide +kernel
theorem dX5_findShelf_55 : decode cX5_findShelf 55 = .ok (.iload_n 3, 1) := by decide +kernel
theorem dX5_findShelf_56 : decode cX5_findShelf 56 = .ok (.if_icmp .ge 119, 3) := by decide +kernel
theorem dX5_findShelf_59 : decode cX5_findShelf 59 = .ok (.aload_n 0, 1) := by decide +kernel
theorem dX5_findShelf_60 : decode cX5_findShelf 60 = .ok (.iload_n 1, 1) := by decide +kernel
theorem dX5_findShelf_61 : decode cX5_findShelf 61 = .ok (.iload 5, 2) := by decide +kernel
theorem dX5_findShelf_63 : decode cX5_findShelf 63 = .ok (.invokevirtual 216, 3) := by decide +kernel
theorem dX5_findShelf_66 : decode cX5_findShelf 66 = .ok (.iconst 0, 1) := by decide +kernel
theorem dX5_findShelf_67 : decode cX5_findShelf 67 = .ok (.istore 6, 2) := by decide +kernel
theorem dX5_findShelf_69 : decode cX5_findShelf 69 = .ok (.iload 6, 2) := by decide +kernel
theorem dX5_findShelf_71 : decode cX5_findShelf 71 = .ok (.iload_n 1, 1) := by decide +kernel
theorem dX5_findShelf_72 : decode cX5_findShelf 72 = .ok (.if_icmp .ge 23, 3) := by decide +kernel
theorem dX5_findShelf_75 : decode cX5_findShelf 75 = .ok (.aload_n 0, 1) := by decide +kernel
theorem dX5_findShelf_76 : decode cX5_findShelf 76 = .ok (.getfield 46, 3) := by decide +kernel
theorem dX5_findShelf_79 : decode cX5_findShelf 79 = .ok (.aload_n 0, 1) := by decide +kernel
theorem dX5_findShelf_80 : decode cX5_findShelf 80 = .ok (.getfield 61, 3) := by decide +kernel
theorem dX5_findShelf_83 : decode cX5_findShelf 83 = .ok (.iload 6, 2) := by decide +kernel
theorem dX5_findShelf_85 : decode cX5_findShelf 85 = .ok (.iaload, 1) := by decide +kernel
theorem dX5_findShelf_86 : decode cX5_findShelf 86 = .ok (.iload 6, 2) := by decide +kernel
theorem dX5_findShelf_88 : decode cX5_findShelf 88 = .ok (.iastore, 1) := by decide +kernel
theorem dX5_findShelf_89 : decode cX5_findShelf 89 = .ok (.iinc 6 1, 3) := by decide +kernel
theorem dX5_findShelf_92 : decode cX5_findShelf 92 = .ok (.goto (-23), 3) := by decide +kernel
theorem dX5_findShelf_95 : decode cX5_findShelf 95 = .ok (.aload_n 0, 1) := by decide +kernel
theorem dX5_findShelf_96 : decode cX5_findShelf 96 = .ok (.bipush 19, 2) := by decide +kernel
theorem dX5_findShelf_98 : decode cX5_findShelf 98 = .ok (.invokevirtual 179, 3) := by decide +kernel
theorem dX5_findShelf_101 : decode cX5_findShelf 101 = .ok (.aload_n 0, 1) := by decide +kernel
theorem dX5_findShelf_102 : decode cX5_findShelf 102 = .ok (.bipush 19, 2) := by decide +kernel
theorem dX5_findShelf_104 : decode cX5_findShelf 104 = .ok (.invokevirtual 220, 3) := by decide +kernel
theorem dX5_findShelf_107 : decode cX5_findShelf 107 = .ok (.istore 6, 2) := by decide +kernel
theorem dX5_findShelf_109 : decode cX5_findShelf 109 = .ok (.iload 4, 2) := by decide +kernel
theorem dX5_findShelf_111 : decode cX5_findShelf 111 = .ok (.iconst (-1), 1) := by decide +kernel
theorem dX5_findShelf_112 : decode cX5_findShelf 112 = .ok (.if_icmp .eq 24, 3) := by decide +kernel
theorem dX5_findShelf_115 : decode cX5_findShelf 115 = .ok (.iload_n 2, 1) := by decide +kernel
theorem dX5_findShelf_116 : decode cX5_findShelf 116 = .ok (.ifCond .ne 13, 3) := by decide +kernel
theorem dX5_findShelf_119 : decode cX5_findShelf 119 = .ok (.iload 6, 2) := by decide +kernel
theorem dX5_findShelf_121 : decode cX5_findShelf 121 = .ok (.iload 4, 2) := by decide +kernel
theorem dX5_findShelf_123 : decode cX5_findShelf 123 = .ok (.if_icmp .ge 46, 3) := by decide +kernel
theorem dX5_findShelf_126 : decode cX5_findShelf 126 = .ok (.goto 10, 3) := by decide +kernel
theorem dX5_findShelf_129 : decode cX5_findShelf 129 = .ok (.iload 6, 2) := by decide +kernel
theorem dX5_findShelf_131 : decode cX5_findShelf 131 = .ok (.iload 4, 2) := by decide +kernel
theorem dX5_findShelf_133 : decode cX5_findShelf 133 = .ok (.if_icmp .le 36, 3) := by decide +kernel
theorem dX5_findShelf_136 : decode cX5_findShelf 136 = .ok (.iload 6, 2) := by decide +kernel
theorem dX5_findShelf_138 : decode cX5_findShelf 138 = .ok (.istore 4, 2) := by decide +kernel
theorem dX5_findShelf_140 : decode cX5_findShelf 140 = .ok (.iconst 0, 1) := by decide +kernel
theorem dX5_findShelf_141 : decode cX5_findShelf 141 = .ok (.istore 7, 2) := by decide +kernel
theorem dX5_findShelf_143 : decode cX5_findShelf 143 = .ok (.iload 7, 2) := by decide +kernel
theorem dX5_findShelf_145 : decode cX5_findShelf 145 = .ok (.iload_n 1, 1) := by decide +kernel
theorem dX5_findShelf_146 : decode cX5_findShelf 146 = .ok (.if_icmp .ge 23, 3) := by decide +kernel
theorem dX5_findShelf_149 : decode cX5_findShelf 149 = .ok (.aload_n 0, 1) := by decide +kernel
theorem dX5_findShelf_150 : decode cX5_findShelf 150 = .ok (.getfield 64, 3) := by decide +kernel
theorem dX5_findShelf_153 : decode cX5_findShelf 153 = .ok (.iload 7, 2) := by decide +kernel
theorem dX5_findShelf_155 : decode cX5_findShelf 155 = .ok (.aload_n 0, 1) := by decide +kernel
theorem dX5_findShelf_156 : decode cX5_findShelf 156 = .ok (.getfield 61, 3) := by decide +kernel
theorem dX5_findShelf_159 : decode cX5_findShelf 159 = .ok (.iload 7, 2) := by decide +kernel
theorem dX5_findShelf_161 : decode cX5_findShelf 161 = .ok (.iaload, 1) := by decide +kernel
theorem dX5_findShelf_162 : decode cX5_findShelf 162 = .ok (.iastore, 1) := by decide +kernel
theorem dX5_findShelf_163 : decode cX5_findShelf 163 = .ok (.iinc 7 1, 3) := by decide +kernel
theorem dX5_findShelf_166 : decode cX5_findShelf 166 = .ok (.goto (-23), 3) := by decide +kernel
theorem dX5_findShelf_169 : decode cX5_findShelf 169 = .ok (.iinc 5 1, 3) := by decide +kernel
theorem dX5_findShelf_172 : decode cX5_findShelf 172 = .ok (.goto (-119), 3) := by decide +kernel
theorem dX5_findShelf_175 : decode cX5_findShelf 175 = .ok (.aload_n 0, 1) := by decide +kernel
theorem dX5_findShelf_176 : decode cX5_findShelf 176 = .ok (.invokevirtual 183, 3) := by decide +kernel
theorem dX5_findShelf_179 : decode cX5_findShelf 179 = .ok (.iload 4, 2) := by decide +kernel
theorem dX5_findShelf_181 : decode cX5_findShelf 181 = .ok (.ireturn, 1) := by decide +kernel
theorem dX5_shelfOf_0 : decode cX5_shelfOf 0 = .ok (.aload_n 0, 1) := by decide +kernel
theorem dX5_shelfOf_1 : decode cX5_shelfOf 1 = .ok (.iload_n 1, 1) := by decide +kernel
theorem dX5_shelfOf_2 : decode cX5_shelfOf 2 = .ok (.iload_n 2, 1) := by decide +kernel
theorem dX5_shelfOf_3 : decode cX5_shelfOf 3 = .ok (.invokevirtual 223, 3) := by decide +kernel
theorem dX5_shelfOf_6 : decode cX5_shelfOf 6 = .ok (.istore 4, 2) := by decide +kernel
theorem dX5_shelfOf_8 : decode cX5_shelfOf 8 = .ok (.iload_n 3, 1) := by decide +kernel
theorem dX5_shelfOf_9 : decode cX5_shelfOf 9 = .ok (.iconst (-1), 1) := by decide +kernel
theorem dX5_shelfOf_10 : decode cX5_shelfOf 10 = .ok (.if_icmp .ne 8, 3) := by decide +kernel
theorem dX5_shelfOf_13 : decode cX5_shelfOf 13 = .ok (.iload 4, 2) := by decide +kernel
theorem dX5_shelfOf_15 : decode cX5_shelfOf 15 = .ok (.goto 9, 3) := by decide +kernel
theorem dX5_shelfOf_18 : decode cX5_shelfOf 18 = .ok (.aload_n 0, 1) := by decide +kernel
theorem dX5_shelfOf_19 : decode cX5_shelfOf 19 = .ok (.getfield 64, 3) := by decide +kernel
theorem dX5_shelfOf_22 : decode cX5_shelfOf 22 = .ok (.iload_n 3, 1) := by decide +kernel
theorem dX5_shelfOf_23 : decode cX5_shelfOf 23 = .ok (.iaload, 1) := by decide +kernel
theorem dX5_shelfOf_24 : decode cX5_shelfOf 24 = .ok (.ireturn, 1) := by decide +kernel
theorem dX5_shelf_0 : decode cX5_shelf 0 = .ok (.aload_n 0, 1) := by decide +kernel
theorem dX5_shelf_1 : decode cX5_shelf 1 = .ok (.invokevirtual 183, 3) := by decide +kernel
theorem dX5_shelf_4 : decode cX5_shelf 4 = .ok (.iload_n 1, 1) := by decide +kernel
theorem dX5_shelf_5 : decode cX5_shelf 5 = .ok (.i2l, 1) := by decide +kernel
theorem dX5_shelf_6 : decode cX5_shelf 6 = .ok (.lconst 1, 1) := by decide +kernel
theorem dX5_shelf_7 : decode cX5_shelf 7 = .ok (.aload_n 0, 1) := by decide +kernel
theorem dX5_shelf_8 : decode cX5_shelf 8 = .ok (.getfield 109, 3) := by decide +kernel
theorem dX5_shelf_11 : decode cX5_shelf 11 = .ok (.invokestatic 226, 3) := by decide +kernel
theorem dX5_shelf_14 : decode cX5_shelf 14 = .ok (.i2l, 1) := by decide +kernel
theorem dX5_shelf_15 : decode cX5_shelf 15 = .ok (.invokestatic 75, 3) := by decide +kernel
theorem dX5_shelf_18 : decode cX5_shelf 18 = .ok (.ifCond .eq 35, 3) := by decide +kernel
theorem dX5_shelf_21 : decode cX5_shelf 21 = .ok (.iload_n 2, 1) := by decide +kernel
theorem dX5_shelf_22 : decode cX5_shelf 22 = .ok (.invokestatic 186, 3) := by decide +kernel
theorem dX5_shelf_25 : decode cX5_shelf 25 = .ok (.ifCond .eq 28, 3) := by decide +kernel
theorem dX5_shelf_28 : decode cX5_shelf 28 = .ok (.iload_n 3, 1) := by decide +kernel
theorem dX5_shelf_29 : decode cX5_shelf 29 = .ok (.i2l, 1) := by decide +kernel
theorem dX5_shelf_30 : decode cX5_shelf 30 = .ok (.ldc2_w 229, 3) := by decide +kernel
theorem dX5_shelf_33 : decode cX5_shelf 33 = .ok (.iload_n 1, 1) := by decide +kernel
theorem dX5_shelf_34 : decode cX5_shelf 34 = .ok (.iconst 1, 1) := by decide +kernel
theorem dX5_shelf_35 : decode cX5_shelf 35 = .ok (.isub, 1) := by decide +kernel
theorem dX5_shelf_36 : decode cX5_shelf 36 = .ok (.i2l, 1) := by decide +kernel
theorem dX5_shelf_37 : decode cX5_shelf 37 = .ok (.invokestatic 75, 3) := by decide +kernel
theorem dX5_shelf_40 : decode cX5_shelf 40 = .ok (.ifCond .eq 13, 3) := by decide +kernel
theorem dX5_shelf_43 : decode cX5_shelf 43 = .ok (.aload_n 0, 1) := by decide +kernel
theorem dX5_shelf_44 : decode cX5_shelf 44 = .ok (.iload_n 1, 1) := by decide +kernel
theorem dX5_shelf_45 : decode cX5_shelf 45 = .ok (.iload_n 2, 1) := by decide +kernel
theorem dX5_shelf_46 : decode cX5_shelf 46 = .ok (.iload_n 3, 1) := by decide +kernel
theorem dX5_shelf_47 : decode cX5_shelf 47 = .ok (.invokevirtual 231, 3) := by decide +kernel
theorem dX5_shelf_50 : decode cX5_shelf 50 = .ok (.goto 5, 3) := by decide +kernel
theorem dX5_shelf_53 : decode cX5_shelf 53 = .ok (.bipush (-2), 2) := by decide +kernel
theorem dX5_shelf_55 : decode cX5_shelf 55 = .ok (.ireturn, 1) := by decide +kernel
theorem dX5_lesserOf_0 : decode cX5_lesserOf 0 = .ok (.iload_n 0, 1) := by decide +kernel
theorem dX5_lesserOf_1 : decode cX5_lesserOf 1 = .ok (.bipush 6, 2) := by decide +kernel
theorem dX5_lesserOf_3 : decode cX5_lesserOf 3 = .ok (.if_icmp .ge 7, 3) := by decide +kernel
theorem dX5_lesserOf_6 : decode cX5_lesserOf 6 = .ok (.iload_n 0, 1) := by decide +kernel
theorem dX5_lesserOf_7 : decode cX5_lesserOf 7 = .ok (.goto 5, 3) := by decide +kernel
theorem dX5_lesserOf_10 : decode cX5_lesserOf 10 = .ok (.bipush 6, 2) := by decide +kernel
theorem dX5_lesserOf_12 : decode cX5_lesserOf 12 = .ok (.ireturn, 1) := by decide +kernel
theorem dX5_heard_0 : decode cX5_heard 0 = .ok (.iload_n 1, 1) := by decide +kernel
theorem dX5_heard_1 : decode cX5_heard 1 = .ok (.invokestatic 145, 3) := by decide +kernel
theorem dX5_heard_4 : decode cX5_heard 4 = .ok (.ifCond .eq 15, 3) := by decide +kernel
theorem dX5_heard_7 : decode cX5_heard 7 = .ok (.iload_n 2, 1) := by decide +kernel
theorem dX5_heard_8 : decode cX5_heard 8 = .ok (.i2l, 1) := by decide +kernel
theorem dX5_heard_9 : decode cX5_heard 9 = .ok (.lconst 0, 1) := by decide +kernel
theorem dX5_heard_10 : decode cX5_heard 10 = .ok (.ldc2_w 234, 3) := by decide +kernel
theorem dX5_heard_13 : decode cX5_heard 13 = .ok (.invokestatic 75, 3) := by decide +kernel
theorem dX5_heard_16 : decode cX5_heard 16 = .ok (.ifCond .ne 6, 3) := by decide +kernel
theorem dX5_heard_19 : decode cX5_heard 19 = .ok (.bipush (-2), 2) := by decide +kernel
theorem dX5_heard_21 : decode cX5_heard 21 = .ok (.ireturn, 1) := by decide +kernel
theorem dX5_heard_22 : decode cX5_heard 22 = .ok (.aload_n 0, 1) := by decide +kernel
theorem dX5_heard_23 : decode cX5_heard 23 = .ok (.getfield 236, 3) := by decide +kernel
theorem dX5_heard_26 : decode cX5_heard 26 = .ok (.bipush 8, 2) := by decide +kernel
theorem dX5_heard_28 : decode cX5_heard 28 = .ok (.if_icmp .ne 6, 3) := by decide +kernel
theorem dX5_heard_31 : decode cX5_heard 31 = .ok (.bipush (-4), 2) := by decide +kernel
theorem dX5_heard_33 : decode cX5_heard 33 = .ok (.ireturn, 1) := by decide +kernel
theorem dX5_heard_34 : decode cX5_heard 34 = .ok (.aload_n 0, 1) := by decide +kernel
theorem dX5_heard_35 : decode cX5_heard 35 = .ok (.getfield 67, 3) := by decide +kernel
theorem dX5_heard_38 : decode cX5_heard 38 = .ok (.iconst 2, 1) := by decide +kernel
theorem dX5_heard_39 : decode cX5_heard 39 = .ok (.aload_n 0, 1) := by decide +kernel
theorem dX5_heard_40 : decode cX5_heard 40 = .ok (.getfield 236, 3) := by decide +kernel
theorem dX5_heard_43 : decode cX5_heard 43 = .ok (.imul, 1) := by decide +kernel
theorem dX5_heard_44 : decode cX5_heard 44 = .ok (.iload_n 1, 1) := by decide +kernel
theorem dX5_heard_45 : decode cX5_heard 45 = .ok (.iastore, 1) := by decide +kernel
theorem dX5_heard_46 : decode cX5_heard 46 = .ok (.aload_n 0, 1) := by decide +kernel
theorem dX5_heard_47 : decode cX5_heard 47 = .ok (.getfield 67, 3) := by decide +kernel
theorem dX5_heard_50 : decode cX5_heard 50 = .ok (.iconst 2, 1) := by decide +kernel
theorem dX5_heard_51 : decode cX5_heard 51 = .ok (.aload_n 0, 1) := by decide +kernel
theorem dX5_heard_52 : decode cX5_heard 52 = .ok (.getfield 236, 3) := by decide +kernel
theorem dX5_heard_55 : decode cX5_heard 55 = .ok (.imul, 1) := by decide +kernel
theorem dX5_heard_56 : decode cX5_heard 56 = .ok (.iconst 1, 1) := by decide +kernel
theorem dX5_heard_57 : decode cX5_heard 57 = .ok (.iadd, 1) := by decide +kernel
end
section
theorem dX5_heard_58 : decode cX5_heard 58 = .ok (.iload_n 2, 1) := by decide +kernel
theorem dX5_heard_59 : decode cX5_heard 59 = .ok (.iastore, 1) := by decide +kernel
theorem dX5_heard_60 : decode cX5_heard 60 = .ok (.aload_n 0, 1) := by decide +kernel
theorem dX5_heard_61 : decode cX5_heard 61 = .ok (.dup, 1) := by decide +kernel
theorem dX5_heard_62 : decode cX5_heard 62 = .ok (.getfield 236, 3) := by decide +kernel
theorem dX5_heard_65 : decode cX5_heard 65 = .ok (.iconst 1, 1) := by decide +kernel
theorem dX5_heard_66 : decode cX5_heard 66 = .ok (.iadd, 1) := by decide +kernel
theorem dX5_heard_67 : decode cX5_heard 67 = .ok (.putfield 236, 3) := by decide +kernel
theorem dX5_heard_70 : decode cX5_heard 70 = .ok (.aload_n 0, 1) := by decide +kernel
theorem dX5_heard_71 : decode cX5_heard 71 = .ok (.getfield 236, 3) := by decide +kernel
theorem dX5_heard_74 : decode cX5_heard 74 = .ok (.ireturn, 1) := by decide +kernel
theorem dX5_forget_0 : decode cX5_forget 0 = .ok (.aload_n 0, 1) := by decide +kernel
theorem dX5_forget_1 : decode cX5_forget 1 = .ok (.getfield 236, 3) := by decide +kernel
theorem dX5_forget_4 : decode cX5_forget 4 = .ok (.istore_n 1, 1) := by decide +kernel
theorem dX5_forget_5 : decode cX5_forget 5 = .ok (.aload_n 0, 1) := by decide +kernel
theorem dX5_forget_6 : decode cX5_forget 6 = .ok (.iconst 0, 1) := by decide +kernel
theorem dX5_forget_7 : decode cX5_forget 7 = .ok (.putfield 236, 3) := by decide +kernel
theorem dX5_forget_10 : decode cX5_forget 10 = .ok (.iload_n 1, 1) := by decide +kernel
theorem dX5_forget_11 : decode cX5_forget 11 = .ok (.ireturn, 1) := by decide +kernel
theorem dX5_isHeard_0 : decode cX5_isHeard 0 = .ok (.iconst 1, 1) := by decide +kernel
theorem dX5_isHeard_1 : decode cX5_isHeard 1 = .ok (.istore_n 1, 1) := by decide +kernel
theorem dX5_isHeard_2 : decode cX5_isHeard 2 = .ok (.iconst 0, 1) := by decide +kernel
theorem dX5_isHeard_3 : decode cX5_isHeard 3 = .ok (.istore_n 2, 1) := by decide +kernel
theorem dX5_isHeard_4 : decode cX5_isHeard 4 = .ok (.iload_n 2, 1) := by decide +kernel
theorem dX5_isHeard_5 : decode cX5_isHeard 5 = .ok (.aload_n 0, 1) := by decide +kernel
theorem dX5_isHeard_6 : decode cX5_isHeard 6 = .ok (.getfield 236, 3) := by decide +kernel
theorem dX5_isHeard_9 : decode cX5_isHeard 9 = .ok (.if_icmp .ge 48, 3) := by decide +kernel
theorem dX5_isHeard_12 : decode cX5_isHeard 12 = .ok (.iload_n 1, 1) := by decide +kernel
theorem dX5_isHeard_13 : decode cX5_isHeard 13 = .ok (.ifCond .eq 36, 3) := by decide +kernel
theorem dX5_isHeard_16 : decode cX5_isHeard 16 = .ok (.aload_n 0, 1) := by decide +kernel
theorem dX5_isHeard_17 : decode cX5_isHeard 17 = .ok (.getfield 37, 3) := by decide +kernel
theorem dX5_isHeard_20 : decode cX5_isHeard 20 = .ok (.aload_n 0, 1) := by decide +kernel
theorem dX5_isHeard_21 : decode cX5_isHeard 21 = .ok (.getfield 67, 3) := by decide +kernel
theorem dX5_isHeard_24 : decode cX5_isHeard 24 = .ok (.iconst 2, 1) := by decide +kernel
theorem dX5_isHeard_25 : decode cX5_isHeard 25 = .ok (.iload_n 2, 1) := by decide +kernel
theorem dX5_isHeard_26 : decode cX5_isHeard 26 = .ok (.imul, 1) := by decide +kernel
theorem dX5_isHeard_27 : decode cX5_isHeard 27 = .ok (.iaload, 1) := by decide +kernel
theorem dX5_isHeard_28 : decode cX5_isHeard 28 = .ok (.iaload, 1) := by decide +kernel
theorem dX5_isHeard_29 : decode cX5_isHeard 29 = .ok (.invokestatic 167, 3) := by decide +kernel
theorem dX5_isHeard_32 : decode cX5_isHeard 32 = .ok (.aload_n 0, 1) := by decide +kernel
theorem dX5_isHeard_33 : decode cX5_isHeard 33 = .ok (.getfield 67, 3) := by decide +kernel
theorem dX5_isHeard_36 : decode cX5_isHeard 36 = .ok (.iconst 2, 1) := by decide +kernel
theorem dX5_isHeard_37 : decode cX5_isHeard 37 = .ok (.iload_n 2, 1) := by decide +kernel
theorem dX5_isHeard_38 : decode cX5_isHeard 38 = .ok (.imul, 1) := by decide +kernel
theorem dX5_isHeard_39 : decode cX5_isHeard 39 = .ok (.iconst 1, 1) := by decide +kernel
theorem dX5_isHeard_40 : decode cX5_isHeard 40 = .ok (.iadd, 1) := by decide +kernel
theorem dX5_isHeard_41 : decode cX5_isHeard 41 = .ok (.iaload, 1) := by decide +kernel
theorem dX5_isHeard_42 : decode cX5_isHeard 42 = .ok (.if_icmp .ne 7, 3) := by decide +kernel
theorem dX5_isHeard_45 : decode cX5_isHeard 45 = .ok (.iconst 1, 1) := by decide +kernel
theorem dX5_isHeard_46 : decode cX5_isHeard 46 = .ok (.goto 4, 3) := by decide +kernel
theorem dX5_isHeard_49 : decode cX5_isHeard 49 = .ok (.iconst 0, 1) := by decide +kernel
theorem dX5_isHeard_50 : decode cX5_isHeard 50 = .ok (.istore_n 1, 1) := by decide +kernel
theorem dX5_isHeard_51 : decode cX5_isHeard 51 = .ok (.iinc 2 1, 3) := by decide +kernel
theorem dX5_isHeard_54 : decode cX5_isHeard 54 = .ok (.goto (-50), 3) := by decide +kernel
theorem dX5_isHeard_57 : decode cX5_isHeard 57 = .ok (.iload_n 1, 1) := by decide +kernel
theorem dX5_isHeard_58 : decode cX5_isHeard 58 = .ok (.ireturn, 1) := by decide +kernel
theorem dX5_takes_0 : decode cX5_takes 0 = .ok (.aload_n 0, 1) := by decide +kernel
theorem dX5_takes_1 : decode cX5_takes 1 = .ok (.getfield 49, 3) := by decide +kernel
theorem dX5_takes_4 : decode cX5_takes 4 = .ok (.iload_n 1, 1) := by decide +kernel
theorem dX5_takes_5 : decode cX5_takes 5 = .ok (.iload_n 2, 1) := by decide +kernel
theorem dX5_takes_6 : decode cX5_takes 6 = .ok (.bipush 9, 2) := by decide +kernel
theorem dX5_takes_8 : decode cX5_takes 8 = .ok (.idiv, 1) := by decide +kernel
theorem dX5_takes_9 : decode cX5_takes 9 = .ok (.iastore, 1) := by decide +kernel
theorem dX5_takes_10 : decode cX5_takes 10 = .ok (.aload_n 0, 1) := by decide +kernel
theorem dX5_takes_11 : decode cX5_takes 11 = .ok (.getfield 52, 3) := by decide +kernel
theorem dX5_takes_14 : decode cX5_takes 14 = .ok (.iload_n 1, 1) := by decide +kernel
theorem dX5_takes_15 : decode cX5_takes 15 = .ok (.iload_n 2, 1) := by decide +kernel
theorem dX5_takes_16 : decode cX5_takes 16 = .ok (.bipush 9, 2) := by decide +kernel
theorem dX5_takes_18 : decode cX5_takes 18 = .ok (.irem, 1) := by decide +kernel
theorem dX5_takes_19 : decode cX5_takes 19 = .ok (.iconst 1, 1) := by decide +kernel
theorem dX5_takes_20 : decode cX5_takes 20 = .ok (.iadd, 1) := by decide +kernel
theorem dX5_takes_21 : decode cX5_takes 21 = .ok (.iastore, 1) := by decide +kernel
theorem dX5_takes_22 : decode cX5_takes 22 = .ok (.return_, 1) := by decide +kernel
theorem dX5_gives_0 : decode cX5_gives 0 = .ok (.aload_n 0, 1) := by decide +kernel
theorem dX5_gives_1 : decode cX5_gives 1 = .ok (.getfield 49, 3) := by decide +kernel
theorem dX5_gives_4 : decode cX5_gives 4 = .ok (.iload_n 1, 1) := by decide +kernel
theorem dX5_gives_5 : decode cX5_gives 5 = .ok (.aload_n 0, 1) := by decide +kernel
theorem dX5_gives_6 : decode cX5_gives 6 = .ok (.getfield 25, 3) := by decide +kernel
theorem dX5_gives_9 : decode cX5_gives 9 = .ok (.iconst 3, 1) := by decide +kernel
theorem dX5_gives_10 : decode cX5_gives 10 = .ok (.iload_n 1, 1) := by decide +kernel
theorem dX5_gives_11 : decode cX5_gives 11 = .ok (.imul, 1) := by decide +kernel
theorem dX5_gives_12 : decode cX5_gives 12 = .ok (.iaload, 1) := by decide +kernel
theorem dX5_gives_13 : decode cX5_gives 13 = .ok (.iastore, 1) := by decide +kernel
theorem dX5_gives_14 : decode cX5_gives 14 = .ok (.aload_n 0, 1) := by decide +kernel
theorem dX5_gives_15 : decode cX5_gives 15 = .ok (.getfield 52, 3) := by decide +kernel
theorem dX5_gives_18 : decode cX5_gives 18 = .ok (.iload_n 1, 1) := by decide +kernel
theorem dX5_gives_19 : decode cX5_gives 19 = .ok (.aload_n 0, 1) := by decide +kernel
theorem dX5_gives_20 : decode cX5_gives 20 = .ok (.getfield 25, 3) := by decide +kernel
theorem dX5_gives_23 : decode cX5_gives 23 = .ok (.iconst 3, 1) := by decide +kernel
theorem dX5_gives_24 : decode cX5_gives 24 = .ok (.iload_n 1, 1) := by decide +kernel
theorem dX5_gives_25 : decode cX5_gives 25 = .ok (.imul, 1) := by decide +kernel
theorem dX5_gives_26 : decode cX5_gives 26 = .ok (.iconst 1, 1) := by decide +kernel
theorem dX5_gives_27 : decode cX5_gives 27 = .ok (.iadd, 1) := by decide +kernel
theorem dX5_gives_28 : decode cX5_gives 28 = .ok (.iaload, 1) := by decide +kernel
theorem dX5_gives_29 : decode cX5_gives 29 = .ok (.iastore, 1) := by decide +kernel
theorem dX5_gives_30 : decode cX5_gives 30 = .ok (.aload_n 0, 1) := by decide +kernel
theorem dX5_gives_31 : decode cX5_gives 31 = .ok (.bipush 59, 2) := by decide +kernel
theorem dX5_gives_33 : decode cX5_gives 33 = .ok (.invokevirtual 179, 3) := by decide +kernel
theorem dX5_gives_36 : decode cX5_gives 36 = .ok (.return_, 1) := by decide +kernel
theorem dX5_lawName_0 : decode cX5_lawName 0 = .ok (.iload_n 0, 1) := by decide +kernel
theorem dX5_lawName_1 : decode cX5_lawName 1 = .ok (.bipush 36, 2) := by decide +kernel
theorem dX5_lawName_3 : decode cX5_lawName 3 = .ok (.if_icmp .ne 8, 3) := by decide +kernel
theorem dX5_lawName_6 : decode cX5_lawName 6 = .ok (.bipush 40, 2) := by decide +kernel
theorem dX5_lawName_8 : decode cX5_lawName 8 = .ok (.goto 17, 3) := by decide +kernel
theorem dX5_lawName_11 : decode cX5_lawName 11 = .ok (.bipush 10, 2) := by decide +kernel
theorem dX5_lawName_13 : decode cX5_lawName 13 = .ok (.iload_n 0, 1) := by decide +kernel
theorem dX5_lawName_14 : decode cX5_lawName 14 = .ok (.bipush 9, 2) := by decide +kernel
theorem dX5_lawName_16 : decode cX5_lawName 16 = .ok (.idiv, 1) := by decide +kernel
theorem dX5_lawName_17 : decode cX5_lawName 17 = .ok (.imul, 1) := by decide +kernel
theorem dX5_lawName_18 : decode cX5_lawName 18 = .ok (.iload_n 0, 1) := by decide +kernel
theorem dX5_lawName_19 : decode cX5_lawName 19 = .ok (.bipush 9, 2) := by decide +kernel
theorem dX5_lawName_21 : decode cX5_lawName 21 = .ok (.irem, 1) := by decide +kernel
theorem dX5_lawName_22 : decode cX5_lawName 22 = .ok (.iadd, 1) := by decide +kernel
theorem dX5_lawName_23 : decode cX5_lawName 23 = .ok (.iconst 1, 1) := by decide +kernel
theorem dX5_lawName_24 : decode cX5_lawName 24 = .ok (.iadd, 1) := by decide +kernel
theorem dX5_lawName_25 : decode cX5_lawName 25 = .ok (.ireturn, 1) := by decide +kernel
theorem dX5_learnOf_0 : decode cX5_learnOf 0 = .ok (.iconst 0, 1) := by decide +kernel
theorem dX5_learnOf_1 : decode cX5_learnOf 1 = .ok (.istore_n 3, 1) := by decide +kernel
theorem dX5_learnOf_2 : decode cX5_learnOf 2 = .ok (.iconst (-1), 1) := by decide +kernel
theorem dX5_learnOf_3 : decode cX5_learnOf 3 = .ok (.istore 4, 2) := by decide +kernel
theorem dX5_learnOf_5 : decode cX5_learnOf 5 = .ok (.iconst 0, 1) := by decide +kernel
theorem dX5_learnOf_6 : decode cX5_learnOf 6 = .ok (.istore 5, 2) := by decide +kernel
theorem dX5_learnOf_8 : decode cX5_learnOf 8 = .ok (.iload 5, 2) := by decide +kernel
theorem dX5_learnOf_10 : decode cX5_learnOf 10 = .ok (.bipush 37, 2) := by decide +kernel
theorem dX5_learnOf_12 : decode cX5_learnOf 12 = .ok (.if_icmp .ge 49, 3) := by decide +kernel
theorem dX5_learnOf_15 : decode cX5_learnOf 15 = .ok (.aload_n 0, 1) := by decide +kernel
theorem dX5_learnOf_16 : decode cX5_learnOf 16 = .ok (.iload_n 1, 1) := by decide +kernel
theorem dX5_learnOf_17 : decode cX5_learnOf 17 = .ok (.iload 5, 2) := by decide +kernel
theorem dX5_learnOf_19 : decode cX5_learnOf 19 = .ok (.invokevirtual 239, 3) := by decide +kernel
theorem dX5_learnOf_22 : decode cX5_learnOf 22 = .ok (.aload_n 0, 1) := by decide +kernel
theorem dX5_learnOf_23 : decode cX5_learnOf 23 = .ok (.bipush 59, 2) := by decide +kernel
theorem dX5_learnOf_25 : decode cX5_learnOf 25 = .ok (.invokevirtual 179, 3) := by decide +kernel
theorem dX5_learnOf_28 : decode cX5_learnOf 28 = .ok (.aload_n 0, 1) := by decide +kernel
theorem dX5_learnOf_29 : decode cX5_learnOf 29 = .ok (.invokevirtual 242, 3) := by decide +kernel
theorem dX5_learnOf_32 : decode cX5_learnOf 32 = .ok (.ifCond .eq 23, 3) := by decide +kernel
theorem dX5_learnOf_35 : decode cX5_learnOf 35 = .ok (.iload_n 3, 1) := by decide +kernel
theorem dX5_learnOf_36 : decode cX5_learnOf 36 = .ok (.iload_n 2, 1) := by decide +kernel
theorem dX5_learnOf_37 : decode cX5_learnOf 37 = .ok (.if_icmp .ne 11, 3) := by decide +kernel
theorem dX5_learnOf_40 : decode cX5_learnOf 40 = .ok (.iload 5, 2) := by decide +kernel
theorem dX5_learnOf_42 : decode cX5_learnOf 42 = .ok (.invokestatic 245, 3) := by decide +kernel
theorem dX5_learnOf_45 : decode cX5_learnOf 45 = .ok (.goto 5, 3) := by decide +kernel
theorem dX5_learnOf_48 : decode cX5_learnOf 48 = .ok (.iload 4, 2) := by decide +kernel
theorem dX5_learnOf_50 : decode cX5_learnOf 50 = .ok (.istore 4, 2) := by decide +kernel
theorem dX5_learnOf_52 : decode cX5_learnOf 52 = .ok (.iinc 3 1, 3) := by decide +kernel
theorem dX5_learnOf_55 : decode cX5_learnOf 55 = .ok (.iinc 5 1, 3) := by decide +kernel
theorem dX5_learnOf_58 : decode cX5_learnOf 58 = .ok (.goto (-50), 3) := by decide +kernel
theorem dX5_learnOf_61 : decode cX5_learnOf 61 = .ok (.aload_n 0, 1) := by decide +kernel
theorem dX5_learnOf_62 : decode cX5_learnOf 62 = .ok (.iload_n 1, 1) := by decide +kernel
theorem dX5_learnOf_63 : decode cX5_learnOf 63 = .ok (.invokevirtual 248, 3) := by decide +kernel
theorem dX5_learnOf_66 : decode cX5_learnOf 66 = .ok (.iload_n 2, 1) := by decide +kernel
theorem dX5_learnOf_67 : decode cX5_learnOf 67 = .ok (.iconst (-1), 1) := by decide +kernel
theorem dX5_learnOf_68 : decode cX5_learnOf 68 = .ok (.if_icmp .ne 7, 3) := by decide +kernel
theorem dX5_learnOf_71 : decode cX5_learnOf 71 = .ok (.iload_n 3, 1) := by decide +kernel
theorem dX5_learnOf_72 : decode cX5_learnOf 72 = .ok (.goto 5, 3) := by decide +kernel
theorem dX5_learnOf_75 : decode cX5_learnOf 75 = .ok (.iload 4, 2) := by decide +kernel
theorem dX5_learnOf_77 : decode cX5_learnOf 77 = .ok (.ireturn, 1) := by decide +kernel
theorem dX5_learn_0 : decode cX5_learn 0 = .ok (.aload_n 0, 1) := by decide +kernel
theorem dX5_learn_1 : decode cX5_learn 1 = .ok (.invokevirtual 183, 3) := by decide +kernel
theorem dX5_learn_4 : decode cX5_learn 4 = .ok (.aload_n 0, 1) := by decide +kernel
theorem dX5_learn_5 : decode cX5_learn 5 = .ok (.iload_n 1, 1) := by decide +kernel
theorem dX5_learn_6 : decode cX5_learn 6 = .ok (.invokevirtual 134, 3) := by decide +kernel
theorem dX5_learn_9 : decode cX5_learn 9 = .ok (.ifCond .eq 26, 3) := by decide +kernel
theorem dX5_learn_12 : decode cX5_learn 12 = .ok (.iload_n 2, 1) := by decide +kernel
theorem dX5_learn_13 : decode cX5_learn 13 = .ok (.i2l, 1) := by decide +kernel
theorem dX5_learn_14 : decode cX5_learn 14 = .ok (.ldc2_w 229, 3) := by decide +kernel
theorem dX5_learn_17 : decode cX5_learn 17 = .ok (.ldc2_w 251, 3) := by decide +kernel
theorem dX5_learn_20 : decode cX5_learn 20 = .ok (.invokestatic 75, 3) := by decide +kernel
theorem dX5_learn_23 : decode cX5_learn 23 = .ok (.ifCond .eq 12, 3) := by decide +kernel
theorem dX5_learn_26 : decode cX5_learn 26 = .ok (.aload_n 0, 1) := by decide +kernel
theorem dX5_learn_27 : decode cX5_learn 27 = .ok (.iload_n 1, 1) := by decide +kernel
theorem dX5_learn_28 : decode cX5_learn 28 = .ok (.iload_n 2, 1) := by decide +kernel
theorem dX5_learn_29 : decode cX5_learn 29 = .ok (.invokevirtual 253, 3) := by decide +kernel
theorem dX5_learn_32 : decode cX5_learn 32 = .ok (.goto 5, 3) := by decide +kernel
theorem dX5_learn_35 : decode cX5_learn 35 = .ok (.bipush (-2), 2) := by decide +kernel
theorem dX5_learn_37 : decode cX5_learn 37 = .ok (.ireturn, 1) := by decide +kernel
theorem dX5_emptyNow_0 : decode cX5_emptyNow 0 = .ok (.iconst 0, 1) := by decide +kernel
theorem dX5_emptyNow_1 : decode cX5_emptyNow 1 = .ok (.istore_n 1, 1) := by decide +kernel
theorem dX5_emptyNow_2 : decode cX5_emptyNow 2 = .ok (.iconst 0, 1) := by decide +kernel
theorem dX5_emptyNow_3 : decode cX5_emptyNow 3 = .ok (.istore_n 2, 1) := by decide +kernel
theorem dX5_emptyNow_4 : decode cX5_emptyNow 4 = .ok (.iload_n 2, 1) := by decide +kernel
theorem dX5_emptyNow_5 : decode cX5_emptyNow 5 = .ok (.aload_n 0, 1) := by decide +kernel
theorem dX5_emptyNow_6 : decode cX5_emptyNow 6 = .ok (.getfield 109, 3) := by decide +kernel
theorem dX5_emptyNow_9 : decode cX5_emptyNow 9 = .ok (.if_icmp .ge 44, 3) := by decide +kernel
theorem dX5_emptyNow_12 : decode cX5_emptyNow 12 = .ok (.aload_n 0, 1) := by decide +kernel
theorem dX5_emptyNow_13 : decode cX5_emptyNow 13 = .ok (.iload_n 2, 1) := by decide +kernel
theorem dX5_emptyNow_14 : decode cX5_emptyNow 14 = .ok (.bipush 36, 2) := by decide +kernel
theorem dX5_emptyNow_16 : decode cX5_emptyNow 16 = .ok (.invokevirtual 239, 3) := by decide +kernel
theorem dX5_emptyNow_19 : decode cX5_emptyNow 19 = .ok (.aload_n 0, 1) := by decide +kernel
theorem dX5_emptyNow_20 : decode cX5_emptyNow 20 = .ok (.bipush 59, 2) := by decide +kernel
theorem dX5_emptyNow_22 : decode cX5_emptyNow 22 = .ok (.invokevirtual 179, 3) := by decide +kernel
theorem dX5_emptyNow_25 : decode cX5_emptyNow 25 = .ok (.iload_n 1, 1) := by decide +kernel
theorem dX5_emptyNow_26 : decode cX5_emptyNow 26 = .ok (.aload_n 0, 1) := by decide +kernel
theorem dX5_emptyNow_27 : decode cX5_emptyNow 27 = .ok (.invokevirtual 242, 3) := by decide +kernel
theorem dX5_emptyNow_30 : decode cX5_emptyNow 30 = .ok (.ifCond .eq 9, 3) := by decide +kernel
theorem dX5_emptyNow_33 : decode cX5_emptyNow 33 = .ok (.iconst 1, 1) := by decide +kernel
theorem dX5_emptyNow_34 : decode cX5_emptyNow 34 = .ok (.iload_n 2, 1) := by decide +kernel
theorem dX5_emptyNow_35 : decode cX5_emptyNow 35 = .ok (.ishl, 1) := by decide +kernel
theorem dX5_emptyNow_36 : decode cX5_emptyNow 36 = .ok (.goto 4, 3) := by decide +kernel
theorem dX5_emptyNow_39 : decode cX5_emptyNow 39 = .ok (.iconst 0, 1) := by decide +kernel
theorem dX5_emptyNow_40 : decode cX5_emptyNow 40 = .ok (.ior, 1) := by decide +kernel
theorem dX5_emptyNow_41 : decode cX5_emptyNow 41 = .ok (.istore_n 1, 1) := by decide +kernel
theorem dX5_emptyNow_42 : decode cX5_emptyNow 42 = .ok (.aload_n 0, 1) := by decide +kernel
theorem dX5_emptyNow_43 : decode cX5_emptyNow 43 = .ok (.iload_n 2, 1) := by decide +kernel
theorem dX5_emptyNow_44 : decode cX5_emptyNow 44 = .ok (.invokevirtual 248, 3) := by decide +kernel
theorem dX5_emptyNow_47 : decode cX5_emptyNow 47 = .ok (.iinc 2 1, 3) := by decide +kernel
theorem dX5_emptyNow_50 : decode cX5_emptyNow 50 = .ok (.goto (-46), 3) := by decide +kernel
theorem dX5_emptyNow_53 : decode cX5_emptyNow 53 = .ok (.iload_n 1, 1) := by decide +kernel
theorem dX5_emptyNow_54 : decode cX5_emptyNow 54 = .ok (.ireturn, 1) := by decide +kernel
theorem dX5_empty_0 : decode cX5_empty 0 = .ok (.aload_n 0, 1) := by decide +kernel
theorem dX5_empty_1 : decode cX5_empty 1 = .ok (.invokevirtual 183, 3) := by decide +kernel
theorem dX5_empty_4 : decode cX5_empty 4 = .ok (.aload_n 0, 1) := by decide +kernel
theorem dX5_empty_5 : decode cX5_empty 5 = .ok (.invokevirtual 256, 3) := by decide +kernel
theorem dX5_empty_8 : decode cX5_empty 8 = .ok (.ireturn, 1) := by decide +kernel
theorem dX5_turnOf_0 : decode cX5_turnOf 0 = .ok (.iconst (-1), 1) := by decide +kernel
theorem dX5_turnOf_1 : decode cX5_turnOf 1 = .ok (.istore_n 3, 1) := by decide +kernel
theorem dX5_turnOf_2 : decode cX5_turnOf 2 = .ok (.iconst 0, 1) := by decide +kernel
theorem dX5_turnOf_3 : decode cX5_turnOf 3 = .ok (.istore 4, 2) := by decide +kernel
theorem dX5_turnOf_5 : decode cX5_turnOf 5 = .ok (.iconst 0, 1) := by decide +kernel
theorem dX5_turnOf_6 : decode cX5_turnOf 6 = .ok (.istore 5, 2) := by decide +kernel
theorem dX5_turnOf_8 : decode cX5_turnOf 8 = .ok (.iload 5, 2) := by decide +kernel
theorem dX5_turnOf_10 : decode cX5_turnOf 10 = .ok (.aload_n 0, 1) := by decide +kernel
theorem dX5_turnOf_11 : decode cX5_turnOf 11 = .ok (.getfield 109, 3) := by decide +kernel
theorem dX5_turnOf_14 : decode cX5_turnOf 14 = .ok (.if_icmp .ge 205, 3) := by decide +kernel
theorem dX5_turnOf_17 : decode cX5_turnOf 17 = .ok (.iconst 0, 1) := by decide +kernel
theorem dX5_turnOf_18 : decode cX5_turnOf 18 = .ok (.istore 6, 2) := by decide +kernel
theorem dX5_turnOf_20 : decode cX5_turnOf 20 = .ok (.iload 6, 2) := by decide +kernel
theorem dX5_turnOf_22 : decode cX5_turnOf 22 = .ok (.bipush 10, 2) := by decide +kernel
theorem dX5_turnOf_24 : decode cX5_turnOf 24 = .ok (.if_icmp .ge 17, 3) := by decide +kernel
theorem dX5_turnOf_27 : decode cX5_turnOf 27 = .ok (.aload_n 0, 1) := by decide +kernel
theorem dX5_turnOf_28 : decode cX5_turnOf 28 = .ok (.getfield 70, 3) := by decide +kernel
theorem dX5_turnOf_31 : decode cX5_turnOf 31 = .ok (.iload 6, 2) := by decide +kernel
theorem dX5_turnOf_33 : decode cX5_turnOf 33 = .ok (.iconst 0, 1) := by decide +kernel
theorem dX5_turnOf_34 : decode cX5_turnOf 34 = .ok (.iastore, 1) := by decide +kernel
theorem dX5_turnOf_35 : decode cX5_turnOf 35 = .ok (.iinc 6 1, 3) := by decide +kernel
theorem dX5_turnOf_38 : decode cX5_turnOf 38 = .ok (.goto (-18), 3) := by decide +kernel
theorem dX5_turnOf_41 : decode cX5_turnOf 41 = .ok (.iconst 0, 1) := by decide +kernel
theorem dX5_turnOf_42 : decode cX5_turnOf 42 = .ok (.istore 6, 2) := by decide +kernel
theorem dX5_turnOf_44 : decode cX5_turnOf 44 = .ok (.iconst 0, 1) := by decide +kernel
theorem dX5_turnOf_45 : decode cX5_turnOf 45 = .ok (.istore 7, 2) := by decide +kernel
theorem dX5_turnOf_47 : decode cX5_turnOf 47 = .ok (.iload 7, 2) := by decide +kernel
theorem dX5_turnOf_49 : decode cX5_turnOf 49 = .ok (.bipush 37, 2) := by decide +kernel
theorem dX5_turnOf_51 : decode cX5_turnOf 51 = .ok (.if_icmp .ge 117, 3) := by decide +kernel
theorem dX5_turnOf_54 : decode cX5_turnOf 54 = .ok (.aload_n 0, 1) := by decide +kernel
theorem dX5_turnOf_55 : decode cX5_turnOf 55 = .ok (.iload_n 1, 1) := by decide +kernel
theorem dX5_turnOf_56 : decode cX5_turnOf 56 = .ok (.iload 7, 2) := by decide +kernel
theorem dX5_turnOf_58 : decode cX5_turnOf 58 = .ok (.invokevirtual 239, 3) := by decide +kernel
theorem dX5_turnOf_61 : decode cX5_turnOf 61 = .ok (.aload_n 0, 1) := by decide +kernel
theorem dX5_turnOf_62 : decode cX5_turnOf 62 = .ok (.bipush 59, 2) := by decide +kernel
theorem dX5_turnOf_64 : decode cX5_turnOf 64 = .ok (.invokevirtual 179, 3) := by decide +kernel
theorem dX5_turnOf_67 : decode cX5_turnOf 67 = .ok (.aload_n 0, 1) := by decide +kernel
theorem dX5_turnOf_68 : decode cX5_turnOf 68 = .ok (.invokevirtual 242, 3) := by decide +kernel
theorem dX5_turnOf_71 : decode cX5_turnOf 71 = .ok (.ifCond .eq 91, 3) := by decide +kernel
theorem dX5_turnOf_74 : decode cX5_turnOf 74 = .ok (.aload_n 0, 1) := by decide +kernel
theorem dX5_turnOf_75 : decode cX5_turnOf 75 = .ok (.getfield 34, 3) := by decide +kernel
theorem dX5_turnOf_78 : decode cX5_turnOf 78 = .ok (.iconst 3, 1) := by decide +kernel
theorem dX5_turnOf_79 : decode cX5_turnOf 79 = .ok (.iload_n 2, 1) := by decide +kernel
theorem dX5_turnOf_80 : decode cX5_turnOf 80 = .ok (.imul, 1) := by decide +kernel
theorem dX5_turnOf_81 : decode cX5_turnOf 81 = .ok (.iaload, 1) := by decide +kernel
theorem dX5_turnOf_82 : decode cX5_turnOf 82 = .ok (.istore 8, 2) := by decide +kernel
theorem dX5_turnOf_84 : decode cX5_turnOf 84 = .ok (.aload_n 0, 1) := by decide +kernel
theorem dX5_turnOf_85 : decode cX5_turnOf 85 = .ok (.getfield 34, 3) := by decide +kernel
theorem dX5_turnOf_88 : decode cX5_turnOf 88 = .ok (.iconst 3, 1) := by decide +kernel
theorem dX5_turnOf_89 : decode cX5_turnOf 89 = .ok (.iload_n 2, 1) := by decide +kernel
theorem dX5_turnOf_90 : decode cX5_turnOf 90 = .ok (.imul, 1) := by decide +kernel
theorem dX5_turnOf_91 : decode cX5_turnOf 91 = .ok (.dup2, 1) := by decide +kernel
theorem dX5_turnOf_92 : decode cX5_turnOf 92 = .ok (.iaload, 1) := by decide +kernel
theorem dX5_turnOf_93 : decode cX5_turnOf 93 = .ok (.iconst 1, 1) := by decide +kernel
theorem dX5_turnOf_94 : decode cX5_turnOf 94 = .ok (.iload 5, 2) := by decide +kernel
theorem dX5_turnOf_96 : decode cX5_turnOf 96 = .ok (.ishl, 1) := by decide +kernel
theorem dX5_turnOf_97 : decode cX5_turnOf 97 = .ok (.ior, 1) := by decide +kernel
theorem dX5_turnOf_98 : decode cX5_turnOf 98 = .ok (.iastore, 1) := by decide +kernel
theorem dX5_turnOf_99 : decode cX5_turnOf 99 = .ok (.aload_n 0, 1) := by decide +kernel
theorem dX5_turnOf_100 : decode cX5_turnOf 100 = .ok (.iload_n 2, 1) := by decide +kernel
theorem dX5_turnOf_101 : decode cX5_turnOf 101 = .ok (.invokevirtual 179, 3) := by decide +kernel
theorem dX5_turnOf_104 : decode cX5_turnOf 104 = .ok (.aload_n 0, 1) := by decide +kernel
theorem dX5_turnOf_105 : decode cX5_turnOf 105 = .ok (.getfield 37, 3) := by decide +kernel
theorem dX5_turnOf_108 : decode cX5_turnOf 108 = .ok (.iload_n 2, 1) := by decide +kernel
theorem dX5_turnOf_109 : decode cX5_turnOf 109 = .ok (.iaload, 1) := by decide +kernel
theorem dX5_turnOf_110 : decode cX5_turnOf 110 = .ok (.invokestatic 167, 3) := by decide +kernel
theorem dX5_turnOf_113 : decode cX5_turnOf 113 = .ok (.istore 9, 2) := by decide +kernel
theorem dX5_turnOf_115 : decode cX5_turnOf 115 = .ok (.aload_n 0, 1) := by decide +kernel
theorem dX5_turnOf_116 : decode cX5_turnOf 116 = .ok (.getfield 70, 3) := by decide +kernel
theorem dX5_turnOf_119 : decode cX5_turnOf 119 = .ok (.iload 9, 2) := by decide +kernel
theorem dX5_turnOf_121 : decode cX5_turnOf 121 = .ok (.dup2, 1) := by decide +kernel
theorem dX5_turnOf_122 : decode cX5_turnOf 122 = .ok (.iaload, 1) := by decide +kernel
theorem dX5_turnOf_123 : decode cX5_turnOf 123 = .ok (.iconst 1, 1) := by decide +kernel
theorem dX5_turnOf_124 : decode cX5_turnOf 124 = .ok (.iadd, 1) := by decide +kernel
theorem dX5_turnOf_125 : decode cX5_turnOf 125 = .ok (.iastore, 1) := by decide +kernel
theorem dX5_turnOf_126 : decode cX5_turnOf 126 = .ok (.aload_n 0, 1) := by decide +kernel
theorem dX5_turnOf_127 : decode cX5_turnOf 127 = .ok (.getfield 70, 3) := by decide +kernel
theorem dX5_turnOf_130 : decode cX5_turnOf 130 = .ok (.iload 9, 2) := by decide +kernel
theorem dX5_turnOf_132 : decode cX5_turnOf 132 = .ok (.iaload, 1) := by decide +kernel
theorem dX5_turnOf_133 : decode cX5_turnOf 133 = .ok (.iload 6, 2) := by decide +kernel
theorem dX5_turnOf_135 : decode cX5_turnOf 135 = .ok (.if_icmp .le 13, 3) := by decide +kernel
theorem dX5_turnOf_138 : decode cX5_turnOf 138 = .ok (.aload_n 0, 1) := by decide +kernel
theorem dX5_turnOf_139 : decode cX5_turnOf 139 = .ok (.getfield 70, 3) := by decide +kernel
theorem dX5_turnOf_142 : decode cX5_turnOf 142 = .ok (.iload 9, 2) := by decide +kernel
theorem dX5_turnOf_144 : decode cX5_turnOf 144 = .ok (.iaload, 1) := by decide +kernel
theorem dX5_turnOf_145 : decode cX5_turnOf 145 = .ok (.goto 5, 3) := by decide +kernel
theorem dX5_turnOf_148 : decode cX5_turnOf 148 = .ok (.iload 6, 2) := by decide +kernel
theorem dX5_turnOf_150 : decode cX5_turnOf 150 = .ok (.istore 6, 2) := by decide +kernel
theorem dX5_turnOf_152 : decode cX5_turnOf 152 = .ok (.aload_n 0, 1) := by decide +kernel
theorem dX5_turnOf_153 : decode cX5_turnOf 153 = .ok (.getfield 34, 3) := by decide +kernel
theorem dX5_turnOf_156 : decode cX5_turnOf 156 = .ok (.iconst 3, 1) := by decide +kernel
theorem dX5_turnOf_157 : decode cX5_turnOf 157 = .ok (.iload_n 2, 1) := by decide +kernel
theorem dX5_turnOf_158 : decode cX5_turnOf 158 = .ok (.imul, 1) := by decide +kernel
theorem dX5_turnOf_159 : decode cX5_turnOf 159 = .ok (.iload 8, 2) := by decide +kernel
theorem dX5_turnOf_161 : decode cX5_turnOf 161 = .ok (.iastore, 1) := by decide +kernel
theorem dX5_turnOf_162 : decode cX5_turnOf 162 = .ok (.iinc 7 1, 3) := by decide +kernel
theorem dX5_turnOf_165 : decode cX5_turnOf 165 = .ok (.goto (-118), 3) := by decide +kernel
theorem dX5_turnOf_168 : decode cX5_turnOf 168 = .ok (.iload_n 3, 1) := by decide +kernel
theorem dX5_turnOf_169 : decode cX5_turnOf 169 = .ok (.iconst (-1), 1) := by decide +kernel
theorem dX5_turnOf_170 : decode cX5_turnOf 170 = .ok (.if_icmp .eq 10, 3) := by decide +kernel
theorem dX5_turnOf_173 : decode cX5_turnOf 173 = .ok (.iload 6, 2) := by decide +kernel
theorem dX5_turnOf_175 : decode cX5_turnOf 175 = .ok (.iload 4, 2) := by decide +kernel
theorem dX5_turnOf_177 : decode cX5_turnOf 177 = .ok (.if_icmp .ge 7, 3) := by decide +kernel
theorem dX5_turnOf_180 : decode cX5_turnOf 180 = .ok (.iconst 1, 1) := by decide +kernel
theorem dX5_turnOf_181 : decode cX5_turnOf 181 = .ok (.goto 4, 3) := by decide +kernel
theorem dX5_turnOf_184 : decode cX5_turnOf 184 = .ok (.iconst 0, 1) := by decide +kernel
theorem dX5_turnOf_185 : decode cX5_turnOf 185 = .ok (.istore 7, 2) := by decide +kernel
theorem dX5_turnOf_187 : decode cX5_turnOf 187 = .ok (.iload 7, 2) := by decide +kernel
theorem dX5_turnOf_189 : decode cX5_turnOf 189 = .ok (.ifCond .eq 8, 3) := by decide +kernel
theorem dX5_turnOf_192 : decode cX5_turnOf 192 = .ok (.iload 5, 2) := by decide +kernel
theorem dX5_turnOf_194 : decode cX5_turnOf 194 = .ok (.goto 4, 3) := by decide +kernel
theorem dX5_turnOf_197 : decode cX5_turnOf 197 = .ok (.iload_n 3, 1) := by decide +kernel
theorem dX5_turnOf_198 : decode cX5_turnOf 198 = .ok (.istore_n 3, 1) := by decide +kernel
theorem dX5_turnOf_199 : decode cX5_turnOf 199 = .ok (.iload 7, 2) := by decide +kernel
theorem dX5_turnOf_201 : decode cX5_turnOf 201 = .ok (.ifCond .eq 8, 3) := by decide +kernel
theorem dX5_turnOf_204 : decode cX5_turnOf 204 = .ok (.iload 6, 2) := by decide +kernel
theorem dX5_turnOf_206 : decode cX5_turnOf 206 = .ok (.goto 5, 3) := by decide +kernel
theorem dX5_turnOf_209 : decode cX5_turnOf 209 = .ok (.iload 4, 2) := by decide +kernel
theorem dX5_turnOf_211 : decode cX5_turnOf 211 = .ok (.istore 4, 2) := by decide +kernel
theorem dX5_turnOf_213 : decode cX5_turnOf 213 = .ok (.iinc 5 1, 3) := by decide +kernel
theorem dX5_turnOf_216 : decode cX5_turnOf 216 = .ok (.goto (-208), 3) := by decide +kernel
theorem dX5_turnOf_219 : decode cX5_turnOf 219 = .ok (.aload_n 0, 1) := by decide +kernel
theorem dX5_turnOf_220 : decode cX5_turnOf 220 = .ok (.iload_n 1, 1) := by decide +kernel
theorem dX5_turnOf_221 : decode cX5_turnOf 221 = .ok (.invokevirtual 248, 3) := by decide +kernel
theorem dX5_turnOf_224 : decode cX5_turnOf 224 = .ok (.iload_n 3, 1) := by decide +kernel
theorem dX5_turnOf_225 : decode cX5_turnOf 225 = .ok (.ireturn, 1) := by decide +kernel
theorem dX5_turn_0 : decode cX5_turn 0 = .ok (.aload_n 0, 1) := by decide +kernel
theorem dX5_turn_1 : decode cX5_turn 1 = .ok (.invokevirtual 183, 3) := by decide +kernel
theorem dX5_turn_4 : decode cX5_turn 4 = .ok (.aload_n 0, 1) := by decide +kernel
theorem dX5_turn_5 : decode cX5_turn 5 = .ok (.iload_n 1, 1) := by decide +kernel
theorem dX5_turn_6 : decode cX5_turn 6 = .ok (.invokevirtual 134, 3) := by decide +kernel
theorem dX5_turn_9 : decode cX5_turn 9 = .ok (.ifCond .eq 19, 3) := by decide +kernel
theorem dX5_turn_12 : decode cX5_turn 12 = .ok (.iload_n 2, 1) := by decide +kernel
theorem dX5_turn_13 : decode cX5_turn 13 = .ok (.invokestatic 145, 3) := by decide +kernel
theorem dX5_turn_16 : decode cX5_turn 16 = .ok (.ifCond .eq 12, 3) := by decide +kernel
theorem dX5_turn_19 : decode cX5_turn 19 = .ok (.aload_n 0, 1) := by decide +kernel
theorem dX5_turn_20 : decode cX5_turn 20 = .ok (.iload_n 1, 1) := by decide +kernel
theorem dX5_turn_21 : decode cX5_turn 21 = .ok (.iload_n 2, 1) := by decide +kernel
theorem dX5_turn_22 : decode cX5_turn 22 = .ok (.invokevirtual 259, 3) := by decide +kernel
theorem dX5_turn_25 : decode cX5_turn 25 = .ok (.goto 5, 3) := by decide +kernel
theorem dX5_turn_28 : decode cX5_turn 28 = .ok (.bipush (-2), 2) := by decide +kernel
theorem dX5_turn_30 : decode cX5_turn 30 = .ok (.ireturn, 1) := by decide +kernel
theorem dX5_looksOf_0 : decode cX5_looksOf 0 = .ok (.lconst 0, 1) := by decide +kernel
theorem dX5_looksOf_1 : decode cX5_looksOf 1 = .ok (.lstore 5, 2) := by decide +kernel
theorem dX5_looksOf_3 : decode cX5_looksOf 3 = .ok (.lconst 1, 1) := by decide +kernel
theorem dX5_looksOf_4 : decode cX5_looksOf 4 = .ok (.lstore 7, 2) := by decide +kernel
theorem dX5_looksOf_6 : decode cX5_looksOf 6 = .ok (.iconst 0, 1) := by decide +kernel
theorem dX5_looksOf_7 : decode cX5_looksOf 7 = .ok (.istore 9, 2) := by decide +kernel
theorem dX5_looksOf_9 : decode cX5_looksOf 9 = .ok (.iload 9, 2) := by decide +kernel
theorem dX5_looksOf_11 : decode cX5_looksOf 11 = .ok (.iload_n 3, 1) := by decide +kernel
theorem dX5_looksOf_12 : decode cX5_looksOf 12 = .ok (.if_icmp .gt 17, 3) := by decide +kernel
theorem dX5_looksOf_15 : decode cX5_looksOf 15 = .ok (.lload 7, 2) := by decide +kernel
theorem dX5_looksOf_17 : decode cX5_looksOf 17 = .ok (.ldc2_w 262, 3) := by decide +kernel
theorem dX5_looksOf_20 : decode cX5_looksOf 20 = .ok (.lmul, 1) := by decide +kernel
theorem dX5_looksOf_21 : decode cX5_looksOf 21 = .ok (.lstore 7, 2) := by decide +kernel
theorem dX5_looksOf_23 : decode cX5_looksOf 23 = .ok (.iinc 9 1, 3) := by decide +kernel
theorem dX5_looksOf_26 : decode cX5_looksOf 26 = .ok (.goto (-17), 3) := by decide +kernel
theorem dX5_looksOf_29 : decode cX5_looksOf 29 = .ok (.iconst 0, 1) := by decide +kernel
theorem dX5_looksOf_30 : decode cX5_looksOf 30 = .ok (.istore 9, 2) := by decide +kernel
theorem dX5_looksOf_32 : decode cX5_looksOf 32 = .ok (.iload 9, 2) := by decide +kernel
theorem dX5_looksOf_34 : decode cX5_looksOf 34 = .ok (.iconst 2, 1) := by decide +kernel
theorem dX5_looksOf_35 : decode cX5_looksOf 35 = .ok (.iload_n 3, 1) := by decide +kernel
theorem dX5_looksOf_36 : decode cX5_looksOf 36 = .ok (.ishl, 1) := by decide +kernel
theorem dX5_looksOf_37 : decode cX5_looksOf 37 = .ok (.if_icmp .ge 126, 3) := by decide +kernel
theorem dX5_looksOf_40 : decode cX5_looksOf 40 = .ok (.lconst 1, 1) := by decide +kernel
theorem dX5_looksOf_41 : decode cX5_looksOf 41 = .ok (.lstore 10, 2) := by decide +kernel
theorem dX5_looksOf_43 : decode cX5_looksOf 43 = .ok (.iconst 0, 1) := by decide +kernel
theorem dX5_looksOf_44 : decode cX5_looksOf 44 = .ok (.istore 12, 2) := by decide +kernel
theorem dX5_looksOf_46 : decode cX5_looksOf 46 = .ok (.iload 12, 2) := by decide +kernel
theorem dX5_looksOf_48 : decode cX5_looksOf 48 = .ok (.iload_n 3, 1) := by decide +kernel
theorem dX5_looksOf_49 : decode cX5_looksOf 49 = .ok (.if_icmp .gt 79, 3) := by decide +kernel
theorem dX5_looksOf_52 : decode cX5_looksOf 52 = .ok (.iload 9, 2) := by decide +kernel
theorem dX5_looksOf_54 : decode cX5_looksOf 54 = .ok (.iload 12, 2) := by decide +kernel
theorem dX5_looksOf_56 : decode cX5_looksOf 56 = .ok (.invokestatic 157, 3) := by decide +kernel
theorem dX5_looksOf_59 : decode cX5_looksOf 59 = .ok (.istore 13, 2) := by decide +kernel
theorem dX5_looksOf_61 : decode cX5_looksOf 61 = .ok (.lload 10, 2) := by decide +kernel
theorem dX5_looksOf_63 : decode cX5_looksOf 63 = .ok (.iload 13, 2) := by decide +kernel
theorem dX5_looksOf_65 : decode cX5_looksOf 65 = .ok (.ifCond .eq 8, 3) := by decide +kernel
theorem dX5_looksOf_68 : decode cX5_looksOf 68 = .ok (.iload_n 1, 1) := by decide +kernel
theorem dX5_looksOf_69 : decode cX5_looksOf 69 = .ok (.i2l, 1) := by decide +kernel
theorem dX5_looksOf_70 : decode cX5_looksOf 70 = .ok (.goto 8, 3) := by decide +kernel
theorem dX5_looksOf_73 : decode cX5_looksOf 73 = .ok (.bipush 16, 2) := by decide +kernel
theorem dX5_looksOf_75 : decode cX5_looksOf 75 = .ok (.iload_n 1, 1) := by decide +kernel
theorem dX5_looksOf_76 : decode cX5_looksOf 76 = .ok (.isub, 1) := by decide +kernel
theorem dX5_looksOf_77 : decode cX5_looksOf 77 = .ok (.i2l, 1) := by decide +kernel
theorem dX5_looksOf_78 : decode cX5_looksOf 78 = .ok (.lmul, 1) := by decide +kernel
theorem dX5_looksOf_79 : decode cX5_looksOf 79 = .ok (.lstore 10, 2) := by decide +kernel
theorem dX5_looksOf_81 : decode cX5_looksOf 81 = .ok (.aload_n 0, 1) := by decide +kernel
theorem dX5_looksOf_82 : decode cX5_looksOf 82 = .ok (.getfield 34, 3) := by decide +kernel
theorem dX5_looksOf_85 : decode cX5_looksOf 85 = .ok (.iconst 3, 1) := by decide +kernel
theorem dX5_looksOf_86 : decode cX5_looksOf 86 = .ok (.iload 12, 2) := by decide +kernel
theorem dX5_looksOf_88 : decode cX5_looksOf 88 = .ok (.imul, 1) := by decide +kernel
theorem dX5_looksOf_89 : decode cX5_looksOf 89 = .ok (.iconst 1, 1) := by decide +kernel
theorem dX5_looksOf_90 : decode cX5_looksOf 90 = .ok (.iadd, 1) := by decide +kernel
theorem dX5_looksOf_91 : decode cX5_looksOf 91 = .ok (.aload_n 0, 1) := by decide +kernel
theorem dX5_looksOf_92 : decode cX5_looksOf 92 = .ok (.getfield 34, 3) := by decide +kernel
theorem dX5_looksOf_95 : decode cX5_looksOf 95 = .ok (.iconst 3, 1) := by decide +kernel
theorem dX5_looksOf_96 : decode cX5_looksOf 96 = .ok (.iload 12, 2) := by decide +kernel
theorem dX5_looksOf_98 : decode cX5_looksOf 98 = .ok (.imul, 1) := by decide +kernel
theorem dX5_looksOf_99 : decode cX5_looksOf 99 = .ok (.iconst 1, 1) := by decide +kernel
theorem dX5_looksOf_100 : decode cX5_looksOf 100 = .ok (.iadd, 1) := by decide +kernel
theorem dX5_looksOf_101 : decode cX5_looksOf 101 = .ok (.iaload, 1) := by decide +kernel
theorem dX5_looksOf_102 : decode cX5_looksOf 102 = .ok (.iconst 1, 1) := by decide +kernel
theorem dX5_looksOf_103 : decode cX5_looksOf 103 = .ok (.iload_n 2, 1) := by decide +kernel
theorem dX5_looksOf_104 : decode cX5_looksOf 104 = .ok (.ishl, 1) := by decide +kernel
theorem dX5_looksOf_105 : decode cX5_looksOf 105 = .ok (.iconst (-1), 1) := by decide +kernel
theorem dX5_looksOf_106 : decode cX5_looksOf 106 = .ok (.ixor, 1) := by decide +kernel
theorem dX5_looksOf_107 : decode cX5_looksOf 107 = .ok (.iand, 1) := by decide +kernel
theorem dX5_looksOf_108 : decode cX5_looksOf 108 = .ok (.iload 13, 2) := by decide +kernel
theorem dX5_looksOf_110 : decode cX5_looksOf 110 = .ok (.ifCond .eq 9, 3) := by decide +kernel
theorem dX5_looksOf_113 : decode cX5_looksOf 113 = .ok (.iconst 1, 1) := by decide +kernel
theorem dX5_looksOf_114 : decode cX5_looksOf 114 = .ok (.iload_n 2, 1) := by decide +kernel
theorem dX5_looksOf_115 : decode cX5_looksOf 115 = .ok (.ishl, 1) := by decide +kernel
theorem dX5_looksOf_116 : decode cX5_looksOf 116 = .ok (.goto 4, 3) := by decide +kernel
theorem dX5_looksOf_119 : decode cX5_looksOf 119 = .ok (.iconst 0, 1) := by decide +kernel
theorem dX5_looksOf_120 : decode cX5_looksOf 120 = .ok (.ior, 1) := by decide +kernel
theorem dX5_looksOf_121 : decode cX5_looksOf 121 = .ok (.iastore, 1) := by decide +kernel
theorem dX5_looksOf_122 : decode cX5_looksOf 122 = .ok (.iinc 12 1, 3) := by decide +kernel
theorem dX5_looksOf_125 : decode cX5_looksOf 125 = .ok (.goto (-79), 3) := by decide +kernel
theorem dX5_looksOf_128 : decode cX5_looksOf 128 = .ok (.aload_n 0, 1) := by decide +kernel
theorem dX5_looksOf_129 : decode cX5_looksOf 129 = .ok (.iload_n 3, 1) := by decide +kernel
theorem dX5_looksOf_130 : decode cX5_looksOf 130 = .ok (.invokevirtual 179, 3) := by decide +kernel
theorem dX5_looksOf_133 : decode cX5_looksOf 133 = .ok (.lload 5, 2) := by decide +kernel
theorem dX5_looksOf_135 : decode cX5_looksOf 135 = .ok (.aload_n 0, 1) := by decide +kernel
theorem dX5_looksOf_136 : decode cX5_looksOf 136 = .ok (.getfield 40, 3) := by decide +kernel
theorem dX5_looksOf_139 : decode cX5_looksOf 139 = .ok (.iload_n 3, 1) := by decide +kernel
theorem dX5_looksOf_140 : decode cX5_looksOf 140 = .ok (.iaload, 1) := by decide +kernel
theorem dX5_looksOf_141 : decode cX5_looksOf 141 = .ok (.iload_n 2, 1) := by decide +kernel
theorem dX5_looksOf_142 : decode cX5_looksOf 142 = .ok (.invokestatic 157, 3) := by decide +kernel
theorem dX5_looksOf_145 : decode cX5_looksOf 145 = .ok (.ifCond .eq 8, 3) := by decide +kernel
theorem dX5_looksOf_148 : decode cX5_looksOf 148 = .ok (.lload 10, 2) := by decide +kernel
theorem dX5_looksOf_150 : decode cX5_looksOf 150 = .ok (.goto 4, 3) := by decide +kernel
theorem dX5_looksOf_153 : decode cX5_looksOf 153 = .ok (.lconst 0, 1) := by decide +kernel
theorem dX5_looksOf_154 : decode cX5_looksOf 154 = .ok (.ladd, 1) := by decide +kernel
theorem dX5_looksOf_155 : decode cX5_looksOf 155 = .ok (.lstore 5, 2) := by decide +kernel
theorem dX5_looksOf_157 : decode cX5_looksOf 157 = .ok (.iinc 9 1, 3) := by decide +kernel
theorem dX5_looksOf_160 : decode cX5_looksOf 160 = .ok (.goto (-128), 3) := by decide +kernel
theorem dX5_looksOf_163 : decode cX5_looksOf 163 = .ok (.aload_n 0, 1) := by decide +kernel
theorem dX5_looksOf_164 : decode cX5_looksOf 164 = .ok (.invokevirtual 183, 3) := by decide +kernel
theorem dX5_looksOf_167 : decode cX5_looksOf 167 = .ok (.lload 5, 2) := by decide +kernel
theorem dX5_looksOf_169 : decode cX5_looksOf 169 = .ok (.lload 7, 2) := by decide +kernel
theorem dX5_looksOf_171 : decode cX5_looksOf 171 = .ok (.iload 4, 2) := by decide +kernel
theorem dX5_looksOf_173 : decode cX5_looksOf 173 = .ok (.invokestatic 264, 3) := by decide +kernel
theorem dX5_looksOf_176 : decode cX5_looksOf 176 = .ok (.lreturn, 1) := by decide +kernel
theorem dX5_looks_0 : decode cX5_looks 0 = .ok (.aload_n 0, 1) := by decide +kernel
theorem dX5_looks_1 : decode cX5_looks 1 = .ok (.invokevirtual 183, 3) := by decide +kernel
theorem dX5_looks_4 : decode cX5_looks 4 = .ok (.iload_n 1, 1) := by decide +kernel
theorem dX5_looks_5 : decode cX5_looks 5 = .ok (.i2l, 1) := by decide +kernel
theorem dX5_looks_6 : decode cX5_looks 6 = .ok (.lconst 0, 1) := by decide +kernel
theorem dX5_looks_7 : decode cX5_looks 7 = .ok (.ldc2_w 262, 3) := by decide +kernel
theorem dX5_looks_10 : decode cX5_looks 10 = .ok (.invokestatic 75, 3) := by decide +kernel
theorem dX5_looks_13 : decode cX5_looks 13 = .ok (.ifCond .eq 43, 3) := by decide +kernel
theorem dX5_looks_16 : decode cX5_looks 16 = .ok (.aload_n 0, 1) := by decide +kernel
theorem dX5_looks_17 : decode cX5_looks 17 = .ok (.iload_n 2, 1) := by decide +kernel
theorem dX5_looks_18 : decode cX5_looks 18 = .ok (.invokevirtual 134, 3) := by decide +kernel
theorem dX5_looks_21 : decode cX5_looks 21 = .ok (.ifCond .eq 35, 3) := by decide +kernel
theorem dX5_looks_24 : decode cX5_looks 24 = .ok (.iload_n 3, 1) := by decide +kernel
theorem dX5_looks_25 : decode cX5_looks 25 = .ok (.i2l, 1) := by decide +kernel
theorem dX5_looks_26 : decode cX5_looks 26 = .ok (.lconst 0, 1) := by decide +kernel
theorem dX5_looks_27 : decode cX5_looks 27 = .ok (.ldc2_w 234, 3) := by decide +kernel
theorem dX5_looks_30 : decode cX5_looks 30 = .ok (.invokestatic 75, 3) := by decide +kernel
theorem dX5_looks_33 : decode cX5_looks 33 = .ok (.ifCond .eq 23, 3) := by decide +kernel
theorem dX5_looks_36 : decode cX5_looks 36 = .ok (.iload 4, 2) := by decide +kernel
theorem dX5_looks_38 : decode cX5_looks 38 = .ok (.invokestatic 186, 3) := by decide +kernel
theorem dX5_looks_41 : decode cX5_looks 41 = .ok (.ifCond .eq 15, 3) := by decide +kernel
theorem dX5_looks_44 : decode cX5_looks 44 = .ok (.aload_n 0, 1) := by decide +kernel
theorem dX5_looks_45 : decode cX5_looks 45 = .ok (.iload_n 1, 1) := by decide +kernel
theorem dX5_looks_46 : decode cX5_looks 46 = .ok (.iload_n 2, 1) := by decide +kernel
theorem dX5_looks_47 : decode cX5_looks 47 = .ok (.iload_n 3, 1) := by decide +kernel
theorem dX5_looks_48 : decode cX5_looks 48 = .ok (.iload 4, 2) := by decide +kernel
theorem dX5_looks_50 : decode cX5_looks 50 = .ok (.invokevirtual 268, 3) := by decide +kernel
theorem dX5_looks_53 : decode cX5_looks 53 = .ok (.goto 8, 3) := by decide +kernel
theorem dX5_looks_56 : decode cX5_looks 56 = .ok (.bipush (-2), 2) := by decide +kernel
theorem dX5_looks_58 : decode cX5_looks 58 = .ok (.invokestatic 272, 3) := by decide +kernel
theorem dX5_looks_61 : decode cX5_looks 61 = .ok (.lreturn, 1) := by decide +kernel
theorem dX5_nightOf_0 : decode cX5_nightOf 0 = .ok (.iload_n 1, 1) := by decide +kernel
theorem dX5_nightOf_1 : decode cX5_nightOf 1 = .ok (.istore 4, 2) := by decide +kernel
theorem dX5_nightOf_3 : decode cX5_nightOf 3 = .ok (.iconst 0, 1) := by decide +kernel
theorem dX5_nightOf_4 : decode cX5_nightOf 4 = .ok (.istore 5, 2) := by decide +kernel
theorem dX5_nightOf_6 : decode cX5_nightOf 6 = .ok (.iload 5, 2) := by decide +kernel
theorem dX5_nightOf_8 : decode cX5_nightOf 8 = .ok (.iload_n 2, 1) := by decide +kernel
theorem dX5_nightOf_9 : decode cX5_nightOf 9 = .ok (.if_icmp .gt 52, 3) := by decide +kernel
theorem dX5_nightOf_12 : decode cX5_nightOf 12 = .ok (.aload_n 0, 1) := by decide +kernel
theorem dX5_nightOf_13 : decode cX5_nightOf 13 = .ok (.getfield 109, 3) := by decide +kernel
theorem dX5_nightOf_16 : decode cX5_nightOf 16 = .ok (.ifCond .le 45, 3) := by decide +kernel
theorem dX5_nightOf_19 : decode cX5_nightOf 19 = .ok (.ldc_w 276, 3) := by decide +kernel
theorem dX5_nightOf_22 : decode cX5_nightOf 22 = .ok (.iload 4, 2) := by decide +kernel
theorem dX5_nightOf_24 : decode cX5_nightOf 24 = .ok (.imul, 1) := by decide +kernel
theorem dX5_nightOf_25 : decode cX5_nightOf 25 = .ok (.sipush 12345, 3) := by decide +kernel
theorem dX5_nightOf_28 : decode cX5_nightOf 28 = .ok (.iadd, 1) := by decide +kernel
theorem dX5_nightOf_29 : decode cX5_nightOf 29 = .ok (.istore 4, 2) := by decide +kernel
theorem dX5_nightOf_31 : decode cX5_nightOf 31 = .ok (.aload_n 0, 1) := by decide +kernel
theorem dX5_nightOf_32 : decode cX5_nightOf 32 = .ok (.getfield 34, 3) := by decide +kernel
theorem dX5_nightOf_35 : decode cX5_nightOf 35 = .ok (.iconst 3, 1) := by decide +kernel
theorem dX5_nightOf_36 : decode cX5_nightOf 36 = .ok (.iload 5, 2) := by decide +kernel
theorem dX5_nightOf_38 : decode cX5_nightOf 38 = .ok (.imul, 1) := by decide +kernel
theorem dX5_nightOf_39 : decode cX5_nightOf 39 = .ok (.dup2, 1) := by decide +kernel
theorem dX5_nightOf_40 : decode cX5_nightOf 40 = .ok (.iaload, 1) := by decide +kernel
theorem dX5_nightOf_41 : decode cX5_nightOf 41 = .ok (.iconst 1, 1) := by decide +kernel
theorem dX5_nightOf_42 : decode cX5_nightOf 42 = .ok (.iload 4, 2) := by decide +kernel
theorem dX5_nightOf_44 : decode cX5_nightOf 44 = .ok (.bipush 16, 2) := by decide +kernel
theorem dX5_nightOf_46 : decode cX5_nightOf 46 = .ok (.iushr, 1) := by decide +kernel
theorem dX5_nightOf_47 : decode cX5_nightOf 47 = .ok (.aload_n 0, 1) := by decide +kernel
theorem dX5_nightOf_48 : decode cX5_nightOf 48 = .ok (.getfield 109, 3) := by decide +kernel
theorem dX5_nightOf_51 : decode cX5_nightOf 51 = .ok (.irem, 1) := by decide +kernel
theorem dX5_nightOf_52 : decode cX5_nightOf 52 = .ok (.ishl, 1) := by decide +kernel
theorem dX5_nightOf_53 : decode cX5_nightOf 53 = .ok (.ior, 1) := by decide +kernel
theorem dX5_nightOf_54 : decode cX5_nightOf 54 = .ok (.iastore, 1) := by decide +kernel
theorem dX5_nightOf_55 : decode cX5_nightOf 55 = .ok (.iinc 5 1, 3) := by decide +kernel
theorem dX5_nightOf_58 : decode cX5_nightOf 58 = .ok (.goto (-52), 3) := by decide +kernel
theorem dX5_nightOf_61 : decode cX5_nightOf 61 = .ok (.aload_n 0, 1) := by decide +kernel
theorem dX5_nightOf_62 : decode cX5_nightOf 62 = .ok (.iload_n 2, 1) := by decide +kernel
theorem dX5_nightOf_63 : decode cX5_nightOf 63 = .ok (.invokevirtual 179, 3) := by decide +kernel
theorem dX5_nightOf_66 : decode cX5_nightOf 66 = .ok (.iload_n 3, 1) := by decide +kernel
theorem dX5_nightOf_67 : decode cX5_nightOf 67 = .ok (.ifCond .ne 11, 3) := by decide +kernel
theorem dX5_nightOf_70 : decode cX5_nightOf 70 = .ok (.aload_n 0, 1) := by decide +kernel
theorem dX5_nightOf_71 : decode cX5_nightOf 71 = .ok (.iload_n 2, 1) := by decide +kernel
theorem dX5_nightOf_72 : decode cX5_nightOf 72 = .ok (.invokevirtual 220, 3) := by decide +kernel
theorem dX5_nightOf_75 : decode cX5_nightOf 75 = .ok (.goto 9, 3) := by decide +kernel
theorem dX5_nightOf_78 : decode cX5_nightOf 78 = .ok (.aload_n 0, 1) := by decide +kernel
theorem dX5_nightOf_79 : decode cX5_nightOf 79 = .ok (.getfield 40, 3) := by decide +kernel
theorem dX5_nightOf_82 : decode cX5_nightOf 82 = .ok (.iload_n 2, 1) := by decide +kernel
theorem dX5_nightOf_83 : decode cX5_nightOf 83 = .ok (.iaload, 1) := by decide +kernel
theorem dX5_nightOf_84 : decode cX5_nightOf 84 = .ok (.istore 5, 2) := by decide +kernel
theorem dX5_nightOf_86 : decode cX5_nightOf 86 = .ok (.aload_n 0, 1) := by decide +kernel
theorem dX5_nightOf_87 : decode cX5_nightOf 87 = .ok (.invokevirtual 183, 3) := by decide +kernel
theorem dX5_nightOf_90 : decode cX5_nightOf 90 = .ok (.iload 5, 2) := by decide +kernel
theorem dX5_nightOf_92 : decode cX5_nightOf 92 = .ok (.ireturn, 1) := by decide +kernel
theorem dX5_night_0 : decode cX5_night 0 = .ok (.aload_n 0, 1) := by decide +kernel
theorem dX5_night_1 : decode cX5_night 1 = .ok (.invokevirtual 183, 3) := by decide +kernel
theorem dX5_night_4 : decode cX5_night 4 = .ok (.iload_n 2, 1) := by decide +kernel
theorem dX5_night_5 : decode cX5_night 5 = .ok (.invokestatic 145, 3) := by decide +kernel
theorem dX5_night_8 : decode cX5_night 8 = .ok (.ifCond .eq 20, 3) := by decide +kernel
theorem dX5_night_11 : decode cX5_night 11 = .ok (.iload_n 3, 1) := by decide +kernel
theorem dX5_night_12 : decode cX5_night 12 = .ok (.invokestatic 186, 3) := by decide +kernel
theorem dX5_night_15 : decode cX5_night 15 = .ok (.ifCond .eq 13, 3) := by decide +kernel
theorem dX5_night_18 : decode cX5_night 18 = .ok (.aload_n 0, 1) := by decide +kernel
theorem dX5_night_19 : decode cX5_night 19 = .ok (.iload_n 1, 1) := by decide +kernel
theorem dX5_night_20 : decode cX5_night 20 = .ok (.iload_n 2, 1) := by decide +kernel
theorem dX5_night_21 : decode cX5_night 21 = .ok (.iload_n 3, 1) := by decide +kernel
theorem dX5_night_22 : decode cX5_night 22 = .ok (.invokevirtual 277, 3) := by decide +kernel
theorem dX5_night_25 : decode cX5_night 25 = .ok (.goto 5, 3) := by decide +kernel
theorem dX5_night_28 : decode cX5_night 28 = .ok (.bipush (-2), 2) := by decide +kernel
theorem dX5_night_30 : decode cX5_night 30 = .ok (.ireturn, 1) := by decide +kernel
theorem dX5_write_0 : decode cX5_write 0 = .ok (.iload_n 1, 1) := by decide +kernel
theorem dX5_write_1 : decode cX5_write 1 = .ok (.invokestatic 186, 3) := by decide +kernel
theorem dX5_write_4 : decode cX5_write 4 = .ok (.ifCond .eq 10, 3) := by decide +kernel
theorem dX5_write_7 : decode cX5_write 7 = .ok (.iload_n 2, 1) := by decide +kernel
theorem dX5_write_8 : decode cX5_write 8 = .ok (.invokestatic 85, 3) := by decide +kernel
theorem dX5_write_11 : decode cX5_write 11 = .ok (.ifCond .ne 6, 3) := by decide +kernel
theorem dX5_write_14 : decode cX5_write 14 = .ok (.bipush (-2), 2) := by decide +kernel
theorem dX5_write_16 : decode cX5_write 16 = .ok (.ireturn, 1) := by decide +kernel
theorem dX5_write_17 : decode cX5_write 17 = .ok (.aload_n 0, 1) := by decide +kernel
theorem dX5_write_18 : decode cX5_write 18 = .ok (.getfield 7, 3) := by decide +kernel
theorem dX5_write_21 : decode cX5_write 21 = .ok (.iload_n 2, 1) := by decide +kernel
theorem dX5_write_22 : decode cX5_write 22 = .ok (.iaload, 1) := by decide +kernel
theorem dX5_write_23 : decode cX5_write 23 = .ok (.ifCond .ge 9, 3) := by decide +kernel
theorem dX5_write_26 : decode cX5_write 26 = .ok (.aload_n 0, 1) := by decide +kernel
theorem dX5_write_27 : decode cX5_write 27 = .ok (.iconst 1, 1) := by decide +kernel
theorem dX5_write_28 : decode cX5_write 28 = .ok (.invokevirtual 91, 3) := by decide +kernel
theorem dX5_write_31 : decode cX5_write 31 = .ok (.ireturn, 1) := by decide +kernel
theorem dX5_write_32 : decode cX5_write 32 = .ok (.aload_n 0, 1) := by decide +kernel
theorem dX5_write_33 : decode cX5_write 33 = .ok (.invokevirtual 183, 3) := by decide +kernel
theorem dX5_write_36 : decode cX5_write 36 = .ok (.iconst 0, 1) := by decide +kernel
theorem dX5_write_37 : decode cX5_write 37 = .ok (.istore_n 3, 1) := by decide +kernel
theorem dX5_write_38 : decode cX5_write 38 = .ok (.iload_n 3, 1) := by decide +kernel
theorem dX5_write_39 : decode cX5_write 39 = .ok (.aload_n 0, 1) := by decide +kernel
theorem dX5_write_40 : decode cX5_write 40 = .ok (.getfield 13, 3) := by decide +kernel
theorem dX5_write_43 : decode cX5_write 43 = .ok (.iload_n 2, 1) := by decide +kernel
theorem dX5_write_44 : decode cX5_write 44 = .ok (.iaload, 1) := by decide +kernel
theorem dX5_write_45 : decode cX5_write 45 = .ok (.if_icmp .ge 48, 3) := by decide +kernel
theorem dX5_write_48 : decode cX5_write 48 = .ok (.aload_n 0, 1) := by decide +kernel
theorem dX5_write_49 : decode cX5_write 49 = .ok (.getfield 16, 3) := by decide +kernel
theorem dX5_write_52 : decode cX5_write 52 = .ok (.bipush 60, 2) := by decide +kernel
theorem dX5_write_54 : decode cX5_write 54 = .ok (.iload_n 2, 1) := by decide +kernel
theorem dX5_write_55 : decode cX5_write 55 = .ok (.imul, 1) := by decide +kernel
theorem dX5_write_56 : decode cX5_write 56 = .ok (.iload_n 3, 1) := by decide +kernel
theorem dX5_write_57 : decode cX5_write 57 = .ok (.iadd, 1) := by decide +kernel
theorem dX5_write_58 : decode cX5_write 58 = .ok (.aload_n 0, 1) := by decide +kernel
theorem dX5_write_59 : decode cX5_write 59 = .ok (.getfield 7, 3) := by decide +kernel
theorem dX5_write_62 : decode cX5_write 62 = .ok (.iload_n 2, 1) := by decide +kernel
theorem dX5_write_63 : decode cX5_write 63 = .ok (.iaload, 1) := by decide +kernel
theorem dX5_write_64 : decode cX5_write 64 = .ok (.iload_n 1, 1) := by decide +kernel
theorem dX5_write_65 : decode cX5_write 65 = .ok (.ifCond .ne 12, 3) := by decide +kernel
theorem dX5_write_68 : decode cX5_write 68 = .ok (.aload_n 0, 1) := by decide +kernel
theorem dX5_write_69 : decode cX5_write 69 = .ok (.getfield 37, 3) := by decide +kernel
theorem dX5_write_72 : decode cX5_write 72 = .ok (.iload_n 3, 1) := by decide +kernel
theorem dX5_write_73 : decode cX5_write 73 = .ok (.iaload, 1) := by decide +kernel
theorem dX5_write_74 : decode cX5_write 74 = .ok (.goto 9, 3) := by decide +kernel
theorem dX5_write_77 : decode cX5_write 77 = .ok (.aload_n 0, 1) := by decide +kernel
theorem dX5_write_78 : decode cX5_write 78 = .ok (.getfield 40, 3) := by decide +kernel
theorem dX5_write_81 : decode cX5_write 81 = .ok (.iload_n 3, 1) := by decide +kernel
theorem dX5_write_82 : decode cX5_write 82 = .ok (.iaload, 1) := by decide +kernel
theorem dX5_write_83 : decode cX5_write 83 = .ok (.invokestatic 99, 3) := by decide +kernel
theorem dX5_write_86 : decode cX5_write 86 = .ok (.iastore, 1) := by decide +kernel
theorem dX5_write_87 : decode cX5_write 87 = .ok (.iinc 3 1, 3) := by decide +kernel
theorem dX5_write_90 : decode cX5_write 90 = .ok (.goto (-52), 3) := by decide +kernel
theorem dX5_write_93 : decode cX5_write 93 = .ok (.aload_n 0, 1) := by decide +kernel
theorem dX5_write_94 : decode cX5_write 94 = .ok (.getfield 13, 3) := by decide +kernel
theorem dX5_write_97 : decode cX5_write 97 = .ok (.iload_n 2, 1) := by decide +kernel
theorem dX5_write_98 : decode cX5_write 98 = .ok (.iaload, 1) := by decide +kernel
theorem dX5_write_99 : decode cX5_write 99 = .ok (.ireturn, 1) := by decide +kernel
theorem dX5_count_0 : decode cX5_count 0 = .ok (.iconst 0, 1) := by decide +kernel
theorem dX5_count_1 : decode cX5_count 1 = .ok (.istore_n 2, 1) := by decide +kernel
theorem dX5_count_2 : decode cX5_count 2 = .ok (.aload_n 0, 1) := by decide +kernel
theorem dX5_count_3 : decode cX5_count 3 = .ok (.invokevirtual 183, 3) := by decide +kernel
theorem dX5_count_6 : decode cX5_count 6 = .ok (.iload_n 1, 1) := by decide +kernel
theorem dX5_count_7 : decode cX5_count 7 = .ok (.tableswitch 155 0 8 #[49, 54, 59, 64, 69, 74, 105, 112, 150], 49) := by decide +kernel
theorem dX5_count_56 : decode cX5_count 56 = .ok (.aload_n 0, 1) := by decide +kernel
theorem dX5_count_57 : decode cX5_count 57 = .ok (.getfield 109, 3) := by decide +kernel
theorem dX5_count_60 : decode cX5_count 60 = .ok (.ireturn, 1) := by decide +kernel
theorem dX5_count_61 : decode cX5_count 61 = .ok (.aload_n 0, 1) := by decide +kernel
theorem dX5_count_62 : decode cX5_count 62 = .ok (.getfield 106, 3) := by decide +kernel
theorem dX5_count_65 : decode cX5_count 65 = .ok (.ireturn, 1) := by decide +kernel
theorem dX5_count_66 : decode cX5_count 66 = .ok (.aload_n 0, 1) := by decide +kernel
theorem dX5_count_67 : decode cX5_count 67 = .ok (.getfield 148, 3) := by decide +kernel
theorem dX5_count_70 : decode cX5_count 70 = .ok (.ireturn, 1) := by decide +kernel
theorem dX5_count_71 : decode cX5_count 71 = .ok (.aload_n 0, 1) := by decide +kernel
theorem dX5_count_72 : decode cX5_count 72 = .ok (.getfield 236, 3) := by decide +kernel
theorem dX5_count_75 : decode cX5_count 75 = .ok (.ireturn, 1) := by decide +kernel
theorem dX5_count_76 : decode cX5_count 76 = .ok (.aload_n 0, 1) := by decide +kernel
theorem dX5_count_77 : decode cX5_count 77 = .ok (.getfield 142, 3) := by decide +kernel
theorem dX5_count_80 : decode cX5_count 80 = .ok (.ireturn, 1) := by decide +kernel
theorem dX5_count_81 : decode cX5_count 81 = .ok (.iconst 0, 1) := by decide +kernel
theorem dX5_count_82 : decode cX5_count 82 = .ok (.istore_n 3, 1) := by decide +kernel
theorem dX5_count_83 : decode cX5_count 83 = .ok (.iload_n 3, 1) := by decide +kernel
theorem dX5_count_84 : decode cX5_count 84 = .ok (.aload_n 0, 1) := by decide +kernel
theorem dX5_count_85 : decode cX5_count 85 = .ok (.getfield 109, 3) := by decide +kernel
theorem dX5_count_88 : decode cX5_count 88 = .ok (.if_icmp .ge 22, 3) := by decide +kernel
theorem dX5_count_91 : decode cX5_count 91 = .ok (.iload_n 2, 1) := by decide +kernel
theorem dX5_count_92 : decode cX5_count 92 = .ok (.aload_n 0, 1) := by decide +kernel
theorem dX5_count_93 : decode cX5_count 93 = .ok (.getfield 25, 3) := by decide +kernel
theorem dX5_count_96 : decode cX5_count 96 = .ok (.iconst 3, 1) := by decide +kernel
theorem dX5_count_97 : decode cX5_count 97 = .ok (.iload_n 3, 1) := by decide +kernel
theorem dX5_count_98 : decode cX5_count 98 = .ok (.imul, 1) := by decide +kernel
theorem dX5_count_99 : decode cX5_count 99 = .ok (.iconst 2, 1) := by decide +kernel
theorem dX5_count_100 : decode cX5_count 100 = .ok (.iadd, 1) := by decide +kernel
theorem dX5_count_101 : decode cX5_count 101 = .ok (.iaload, 1) := by decide +kernel
theorem dX5_count_102 : decode cX5_count 102 = .ok (.iadd, 1) := by decide +kernel
theorem dX5_count_103 : decode cX5_count 103 = .ok (.istore_n 2, 1) := by decide +kernel
theorem dX5_count_104 : decode cX5_count 104 = .ok (.iinc 3 1, 3) := by decide +kernel
theorem dX5_count_107 : decode cX5_count 107 = .ok (.goto (-24), 3) := by decide +kernel
theorem dX5_count_110 : decode cX5_count 110 = .ok (.iload_n 2, 1) := by decide +kernel
theorem dX5_count_111 : decode cX5_count 111 = .ok (.ireturn, 1) := by decide +kernel
theorem dX5_count_112 : decode cX5_count 112 = .ok (.aload_n 0, 1) := by decide +kernel
theorem dX5_count_113 : decode cX5_count 113 = .ok (.bipush 59, 2) := by decide +kernel
theorem dX5_count_115 : decode cX5_count 115 = .ok (.invokevirtual 220, 3) := by decide +kernel
theorem dX5_count_118 : decode cX5_count 118 = .ok (.ireturn, 1) := by decide +kernel
theorem dX5_count_119 : decode cX5_count 119 = .ok (.iconst 0, 1) := by decide +kernel
theorem dX5_count_120 : decode cX5_count 120 = .ok (.istore_n 3, 1) := by decide +kernel
theorem dX5_count_121 : decode cX5_count 121 = .ok (.iload_n 3, 1) := by decide +kernel
theorem dX5_count_122 : decode cX5_count 122 = .ok (.aload_n 0, 1) := by decide +kernel
theorem dX5_count_123 : decode cX5_count 123 = .ok (.getfield 109, 3) := by decide +kernel
theorem dX5_count_126 : decode cX5_count 126 = .ok (.if_icmp .ge 29, 3) := by decide +kernel
theorem dX5_count_129 : decode cX5_count 129 = .ok (.iload_n 2, 1) := by decide +kernel
theorem dX5_count_130 : decode cX5_count 130 = .ok (.aload_n 0, 1) := by decide +kernel
theorem dX5_count_131 : decode cX5_count 131 = .ok (.getfield 25, 3) := by decide +kernel
theorem dX5_count_134 : decode cX5_count 134 = .ok (.iconst 3, 1) := by decide +kernel
theorem dX5_count_135 : decode cX5_count 135 = .ok (.iload_n 3, 1) := by decide +kernel
theorem dX5_count_136 : decode cX5_count 136 = .ok (.imul, 1) := by decide +kernel
theorem dX5_count_137 : decode cX5_count 137 = .ok (.iaload, 1) := by decide +kernel
theorem dX5_count_138 : decode cX5_count 138 = .ok (.iconst 4, 1) := by decide +kernel
theorem dX5_count_139 : decode cX5_count 139 = .ok (.if_icmp .ne 7, 3) := by decide +kernel
theorem dX5_count_142 : decode cX5_count 142 = .ok (.iconst 1, 1) := by decide +kernel
theorem dX5_count_143 : decode cX5_count 143 = .ok (.goto 4, 3) := by decide +kernel
theorem dX5_count_146 : decode cX5_count 146 = .ok (.iconst 0, 1) := by decide +kernel
theorem dX5_count_147 : decode cX5_count 147 = .ok (.iadd, 1) := by decide +kernel
theorem dX5_count_148 : decode cX5_count 148 = .ok (.istore_n 2, 1) := by decide +kernel
theorem dX5_count_149 : decode cX5_count 149 = .ok (.iinc 3 1, 3) := by decide +kernel
theorem dX5_count_152 : decode cX5_count 152 = .ok (.goto (-31), 3) := by decide +kernel
theorem dX5_count_155 : decode cX5_count 155 = .ok (.iload_n 2, 1) := by decide +kernel
theorem dX5_count_156 : decode cX5_count 156 = .ok (.ireturn, 1) := by decide +kernel
theorem dX5_count_157 : decode cX5_count 157 = .ok (.aload_n 0, 1) := by decide +kernel
theorem dX5_count_158 : decode cX5_count 158 = .ok (.getfield 79, 3) := by decide +kernel
theorem dX5_count_161 : decode cX5_count 161 = .ok (.ireturn, 1) := by decide +kernel
theorem dX5_count_162 : decode cX5_count 162 = .ok (.bipush (-2), 2) := by decide +kernel
theorem dX5_count_164 : decode cX5_count 164 = .ok (.ireturn, 1) := by decide +kernel
theorem dX5_tellsBox_0 : decode cX5_tellsBox 0 = .ok (.lload_n 1, 1) := by decide +kernel
theorem dX5_tellsBox_1 : decode cX5_tellsBox 1 = .ok (.lstore 4, 2) := by decide +kernel
theorem dX5_tellsBox_3 : decode cX5_tellsBox 3 = .ok (.iconst 0, 1) := by decide +kernel
theorem dX5_tellsBox_4 : decode cX5_tellsBox 4 = .ok (.istore 6, 2) := by decide +kernel
theorem dX5_tellsBox_6 : decode cX5_tellsBox 6 = .ok (.iload 6, 2) := by decide +kernel
theorem dX5_tellsBox_8 : decode cX5_tellsBox 8 = .ok (.iconst 3, 1) := by decide +kernel
theorem dX5_tellsBox_9 : decode cX5_tellsBox 9 = .ok (.if_icmp .ge 30, 3) := by decide +kernel
theorem dX5_tellsBox_12 : decode cX5_tellsBox 12 = .ok (.ldc2_w 280, 3) := by decide +kernel
theorem dX5_tellsBox_15 : decode cX5_tellsBox 15 = .ok (.lload 4, 2) := by decide +kernel
theorem dX5_tellsBox_17 : decode cX5_tellsBox 17 = .ok (.lmul, 1) := by decide +kernel
theorem dX5_tellsBox_18 : decode cX5_tellsBox 18 = .ok (.aload_n 0, 1) := by decide +kernel
theorem dX5_tellsBox_19 : decode cX5_tellsBox 19 = .ok (.getfield 25, 3) := by decide +kernel
theorem dX5_tellsBox_22 : decode cX5_tellsBox 22 = .ok (.iconst 3, 1) := by decide +kernel
theorem dX5_tellsBox_23 : decode cX5_tellsBox 23 = .ok (.iload_n 3, 1) := by decide +kernel
theorem dX5_tellsBox_24 : decode cX5_tellsBox 24 = .ok (.imul, 1) := by decide +kernel
theorem dX5_tellsBox_25 : decode cX5_tellsBox 25 = .ok (.iload 6, 2) := by decide +kernel
theorem dX5_tellsBox_27 : decode cX5_tellsBox 27 = .ok (.iadd, 1) := by decide +kernel
theorem dX5_tellsBox_28 : decode cX5_tellsBox 28 = .ok (.iaload, 1) := by decide +kernel
theorem dX5_tellsBox_29 : decode cX5_tellsBox 29 = .ok (.i2l, 1) := by decide +kernel
theorem dX5_tellsBox_30 : decode cX5_tellsBox 30 = .ok (.ladd, 1) := by decide +kernel
theorem dX5_tellsBox_31 : decode cX5_tellsBox 31 = .ok (.lstore 4, 2) := by decide +kernel
theorem dX5_tellsBox_33 : decode cX5_tellsBox 33 = .ok (.iinc 6 1, 3) := by decide +kernel
theorem dX5_tellsBox_36 : decode cX5_tellsBox 36 = .ok (.goto (-30), 3) := by decide +kernel
theorem dX5_tellsBox_39 : decode cX5_tellsBox 39 = .ok (.ldc2_w 280, 3) := by decide +kernel
theorem dX5_tellsBox_42 : decode cX5_tellsBox 42 = .ok (.lload 4, 2) := by decide +kernel
theorem dX5_tellsBox_44 : decode cX5_tellsBox 44 = .ok (.lmul, 1) := by decide +kernel
theorem dX5_tellsBox_45 : decode cX5_tellsBox 45 = .ok (.aload_n 0, 1) := by decide +kernel
theorem dX5_tellsBox_46 : decode cX5_tellsBox 46 = .ok (.iload_n 3, 1) := by decide +kernel
theorem dX5_tellsBox_47 : decode cX5_tellsBox 47 = .ok (.invokevirtual 195, 3) := by decide +kernel
theorem dX5_tellsBox_50 : decode cX5_tellsBox 50 = .ok (.i2l, 1) := by decide +kernel
theorem dX5_tellsBox_51 : decode cX5_tellsBox 51 = .ok (.ladd, 1) := by decide +kernel
theorem dX5_tellsBox_52 : decode cX5_tellsBox 52 = .ok (.lstore 4, 2) := by decide +kernel
theorem dX5_tellsBox_54 : decode cX5_tellsBox 54 = .ok (.ldc2_w 280, 3) := by decide +kernel
theorem dX5_tellsBox_57 : decode cX5_tellsBox 57 = .ok (.lload 4, 2) := by decide +kernel
theorem dX5_tellsBox_59 : decode cX5_tellsBox 59 = .ok (.lmul, 1) := by decide +kernel
theorem dX5_tellsBox_60 : decode cX5_tellsBox 60 = .ok (.aload_n 0, 1) := by decide +kernel
theorem dX5_tellsBox_61 : decode cX5_tellsBox 61 = .ok (.getfield 43, 3) := by decide +kernel
theorem dX5_tellsBox_64 : decode cX5_tellsBox 64 = .ok (.bipush 81, 2) := by decide +kernel
theorem dX5_tellsBox_66 : decode cX5_tellsBox 66 = .ok (.iload_n 3, 1) := by decide +kernel
theorem dX5_tellsBox_67 : decode cX5_tellsBox 67 = .ok (.iadd, 1) := by decide +kernel
theorem dX5_tellsBox_68 : decode cX5_tellsBox 68 = .ok (.iaload, 1) := by decide +kernel
theorem dX5_tellsBox_69 : decode cX5_tellsBox 69 = .ok (.i2l, 1) := by decide +kernel
theorem dX5_tellsBox_70 : decode cX5_tellsBox 70 = .ok (.ladd, 1) := by decide +kernel
theorem dX5_tellsBox_71 : decode cX5_tellsBox 71 = .ok (.lstore 4, 2) := by decide +kernel
theorem dX5_tellsBox_73 : decode cX5_tellsBox 73 = .ok (.ldc2_w 280, 3) := by decide +kernel
theorem dX5_tellsBox_76 : decode cX5_tellsBox 76 = .ok (.lload 4, 2) := by decide +kernel
theorem dX5_tellsBox_78 : decode cX5_tellsBox 78 = .ok (.lmul, 1) := by decide +kernel
theorem dX5_tellsBox_79 : decode cX5_tellsBox 79 = .ok (.iload_n 3, 1) := by decide +kernel
theorem dX5_tellsBox_80 : decode cX5_tellsBox 80 = .ok (.ifCond .ne 8, 3) := by decide +kernel
theorem dX5_tellsBox_83 : decode cX5_tellsBox 83 = .ok (.bipush (-2), 2) := by decide +kernel
theorem dX5_tellsBox_85 : decode cX5_tellsBox 85 = .ok (.goto 9, 3) := by decide +kernel
theorem dX5_tellsBox_88 : decode cX5_tellsBox 88 = .ok (.aload_n 0, 1) := by decide +kernel
theorem dX5_tellsBox_89 : decode cX5_tellsBox 89 = .ok (.iload_n 3, 1) := by decide +kernel
theorem dX5_tellsBox_90 : decode cX5_tellsBox 90 = .ok (.iconst 0, 1) := by decide +kernel
theorem dX5_tellsBox_91 : decode cX5_tellsBox 91 = .ok (.invokevirtual 201, 3) := by decide +kernel
theorem dX5_tellsBox_94 : decode cX5_tellsBox 94 = .ok (.i2l, 1) := by decide +kernel
theorem dX5_tellsBox_95 : decode cX5_tellsBox 95 = .ok (.ladd, 1) := by decide +kernel
theorem dX5_tellsBox_96 : decode cX5_tellsBox 96 = .ok (.lstore 4, 2) := by decide +kernel
theorem dX5_tellsBox_98 : decode cX5_tellsBox 98 = .ok (.ldc2_w 280, 3) := by decide +kernel
theorem dX5_tellsBox_101 : decode cX5_tellsBox 101 = .ok (.lload 4, 2) := by decide +kernel
theorem dX5_tellsBox_103 : decode cX5_tellsBox 103 = .ok (.lmul, 1) := by decide +kernel
theorem dX5_tellsBox_104 : decode cX5_tellsBox 104 = .ok (.aload_n 0, 1) := by decide +kernel
theorem dX5_tellsBox_105 : decode cX5_tellsBox 105 = .ok (.iload_n 3, 1) := by decide +kernel
theorem dX5_tellsBox_106 : decode cX5_tellsBox 106 = .ok (.iconst 2, 1) := by decide +kernel
theorem dX5_tellsBox_107 : decode cX5_tellsBox 107 = .ok (.bipush 59, 2) := by decide +kernel
theorem dX5_tellsBox_109 : decode cX5_tellsBox 109 = .ok (.invokevirtual 204, 3) := by decide +kernel
theorem dX5_tellsBox_112 : decode cX5_tellsBox 112 = .ok (.i2l, 1) := by decide +kernel
theorem dX5_tellsBox_113 : decode cX5_tellsBox 113 = .ok (.ladd, 1) := by decide +kernel
theorem dX5_tellsBox_114 : decode cX5_tellsBox 114 = .ok (.lstore 4, 2) := by decide +kernel
theorem dX5_tellsBox_116 : decode cX5_tellsBox 116 = .ok (.ldc2_w 280, 3) := by decide +kernel
theorem dX5_tellsBox_119 : decode cX5_tellsBox 119 = .ok (.lload 4, 2) := by decide +kernel
theorem dX5_tellsBox_121 : decode cX5_tellsBox 121 = .ok (.lmul, 1) := by decide +kernel
theorem dX5_tellsBox_122 : decode cX5_tellsBox 122 = .ok (.aload_n 0, 1) := by decide +kernel
theorem dX5_tellsBox_123 : decode cX5_tellsBox 123 = .ok (.iload_n 3, 1) := by decide +kernel
theorem dX5_tellsBox_124 : decode cX5_tellsBox 124 = .ok (.iconst (-1), 1) := by decide +kernel
theorem dX5_tellsBox_125 : decode cX5_tellsBox 125 = .ok (.invokevirtual 253, 3) := by decide +kernel
theorem dX5_tellsBox_128 : decode cX5_tellsBox 128 = .ok (.i2l, 1) := by decide +kernel
theorem dX5_tellsBox_129 : decode cX5_tellsBox 129 = .ok (.ladd, 1) := by decide +kernel
theorem dX5_tellsBox_130 : decode cX5_tellsBox 130 = .ok (.lstore 4, 2) := by decide +kernel
theorem dX5_tellsBox_132 : decode cX5_tellsBox 132 = .ok (.ldc2_w 280, 3) := by decide +kernel
theorem dX5_tellsBox_135 : decode cX5_tellsBox 135 = .ok (.lload 4, 2) := by decide +kernel
theorem dX5_tellsBox_137 : decode cX5_tellsBox 137 = .ok (.lmul, 1) := by decide +kernel
theorem dX5_tellsBox_138 : decode cX5_tellsBox 138 = .ok (.aload_n 0, 1) := by decide +kernel
theorem dX5_tellsBox_139 : decode cX5_tellsBox 139 = .ok (.iload_n 3, 1) := by decide +kernel
theorem dX5_tellsBox_140 : decode cX5_tellsBox 140 = .ok (.iconst 0, 1) := by decide +kernel
theorem dX5_tellsBox_141 : decode cX5_tellsBox 141 = .ok (.invokevirtual 253, 3) := by decide +kernel
theorem dX5_tellsBox_144 : decode cX5_tellsBox 144 = .ok (.i2l, 1) := by decide +kernel
theorem dX5_tellsBox_145 : decode cX5_tellsBox 145 = .ok (.ladd, 1) := by decide +kernel
theorem dX5_tellsBox_146 : decode cX5_tellsBox 146 = .ok (.lstore 4, 2) := by decide +kernel
theorem dX5_tellsBox_148 : decode cX5_tellsBox 148 = .ok (.ldc2_w 280, 3) := by decide +kernel
theorem dX5_tellsBox_151 : decode cX5_tellsBox 151 = .ok (.lload 4, 2) := by decide +kernel
theorem dX5_tellsBox_153 : decode cX5_tellsBox 153 = .ok (.lmul, 1) := by decide +kernel
theorem dX5_tellsBox_154 : decode cX5_tellsBox 154 = .ok (.aload_n 0, 1) := by decide +kernel
theorem dX5_tellsBox_155 : decode cX5_tellsBox 155 = .ok (.iconst 5, 1) := by decide +kernel
theorem dX5_tellsBox_156 : decode cX5_tellsBox 156 = .ok (.iload_n 3, 1) := by decide +kernel
theorem dX5_tellsBox_157 : decode cX5_tellsBox 157 = .ok (.iconst 4, 1) := by decide +kernel
theorem dX5_tellsBox_158 : decode cX5_tellsBox 158 = .ok (.iconst 0, 1) := by decide +kernel
theorem dX5_tellsBox_159 : decode cX5_tellsBox 159 = .ok (.invokevirtual 268, 3) := by decide +kernel
theorem dX5_tellsBox_162 : decode cX5_tellsBox 162 = .ok (.ladd, 1) := by decide +kernel
theorem dX5_tellsBox_163 : decode cX5_tellsBox 163 = .ok (.lstore 4, 2) := by decide +kernel
theorem dX5_tellsBox_165 : decode cX5_tellsBox 165 = .ok (.ldc2_w 280, 3) := by decide +kernel
theorem dX5_tellsBox_168 : decode cX5_tellsBox 168 = .ok (.lload 4, 2) := by decide +kernel
theorem dX5_tellsBox_170 : decode cX5_tellsBox 170 = .ok (.lmul, 1) := by decide +kernel
theorem dX5_tellsBox_171 : decode cX5_tellsBox 171 = .ok (.aload_n 0, 1) := by decide +kernel
theorem dX5_tellsBox_172 : decode cX5_tellsBox 172 = .ok (.iconst 5, 1) := by decide +kernel
theorem dX5_tellsBox_173 : decode cX5_tellsBox 173 = .ok (.iload_n 3, 1) := by decide +kernel
theorem dX5_tellsBox_174 : decode cX5_tellsBox 174 = .ok (.iconst 4, 1) := by decide +kernel
theorem dX5_tellsBox_175 : decode cX5_tellsBox 175 = .ok (.iconst 1, 1) := by decide +kernel
theorem dX5_tellsBox_176 : decode cX5_tellsBox 176 = .ok (.invokevirtual 268, 3) := by decide +kernel
theorem dX5_tellsBox_179 : decode cX5_tellsBox 179 = .ok (.ladd, 1) := by decide +kernel
theorem dX5_tellsBox_180 : decode cX5_tellsBox 180 = .ok (.lreturn, 1) := by decide +kernel
theorem dX5_digest_0 : decode cX5_digest 0 = .ok (.ldc2_w 282, 3) := by decide +kernel
theorem dX5_digest_3 : decode cX5_digest 3 = .ok (.lstore_n 1, 1) := by decide +kernel
theorem dX5_digest_4 : decode cX5_digest 4 = .ok (.iconst 0, 1) := by decide +kernel
theorem dX5_digest_5 : decode cX5_digest 5 = .ok (.istore_n 3, 1) := by decide +kernel
theorem dX5_digest_6 : decode cX5_digest 6 = .ok (.iload_n 3, 1) := by decide +kernel
theorem dX5_digest_7 : decode cX5_digest 7 = .ok (.bipush 8, 2) := by decide +kernel
theorem dX5_digest_9 : decode cX5_digest 9 = .ok (.if_icmp .ge 22, 3) := by decide +kernel
theorem dX5_digest_12 : decode cX5_digest 12 = .ok (.ldc2_w 280, 3) := by decide +kernel
theorem dX5_digest_15 : decode cX5_digest 15 = .ok (.lload_n 1, 1) := by decide +kernel
theorem dX5_digest_16 : decode cX5_digest 16 = .ok (.lmul, 1) := by decide +kernel
theorem dX5_digest_17 : decode cX5_digest 17 = .ok (.aload_n 0, 1) := by decide +kernel
theorem dX5_digest_18 : decode cX5_digest 18 = .ok (.iload_n 3, 1) := by decide +kernel
theorem dX5_digest_19 : decode cX5_digest 19 = .ok (.invokevirtual 284, 3) := by decide +kernel
theorem dX5_digest_22 : decode cX5_digest 22 = .ok (.i2l, 1) := by decide +kernel
theorem dX5_digest_23 : decode cX5_digest 23 = .ok (.ladd, 1) := by decide +kernel
theorem dX5_digest_24 : decode cX5_digest 24 = .ok (.lstore_n 1, 1) := by decide +kernel
theorem dX5_digest_25 : decode cX5_digest 25 = .ok (.iinc 3 1, 3) := by decide +kernel
theorem dX5_digest_28 : decode cX5_digest 28 = .ok (.goto (-22), 3) := by decide +kernel
theorem dX5_digest_31 : decode cX5_digest 31 = .ok (.ldc2_w 280, 3) := by decide +kernel
theorem dX5_digest_34 : decode cX5_digest 34 = .ok (.lload_n 1, 1) := by decide +kernel
theorem dX5_digest_35 : decode cX5_digest 35 = .ok (.lmul, 1) := by decide +kernel
theorem dX5_digest_36 : decode cX5_digest 36 = .ok (.aload_n 0, 1) := by decide +kernel
theorem dX5_digest_37 : decode cX5_digest 37 = .ok (.invokevirtual 126, 3) := by decide +kernel
theorem dX5_digest_40 : decode cX5_digest 40 = .ok (.i2l, 1) := by decide +kernel
theorem dX5_digest_41 : decode cX5_digest 41 = .ok (.ladd, 1) := by decide +kernel
theorem dX5_digest_42 : decode cX5_digest 42 = .ok (.lstore_n 1, 1) := by decide +kernel
theorem dX5_digest_43 : decode cX5_digest 43 = .ok (.aload_n 0, 1) := by decide +kernel
theorem dX5_digest_44 : decode cX5_digest 44 = .ok (.invokevirtual 183, 3) := by decide +kernel
theorem dX5_digest_47 : decode cX5_digest 47 = .ok (.iconst 0, 1) := by decide +kernel
theorem dX5_digest_48 : decode cX5_digest 48 = .ok (.istore_n 3, 1) := by decide +kernel
theorem dX5_digest_49 : decode cX5_digest 49 = .ok (.iload_n 3, 1) := by decide +kernel
theorem dX5_digest_50 : decode cX5_digest 50 = .ok (.bipush 9, 2) := by decide +kernel
theorem dX5_digest_52 : decode cX5_digest 52 = .ok (.if_icmp .ge 23, 3) := by decide +kernel
theorem dX5_digest_55 : decode cX5_digest 55 = .ok (.ldc2_w 280, 3) := by decide +kernel
theorem dX5_digest_58 : decode cX5_digest 58 = .ok (.lload_n 1, 1) := by decide +kernel
theorem dX5_digest_59 : decode cX5_digest 59 = .ok (.lmul, 1) := by decide +kernel
theorem dX5_digest_60 : decode cX5_digest 60 = .ok (.aload_n 0, 1) := by decide +kernel
theorem dX5_digest_61 : decode cX5_digest 61 = .ok (.getfield 28, 3) := by decide +kernel
theorem dX5_digest_64 : decode cX5_digest 64 = .ok (.iload_n 3, 1) := by decide +kernel
theorem dX5_digest_65 : decode cX5_digest 65 = .ok (.iaload, 1) := by decide +kernel
theorem dX5_digest_66 : decode cX5_digest 66 = .ok (.i2l, 1) := by decide +kernel
theorem dX5_digest_67 : decode cX5_digest 67 = .ok (.ladd, 1) := by decide +kernel
theorem dX5_digest_68 : decode cX5_digest 68 = .ok (.lstore_n 1, 1) := by decide +kernel
theorem dX5_digest_69 : decode cX5_digest 69 = .ok (.iinc 3 1, 3) := by decide +kernel
theorem dX5_digest_72 : decode cX5_digest 72 = .ok (.goto (-23), 3) := by decide +kernel
theorem dX5_digest_75 : decode cX5_digest 75 = .ok (.iconst 0, 1) := by decide +kernel
theorem dX5_digest_76 : decode cX5_digest 76 = .ok (.istore_n 3, 1) := by decide +kernel
theorem dX5_digest_77 : decode cX5_digest 77 = .ok (.iload_n 3, 1) := by decide +kernel
theorem dX5_digest_78 : decode cX5_digest 78 = .ok (.aload_n 0, 1) := by decide +kernel
theorem dX5_digest_79 : decode cX5_digest 79 = .ok (.getfield 109, 3) := by decide +kernel
theorem dX5_digest_82 : decode cX5_digest 82 = .ok (.if_icmp .ge 16, 3) := by decide +kernel
theorem dX5_digest_85 : decode cX5_digest 85 = .ok (.aload_n 0, 1) := by decide +kernel
theorem dX5_digest_86 : decode cX5_digest 86 = .ok (.lload_n 1, 1) := by decide +kernel
theorem dX5_digest_87 : decode cX5_digest 87 = .ok (.iload_n 3, 1) := by decide +kernel
theorem dX5_digest_88 : decode cX5_digest 88 = .ok (.invokevirtual 287, 3) := by decide +kernel
theorem dX5_digest_91 : decode cX5_digest 91 = .ok (.lstore_n 1, 1) := by decide +kernel
theorem dX5_digest_92 : decode cX5_digest 92 = .ok (.iinc 3 1, 3) := by decide +kernel
theorem dX5_digest_95 : decode cX5_digest 95 = .ok (.goto (-18), 3) := by decide +kernel
theorem dX5_digest_98 : decode cX5_digest 98 = .ok (.iconst 0, 1) := by decide +kernel
theorem dX5_digest_99 : decode cX5_digest 99 = .ok (.istore_n 3, 1) := by decide +kernel
theorem dX5_digest_100 : decode cX5_digest 100 = .ok (.iload_n 3, 1) := by decide +kernel
theorem dX5_digest_101 : decode cX5_digest 101 = .ok (.iconst 5, 1) := by decide +kernel
theorem dX5_digest_102 : decode cX5_digest 102 = .ok (.if_icmp .ge 62, 3) := by decide +kernel
theorem dX5_digest_105 : decode cX5_digest 105 = .ok (.iload_n 3, 1) := by decide +kernel
theorem dX5_digest_106 : decode cX5_digest 106 = .ok (.iconst 3, 1) := by decide +kernel
theorem dX5_digest_107 : decode cX5_digest 107 = .ok (.if_icmp .ge 7, 3) := by decide +kernel
theorem dX5_digest_110 : decode cX5_digest 110 = .ok (.iload_n 3, 1) := by decide +kernel
theorem dX5_digest_111 : decode cX5_digest 111 = .ok (.goto 15, 3) := by decide +kernel
theorem dX5_digest_114 : decode cX5_digest 114 = .ok (.iload_n 3, 1) := by decide +kernel
theorem dX5_digest_115 : decode cX5_digest 115 = .ok (.iconst 3, 1) := by decide +kernel
theorem dX5_digest_116 : decode cX5_digest 116 = .ok (.if_icmp .ne 8, 3) := by decide +kernel
theorem dX5_digest_119 : decode cX5_digest 119 = .ok (.bipush 9, 2) := by decide +kernel
theorem dX5_digest_121 : decode cX5_digest 121 = .ok (.goto 5, 3) := by decide +kernel
theorem dX5_digest_124 : decode cX5_digest 124 = .ok (.bipush 59, 2) := by decide +kernel
theorem dX5_digest_126 : decode cX5_digest 126 = .ok (.istore 4, 2) := by decide +kernel
theorem dX5_digest_128 : decode cX5_digest 128 = .ok (.ldc2_w 280, 3) := by decide +kernel
theorem dX5_digest_131 : decode cX5_digest 131 = .ok (.lload_n 1, 1) := by decide +kernel
theorem dX5_digest_132 : decode cX5_digest 132 = .ok (.lmul, 1) := by decide +kernel
theorem dX5_digest_133 : decode cX5_digest 133 = .ok (.aload_n 0, 1) := by decide +kernel
theorem dX5_digest_134 : decode cX5_digest 134 = .ok (.getfield 37, 3) := by decide +kernel
theorem dX5_digest_137 : decode cX5_digest 137 = .ok (.iload 4, 2) := by decide +kernel
theorem dX5_digest_139 : decode cX5_digest 139 = .ok (.iaload, 1) := by decide +kernel
theorem dX5_digest_140 : decode cX5_digest 140 = .ok (.i2l, 1) := by decide +kernel
theorem dX5_digest_141 : decode cX5_digest 141 = .ok (.ladd, 1) := by decide +kernel
theorem dX5_digest_142 : decode cX5_digest 142 = .ok (.lstore_n 1, 1) := by decide +kernel
theorem dX5_digest_143 : decode cX5_digest 143 = .ok (.ldc2_w 280, 3) := by decide +kernel
theorem dX5_digest_146 : decode cX5_digest 146 = .ok (.lload_n 1, 1) := by decide +kernel
theorem dX5_digest_147 : decode cX5_digest 147 = .ok (.lmul, 1) := by decide +kernel
theorem dX5_digest_148 : decode cX5_digest 148 = .ok (.aload_n 0, 1) := by decide +kernel
theorem dX5_digest_149 : decode cX5_digest 149 = .ok (.getfield 40, 3) := by decide +kernel
theorem dX5_digest_152 : decode cX5_digest 152 = .ok (.iload 4, 2) := by decide +kernel
theorem dX5_digest_154 : decode cX5_digest 154 = .ok (.iaload, 1) := by decide +kernel
theorem dX5_digest_155 : decode cX5_digest 155 = .ok (.i2l, 1) := by decide +kernel
theorem dX5_digest_156 : decode cX5_digest 156 = .ok (.ladd, 1) := by decide +kernel
theorem dX5_digest_157 : decode cX5_digest 157 = .ok (.lstore_n 1, 1) := by decide +kernel
theorem dX5_digest_158 : decode cX5_digest 158 = .ok (.iinc 3 1, 3) := by decide +kernel
theorem dX5_digest_161 : decode cX5_digest 161 = .ok (.goto (-61), 3) := by decide +kernel
theorem dX5_digest_164 : decode cX5_digest 164 = .ok (.ldc2_w 280, 3) := by decide +kernel
theorem dX5_digest_167 : decode cX5_digest 167 = .ok (.lload_n 1, 1) := by decide +kernel
theorem dX5_digest_168 : decode cX5_digest 168 = .ok (.lmul, 1) := by decide +kernel
theorem dX5_digest_169 : decode cX5_digest 169 = .ok (.aload_n 0, 1) := by decide +kernel
theorem dX5_digest_170 : decode cX5_digest 170 = .ok (.invokevirtual 189, 3) := by decide +kernel
theorem dX5_digest_173 : decode cX5_digest 173 = .ok (.i2l, 1) := by decide +kernel
theorem dX5_digest_174 : decode cX5_digest 174 = .ok (.ladd, 1) := by decide +kernel
theorem dX5_digest_175 : decode cX5_digest 175 = .ok (.lstore_n 1, 1) := by decide +kernel
theorem dX5_digest_176 : decode cX5_digest 176 = .ok (.ldc2_w 280, 3) := by decide +kernel
theorem dX5_digest_179 : decode cX5_digest 179 = .ok (.lload_n 1, 1) := by decide +kernel
theorem dX5_digest_180 : decode cX5_digest 180 = .ok (.lmul, 1) := by decide +kernel
theorem dX5_digest_181 : decode cX5_digest 181 = .ok (.aload_n 0, 1) := by decide +kernel
theorem dX5_digest_182 : decode cX5_digest 182 = .ok (.iconst 0, 1) := by decide +kernel
theorem dX5_digest_183 : decode cX5_digest 183 = .ok (.invokevirtual 192, 3) := by decide +kernel
theorem dX5_digest_186 : decode cX5_digest 186 = .ok (.i2l, 1) := by decide +kernel
theorem dX5_digest_187 : decode cX5_digest 187 = .ok (.ladd, 1) := by decide +kernel
theorem dX5_digest_188 : decode cX5_digest 188 = .ok (.lstore_n 1, 1) := by decide +kernel
theorem dX5_digest_189 : decode cX5_digest 189 = .ok (.ldc2_w 280, 3) := by decide +kernel
theorem dX5_digest_192 : decode cX5_digest 192 = .ok (.lload_n 1, 1) := by decide +kernel
theorem dX5_digest_193 : decode cX5_digest 193 = .ok (.lmul, 1) := by decide +kernel
theorem dX5_digest_194 : decode cX5_digest 194 = .ok (.aload_n 0, 1) := by decide +kernel
theorem dX5_digest_195 : decode cX5_digest 195 = .ok (.iconst 1, 1) := by decide +kernel
theorem dX5_digest_196 : decode cX5_digest 196 = .ok (.invokevirtual 192, 3) := by decide +kernel
theorem dX5_digest_199 : decode cX5_digest 199 = .ok (.i2l, 1) := by decide +kernel
theorem dX5_digest_200 : decode cX5_digest 200 = .ok (.ladd, 1) := by decide +kernel
theorem dX5_digest_201 : decode cX5_digest 201 = .ok (.lstore_n 1, 1) := by decide +kernel
theorem dX5_digest_202 : decode cX5_digest 202 = .ok (.ldc2_w 280, 3) := by decide +kernel
theorem dX5_digest_205 : decode cX5_digest 205 = .ok (.lload_n 1, 1) := by decide +kernel
theorem dX5_digest_206 : decode cX5_digest 206 = .ok (.lmul, 1) := by decide +kernel
theorem dX5_digest_207 : decode cX5_digest 207 = .ok (.aload_n 0, 1) := by decide +kernel
theorem dX5_digest_208 : decode cX5_digest 208 = .ok (.iconst 0, 1) := by decide +kernel
theorem dX5_digest_209 : decode cX5_digest 209 = .ok (.iconst 0, 1) := by decide +kernel
theorem dX5_digest_210 : decode cX5_digest 210 = .ok (.iconst 1, 1) := by decide +kernel
theorem dX5_digest_211 : decode cX5_digest 211 = .ok (.invokevirtual 291, 3) := by decide +kernel
theorem dX5_digest_214 : decode cX5_digest 214 = .ok (.i2l, 1) := by decide +kernel
theorem dX5_digest_215 : decode cX5_digest 215 = .ok (.ladd, 1) := by decide +kernel
theorem dX5_digest_216 : decode cX5_digest 216 = .ok (.lstore_n 1, 1) := by decide +kernel
theorem dX5_digest_217 : decode cX5_digest 217 = .ok (.aload_n 0, 1) := by decide +kernel
theorem dX5_digest_218 : decode cX5_digest 218 = .ok (.bipush 9, 2) := by decide +kernel
theorem dX5_digest_220 : decode cX5_digest 220 = .ok (.invokevirtual 210, 3) := by decide +kernel
theorem dX5_digest_223 : decode cX5_digest 223 = .ok (.istore_n 3, 1) := by decide +kernel
theorem dX5_digest_224 : decode cX5_digest 224 = .ok (.ldc2_w 280, 3) := by decide +kernel
theorem dX5_digest_227 : decode cX5_digest 227 = .ok (.lload_n 1, 1) := by decide +kernel
theorem dX5_digest_228 : decode cX5_digest 228 = .ok (.lmul, 1) := by decide +kernel
theorem dX5_digest_229 : decode cX5_digest 229 = .ok (.iload_n 3, 1) := by decide +kernel
theorem dX5_digest_230 : decode cX5_digest 230 = .ok (.iconst 0, 1) := by decide +kernel
theorem dX5_digest_231 : decode cX5_digest 231 = .ok (.invokestatic 213, 3) := by decide +kernel
theorem dX5_digest_234 : decode cX5_digest 234 = .ok (.i2l, 1) := by decide +kernel
theorem dX5_digest_235 : decode cX5_digest 235 = .ok (.ladd, 1) := by decide +kernel
theorem dX5_digest_236 : decode cX5_digest 236 = .ok (.lstore_n 1, 1) := by decide +kernel
theorem dX5_digest_237 : decode cX5_digest 237 = .ok (.ldc2_w 280, 3) := by decide +kernel
theorem dX5_digest_240 : decode cX5_digest 240 = .ok (.lload_n 1, 1) := by decide +kernel
theorem dX5_digest_241 : decode cX5_digest 241 = .ok (.lmul, 1) := by decide +kernel
theorem dX5_digest_242 : decode cX5_digest 242 = .ok (.iload_n 3, 1) := by decide +kernel
theorem dX5_digest_243 : decode cX5_digest 243 = .ok (.iconst 1, 1) := by decide +kernel
theorem dX5_digest_244 : decode cX5_digest 244 = .ok (.invokestatic 213, 3) := by decide +kernel
theorem dX5_digest_247 : decode cX5_digest 247 = .ok (.i2l, 1) := by decide +kernel
theorem dX5_digest_248 : decode cX5_digest 248 = .ok (.ladd, 1) := by decide +kernel
theorem dX5_digest_249 : decode cX5_digest 249 = .ok (.lstore_n 1, 1) := by decide +kernel
theorem dX5_digest_250 : decode cX5_digest 250 = .ok (.iconst 0, 1) := by decide +kernel
theorem dX5_digest_251 : decode cX5_digest 251 = .ok (.istore 4, 2) := by decide +kernel
theorem dX5_digest_253 : decode cX5_digest 253 = .ok (.iload 4, 2) := by decide +kernel
theorem dX5_digest_255 : decode cX5_digest 255 = .ok (.iconst 2, 1) := by decide +kernel
theorem dX5_digest_256 : decode cX5_digest 256 = .ok (.if_icmp .ge 41, 3) := by decide +kernel
theorem dX5_digest_259 : decode cX5_digest 259 = .ok (.ldc2_w 280, 3) := by decide +kernel
theorem dX5_digest_262 : decode cX5_digest 262 = .ok (.lload_n 1, 1) := by decide +kernel
theorem dX5_digest_263 : decode cX5_digest 263 = .ok (.lmul, 1) := by decide +kernel
theorem dX5_digest_264 : decode cX5_digest 264 = .ok (.aload_n 0, 1) := by decide +kernel
theorem dX5_digest_265 : decode cX5_digest 265 = .ok (.iconst 3, 1) := by decide +kernel
theorem dX5_digest_266 : decode cX5_digest 266 = .ok (.iload 4, 2) := by decide +kernel
theorem dX5_digest_268 : decode cX5_digest 268 = .ok (.iconst (-1), 1) := by decide +kernel
theorem dX5_digest_269 : decode cX5_digest 269 = .ok (.invokevirtual 294, 3) := by decide +kernel
theorem dX5_digest_272 : decode cX5_digest 272 = .ok (.i2l, 1) := by decide +kernel
theorem dX5_digest_273 : decode cX5_digest 273 = .ok (.ladd, 1) := by decide +kernel
theorem dX5_digest_274 : decode cX5_digest 274 = .ok (.lstore_n 1, 1) := by decide +kernel
theorem dX5_digest_275 : decode cX5_digest 275 = .ok (.ldc2_w 280, 3) := by decide +kernel
theorem dX5_digest_278 : decode cX5_digest 278 = .ok (.lload_n 1, 1) := by decide +kernel
theorem dX5_digest_279 : decode cX5_digest 279 = .ok (.lmul, 1) := by decide +kernel
theorem dX5_digest_280 : decode cX5_digest 280 = .ok (.aload_n 0, 1) := by decide +kernel
theorem dX5_digest_281 : decode cX5_digest 281 = .ok (.iconst 3, 1) := by decide +kernel
theorem dX5_digest_282 : decode cX5_digest 282 = .ok (.iload 4, 2) := by decide +kernel
theorem dX5_digest_284 : decode cX5_digest 284 = .ok (.iconst 0, 1) := by decide +kernel
theorem dX5_digest_285 : decode cX5_digest 285 = .ok (.invokevirtual 294, 3) := by decide +kernel
theorem dX5_digest_288 : decode cX5_digest 288 = .ok (.i2l, 1) := by decide +kernel
theorem dX5_digest_289 : decode cX5_digest 289 = .ok (.ladd, 1) := by decide +kernel
theorem dX5_digest_290 : decode cX5_digest 290 = .ok (.lstore_n 1, 1) := by decide +kernel
theorem dX5_digest_291 : decode cX5_digest 291 = .ok (.iinc 4 1, 3) := by decide +kernel
theorem dX5_digest_294 : decode cX5_digest 294 = .ok (.goto (-41), 3) := by decide +kernel
theorem dX5_digest_297 : decode cX5_digest 297 = .ok (.ldc2_w 280, 3) := by decide +kernel
theorem dX5_digest_300 : decode cX5_digest 300 = .ok (.lload_n 1, 1) := by decide +kernel
theorem dX5_digest_301 : decode cX5_digest 301 = .ok (.lmul, 1) := by decide +kernel
theorem dX5_digest_302 : decode cX5_digest 302 = .ok (.aload_n 0, 1) := by decide +kernel
theorem dX5_digest_303 : decode cX5_digest 303 = .ok (.invokevirtual 256, 3) := by decide +kernel
theorem dX5_digest_306 : decode cX5_digest 306 = .ok (.i2l, 1) := by decide +kernel
theorem dX5_digest_307 : decode cX5_digest 307 = .ok (.ladd, 1) := by decide +kernel
theorem dX5_digest_308 : decode cX5_digest 308 = .ok (.lstore_n 1, 1) := by decide +kernel
theorem dX5_digest_309 : decode cX5_digest 309 = .ok (.ldc2_w 280, 3) := by decide +kernel
theorem dX5_digest_312 : decode cX5_digest 312 = .ok (.lload_n 1, 1) := by decide +kernel
theorem dX5_digest_313 : decode cX5_digest 313 = .ok (.lmul, 1) := by decide +kernel
theorem dX5_digest_314 : decode cX5_digest 314 = .ok (.aload_n 0, 1) := by decide +kernel
theorem dX5_digest_315 : decode cX5_digest 315 = .ok (.iconst 0, 1) := by decide +kernel
theorem dX5_digest_316 : decode cX5_digest 316 = .ok (.iconst 4, 1) := by decide +kernel
theorem dX5_digest_317 : decode cX5_digest 317 = .ok (.invokevirtual 296, 3) := by decide +kernel
theorem dX5_digest_320 : decode cX5_digest 320 = .ok (.i2l, 1) := by decide +kernel
theorem dX5_digest_321 : decode cX5_digest 321 = .ok (.ladd, 1) := by decide +kernel
theorem dX5_digest_322 : decode cX5_digest 322 = .ok (.lstore_n 1, 1) := by decide +kernel
theorem dX5_digest_323 : decode cX5_digest 323 = .ok (.ldc2_w 280, 3) := by decide +kernel
theorem dX5_digest_326 : decode cX5_digest 326 = .ok (.lload_n 1, 1) := by decide +kernel
theorem dX5_digest_327 : decode cX5_digest 327 = .ok (.lmul, 1) := by decide +kernel
theorem dX5_digest_328 : decode cX5_digest 328 = .ok (.aload_n 0, 1) := by decide +kernel
theorem dX5_digest_329 : decode cX5_digest 329 = .ok (.bipush 7, 2) := by decide +kernel
theorem dX5_digest_331 : decode cX5_digest 331 = .ok (.bipush 20, 2) := by decide +kernel
theorem dX5_digest_333 : decode cX5_digest 333 = .ok (.iconst 0, 1) := by decide +kernel
theorem dX5_digest_334 : decode cX5_digest 334 = .ok (.invokevirtual 277, 3) := by decide +kernel
theorem dX5_digest_337 : decode cX5_digest 337 = .ok (.i2l, 1) := by decide +kernel
theorem dX5_digest_338 : decode cX5_digest 338 = .ok (.ladd, 1) := by decide +kernel
theorem dX5_digest_339 : decode cX5_digest 339 = .ok (.lstore_n 1, 1) := by decide +kernel
theorem dX5_digest_340 : decode cX5_digest 340 = .ok (.ldc2_w 280, 3) := by decide +kernel
theorem dX5_digest_343 : decode cX5_digest 343 = .ok (.lload_n 1, 1) := by decide +kernel
theorem dX5_digest_344 : decode cX5_digest 344 = .ok (.lmul, 1) := by decide +kernel
theorem dX5_digest_345 : decode cX5_digest 345 = .ok (.aload_n 0, 1) := by decide +kernel
theorem dX5_digest_346 : decode cX5_digest 346 = .ok (.bipush 7, 2) := by decide +kernel
theorem dX5_digest_348 : decode cX5_digest 348 = .ok (.bipush 20, 2) := by decide +kernel
theorem dX5_digest_350 : decode cX5_digest 350 = .ok (.iconst 1, 1) := by decide +kernel
theorem dX5_digest_351 : decode cX5_digest 351 = .ok (.invokevirtual 277, 3) := by decide +kernel
theorem dX5_digest_354 : decode cX5_digest 354 = .ok (.i2l, 1) := by decide +kernel
theorem dX5_digest_355 : decode cX5_digest 355 = .ok (.ladd, 1) := by decide +kernel
theorem dX5_digest_356 : decode cX5_digest 356 = .ok (.lreturn, 1) := by decide +kernel
end
section
theorem dL_law_0 : decode cL_law 0 = .ok (.new 7, 3) := by decide +kernel
theorem dL_law_3 : decode cL_law 3 = .ok (.dup, 1) := by decide +kernel
theorem dL_law_4 : decode cL_law 4 = .ok (.invokespecial 9, 3) := by decide +kernel
theorem dL_law_7 : decode cL_law 7 = .ok (.astore_n 1, 1) := by decide +kernel
theorem dL_law_8 : decode cL_law 8 = .ok (.new 10, 3) := by decide +kernel
theorem dL_law_11 : decode cL_law 11 = .ok (.dup, 1) := by decide +kernel
theorem dL_law_12 : decode cL_law 12 = .ok (.invokespecial 12, 3) := by decide +kernel
theorem dL_law_15 : decode cL_law 15 = .ok (.astore_n 2, 1) := by decide +kernel
theorem dL_law_16 : decode cL_law 16 = .ok (.iconst 0, 1) := by decide +kernel
theorem dL_law_17 : decode cL_law 17 = .ok (.istore_n 3, 1) := by decide +kernel
theorem dL_law_18 : decode cL_law 18 = .ok (.iload_n 3, 1) := by decide +kernel
theorem dL_law_19 : decode cL_law 19 = .ok (.aload_n 0, 1) := by decide +kernel
theorem dL_law_20 : decode cL_law 20 = .ok (.arraylength, 1) := by decide +kernel
theorem dL_law_21 : decode cL_law 21 = .ok (.bipush 6, 2) := by decide +kernel
theorem dL_law_23 : decode cL_law 23 = .ok (.isub, 1) := by decide +kernel
theorem dL_law_24 : decode cL_law 24 = .ok (.if_icmp .gt 1254, 3) := by decide +kernel
theorem dL_law_27 : decode cL_law 27 = .ok (.aload_n 0, 1) := by decide +kernel
theorem dL_law_28 : decode cL_law 28 = .ok (.iload_n 3, 1) := by decide +kernel
theorem dL_law_29 : decode cL_law 29 = .ok (.iaload, 1) := by decide +kernel
theorem dL_law_30 : decode cL_law 30 = .ok (.bipush 63, 2) := by decide +kernel
theorem dL_law_32 : decode cL_law 32 = .ok (.iand, 1) := by decide +kernel
theorem dL_law_33 : decode cL_law 33 = .ok (.tableswitch 1239 0 35 #[159, 182, 195, 208, 221, 254, 277, 310, 333, 376, 389, 412, 445, 478, 491, 514, 537, 570, 613, 646, 679, 722, 755, 768, 801, 814, 847, 901, 944, 987, 1010, 1063, 1106, 1169, 1202, 1225], 159) := by decide +kernel
theorem dL_law_192 : decode cL_law 192 = .ok (.aload_n 1, 1) := by decide +kernel
theorem dL_law_193 : decode cL_law 193 = .ok (.aload_n 0, 1) := by decide +kernel
theorem dL_law_194 : decode cL_law 194 = .ok (.iload_n 3, 1) := by decide +kernel
theorem dL_law_195 : decode cL_law 195 = .ok (.iconst 1, 1) := by decide +kernel
theorem dL_law_196 : decode cL_law 196 = .ok (.iadd, 1) := by decide +kernel
theorem dL_law_197 : decode cL_law 197 = .ok (.iaload, 1) := by decide +kernel
theorem dL_law_198 : decode cL_law 198 = .ok (.invokevirtual 13, 3) := by decide +kernel
theorem dL_law_201 : decode cL_law 201 = .ok (.aload_n 2, 1) := by decide +kernel
theorem dL_law_202 : decode cL_law 202 = .ok (.aload_n 0, 1) := by decide +kernel
theorem dL_law_203 : decode cL_law 203 = .ok (.iload_n 3, 1) := by decide +kernel
theorem dL_law_204 : decode cL_law 204 = .ok (.iconst 1, 1) := by decide +kernel
theorem dL_law_205 : decode cL_law 205 = .ok (.iadd, 1) := by decide +kernel
theorem dL_law_206 : decode cL_law 206 = .ok (.iaload, 1) := by decide +kernel
theorem dL_law_207 : decode cL_law 207 = .ok (.invokevirtual 17, 3) := by decide +kernel
theorem dL_law_210 : decode cL_law 210 = .ok (.if_icmp .eq 1062, 3) := by decide +kernel
theorem dL_law_213 : decode cL_law 213 = .ok (.iconst 0, 1) := by decide +kernel
theorem dL_law_214 : decode cL_law 214 = .ok (.ireturn, 1) := by decide +kernel
theorem dL_law_215 : decode cL_law 215 = .ok (.aload_n 1, 1) := by decide +kernel
theorem dL_law_216 : decode cL_law 216 = .ok (.invokevirtual 18, 3) := by decide +kernel
theorem dL_law_219 : decode cL_law 219 = .ok (.aload_n 2, 1) := by decide +kernel
theorem dL_law_220 : decode cL_law 220 = .ok (.invokevirtual 22, 3) := by decide +kernel
theorem dL_law_223 : decode cL_law 223 = .ok (.if_icmp .eq 1049, 3) := by decide +kernel
theorem dL_law_226 : decode cL_law 226 = .ok (.iconst 0, 1) := by decide +kernel
theorem dL_law_227 : decode cL_law 227 = .ok (.ireturn, 1) := by decide +kernel
theorem dL_law_228 : decode cL_law 228 = .ok (.aload_n 1, 1) := by decide +kernel
theorem dL_law_229 : decode cL_law 229 = .ok (.invokevirtual 23, 3) := by decide +kernel
theorem dL_law_232 : decode cL_law 232 = .ok (.aload_n 2, 1) := by decide +kernel
theorem dL_law_233 : decode cL_law 233 = .ok (.invokevirtual 26, 3) := by decide +kernel
theorem dL_law_236 : decode cL_law 236 = .ok (.if_icmp .eq 1036, 3) := by decide +kernel
theorem dL_law_239 : decode cL_law 239 = .ok (.iconst 0, 1) := by decide +kernel
theorem dL_law_240 : decode cL_law 240 = .ok (.ireturn, 1) := by decide +kernel
theorem dL_law_241 : decode cL_law 241 = .ok (.aload_n 1, 1) := by decide +kernel
theorem dL_law_242 : decode cL_law 242 = .ok (.invokevirtual 27, 3) := by decide +kernel
theorem dL_law_245 : decode cL_law 245 = .ok (.aload_n 2, 1) := by decide +kernel
theorem dL_law_246 : decode cL_law 246 = .ok (.invokevirtual 30, 3) := by decide +kernel
theorem dL_law_249 : decode cL_law 249 = .ok (.if_icmp .eq 1023, 3) := by decide +kernel
theorem dL_law_252 : decode cL_law 252 = .ok (.iconst 0, 1) := by decide +kernel
theorem dL_law_253 : decode cL_law 253 = .ok (.ireturn, 1) := by decide +kernel
theorem dL_law_254 : decode cL_law 254 = .ok (.aload_n 1, 1) := by decide +kernel
theorem dL_law_255 : decode cL_law 255 = .ok (.aload_n 0, 1) := by decide +kernel
theorem dL_law_256 : decode cL_law 256 = .ok (.iload_n 3, 1) := by decide +kernel
theorem dL_law_257 : decode cL_law 257 = .ok (.iconst 1, 1) := by decide +kernel
theorem dL_law_258 : decode cL_law 258 = .ok (.iadd, 1) := by decide +kernel
theorem dL_law_259 : decode cL_law 259 = .ok (.iaload, 1) := by decide +kernel
theorem dL_law_260 : decode cL_law 260 = .ok (.aload_n 0, 1) := by decide +kernel
theorem dL_law_261 : decode cL_law 261 = .ok (.iload_n 3, 1) := by decide +kernel
theorem dL_law_262 : decode cL_law 262 = .ok (.iconst 2, 1) := by decide +kernel
theorem dL_law_263 : decode cL_law 263 = .ok (.iadd, 1) := by decide +kernel
theorem dL_law_264 : decode cL_law 264 = .ok (.iaload, 1) := by decide +kernel
theorem dL_law_265 : decode cL_law 265 = .ok (.invokevirtual 31, 3) := by decide +kernel
theorem dL_law_268 : decode cL_law 268 = .ok (.aload_n 2, 1) := by decide +kernel
theorem dL_law_269 : decode cL_law 269 = .ok (.aload_n 0, 1) := by decide +kernel
theorem dL_law_270 : decode cL_law 270 = .ok (.iload_n 3, 1) := by decide +kernel
theorem dL_law_271 : decode cL_law 271 = .ok (.iconst 1, 1) := by decide +kernel
theorem dL_law_272 : decode cL_law 272 = .ok (.iadd, 1) := by decide +kernel
theorem dL_law_273 : decode cL_law 273 = .ok (.iaload, 1) := by decide +kernel
theorem dL_law_274 : decode cL_law 274 = .ok (.aload_n 0, 1) := by decide +kernel
theorem dL_law_275 : decode cL_law 275 = .ok (.iload_n 3, 1) := by decide +kernel
theorem dL_law_276 : decode cL_law 276 = .ok (.iconst 2, 1) := by decide +kernel
theorem dL_law_277 : decode cL_law 277 = .ok (.iadd, 1) := by decide +kernel
theorem dL_law_278 : decode cL_law 278 = .ok (.iaload, 1) := by decide +kernel
theorem dL_law_279 : decode cL_law 279 = .ok (.invokevirtual 35, 3) := by decide +kernel
theorem dL_law_282 : decode cL_law 282 = .ok (.if_icmp .eq 990, 3) := by decide +kernel
theorem dL_law_285 : decode cL_law 285 = .ok (.iconst 0, 1) := by decide +kernel
theorem dL_law_286 : decode cL_law 286 = .ok (.ireturn, 1) := by decide +kernel
theorem dL_law_287 : decode cL_law 287 = .ok (.aload_n 1, 1) := by decide +kernel
theorem dL_law_288 : decode cL_law 288 = .ok (.aload_n 0, 1) := by decide +kernel
theorem dL_law_289 : decode cL_law 289 = .ok (.iload_n 3, 1) := by decide +kernel
theorem dL_law_290 : decode cL_law 290 = .ok (.iconst 1, 1) := by decide +kernel
theorem dL_law_291 : decode cL_law 291 = .ok (.iadd, 1) := by decide +kernel
theorem dL_law_292 : decode cL_law 292 = .ok (.iaload, 1) := by decide +kernel
theorem dL_law_293 : decode cL_law 293 = .ok (.invokevirtual 36, 3) := by decide +kernel
theorem dL_law_296 : decode cL_law 296 = .ok (.aload_n 2, 1) := by decide +kernel
theorem dL_law_297 : decode cL_law 297 = .ok (.aload_n 0, 1) := by decide +kernel
theorem dL_law_298 : decode cL_law 298 = .ok (.iload_n 3, 1) := by decide +kernel
theorem dL_law_299 : decode cL_law 299 = .ok (.iconst 1, 1) := by decide +kernel
theorem dL_law_300 : decode cL_law 300 = .ok (.iadd, 1) := by decide +kernel
theorem dL_law_301 : decode cL_law 301 = .ok (.iaload, 1) := by decide +kernel
theorem dL_law_302 : decode cL_law 302 = .ok (.invokevirtual 39, 3) := by decide +kernel
theorem dL_law_305 : decode cL_law 305 = .ok (.if_icmp .eq 967, 3) := by decide +kernel
theorem dL_law_308 : decode cL_law 308 = .ok (.iconst 0, 1) := by decide +kernel
theorem dL_law_309 : decode cL_law 309 = .ok (.ireturn, 1) := by decide +kernel
theorem dL_law_310 : decode cL_law 310 = .ok (.aload_n 1, 1) := by decide +kernel
theorem dL_law_311 : decode cL_law 311 = .ok (.aload_n 0, 1) := by decide +kernel
theorem dL_law_312 : decode cL_law 312 = .ok (.iload_n 3, 1) := by decide +kernel
theorem dL_law_313 : decode cL_law 313 = .ok (.iconst 1, 1) := by decide +kernel
theorem dL_law_314 : decode cL_law 314 = .ok (.iadd, 1) := by decide +kernel
theorem dL_law_315 : decode cL_law 315 = .ok (.iaload, 1) := by decide +kernel
theorem dL_law_316 : decode cL_law 316 = .ok (.aload_n 0, 1) := by decide +kernel
theorem dL_law_317 : decode cL_law 317 = .ok (.iload_n 3, 1) := by decide +kernel
theorem dL_law_318 : decode cL_law 318 = .ok (.iconst 2, 1) := by decide +kernel
theorem dL_law_319 : decode cL_law 319 = .ok (.iadd, 1) := by decide +kernel
theorem dL_law_320 : decode cL_law 320 = .ok (.iaload, 1) := by decide +kernel
theorem dL_law_321 : decode cL_law 321 = .ok (.invokevirtual 40, 3) := by decide +kernel
theorem dL_law_324 : decode cL_law 324 = .ok (.aload_n 2, 1) := by decide +kernel
theorem dL_law_325 : decode cL_law 325 = .ok (.aload_n 0, 1) := by decide +kernel
theorem dL_law_326 : decode cL_law 326 = .ok (.iload_n 3, 1) := by decide +kernel
theorem dL_law_327 : decode cL_law 327 = .ok (.iconst 1, 1) := by decide +kernel
theorem dL_law_328 : decode cL_law 328 = .ok (.iadd, 1) := by decide +kernel
theorem dL_law_329 : decode cL_law 329 = .ok (.iaload, 1) := by decide +kernel
theorem dL_law_330 : decode cL_law 330 = .ok (.aload_n 0, 1) := by decide +kernel
theorem dL_law_331 : decode cL_law 331 = .ok (.iload_n 3, 1) := by decide +kernel
theorem dL_law_332 : decode cL_law 332 = .ok (.iconst 2, 1) := by decide +kernel
theorem dL_law_333 : decode cL_law 333 = .ok (.iadd, 1) := by decide +kernel
theorem dL_law_334 : decode cL_law 334 = .ok (.iaload, 1) := by decide +kernel
theorem dL_law_335 : decode cL_law 335 = .ok (.invokevirtual 43, 3) := by decide +kernel
theorem dL_law_338 : decode cL_law 338 = .ok (.if_icmp .eq 934, 3) := by decide +kernel
theorem dL_law_341 : decode cL_law 341 = .ok (.iconst 0, 1) := by decide +kernel
theorem dL_law_342 : decode cL_law 342 = .ok (.ireturn, 1) := by decide +kernel
theorem dL_law_343 : decode cL_law 343 = .ok (.aload_n 1, 1) := by decide +kernel
theorem dL_law_344 : decode cL_law 344 = .ok (.aload_n 0, 1) := by decide +kernel
theorem dL_law_345 : decode cL_law 345 = .ok (.iload_n 3, 1) := by decide +kernel
theorem dL_law_346 : decode cL_law 346 = .ok (.iconst 1, 1) := by decide +kernel
theorem dL_law_347 : decode cL_law 347 = .ok (.iadd, 1) := by decide +kernel
theorem dL_law_348 : decode cL_law 348 = .ok (.iaload, 1) := by decide +kernel
theorem dL_law_349 : decode cL_law 349 = .ok (.invokevirtual 44, 3) := by decide +kernel
theorem dL_law_352 : decode cL_law 352 = .ok (.aload_n 2, 1) := by decide +kernel
theorem dL_law_353 : decode cL_law 353 = .ok (.aload_n 0, 1) := by decide +kernel
theorem dL_law_354 : decode cL_law 354 = .ok (.iload_n 3, 1) := by decide +kernel
theorem dL_law_355 : decode cL_law 355 = .ok (.iconst 1, 1) := by decide +kernel
theorem dL_law_356 : decode cL_law 356 = .ok (.iadd, 1) := by decide +kernel
theorem dL_law_357 : decode cL_law 357 = .ok (.iaload, 1) := by decide +kernel
theorem dL_law_358 : decode cL_law 358 = .ok (.invokevirtual 47, 3) := by decide +kernel
theorem dL_law_361 : decode cL_law 361 = .ok (.if_icmp .eq 911, 3) := by decide +kernel
theorem dL_law_364 : decode cL_law 364 = .ok (.iconst 0, 1) := by decide +kernel
theorem dL_law_365 : decode cL_law 365 = .ok (.ireturn, 1) := by decide +kernel
theorem dL_law_366 : decode cL_law 366 = .ok (.aload_n 1, 1) := by decide +kernel
theorem dL_law_367 : decode cL_law 367 = .ok (.aload_n 0, 1) := by decide +kernel
theorem dL_law_368 : decode cL_law 368 = .ok (.iload_n 3, 1) := by decide +kernel
theorem dL_law_369 : decode cL_law 369 = .ok (.iconst 1, 1) := by decide +kernel
theorem dL_law_370 : decode cL_law 370 = .ok (.iadd, 1) := by decide +kernel
theorem dL_law_371 : decode cL_law 371 = .ok (.iaload, 1) := by decide +kernel
theorem dL_law_372 : decode cL_law 372 = .ok (.aload_n 0, 1) := by decide +kernel
theorem dL_law_373 : decode cL_law 373 = .ok (.iload_n 3, 1) := by decide +kernel
theorem dL_law_374 : decode cL_law 374 = .ok (.iconst 2, 1) := by decide +kernel
theorem dL_law_375 : decode cL_law 375 = .ok (.iadd, 1) := by decide +kernel
theorem dL_law_376 : decode cL_law 376 = .ok (.iaload, 1) := by decide +kernel
theorem dL_law_377 : decode cL_law 377 = .ok (.aload_n 0, 1) := by decide +kernel
theorem dL_law_378 : decode cL_law 378 = .ok (.iload_n 3, 1) := by decide +kernel
theorem dL_law_379 : decode cL_law 379 = .ok (.iconst 3, 1) := by decide +kernel
theorem dL_law_380 : decode cL_law 380 = .ok (.iadd, 1) := by decide +kernel
theorem dL_law_381 : decode cL_law 381 = .ok (.iaload, 1) := by decide +kernel
theorem dL_law_382 : decode cL_law 382 = .ok (.invokevirtual 48, 3) := by decide +kernel
theorem dL_law_385 : decode cL_law 385 = .ok (.aload_n 2, 1) := by decide +kernel
theorem dL_law_386 : decode cL_law 386 = .ok (.aload_n 0, 1) := by decide +kernel
theorem dL_law_387 : decode cL_law 387 = .ok (.iload_n 3, 1) := by decide +kernel
theorem dL_law_388 : decode cL_law 388 = .ok (.iconst 1, 1) := by decide +kernel
theorem dL_law_389 : decode cL_law 389 = .ok (.iadd, 1) := by decide +kernel
theorem dL_law_390 : decode cL_law 390 = .ok (.iaload, 1) := by decide +kernel
theorem dL_law_391 : decode cL_law 391 = .ok (.aload_n 0, 1) := by decide +kernel
theorem dL_law_392 : decode cL_law 392 = .ok (.iload_n 3, 1) := by decide +kernel
theorem dL_law_393 : decode cL_law 393 = .ok (.iconst 2, 1) := by decide +kernel
theorem dL_law_394 : decode cL_law 394 = .ok (.iadd, 1) := by decide +kernel
theorem dL_law_395 : decode cL_law 395 = .ok (.iaload, 1) := by decide +kernel
theorem dL_law_396 : decode cL_law 396 = .ok (.aload_n 0, 1) := by decide +kernel
theorem dL_law_397 : decode cL_law 397 = .ok (.iload_n 3, 1) := by decide +kernel
theorem dL_law_398 : decode cL_law 398 = .ok (.iconst 3, 1) := by decide +kernel
theorem dL_law_399 : decode cL_law 399 = .ok (.iadd, 1) := by decide +kernel
theorem dL_law_400 : decode cL_law 400 = .ok (.iaload, 1) := by decide +kernel
theorem dL_law_401 : decode cL_law 401 = .ok (.invokevirtual 52, 3) := by decide +kernel
theorem dL_law_404 : decode cL_law 404 = .ok (.if_icmp .eq 868, 3) := by decide +kernel
theorem dL_law_407 : decode cL_law 407 = .ok (.iconst 0, 1) := by decide +kernel
theorem dL_law_408 : decode cL_law 408 = .ok (.ireturn, 1) := by decide +kernel
theorem dL_law_409 : decode cL_law 409 = .ok (.aload_n 1, 1) := by decide +kernel
theorem dL_law_410 : decode cL_law 410 = .ok (.invokevirtual 53, 3) := by decide +kernel
theorem dL_law_413 : decode cL_law 413 = .ok (.aload_n 2, 1) := by decide +kernel
theorem dL_law_414 : decode cL_law 414 = .ok (.invokevirtual 56, 3) := by decide +kernel
theorem dL_law_417 : decode cL_law 417 = .ok (.if_icmp .eq 855, 3) := by decide +kernel
theorem dL_law_420 : decode cL_law 420 = .ok (.iconst 0, 1) := by decide +kernel
theorem dL_law_421 : decode cL_law 421 = .ok (.ireturn, 1) := by decide +kernel
theorem dL_law_422 : decode cL_law 422 = .ok (.aload_n 1, 1) := by decide +kernel
theorem dL_law_423 : decode cL_law 423 = .ok (.aload_n 0, 1) := by decide +kernel
theorem dL_law_424 : decode cL_law 424 = .ok (.iload_n 3, 1) := by decide +kernel
theorem dL_law_425 : decode cL_law 425 = .ok (.iconst 1, 1) := by decide +kernel
theorem dL_law_426 : decode cL_law 426 = .ok (.iadd, 1) := by decide +kernel
theorem dL_law_427 : decode cL_law 427 = .ok (.iaload, 1) := by decide +kernel
theorem dL_law_428 : decode cL_law 428 = .ok (.invokevirtual 57, 3) := by decide +kernel
theorem dL_law_431 : decode cL_law 431 = .ok (.aload_n 2, 1) := by decide +kernel
theorem dL_law_432 : decode cL_law 432 = .ok (.aload_n 0, 1) := by decide +kernel
theorem dL_law_433 : decode cL_law 433 = .ok (.iload_n 3, 1) := by decide +kernel
theorem dL_law_434 : decode cL_law 434 = .ok (.iconst 1, 1) := by decide +kernel
theorem dL_law_435 : decode cL_law 435 = .ok (.iadd, 1) := by decide +kernel
theorem dL_law_436 : decode cL_law 436 = .ok (.iaload, 1) := by decide +kernel
theorem dL_law_437 : decode cL_law 437 = .ok (.invokevirtual 60, 3) := by decide +kernel
theorem dL_law_440 : decode cL_law 440 = .ok (.if_icmp .eq 832, 3) := by decide +kernel
theorem dL_law_443 : decode cL_law 443 = .ok (.iconst 0, 1) := by decide +kernel
theorem dL_law_444 : decode cL_law 444 = .ok (.ireturn, 1) := by decide +kernel
theorem dL_law_445 : decode cL_law 445 = .ok (.aload_n 1, 1) := by decide +kernel
theorem dL_law_446 : decode cL_law 446 = .ok (.aload_n 0, 1) := by decide +kernel
theorem dL_law_447 : decode cL_law 447 = .ok (.iload_n 3, 1) := by decide +kernel
theorem dL_law_448 : decode cL_law 448 = .ok (.iconst 1, 1) := by decide +kernel
theorem dL_law_449 : decode cL_law 449 = .ok (.iadd, 1) := by decide +kernel
theorem dL_law_450 : decode cL_law 450 = .ok (.iaload, 1) := by decide +kernel
theorem dL_law_451 : decode cL_law 451 = .ok (.aload_n 0, 1) := by decide +kernel
theorem dL_law_452 : decode cL_law 452 = .ok (.iload_n 3, 1) := by decide +kernel
theorem dL_law_453 : decode cL_law 453 = .ok (.iconst 2, 1) := by decide +kernel
theorem dL_law_454 : decode cL_law 454 = .ok (.iadd, 1) := by decide +kernel
theorem dL_law_455 : decode cL_law 455 = .ok (.iaload, 1) := by decide +kernel
theorem dL_law_456 : decode cL_law 456 = .ok (.invokevirtual 61, 3) := by decide +kernel
theorem dL_law_459 : decode cL_law 459 = .ok (.aload_n 2, 1) := by decide +kernel
theorem dL_law_460 : decode cL_law 460 = .ok (.aload_n 0, 1) := by decide +kernel
theorem dL_law_461 : decode cL_law 461 = .ok (.iload_n 3, 1) := by decide +kernel
theorem dL_law_462 : decode cL_law 462 = .ok (.iconst 1, 1) := by decide +kernel
theorem dL_law_463 : decode cL_law 463 = .ok (.iadd, 1) := by decide +kernel
theorem dL_law_464 : decode cL_law 464 = .ok (.iaload, 1) := by decide +kernel
theorem dL_law_465 : decode cL_law 465 = .ok (.aload_n 0, 1) := by decide +kernel
theorem dL_law_466 : decode cL_law 466 = .ok (.iload_n 3, 1) := by decide +kernel
theorem dL_law_467 : decode cL_law 467 = .ok (.iconst 2, 1) := by decide +kernel
theorem dL_law_468 : decode cL_law 468 = .ok (.iadd, 1) := by decide +kernel
theorem dL_law_469 : decode cL_law 469 = .ok (.iaload, 1) := by decide +kernel
theorem dL_law_470 : decode cL_law 470 = .ok (.invokevirtual 64, 3) := by decide +kernel
theorem dL_law_473 : decode cL_law 473 = .ok (.if_icmp .eq 799, 3) := by decide +kernel
theorem dL_law_476 : decode cL_law 476 = .ok (.iconst 0, 1) := by decide +kernel
theorem dL_law_477 : decode cL_law 477 = .ok (.ireturn, 1) := by decide +kernel
theorem dL_law_478 : decode cL_law 478 = .ok (.aload_n 1, 1) := by decide +kernel
theorem dL_law_479 : decode cL_law 479 = .ok (.aload_n 0, 1) := by decide +kernel
theorem dL_law_480 : decode cL_law 480 = .ok (.iload_n 3, 1) := by decide +kernel
theorem dL_law_481 : decode cL_law 481 = .ok (.iconst 1, 1) := by decide +kernel
theorem dL_law_482 : decode cL_law 482 = .ok (.iadd, 1) := by decide +kernel
theorem dL_law_483 : decode cL_law 483 = .ok (.iaload, 1) := by decide +kernel
theorem dL_law_484 : decode cL_law 484 = .ok (.aload_n 0, 1) := by decide +kernel
theorem dL_law_485 : decode cL_law 485 = .ok (.iload_n 3, 1) := by decide +kernel
theorem dL_law_486 : decode cL_law 486 = .ok (.iconst 2, 1) := by decide +kernel
theorem dL_law_487 : decode cL_law 487 = .ok (.iadd, 1) := by decide +kernel
theorem dL_law_488 : decode cL_law 488 = .ok (.iaload, 1) := by decide +kernel
theorem dL_law_489 : decode cL_law 489 = .ok (.invokevirtual 65, 3) := by decide +kernel
theorem dL_law_492 : decode cL_law 492 = .ok (.aload_n 2, 1) := by decide +kernel
theorem dL_law_493 : decode cL_law 493 = .ok (.aload_n 0, 1) := by decide +kernel
theorem dL_law_494 : decode cL_law 494 = .ok (.iload_n 3, 1) := by decide +kernel
theorem dL_law_495 : decode cL_law 495 = .ok (.iconst 1, 1) := by decide +kernel
theorem dL_law_496 : decode cL_law 496 = .ok (.iadd, 1) := by decide +kernel
theorem dL_law_497 : decode cL_law 497 = .ok (.iaload, 1) := by decide +kernel
theorem dL_law_498 : decode cL_law 498 = .ok (.aload_n 0, 1) := by decide +kernel
theorem dL_law_499 : decode cL_law 499 = .ok (.iload_n 3, 1) := by decide +kernel
theorem dL_law_500 : decode cL_law 500 = .ok (.iconst 2, 1) := by decide +kernel
theorem dL_law_501 : decode cL_law 501 = .ok (.iadd, 1) := by decide +kernel
theorem dL_law_502 : decode cL_law 502 = .ok (.iaload, 1) := by decide +kernel
theorem dL_law_503 : decode cL_law 503 = .ok (.invokevirtual 68, 3) := by decide +kernel
theorem dL_law_506 : decode cL_law 506 = .ok (.if_icmp .eq 766, 3) := by decide +kernel
theorem dL_law_509 : decode cL_law 509 = .ok (.iconst 0, 1) := by decide +kernel
theorem dL_law_510 : decode cL_law 510 = .ok (.ireturn, 1) := by decide +kernel
theorem dL_law_511 : decode cL_law 511 = .ok (.aload_n 1, 1) := by decide +kernel
theorem dL_law_512 : decode cL_law 512 = .ok (.invokevirtual 69, 3) := by decide +kernel
theorem dL_law_515 : decode cL_law 515 = .ok (.aload_n 2, 1) := by decide +kernel
theorem dL_law_516 : decode cL_law 516 = .ok (.invokevirtual 72, 3) := by decide +kernel
theorem dL_law_519 : decode cL_law 519 = .ok (.if_icmp .eq 753, 3) := by decide +kernel
theorem dL_law_522 : decode cL_law 522 = .ok (.iconst 0, 1) := by decide +kernel
theorem dL_law_523 : decode cL_law 523 = .ok (.ireturn, 1) := by decide +kernel
theorem dL_law_524 : decode cL_law 524 = .ok (.aload_n 1, 1) := by decide +kernel
theorem dL_law_525 : decode cL_law 525 = .ok (.aload_n 0, 1) := by decide +kernel
theorem dL_law_526 : decode cL_law 526 = .ok (.iload_n 3, 1) := by decide +kernel
theorem dL_law_527 : decode cL_law 527 = .ok (.iconst 1, 1) := by decide +kernel
theorem dL_law_528 : decode cL_law 528 = .ok (.iadd, 1) := by decide +kernel
theorem dL_law_529 : decode cL_law 529 = .ok (.iaload, 1) := by decide +kernel
theorem dL_law_530 : decode cL_law 530 = .ok (.invokevirtual 73, 3) := by decide +kernel
theorem dL_law_533 : decode cL_law 533 = .ok (.aload_n 2, 1) := by decide +kernel
theorem dL_law_534 : decode cL_law 534 = .ok (.aload_n 0, 1) := by decide +kernel
theorem dL_law_535 : decode cL_law 535 = .ok (.iload_n 3, 1) := by decide +kernel
theorem dL_law_536 : decode cL_law 536 = .ok (.iconst 1, 1) := by decide +kernel
theorem dL_law_537 : decode cL_law 537 = .ok (.iadd, 1) := by decide +kernel
theorem dL_law_538 : decode cL_law 538 = .ok (.iaload, 1) := by decide +kernel
theorem dL_law_539 : decode cL_law 539 = .ok (.invokevirtual 76, 3) := by decide +kernel
theorem dL_law_542 : decode cL_law 542 = .ok (.if_icmp .eq 730, 3) := by decide +kernel
theorem dL_law_545 : decode cL_law 545 = .ok (.iconst 0, 1) := by decide +kernel
theorem dL_law_546 : decode cL_law 546 = .ok (.ireturn, 1) := by decide +kernel
theorem dL_law_547 : decode cL_law 547 = .ok (.aload_n 1, 1) := by decide +kernel
theorem dL_law_548 : decode cL_law 548 = .ok (.aload_n 0, 1) := by decide +kernel
theorem dL_law_549 : decode cL_law 549 = .ok (.iload_n 3, 1) := by decide +kernel
theorem dL_law_550 : decode cL_law 550 = .ok (.iconst 1, 1) := by decide +kernel
theorem dL_law_551 : decode cL_law 551 = .ok (.iadd, 1) := by decide +kernel
theorem dL_law_552 : decode cL_law 552 = .ok (.iaload, 1) := by decide +kernel
theorem dL_law_553 : decode cL_law 553 = .ok (.invokevirtual 77, 3) := by decide +kernel
theorem dL_law_556 : decode cL_law 556 = .ok (.aload_n 2, 1) := by decide +kernel
theorem dL_law_557 : decode cL_law 557 = .ok (.aload_n 0, 1) := by decide +kernel
theorem dL_law_558 : decode cL_law 558 = .ok (.iload_n 3, 1) := by decide +kernel
theorem dL_law_559 : decode cL_law 559 = .ok (.iconst 1, 1) := by decide +kernel
theorem dL_law_560 : decode cL_law 560 = .ok (.iadd, 1) := by decide +kernel
theorem dL_law_561 : decode cL_law 561 = .ok (.iaload, 1) := by decide +kernel
theorem dL_law_562 : decode cL_law 562 = .ok (.invokevirtual 80, 3) := by decide +kernel
theorem dL_law_565 : decode cL_law 565 = .ok (.if_icmp .eq 707, 3) := by decide +kernel
theorem dL_law_568 : decode cL_law 568 = .ok (.iconst 0, 1) := by decide +kernel
theorem dL_law_569 : decode cL_law 569 = .ok (.ireturn, 1) := by decide +kernel
theorem dL_law_570 : decode cL_law 570 = .ok (.aload_n 1, 1) := by decide +kernel
theorem dL_law_571 : decode cL_law 571 = .ok (.aload_n 0, 1) := by decide +kernel
theorem dL_law_572 : decode cL_law 572 = .ok (.iload_n 3, 1) := by decide +kernel
theorem dL_law_573 : decode cL_law 573 = .ok (.iconst 1, 1) := by decide +kernel
theorem dL_law_574 : decode cL_law 574 = .ok (.iadd, 1) := by decide +kernel
theorem dL_law_575 : decode cL_law 575 = .ok (.iaload, 1) := by decide +kernel
theorem dL_law_576 : decode cL_law 576 = .ok (.aload_n 0, 1) := by decide +kernel
theorem dL_law_577 : decode cL_law 577 = .ok (.iload_n 3, 1) := by decide +kernel
theorem dL_law_578 : decode cL_law 578 = .ok (.iconst 2, 1) := by decide +kernel
theorem dL_law_579 : decode cL_law 579 = .ok (.iadd, 1) := by decide +kernel
theorem dL_law_580 : decode cL_law 580 = .ok (.iaload, 1) := by decide +kernel
theorem dL_law_581 : decode cL_law 581 = .ok (.invokevirtual 81, 3) := by decide +kernel
theorem dL_law_584 : decode cL_law 584 = .ok (.aload_n 2, 1) := by decide +kernel
theorem dL_law_585 : decode cL_law 585 = .ok (.aload_n 0, 1) := by decide +kernel
theorem dL_law_586 : decode cL_law 586 = .ok (.iload_n 3, 1) := by decide +kernel
theorem dL_law_587 : decode cL_law 587 = .ok (.iconst 1, 1) := by decide +kernel
theorem dL_law_588 : decode cL_law 588 = .ok (.iadd, 1) := by decide +kernel
theorem dL_law_589 : decode cL_law 589 = .ok (.iaload, 1) := by decide +kernel
theorem dL_law_590 : decode cL_law 590 = .ok (.aload_n 0, 1) := by decide +kernel
theorem dL_law_591 : decode cL_law 591 = .ok (.iload_n 3, 1) := by decide +kernel
theorem dL_law_592 : decode cL_law 592 = .ok (.iconst 2, 1) := by decide +kernel
theorem dL_law_593 : decode cL_law 593 = .ok (.iadd, 1) := by decide +kernel
theorem dL_law_594 : decode cL_law 594 = .ok (.iaload, 1) := by decide +kernel
theorem dL_law_595 : decode cL_law 595 = .ok (.invokevirtual 84, 3) := by decide +kernel
theorem dL_law_598 : decode cL_law 598 = .ok (.if_icmp .eq 674, 3) := by decide +kernel
theorem dL_law_601 : decode cL_law 601 = .ok (.iconst 0, 1) := by decide +kernel
theorem dL_law_602 : decode cL_law 602 = .ok (.ireturn, 1) := by decide +kernel
theorem dL_law_603 : decode cL_law 603 = .ok (.aload_n 1, 1) := by decide +kernel
theorem dL_law_604 : decode cL_law 604 = .ok (.aload_n 0, 1) := by decide +kernel
theorem dL_law_605 : decode cL_law 605 = .ok (.iload_n 3, 1) := by decide +kernel
theorem dL_law_606 : decode cL_law 606 = .ok (.iconst 1, 1) := by decide +kernel
theorem dL_law_607 : decode cL_law 607 = .ok (.iadd, 1) := by decide +kernel
theorem dL_law_608 : decode cL_law 608 = .ok (.iaload, 1) := by decide +kernel
theorem dL_law_609 : decode cL_law 609 = .ok (.aload_n 0, 1) := by decide +kernel
theorem dL_law_610 : decode cL_law 610 = .ok (.iload_n 3, 1) := by decide +kernel
theorem dL_law_611 : decode cL_law 611 = .ok (.iconst 2, 1) := by decide +kernel
theorem dL_law_612 : decode cL_law 612 = .ok (.iadd, 1) := by decide +kernel
theorem dL_law_613 : decode cL_law 613 = .ok (.iaload, 1) := by decide +kernel
theorem dL_law_614 : decode cL_law 614 = .ok (.aload_n 0, 1) := by decide +kernel
theorem dL_law_615 : decode cL_law 615 = .ok (.iload_n 3, 1) := by decide +kernel
theorem dL_law_616 : decode cL_law 616 = .ok (.iconst 3, 1) := by decide +kernel
theorem dL_law_617 : decode cL_law 617 = .ok (.iadd, 1) := by decide +kernel
theorem dL_law_618 : decode cL_law 618 = .ok (.iaload, 1) := by decide +kernel
theorem dL_law_619 : decode cL_law 619 = .ok (.invokevirtual 85, 3) := by decide +kernel
theorem dL_law_622 : decode cL_law 622 = .ok (.aload_n 2, 1) := by decide +kernel
theorem dL_law_623 : decode cL_law 623 = .ok (.aload_n 0, 1) := by decide +kernel
theorem dL_law_624 : decode cL_law 624 = .ok (.iload_n 3, 1) := by decide +kernel
theorem dL_law_625 : decode cL_law 625 = .ok (.iconst 1, 1) := by decide +kernel
theorem dL_law_626 : decode cL_law 626 = .ok (.iadd, 1) := by decide +kernel
theorem dL_law_627 : decode cL_law 627 = .ok (.iaload, 1) := by decide +kernel
theorem dL_law_628 : decode cL_law 628 = .ok (.aload_n 0, 1) := by decide +kernel
theorem dL_law_629 : decode cL_law 629 = .ok (.iload_n 3, 1) := by decide +kernel
theorem dL_law_630 : decode cL_law 630 = .ok (.iconst 2, 1) := by decide +kernel
theorem dL_law_631 : decode cL_law 631 = .ok (.iadd, 1) := by decide +kernel
theorem dL_law_632 : decode cL_law 632 = .ok (.iaload, 1) := by decide +kernel
theorem dL_law_633 : decode cL_law 633 = .ok (.aload_n 0, 1) := by decide +kernel
theorem dL_law_634 : decode cL_law 634 = .ok (.iload_n 3, 1) := by decide +kernel
theorem dL_law_635 : decode cL_law 635 = .ok (.iconst 3, 1) := by decide +kernel
theorem dL_law_636 : decode cL_law 636 = .ok (.iadd, 1) := by decide +kernel
theorem dL_law_637 : decode cL_law 637 = .ok (.iaload, 1) := by decide +kernel
theorem dL_law_638 : decode cL_law 638 = .ok (.invokevirtual 88, 3) := by decide +kernel
theorem dL_law_641 : decode cL_law 641 = .ok (.if_icmp .eq 631, 3) := by decide +kernel
theorem dL_law_644 : decode cL_law 644 = .ok (.iconst 0, 1) := by decide +kernel
theorem dL_law_645 : decode cL_law 645 = .ok (.ireturn, 1) := by decide +kernel
theorem dL_law_646 : decode cL_law 646 = .ok (.aload_n 1, 1) := by decide +kernel
theorem dL_law_647 : decode cL_law 647 = .ok (.aload_n 0, 1) := by decide +kernel
theorem dL_law_648 : decode cL_law 648 = .ok (.iload_n 3, 1) := by decide +kernel
theorem dL_law_649 : decode cL_law 649 = .ok (.iconst 1, 1) := by decide +kernel
theorem dL_law_650 : decode cL_law 650 = .ok (.iadd, 1) := by decide +kernel
theorem dL_law_651 : decode cL_law 651 = .ok (.iaload, 1) := by decide +kernel
theorem dL_law_652 : decode cL_law 652 = .ok (.aload_n 0, 1) := by decide +kernel
theorem dL_law_653 : decode cL_law 653 = .ok (.iload_n 3, 1) := by decide +kernel
theorem dL_law_654 : decode cL_law 654 = .ok (.iconst 2, 1) := by decide +kernel
theorem dL_law_655 : decode cL_law 655 = .ok (.iadd, 1) := by decide +kernel
theorem dL_law_656 : decode cL_law 656 = .ok (.iaload, 1) := by decide +kernel
theorem dL_law_657 : decode cL_law 657 = .ok (.invokevirtual 89, 3) := by decide +kernel
theorem dL_law_660 : decode cL_law 660 = .ok (.aload_n 2, 1) := by decide +kernel
theorem dL_law_661 : decode cL_law 661 = .ok (.aload_n 0, 1) := by decide +kernel
theorem dL_law_662 : decode cL_law 662 = .ok (.iload_n 3, 1) := by decide +kernel
theorem dL_law_663 : decode cL_law 663 = .ok (.iconst 1, 1) := by decide +kernel
theorem dL_law_664 : decode cL_law 664 = .ok (.iadd, 1) := by decide +kernel
theorem dL_law_665 : decode cL_law 665 = .ok (.iaload, 1) := by decide +kernel
theorem dL_law_666 : decode cL_law 666 = .ok (.aload_n 0, 1) := by decide +kernel
theorem dL_law_667 : decode cL_law 667 = .ok (.iload_n 3, 1) := by decide +kernel
theorem dL_law_668 : decode cL_law 668 = .ok (.iconst 2, 1) := by decide +kernel
theorem dL_law_669 : decode cL_law 669 = .ok (.iadd, 1) := by decide +kernel
theorem dL_law_670 : decode cL_law 670 = .ok (.iaload, 1) := by decide +kernel
theorem dL_law_671 : decode cL_law 671 = .ok (.invokevirtual 92, 3) := by decide +kernel
theorem dL_law_674 : decode cL_law 674 = .ok (.if_icmp .eq 598, 3) := by decide +kernel
theorem dL_law_677 : decode cL_law 677 = .ok (.iconst 0, 1) := by decide +kernel
theorem dL_law_678 : decode cL_law 678 = .ok (.ireturn, 1) := by decide +kernel
theorem dL_law_679 : decode cL_law 679 = .ok (.aload_n 1, 1) := by decide +kernel
theorem dL_law_680 : decode cL_law 680 = .ok (.aload_n 0, 1) := by decide +kernel
theorem dL_law_681 : decode cL_law 681 = .ok (.iload_n 3, 1) := by decide +kernel
theorem dL_law_682 : decode cL_law 682 = .ok (.iconst 1, 1) := by decide +kernel
theorem dL_law_683 : decode cL_law 683 = .ok (.iadd, 1) := by decide +kernel
theorem dL_law_684 : decode cL_law 684 = .ok (.iaload, 1) := by decide +kernel
theorem dL_law_685 : decode cL_law 685 = .ok (.aload_n 0, 1) := by decide +kernel
theorem dL_law_686 : decode cL_law 686 = .ok (.iload_n 3, 1) := by decide +kernel
theorem dL_law_687 : decode cL_law 687 = .ok (.iconst 2, 1) := by decide +kernel
theorem dL_law_688 : decode cL_law 688 = .ok (.iadd, 1) := by decide +kernel
theorem dL_law_689 : decode cL_law 689 = .ok (.iaload, 1) := by decide +kernel
theorem dL_law_690 : decode cL_law 690 = .ok (.invokevirtual 93, 3) := by decide +kernel
theorem dL_law_693 : decode cL_law 693 = .ok (.aload_n 2, 1) := by decide +kernel
theorem dL_law_694 : decode cL_law 694 = .ok (.aload_n 0, 1) := by decide +kernel
theorem dL_law_695 : decode cL_law 695 = .ok (.iload_n 3, 1) := by decide +kernel
theorem dL_law_696 : decode cL_law 696 = .ok (.iconst 1, 1) := by decide +kernel
theorem dL_law_697 : decode cL_law 697 = .ok (.iadd, 1) := by decide +kernel
theorem dL_law_698 : decode cL_law 698 = .ok (.iaload, 1) := by decide +kernel
theorem dL_law_699 : decode cL_law 699 = .ok (.aload_n 0, 1) := by decide +kernel
theorem dL_law_700 : decode cL_law 700 = .ok (.iload_n 3, 1) := by decide +kernel
theorem dL_law_701 : decode cL_law 701 = .ok (.iconst 2, 1) := by decide +kernel
theorem dL_law_702 : decode cL_law 702 = .ok (.iadd, 1) := by decide +kernel
theorem dL_law_703 : decode cL_law 703 = .ok (.iaload, 1) := by decide +kernel
theorem dL_law_704 : decode cL_law 704 = .ok (.invokevirtual 96, 3) := by decide +kernel
theorem dL_law_707 : decode cL_law 707 = .ok (.if_icmp .eq 565, 3) := by decide +kernel
theorem dL_law_710 : decode cL_law 710 = .ok (.iconst 0, 1) := by decide +kernel
theorem dL_law_711 : decode cL_law 711 = .ok (.ireturn, 1) := by decide +kernel
theorem dL_law_712 : decode cL_law 712 = .ok (.aload_n 1, 1) := by decide +kernel
theorem dL_law_713 : decode cL_law 713 = .ok (.aload_n 0, 1) := by decide +kernel
theorem dL_law_714 : decode cL_law 714 = .ok (.iload_n 3, 1) := by decide +kernel
theorem dL_law_715 : decode cL_law 715 = .ok (.iconst 1, 1) := by decide +kernel
theorem dL_law_716 : decode cL_law 716 = .ok (.iadd, 1) := by decide +kernel
theorem dL_law_717 : decode cL_law 717 = .ok (.iaload, 1) := by decide +kernel
theorem dL_law_718 : decode cL_law 718 = .ok (.aload_n 0, 1) := by decide +kernel
theorem dL_law_719 : decode cL_law 719 = .ok (.iload_n 3, 1) := by decide +kernel
theorem dL_law_720 : decode cL_law 720 = .ok (.iconst 2, 1) := by decide +kernel
theorem dL_law_721 : decode cL_law 721 = .ok (.iadd, 1) := by decide +kernel
theorem dL_law_722 : decode cL_law 722 = .ok (.iaload, 1) := by decide +kernel
theorem dL_law_723 : decode cL_law 723 = .ok (.aload_n 0, 1) := by decide +kernel
theorem dL_law_724 : decode cL_law 724 = .ok (.iload_n 3, 1) := by decide +kernel
theorem dL_law_725 : decode cL_law 725 = .ok (.iconst 3, 1) := by decide +kernel
theorem dL_law_726 : decode cL_law 726 = .ok (.iadd, 1) := by decide +kernel
theorem dL_law_727 : decode cL_law 727 = .ok (.iaload, 1) := by decide +kernel
theorem dL_law_728 : decode cL_law 728 = .ok (.invokevirtual 97, 3) := by decide +kernel
theorem dL_law_731 : decode cL_law 731 = .ok (.aload_n 2, 1) := by decide +kernel
theorem dL_law_732 : decode cL_law 732 = .ok (.aload_n 0, 1) := by decide +kernel
theorem dL_law_733 : decode cL_law 733 = .ok (.iload_n 3, 1) := by decide +kernel
theorem dL_law_734 : decode cL_law 734 = .ok (.iconst 1, 1) := by decide +kernel
theorem dL_law_735 : decode cL_law 735 = .ok (.iadd, 1) := by decide +kernel
theorem dL_law_736 : decode cL_law 736 = .ok (.iaload, 1) := by decide +kernel
theorem dL_law_737 : decode cL_law 737 = .ok (.aload_n 0, 1) := by decide +kernel
theorem dL_law_738 : decode cL_law 738 = .ok (.iload_n 3, 1) := by decide +kernel
theorem dL_law_739 : decode cL_law 739 = .ok (.iconst 2, 1) := by decide +kernel
theorem dL_law_740 : decode cL_law 740 = .ok (.iadd, 1) := by decide +kernel
theorem dL_law_741 : decode cL_law 741 = .ok (.iaload, 1) := by decide +kernel
theorem dL_law_742 : decode cL_law 742 = .ok (.aload_n 0, 1) := by decide +kernel
theorem dL_law_743 : decode cL_law 743 = .ok (.iload_n 3, 1) := by decide +kernel
theorem dL_law_744 : decode cL_law 744 = .ok (.iconst 3, 1) := by decide +kernel
theorem dL_law_745 : decode cL_law 745 = .ok (.iadd, 1) := by decide +kernel
theorem dL_law_746 : decode cL_law 746 = .ok (.iaload, 1) := by decide +kernel
theorem dL_law_747 : decode cL_law 747 = .ok (.invokevirtual 100, 3) := by decide +kernel
theorem dL_law_750 : decode cL_law 750 = .ok (.if_icmp .eq 522, 3) := by decide +kernel
theorem dL_law_753 : decode cL_law 753 = .ok (.iconst 0, 1) := by decide +kernel
theorem dL_law_754 : decode cL_law 754 = .ok (.ireturn, 1) := by decide +kernel
theorem dL_law_755 : decode cL_law 755 = .ok (.aload_n 1, 1) := by decide +kernel
theorem dL_law_756 : decode cL_law 756 = .ok (.aload_n 0, 1) := by decide +kernel
theorem dL_law_757 : decode cL_law 757 = .ok (.iload_n 3, 1) := by decide +kernel
theorem dL_law_758 : decode cL_law 758 = .ok (.iconst 1, 1) := by decide +kernel
theorem dL_law_759 : decode cL_law 759 = .ok (.iadd, 1) := by decide +kernel
theorem dL_law_760 : decode cL_law 760 = .ok (.iaload, 1) := by decide +kernel
theorem dL_law_761 : decode cL_law 761 = .ok (.aload_n 0, 1) := by decide +kernel
theorem dL_law_762 : decode cL_law 762 = .ok (.iload_n 3, 1) := by decide +kernel
theorem dL_law_763 : decode cL_law 763 = .ok (.iconst 2, 1) := by decide +kernel
theorem dL_law_764 : decode cL_law 764 = .ok (.iadd, 1) := by decide +kernel
theorem dL_law_765 : decode cL_law 765 = .ok (.iaload, 1) := by decide +kernel
theorem dL_law_766 : decode cL_law 766 = .ok (.invokevirtual 101, 3) := by decide +kernel
theorem dL_law_769 : decode cL_law 769 = .ok (.aload_n 2, 1) := by decide +kernel
theorem dL_law_770 : decode cL_law 770 = .ok (.aload_n 0, 1) := by decide +kernel
theorem dL_law_771 : decode cL_law 771 = .ok (.iload_n 3, 1) := by decide +kernel
theorem dL_law_772 : decode cL_law 772 = .ok (.iconst 1, 1) := by decide +kernel
theorem dL_law_773 : decode cL_law 773 = .ok (.iadd, 1) := by decide +kernel
theorem dL_law_774 : decode cL_law 774 = .ok (.iaload, 1) := by decide +kernel
theorem dL_law_775 : decode cL_law 775 = .ok (.aload_n 0, 1) := by decide +kernel
theorem dL_law_776 : decode cL_law 776 = .ok (.iload_n 3, 1) := by decide +kernel
theorem dL_law_777 : decode cL_law 777 = .ok (.iconst 2, 1) := by decide +kernel
theorem dL_law_778 : decode cL_law 778 = .ok (.iadd, 1) := by decide +kernel
theorem dL_law_779 : decode cL_law 779 = .ok (.iaload, 1) := by decide +kernel
theorem dL_law_780 : decode cL_law 780 = .ok (.invokevirtual 104, 3) := by decide +kernel
theorem dL_law_783 : decode cL_law 783 = .ok (.if_icmp .eq 489, 3) := by decide +kernel
theorem dL_law_786 : decode cL_law 786 = .ok (.iconst 0, 1) := by decide +kernel
theorem dL_law_787 : decode cL_law 787 = .ok (.ireturn, 1) := by decide +kernel
theorem dL_law_788 : decode cL_law 788 = .ok (.aload_n 1, 1) := by decide +kernel
theorem dL_law_789 : decode cL_law 789 = .ok (.invokevirtual 105, 3) := by decide +kernel
theorem dL_law_792 : decode cL_law 792 = .ok (.aload_n 2, 1) := by decide +kernel
theorem dL_law_793 : decode cL_law 793 = .ok (.invokevirtual 108, 3) := by decide +kernel
theorem dL_law_796 : decode cL_law 796 = .ok (.if_icmp .eq 476, 3) := by decide +kernel
theorem dL_law_799 : decode cL_law 799 = .ok (.iconst 0, 1) := by decide +kernel
theorem dL_law_800 : decode cL_law 800 = .ok (.ireturn, 1) := by decide +kernel
theorem dL_law_801 : decode cL_law 801 = .ok (.aload_n 1, 1) := by decide +kernel
theorem dL_law_802 : decode cL_law 802 = .ok (.aload_n 0, 1) := by decide +kernel
theorem dL_law_803 : decode cL_law 803 = .ok (.iload_n 3, 1) := by decide +kernel
theorem dL_law_804 : decode cL_law 804 = .ok (.iconst 1, 1) := by decide +kernel
theorem dL_law_805 : decode cL_law 805 = .ok (.iadd, 1) := by decide +kernel
theorem dL_law_806 : decode cL_law 806 = .ok (.iaload, 1) := by decide +kernel
theorem dL_law_807 : decode cL_law 807 = .ok (.aload_n 0, 1) := by decide +kernel
theorem dL_law_808 : decode cL_law 808 = .ok (.iload_n 3, 1) := by decide +kernel
theorem dL_law_809 : decode cL_law 809 = .ok (.iconst 2, 1) := by decide +kernel
theorem dL_law_810 : decode cL_law 810 = .ok (.iadd, 1) := by decide +kernel
theorem dL_law_811 : decode cL_law 811 = .ok (.iaload, 1) := by decide +kernel
theorem dL_law_812 : decode cL_law 812 = .ok (.invokevirtual 109, 3) := by decide +kernel
theorem dL_law_815 : decode cL_law 815 = .ok (.aload_n 2, 1) := by decide +kernel
theorem dL_law_816 : decode cL_law 816 = .ok (.aload_n 0, 1) := by decide +kernel
theorem dL_law_817 : decode cL_law 817 = .ok (.iload_n 3, 1) := by decide +kernel
theorem dL_law_818 : decode cL_law 818 = .ok (.iconst 1, 1) := by decide +kernel
theorem dL_law_819 : decode cL_law 819 = .ok (.iadd, 1) := by decide +kernel
theorem dL_law_820 : decode cL_law 820 = .ok (.iaload, 1) := by decide +kernel
theorem dL_law_821 : decode cL_law 821 = .ok (.aload_n 0, 1) := by decide +kernel
theorem dL_law_822 : decode cL_law 822 = .ok (.iload_n 3, 1) := by decide +kernel
theorem dL_law_823 : decode cL_law 823 = .ok (.iconst 2, 1) := by decide +kernel
theorem dL_law_824 : decode cL_law 824 = .ok (.iadd, 1) := by decide +kernel
theorem dL_law_825 : decode cL_law 825 = .ok (.iaload, 1) := by decide +kernel
theorem dL_law_826 : decode cL_law 826 = .ok (.invokevirtual 112, 3) := by decide +kernel
theorem dL_law_829 : decode cL_law 829 = .ok (.if_icmp .eq 443, 3) := by decide +kernel
theorem dL_law_832 : decode cL_law 832 = .ok (.iconst 0, 1) := by decide +kernel
theorem dL_law_833 : decode cL_law 833 = .ok (.ireturn, 1) := by decide +kernel
theorem dL_law_834 : decode cL_law 834 = .ok (.aload_n 1, 1) := by decide +kernel
theorem dL_law_835 : decode cL_law 835 = .ok (.invokevirtual 113, 3) := by decide +kernel
theorem dL_law_838 : decode cL_law 838 = .ok (.aload_n 2, 1) := by decide +kernel
theorem dL_law_839 : decode cL_law 839 = .ok (.invokevirtual 116, 3) := by decide +kernel
theorem dL_law_842 : decode cL_law 842 = .ok (.if_icmp .eq 430, 3) := by decide +kernel
theorem dL_law_845 : decode cL_law 845 = .ok (.iconst 0, 1) := by decide +kernel
theorem dL_law_846 : decode cL_law 846 = .ok (.ireturn, 1) := by decide +kernel
theorem dL_law_847 : decode cL_law 847 = .ok (.aload_n 1, 1) := by decide +kernel
theorem dL_law_848 : decode cL_law 848 = .ok (.aload_n 0, 1) := by decide +kernel
theorem dL_law_849 : decode cL_law 849 = .ok (.iload_n 3, 1) := by decide +kernel
theorem dL_law_850 : decode cL_law 850 = .ok (.iconst 1, 1) := by decide +kernel
theorem dL_law_851 : decode cL_law 851 = .ok (.iadd, 1) := by decide +kernel
theorem dL_law_852 : decode cL_law 852 = .ok (.iaload, 1) := by decide +kernel
theorem dL_law_853 : decode cL_law 853 = .ok (.aload_n 0, 1) := by decide +kernel
theorem dL_law_854 : decode cL_law 854 = .ok (.iload_n 3, 1) := by decide +kernel
theorem dL_law_855 : decode cL_law 855 = .ok (.iconst 2, 1) := by decide +kernel
theorem dL_law_856 : decode cL_law 856 = .ok (.iadd, 1) := by decide +kernel
theorem dL_law_857 : decode cL_law 857 = .ok (.iaload, 1) := by decide +kernel
theorem dL_law_858 : decode cL_law 858 = .ok (.invokevirtual 117, 3) := by decide +kernel
theorem dL_law_861 : decode cL_law 861 = .ok (.aload_n 2, 1) := by decide +kernel
theorem dL_law_862 : decode cL_law 862 = .ok (.aload_n 0, 1) := by decide +kernel
theorem dL_law_863 : decode cL_law 863 = .ok (.iload_n 3, 1) := by decide +kernel
theorem dL_law_864 : decode cL_law 864 = .ok (.iconst 1, 1) := by decide +kernel
theorem dL_law_865 : decode cL_law 865 = .ok (.iadd, 1) := by decide +kernel
theorem dL_law_866 : decode cL_law 866 = .ok (.iaload, 1) := by decide +kernel
theorem dL_law_867 : decode cL_law 867 = .ok (.aload_n 0, 1) := by decide +kernel
theorem dL_law_868 : decode cL_law 868 = .ok (.iload_n 3, 1) := by decide +kernel
theorem dL_law_869 : decode cL_law 869 = .ok (.iconst 2, 1) := by decide +kernel
theorem dL_law_870 : decode cL_law 870 = .ok (.iadd, 1) := by decide +kernel
theorem dL_law_871 : decode cL_law 871 = .ok (.iaload, 1) := by decide +kernel
theorem dL_law_872 : decode cL_law 872 = .ok (.invokevirtual 120, 3) := by decide +kernel
theorem dL_law_875 : decode cL_law 875 = .ok (.if_icmp .eq 397, 3) := by decide +kernel
theorem dL_law_878 : decode cL_law 878 = .ok (.iconst 0, 1) := by decide +kernel
theorem dL_law_879 : decode cL_law 879 = .ok (.ireturn, 1) := by decide +kernel
theorem dL_law_880 : decode cL_law 880 = .ok (.aload_n 1, 1) := by decide +kernel
theorem dL_law_881 : decode cL_law 881 = .ok (.aload_n 0, 1) := by decide +kernel
theorem dL_law_882 : decode cL_law 882 = .ok (.iload_n 3, 1) := by decide +kernel
theorem dL_law_883 : decode cL_law 883 = .ok (.iconst 1, 1) := by decide +kernel
theorem dL_law_884 : decode cL_law 884 = .ok (.iadd, 1) := by decide +kernel
theorem dL_law_885 : decode cL_law 885 = .ok (.iaload, 1) := by decide +kernel
theorem dL_law_886 : decode cL_law 886 = .ok (.aload_n 0, 1) := by decide +kernel
theorem dL_law_887 : decode cL_law 887 = .ok (.iload_n 3, 1) := by decide +kernel
theorem dL_law_888 : decode cL_law 888 = .ok (.iconst 2, 1) := by decide +kernel
theorem dL_law_889 : decode cL_law 889 = .ok (.iadd, 1) := by decide +kernel
theorem dL_law_890 : decode cL_law 890 = .ok (.iaload, 1) := by decide +kernel
theorem dL_law_891 : decode cL_law 891 = .ok (.aload_n 0, 1) := by decide +kernel
theorem dL_law_892 : decode cL_law 892 = .ok (.iload_n 3, 1) := by decide +kernel
theorem dL_law_893 : decode cL_law 893 = .ok (.iconst 3, 1) := by decide +kernel
theorem dL_law_894 : decode cL_law 894 = .ok (.iadd, 1) := by decide +kernel
theorem dL_law_895 : decode cL_law 895 = .ok (.iaload, 1) := by decide +kernel
theorem dL_law_896 : decode cL_law 896 = .ok (.aload_n 0, 1) := by decide +kernel
theorem dL_law_897 : decode cL_law 897 = .ok (.iload_n 3, 1) := by decide +kernel
theorem dL_law_898 : decode cL_law 898 = .ok (.iconst 4, 1) := by decide +kernel
theorem dL_law_899 : decode cL_law 899 = .ok (.iadd, 1) := by decide +kernel
theorem dL_law_900 : decode cL_law 900 = .ok (.iaload, 1) := by decide +kernel
theorem dL_law_901 : decode cL_law 901 = .ok (.invokevirtual 121, 3) := by decide +kernel
theorem dL_law_904 : decode cL_law 904 = .ok (.aload_n 2, 1) := by decide +kernel
theorem dL_law_905 : decode cL_law 905 = .ok (.aload_n 0, 1) := by decide +kernel
theorem dL_law_906 : decode cL_law 906 = .ok (.iload_n 3, 1) := by decide +kernel
theorem dL_law_907 : decode cL_law 907 = .ok (.iconst 1, 1) := by decide +kernel
theorem dL_law_908 : decode cL_law 908 = .ok (.iadd, 1) := by decide +kernel
theorem dL_law_909 : decode cL_law 909 = .ok (.iaload, 1) := by decide +kernel
theorem dL_law_910 : decode cL_law 910 = .ok (.aload_n 0, 1) := by decide +kernel
theorem dL_law_911 : decode cL_law 911 = .ok (.iload_n 3, 1) := by decide +kernel
theorem dL_law_912 : decode cL_law 912 = .ok (.iconst 2, 1) := by decide +kernel
theorem dL_law_913 : decode cL_law 913 = .ok (.iadd, 1) := by decide +kernel
theorem dL_law_914 : decode cL_law 914 = .ok (.iaload, 1) := by decide +kernel
theorem dL_law_915 : decode cL_law 915 = .ok (.aload_n 0, 1) := by decide +kernel
theorem dL_law_916 : decode cL_law 916 = .ok (.iload_n 3, 1) := by decide +kernel
theorem dL_law_917 : decode cL_law 917 = .ok (.iconst 3, 1) := by decide +kernel
theorem dL_law_918 : decode cL_law 918 = .ok (.iadd, 1) := by decide +kernel
theorem dL_law_919 : decode cL_law 919 = .ok (.iaload, 1) := by decide +kernel
theorem dL_law_920 : decode cL_law 920 = .ok (.aload_n 0, 1) := by decide +kernel
theorem dL_law_921 : decode cL_law 921 = .ok (.iload_n 3, 1) := by decide +kernel
theorem dL_law_922 : decode cL_law 922 = .ok (.iconst 4, 1) := by decide +kernel
theorem dL_law_923 : decode cL_law 923 = .ok (.iadd, 1) := by decide +kernel
theorem dL_law_924 : decode cL_law 924 = .ok (.iaload, 1) := by decide +kernel
theorem dL_law_925 : decode cL_law 925 = .ok (.invokevirtual 125, 3) := by decide +kernel
theorem dL_law_928 : decode cL_law 928 = .ok (.lcmp, 1) := by decide +kernel
theorem dL_law_929 : decode cL_law 929 = .ok (.ifCond .eq 343, 3) := by decide +kernel
theorem dL_law_932 : decode cL_law 932 = .ok (.iconst 0, 1) := by decide +kernel
theorem dL_law_933 : decode cL_law 933 = .ok (.ireturn, 1) := by decide +kernel
theorem dL_law_934 : decode cL_law 934 = .ok (.aload_n 1, 1) := by decide +kernel
theorem dL_law_935 : decode cL_law 935 = .ok (.aload_n 0, 1) := by decide +kernel
theorem dL_law_936 : decode cL_law 936 = .ok (.iload_n 3, 1) := by decide +kernel
theorem dL_law_937 : decode cL_law 937 = .ok (.iconst 1, 1) := by decide +kernel
theorem dL_law_938 : decode cL_law 938 = .ok (.iadd, 1) := by decide +kernel
theorem dL_law_939 : decode cL_law 939 = .ok (.iaload, 1) := by decide +kernel
theorem dL_law_940 : decode cL_law 940 = .ok (.aload_n 0, 1) := by decide +kernel
theorem dL_law_941 : decode cL_law 941 = .ok (.iload_n 3, 1) := by decide +kernel
theorem dL_law_942 : decode cL_law 942 = .ok (.iconst 2, 1) := by decide +kernel
theorem dL_law_943 : decode cL_law 943 = .ok (.iadd, 1) := by decide +kernel
theorem dL_law_944 : decode cL_law 944 = .ok (.iaload, 1) := by decide +kernel
theorem dL_law_945 : decode cL_law 945 = .ok (.aload_n 0, 1) := by decide +kernel
theorem dL_law_946 : decode cL_law 946 = .ok (.iload_n 3, 1) := by decide +kernel
theorem dL_law_947 : decode cL_law 947 = .ok (.iconst 3, 1) := by decide +kernel
theorem dL_law_948 : decode cL_law 948 = .ok (.iadd, 1) := by decide +kernel
theorem dL_law_949 : decode cL_law 949 = .ok (.iaload, 1) := by decide +kernel
theorem dL_law_950 : decode cL_law 950 = .ok (.invokevirtual 126, 3) := by decide +kernel
theorem dL_law_953 : decode cL_law 953 = .ok (.aload_n 2, 1) := by decide +kernel
theorem dL_law_954 : decode cL_law 954 = .ok (.aload_n 0, 1) := by decide +kernel
theorem dL_law_955 : decode cL_law 955 = .ok (.iload_n 3, 1) := by decide +kernel
theorem dL_law_956 : decode cL_law 956 = .ok (.iconst 1, 1) := by decide +kernel
theorem dL_law_957 : decode cL_law 957 = .ok (.iadd, 1) := by decide +kernel
theorem dL_law_958 : decode cL_law 958 = .ok (.iaload, 1) := by decide +kernel
theorem dL_law_959 : decode cL_law 959 = .ok (.aload_n 0, 1) := by decide +kernel
theorem dL_law_960 : decode cL_law 960 = .ok (.iload_n 3, 1) := by decide +kernel
theorem dL_law_961 : decode cL_law 961 = .ok (.iconst 2, 1) := by decide +kernel
theorem dL_law_962 : decode cL_law 962 = .ok (.iadd, 1) := by decide +kernel
theorem dL_law_963 : decode cL_law 963 = .ok (.iaload, 1) := by decide +kernel
theorem dL_law_964 : decode cL_law 964 = .ok (.aload_n 0, 1) := by decide +kernel
theorem dL_law_965 : decode cL_law 965 = .ok (.iload_n 3, 1) := by decide +kernel
theorem dL_law_966 : decode cL_law 966 = .ok (.iconst 3, 1) := by decide +kernel
theorem dL_law_967 : decode cL_law 967 = .ok (.iadd, 1) := by decide +kernel
theorem dL_law_968 : decode cL_law 968 = .ok (.iaload, 1) := by decide +kernel
theorem dL_law_969 : decode cL_law 969 = .ok (.invokevirtual 129, 3) := by decide +kernel
theorem dL_law_972 : decode cL_law 972 = .ok (.if_icmp .eq 300, 3) := by decide +kernel
theorem dL_law_975 : decode cL_law 975 = .ok (.iconst 0, 1) := by decide +kernel
theorem dL_law_976 : decode cL_law 976 = .ok (.ireturn, 1) := by decide +kernel
theorem dL_law_977 : decode cL_law 977 = .ok (.aload_n 1, 1) := by decide +kernel
theorem dL_law_978 : decode cL_law 978 = .ok (.aload_n 0, 1) := by decide +kernel
theorem dL_law_979 : decode cL_law 979 = .ok (.iload_n 3, 1) := by decide +kernel
theorem dL_law_980 : decode cL_law 980 = .ok (.iconst 1, 1) := by decide +kernel
theorem dL_law_981 : decode cL_law 981 = .ok (.iadd, 1) := by decide +kernel
theorem dL_law_982 : decode cL_law 982 = .ok (.iaload, 1) := by decide +kernel
theorem dL_law_983 : decode cL_law 983 = .ok (.aload_n 0, 1) := by decide +kernel
theorem dL_law_984 : decode cL_law 984 = .ok (.iload_n 3, 1) := by decide +kernel
theorem dL_law_985 : decode cL_law 985 = .ok (.iconst 2, 1) := by decide +kernel
theorem dL_law_986 : decode cL_law 986 = .ok (.iadd, 1) := by decide +kernel
theorem dL_law_987 : decode cL_law 987 = .ok (.iaload, 1) := by decide +kernel
theorem dL_law_988 : decode cL_law 988 = .ok (.aload_n 0, 1) := by decide +kernel
theorem dL_law_989 : decode cL_law 989 = .ok (.iload_n 3, 1) := by decide +kernel
theorem dL_law_990 : decode cL_law 990 = .ok (.iconst 3, 1) := by decide +kernel
theorem dL_law_991 : decode cL_law 991 = .ok (.iadd, 1) := by decide +kernel
theorem dL_law_992 : decode cL_law 992 = .ok (.iaload, 1) := by decide +kernel
theorem dL_law_993 : decode cL_law 993 = .ok (.invokevirtual 130, 3) := by decide +kernel
theorem dL_law_996 : decode cL_law 996 = .ok (.aload_n 2, 1) := by decide +kernel
theorem dL_law_997 : decode cL_law 997 = .ok (.aload_n 0, 1) := by decide +kernel
theorem dL_law_998 : decode cL_law 998 = .ok (.iload_n 3, 1) := by decide +kernel
theorem dL_law_999 : decode cL_law 999 = .ok (.iconst 1, 1) := by decide +kernel
theorem dL_law_1000 : decode cL_law 1000 = .ok (.iadd, 1) := by decide +kernel
theorem dL_law_1001 : decode cL_law 1001 = .ok (.iaload, 1) := by decide +kernel
theorem dL_law_1002 : decode cL_law 1002 = .ok (.aload_n 0, 1) := by decide +kernel
theorem dL_law_1003 : decode cL_law 1003 = .ok (.iload_n 3, 1) := by decide +kernel
theorem dL_law_1004 : decode cL_law 1004 = .ok (.iconst 2, 1) := by decide +kernel
theorem dL_law_1005 : decode cL_law 1005 = .ok (.iadd, 1) := by decide +kernel
theorem dL_law_1006 : decode cL_law 1006 = .ok (.iaload, 1) := by decide +kernel
theorem dL_law_1007 : decode cL_law 1007 = .ok (.aload_n 0, 1) := by decide +kernel
theorem dL_law_1008 : decode cL_law 1008 = .ok (.iload_n 3, 1) := by decide +kernel
theorem dL_law_1009 : decode cL_law 1009 = .ok (.iconst 3, 1) := by decide +kernel
theorem dL_law_1010 : decode cL_law 1010 = .ok (.iadd, 1) := by decide +kernel
theorem dL_law_1011 : decode cL_law 1011 = .ok (.iaload, 1) := by decide +kernel
theorem dL_law_1012 : decode cL_law 1012 = .ok (.invokevirtual 133, 3) := by decide +kernel
theorem dL_law_1015 : decode cL_law 1015 = .ok (.if_icmp .eq 257, 3) := by decide +kernel
theorem dL_law_1018 : decode cL_law 1018 = .ok (.iconst 0, 1) := by decide +kernel
theorem dL_law_1019 : decode cL_law 1019 = .ok (.ireturn, 1) := by decide +kernel
theorem dL_law_1020 : decode cL_law 1020 = .ok (.aload_n 1, 1) := by decide +kernel
theorem dL_law_1021 : decode cL_law 1021 = .ok (.aload_n 0, 1) := by decide +kernel
theorem dL_law_1022 : decode cL_law 1022 = .ok (.iload_n 3, 1) := by decide +kernel
theorem dL_law_1023 : decode cL_law 1023 = .ok (.iconst 1, 1) := by decide +kernel
theorem dL_law_1024 : decode cL_law 1024 = .ok (.iadd, 1) := by decide +kernel
theorem dL_law_1025 : decode cL_law 1025 = .ok (.iaload, 1) := by decide +kernel
theorem dL_law_1026 : decode cL_law 1026 = .ok (.invokevirtual 134, 3) := by decide +kernel
theorem dL_law_1029 : decode cL_law 1029 = .ok (.aload_n 2, 1) := by decide +kernel
theorem dL_law_1030 : decode cL_law 1030 = .ok (.aload_n 0, 1) := by decide +kernel
theorem dL_law_1031 : decode cL_law 1031 = .ok (.iload_n 3, 1) := by decide +kernel
theorem dL_law_1032 : decode cL_law 1032 = .ok (.iconst 1, 1) := by decide +kernel
theorem dL_law_1033 : decode cL_law 1033 = .ok (.iadd, 1) := by decide +kernel
theorem dL_law_1034 : decode cL_law 1034 = .ok (.iaload, 1) := by decide +kernel
theorem dL_law_1035 : decode cL_law 1035 = .ok (.invokevirtual 137, 3) := by decide +kernel
theorem dL_law_1038 : decode cL_law 1038 = .ok (.if_icmp .eq 234, 3) := by decide +kernel
theorem dL_law_1041 : decode cL_law 1041 = .ok (.iconst 0, 1) := by decide +kernel
theorem dL_law_1042 : decode cL_law 1042 = .ok (.ireturn, 1) := by decide +kernel
theorem dL_law_1043 : decode cL_law 1043 = .ok (.aload_n 1, 1) := by decide +kernel
theorem dL_law_1044 : decode cL_law 1044 = .ok (.aload_n 0, 1) := by decide +kernel
theorem dL_law_1045 : decode cL_law 1045 = .ok (.iload_n 3, 1) := by decide +kernel
theorem dL_law_1046 : decode cL_law 1046 = .ok (.iconst 1, 1) := by decide +kernel
theorem dL_law_1047 : decode cL_law 1047 = .ok (.iadd, 1) := by decide +kernel
theorem dL_law_1048 : decode cL_law 1048 = .ok (.iaload, 1) := by decide +kernel
theorem dL_law_1049 : decode cL_law 1049 = .ok (.aload_n 0, 1) := by decide +kernel
theorem dL_law_1050 : decode cL_law 1050 = .ok (.iload_n 3, 1) := by decide +kernel
theorem dL_law_1051 : decode cL_law 1051 = .ok (.iconst 2, 1) := by decide +kernel
theorem dL_law_1052 : decode cL_law 1052 = .ok (.iadd, 1) := by decide +kernel
theorem dL_law_1053 : decode cL_law 1053 = .ok (.iaload, 1) := by decide +kernel
theorem dL_law_1054 : decode cL_law 1054 = .ok (.aload_n 0, 1) := by decide +kernel
theorem dL_law_1055 : decode cL_law 1055 = .ok (.iload_n 3, 1) := by decide +kernel
theorem dL_law_1056 : decode cL_law 1056 = .ok (.iconst 3, 1) := by decide +kernel
theorem dL_law_1057 : decode cL_law 1057 = .ok (.iadd, 1) := by decide +kernel
theorem dL_law_1058 : decode cL_law 1058 = .ok (.iaload, 1) := by decide +kernel
theorem dL_law_1059 : decode cL_law 1059 = .ok (.aload_n 0, 1) := by decide +kernel
theorem dL_law_1060 : decode cL_law 1060 = .ok (.iload_n 3, 1) := by decide +kernel
theorem dL_law_1061 : decode cL_law 1061 = .ok (.iconst 4, 1) := by decide +kernel
theorem dL_law_1062 : decode cL_law 1062 = .ok (.iadd, 1) := by decide +kernel
theorem dL_law_1063 : decode cL_law 1063 = .ok (.iaload, 1) := by decide +kernel
theorem dL_law_1064 : decode cL_law 1064 = .ok (.invokevirtual 138, 3) := by decide +kernel
theorem dL_law_1067 : decode cL_law 1067 = .ok (.aload_n 2, 1) := by decide +kernel
theorem dL_law_1068 : decode cL_law 1068 = .ok (.aload_n 0, 1) := by decide +kernel
theorem dL_law_1069 : decode cL_law 1069 = .ok (.iload_n 3, 1) := by decide +kernel
theorem dL_law_1070 : decode cL_law 1070 = .ok (.iconst 1, 1) := by decide +kernel
theorem dL_law_1071 : decode cL_law 1071 = .ok (.iadd, 1) := by decide +kernel
theorem dL_law_1072 : decode cL_law 1072 = .ok (.iaload, 1) := by decide +kernel
theorem dL_law_1073 : decode cL_law 1073 = .ok (.aload_n 0, 1) := by decide +kernel
theorem dL_law_1074 : decode cL_law 1074 = .ok (.iload_n 3, 1) := by decide +kernel
theorem dL_law_1075 : decode cL_law 1075 = .ok (.iconst 2, 1) := by decide +kernel
theorem dL_law_1076 : decode cL_law 1076 = .ok (.iadd, 1) := by decide +kernel
theorem dL_law_1077 : decode cL_law 1077 = .ok (.iaload, 1) := by decide +kernel
theorem dL_law_1078 : decode cL_law 1078 = .ok (.aload_n 0, 1) := by decide +kernel
theorem dL_law_1079 : decode cL_law 1079 = .ok (.iload_n 3, 1) := by decide +kernel
theorem dL_law_1080 : decode cL_law 1080 = .ok (.iconst 3, 1) := by decide +kernel
theorem dL_law_1081 : decode cL_law 1081 = .ok (.iadd, 1) := by decide +kernel
theorem dL_law_1082 : decode cL_law 1082 = .ok (.iaload, 1) := by decide +kernel
theorem dL_law_1083 : decode cL_law 1083 = .ok (.aload_n 0, 1) := by decide +kernel
theorem dL_law_1084 : decode cL_law 1084 = .ok (.iload_n 3, 1) := by decide +kernel
theorem dL_law_1085 : decode cL_law 1085 = .ok (.iconst 4, 1) := by decide +kernel
theorem dL_law_1086 : decode cL_law 1086 = .ok (.iadd, 1) := by decide +kernel
theorem dL_law_1087 : decode cL_law 1087 = .ok (.iaload, 1) := by decide +kernel
theorem dL_law_1088 : decode cL_law 1088 = .ok (.invokevirtual 142, 3) := by decide +kernel
theorem dL_law_1091 : decode cL_law 1091 = .ok (.if_icmp .eq 181, 3) := by decide +kernel
theorem dL_law_1094 : decode cL_law 1094 = .ok (.iconst 0, 1) := by decide +kernel
theorem dL_law_1095 : decode cL_law 1095 = .ok (.ireturn, 1) := by decide +kernel
theorem dL_law_1096 : decode cL_law 1096 = .ok (.aload_n 1, 1) := by decide +kernel
theorem dL_law_1097 : decode cL_law 1097 = .ok (.aload_n 0, 1) := by decide +kernel
theorem dL_law_1098 : decode cL_law 1098 = .ok (.iload_n 3, 1) := by decide +kernel
theorem dL_law_1099 : decode cL_law 1099 = .ok (.iconst 1, 1) := by decide +kernel
theorem dL_law_1100 : decode cL_law 1100 = .ok (.iadd, 1) := by decide +kernel
theorem dL_law_1101 : decode cL_law 1101 = .ok (.iaload, 1) := by decide +kernel
theorem dL_law_1102 : decode cL_law 1102 = .ok (.aload_n 0, 1) := by decide +kernel
theorem dL_law_1103 : decode cL_law 1103 = .ok (.iload_n 3, 1) := by decide +kernel
theorem dL_law_1104 : decode cL_law 1104 = .ok (.iconst 2, 1) := by decide +kernel
theorem dL_law_1105 : decode cL_law 1105 = .ok (.iadd, 1) := by decide +kernel
theorem dL_law_1106 : decode cL_law 1106 = .ok (.iaload, 1) := by decide +kernel
theorem dL_law_1107 : decode cL_law 1107 = .ok (.aload_n 0, 1) := by decide +kernel
theorem dL_law_1108 : decode cL_law 1108 = .ok (.iload_n 3, 1) := by decide +kernel
theorem dL_law_1109 : decode cL_law 1109 = .ok (.iconst 3, 1) := by decide +kernel
theorem dL_law_1110 : decode cL_law 1110 = .ok (.iadd, 1) := by decide +kernel
theorem dL_law_1111 : decode cL_law 1111 = .ok (.iaload, 1) := by decide +kernel
theorem dL_law_1112 : decode cL_law 1112 = .ok (.invokevirtual 143, 3) := by decide +kernel
theorem dL_law_1115 : decode cL_law 1115 = .ok (.aload_n 2, 1) := by decide +kernel
theorem dL_law_1116 : decode cL_law 1116 = .ok (.aload_n 0, 1) := by decide +kernel
theorem dL_law_1117 : decode cL_law 1117 = .ok (.iload_n 3, 1) := by decide +kernel
theorem dL_law_1118 : decode cL_law 1118 = .ok (.iconst 1, 1) := by decide +kernel
theorem dL_law_1119 : decode cL_law 1119 = .ok (.iadd, 1) := by decide +kernel
theorem dL_law_1120 : decode cL_law 1120 = .ok (.iaload, 1) := by decide +kernel
theorem dL_law_1121 : decode cL_law 1121 = .ok (.aload_n 0, 1) := by decide +kernel
theorem dL_law_1122 : decode cL_law 1122 = .ok (.iload_n 3, 1) := by decide +kernel
theorem dL_law_1123 : decode cL_law 1123 = .ok (.iconst 2, 1) := by decide +kernel
theorem dL_law_1124 : decode cL_law 1124 = .ok (.iadd, 1) := by decide +kernel
theorem dL_law_1125 : decode cL_law 1125 = .ok (.iaload, 1) := by decide +kernel
theorem dL_law_1126 : decode cL_law 1126 = .ok (.aload_n 0, 1) := by decide +kernel
theorem dL_law_1127 : decode cL_law 1127 = .ok (.iload_n 3, 1) := by decide +kernel
theorem dL_law_1128 : decode cL_law 1128 = .ok (.iconst 3, 1) := by decide +kernel
theorem dL_law_1129 : decode cL_law 1129 = .ok (.iadd, 1) := by decide +kernel
theorem dL_law_1130 : decode cL_law 1130 = .ok (.iaload, 1) := by decide +kernel
theorem dL_law_1131 : decode cL_law 1131 = .ok (.invokevirtual 146, 3) := by decide +kernel
theorem dL_law_1134 : decode cL_law 1134 = .ok (.if_icmp .eq 138, 3) := by decide +kernel
theorem dL_law_1137 : decode cL_law 1137 = .ok (.iconst 0, 1) := by decide +kernel
theorem dL_law_1138 : decode cL_law 1138 = .ok (.ireturn, 1) := by decide +kernel
theorem dL_law_1139 : decode cL_law 1139 = .ok (.aload_n 1, 1) := by decide +kernel
theorem dL_law_1140 : decode cL_law 1140 = .ok (.aload_n 0, 1) := by decide +kernel
theorem dL_law_1141 : decode cL_law 1141 = .ok (.iload_n 3, 1) := by decide +kernel
theorem dL_law_1142 : decode cL_law 1142 = .ok (.iconst 1, 1) := by decide +kernel
theorem dL_law_1143 : decode cL_law 1143 = .ok (.iadd, 1) := by decide +kernel
theorem dL_law_1144 : decode cL_law 1144 = .ok (.iaload, 1) := by decide +kernel
theorem dL_law_1145 : decode cL_law 1145 = .ok (.aload_n 0, 1) := by decide +kernel
theorem dL_law_1146 : decode cL_law 1146 = .ok (.iload_n 3, 1) := by decide +kernel
theorem dL_law_1147 : decode cL_law 1147 = .ok (.iconst 2, 1) := by decide +kernel
theorem dL_law_1148 : decode cL_law 1148 = .ok (.iadd, 1) := by decide +kernel
theorem dL_law_1149 : decode cL_law 1149 = .ok (.iaload, 1) := by decide +kernel
theorem dL_law_1150 : decode cL_law 1150 = .ok (.aload_n 0, 1) := by decide +kernel
theorem dL_law_1151 : decode cL_law 1151 = .ok (.iload_n 3, 1) := by decide +kernel
theorem dL_law_1152 : decode cL_law 1152 = .ok (.iconst 3, 1) := by decide +kernel
theorem dL_law_1153 : decode cL_law 1153 = .ok (.iadd, 1) := by decide +kernel
theorem dL_law_1154 : decode cL_law 1154 = .ok (.iaload, 1) := by decide +kernel
theorem dL_law_1155 : decode cL_law 1155 = .ok (.aload_n 0, 1) := by decide +kernel
theorem dL_law_1156 : decode cL_law 1156 = .ok (.iload_n 3, 1) := by decide +kernel
theorem dL_law_1157 : decode cL_law 1157 = .ok (.iconst 4, 1) := by decide +kernel
theorem dL_law_1158 : decode cL_law 1158 = .ok (.iadd, 1) := by decide +kernel
theorem dL_law_1159 : decode cL_law 1159 = .ok (.iaload, 1) := by decide +kernel
theorem dL_law_1160 : decode cL_law 1160 = .ok (.aload_n 0, 1) := by decide +kernel
theorem dL_law_1161 : decode cL_law 1161 = .ok (.iload_n 3, 1) := by decide +kernel
theorem dL_law_1162 : decode cL_law 1162 = .ok (.iconst 5, 1) := by decide +kernel
theorem dL_law_1163 : decode cL_law 1163 = .ok (.iadd, 1) := by decide +kernel
theorem dL_law_1164 : decode cL_law 1164 = .ok (.iaload, 1) := by decide +kernel
theorem dL_law_1165 : decode cL_law 1165 = .ok (.invokevirtual 147, 3) := by decide +kernel
theorem dL_law_1168 : decode cL_law 1168 = .ok (.aload_n 2, 1) := by decide +kernel
theorem dL_law_1169 : decode cL_law 1169 = .ok (.aload_n 0, 1) := by decide +kernel
theorem dL_law_1170 : decode cL_law 1170 = .ok (.iload_n 3, 1) := by decide +kernel
theorem dL_law_1171 : decode cL_law 1171 = .ok (.iconst 1, 1) := by decide +kernel
theorem dL_law_1172 : decode cL_law 1172 = .ok (.iadd, 1) := by decide +kernel
theorem dL_law_1173 : decode cL_law 1173 = .ok (.iaload, 1) := by decide +kernel
theorem dL_law_1174 : decode cL_law 1174 = .ok (.aload_n 0, 1) := by decide +kernel
theorem dL_law_1175 : decode cL_law 1175 = .ok (.iload_n 3, 1) := by decide +kernel
theorem dL_law_1176 : decode cL_law 1176 = .ok (.iconst 2, 1) := by decide +kernel
theorem dL_law_1177 : decode cL_law 1177 = .ok (.iadd, 1) := by decide +kernel
theorem dL_law_1178 : decode cL_law 1178 = .ok (.iaload, 1) := by decide +kernel
theorem dL_law_1179 : decode cL_law 1179 = .ok (.aload_n 0, 1) := by decide +kernel
theorem dL_law_1180 : decode cL_law 1180 = .ok (.iload_n 3, 1) := by decide +kernel
theorem dL_law_1181 : decode cL_law 1181 = .ok (.iconst 3, 1) := by decide +kernel
theorem dL_law_1182 : decode cL_law 1182 = .ok (.iadd, 1) := by decide +kernel
theorem dL_law_1183 : decode cL_law 1183 = .ok (.iaload, 1) := by decide +kernel
theorem dL_law_1184 : decode cL_law 1184 = .ok (.aload_n 0, 1) := by decide +kernel
theorem dL_law_1185 : decode cL_law 1185 = .ok (.iload_n 3, 1) := by decide +kernel
theorem dL_law_1186 : decode cL_law 1186 = .ok (.iconst 4, 1) := by decide +kernel
theorem dL_law_1187 : decode cL_law 1187 = .ok (.iadd, 1) := by decide +kernel
theorem dL_law_1188 : decode cL_law 1188 = .ok (.iaload, 1) := by decide +kernel
theorem dL_law_1189 : decode cL_law 1189 = .ok (.aload_n 0, 1) := by decide +kernel
theorem dL_law_1190 : decode cL_law 1190 = .ok (.iload_n 3, 1) := by decide +kernel
theorem dL_law_1191 : decode cL_law 1191 = .ok (.iconst 5, 1) := by decide +kernel
theorem dL_law_1192 : decode cL_law 1192 = .ok (.iadd, 1) := by decide +kernel
theorem dL_law_1193 : decode cL_law 1193 = .ok (.iaload, 1) := by decide +kernel
theorem dL_law_1194 : decode cL_law 1194 = .ok (.invokevirtual 151, 3) := by decide +kernel
theorem dL_law_1197 : decode cL_law 1197 = .ok (.if_icmp .eq 75, 3) := by decide +kernel
theorem dL_law_1200 : decode cL_law 1200 = .ok (.iconst 0, 1) := by decide +kernel
theorem dL_law_1201 : decode cL_law 1201 = .ok (.ireturn, 1) := by decide +kernel
theorem dL_law_1202 : decode cL_law 1202 = .ok (.aload_n 1, 1) := by decide +kernel
theorem dL_law_1203 : decode cL_law 1203 = .ok (.aload_n 0, 1) := by decide +kernel
theorem dL_law_1204 : decode cL_law 1204 = .ok (.iload_n 3, 1) := by decide +kernel
theorem dL_law_1205 : decode cL_law 1205 = .ok (.iconst 1, 1) := by decide +kernel
theorem dL_law_1206 : decode cL_law 1206 = .ok (.iadd, 1) := by decide +kernel
theorem dL_law_1207 : decode cL_law 1207 = .ok (.iaload, 1) := by decide +kernel
theorem dL_law_1208 : decode cL_law 1208 = .ok (.aload_n 0, 1) := by decide +kernel
theorem dL_law_1209 : decode cL_law 1209 = .ok (.iload_n 3, 1) := by decide +kernel
theorem dL_law_1210 : decode cL_law 1210 = .ok (.iconst 2, 1) := by decide +kernel
theorem dL_law_1211 : decode cL_law 1211 = .ok (.iadd, 1) := by decide +kernel
theorem dL_law_1212 : decode cL_law 1212 = .ok (.iaload, 1) := by decide +kernel
theorem dL_law_1213 : decode cL_law 1213 = .ok (.invokevirtual 152, 3) := by decide +kernel
theorem dL_law_1216 : decode cL_law 1216 = .ok (.aload_n 2, 1) := by decide +kernel
theorem dL_law_1217 : decode cL_law 1217 = .ok (.aload_n 0, 1) := by decide +kernel
theorem dL_law_1218 : decode cL_law 1218 = .ok (.iload_n 3, 1) := by decide +kernel
theorem dL_law_1219 : decode cL_law 1219 = .ok (.iconst 1, 1) := by decide +kernel
theorem dL_law_1220 : decode cL_law 1220 = .ok (.iadd, 1) := by decide +kernel
theorem dL_law_1221 : decode cL_law 1221 = .ok (.iaload, 1) := by decide +kernel
theorem dL_law_1222 : decode cL_law 1222 = .ok (.aload_n 0, 1) := by decide +kernel
theorem dL_law_1223 : decode cL_law 1223 = .ok (.iload_n 3, 1) := by decide +kernel
theorem dL_law_1224 : decode cL_law 1224 = .ok (.iconst 2, 1) := by decide +kernel
theorem dL_law_1225 : decode cL_law 1225 = .ok (.iadd, 1) := by decide +kernel
theorem dL_law_1226 : decode cL_law 1226 = .ok (.iaload, 1) := by decide +kernel
theorem dL_law_1227 : decode cL_law 1227 = .ok (.invokevirtual 155, 3) := by decide +kernel
theorem dL_law_1230 : decode cL_law 1230 = .ok (.if_icmp .eq 42, 3) := by decide +kernel
theorem dL_law_1233 : decode cL_law 1233 = .ok (.iconst 0, 1) := by decide +kernel
theorem dL_law_1234 : decode cL_law 1234 = .ok (.ireturn, 1) := by decide +kernel
theorem dL_law_1235 : decode cL_law 1235 = .ok (.aload_n 1, 1) := by decide +kernel
theorem dL_law_1236 : decode cL_law 1236 = .ok (.aload_n 0, 1) := by decide +kernel
theorem dL_law_1237 : decode cL_law 1237 = .ok (.iload_n 3, 1) := by decide +kernel
theorem dL_law_1238 : decode cL_law 1238 = .ok (.iconst 1, 1) := by decide +kernel
theorem dL_law_1239 : decode cL_law 1239 = .ok (.iadd, 1) := by decide +kernel
theorem dL_law_1240 : decode cL_law 1240 = .ok (.iaload, 1) := by decide +kernel
theorem dL_law_1241 : decode cL_law 1241 = .ok (.invokevirtual 156, 3) := by decide +kernel
theorem dL_law_1244 : decode cL_law 1244 = .ok (.aload_n 2, 1) := by decide +kernel
theorem dL_law_1245 : decode cL_law 1245 = .ok (.aload_n 0, 1) := by decide +kernel
theorem dL_law_1246 : decode cL_law 1246 = .ok (.iload_n 3, 1) := by decide +kernel
theorem dL_law_1247 : decode cL_law 1247 = .ok (.iconst 1, 1) := by decide +kernel
theorem dL_law_1248 : decode cL_law 1248 = .ok (.iadd, 1) := by decide +kernel
theorem dL_law_1249 : decode cL_law 1249 = .ok (.iaload, 1) := by decide +kernel
theorem dL_law_1250 : decode cL_law 1250 = .ok (.invokevirtual 159, 3) := by decide +kernel
theorem dL_law_1253 : decode cL_law 1253 = .ok (.if_icmp .eq 19, 3) := by decide +kernel
theorem dL_law_1256 : decode cL_law 1256 = .ok (.iconst 0, 1) := by decide +kernel
theorem dL_law_1257 : decode cL_law 1257 = .ok (.ireturn, 1) := by decide +kernel
theorem dL_law_1258 : decode cL_law 1258 = .ok (.aload_n 1, 1) := by decide +kernel
theorem dL_law_1259 : decode cL_law 1259 = .ok (.invokevirtual 160, 3) := by decide +kernel
theorem dL_law_1262 : decode cL_law 1262 = .ok (.aload_n 2, 1) := by decide +kernel
theorem dL_law_1263 : decode cL_law 1263 = .ok (.invokevirtual 164, 3) := by decide +kernel
theorem dL_law_1266 : decode cL_law 1266 = .ok (.lcmp, 1) := by decide +kernel
theorem dL_law_1267 : decode cL_law 1267 = .ok (.ifCond .eq 5, 3) := by decide +kernel
theorem dL_law_1270 : decode cL_law 1270 = .ok (.iconst 0, 1) := by decide +kernel
theorem dL_law_1271 : decode cL_law 1271 = .ok (.ireturn, 1) := by decide +kernel
theorem dL_law_1272 : decode cL_law 1272 = .ok (.iinc 3 6, 3) := by decide +kernel
theorem dL_law_1275 : decode cL_law 1275 = .ok (.goto (-1257), 3) := by decide +kernel
theorem dL_law_1278 : decode cL_law 1278 = .ok (.iconst 1, 1) := by decide +kernel
theorem dL_law_1279 : decode cL_law 1279 = .ok (.ireturn, 1) := by decide +kernel
end
section
/-! ===== the base: ints as Int, the world as one store, the walk's judgement jWP ===== -/
def jI (x : Int) : Int32 := Int32.ofInt x
def jL (x : Int) : Int64 := Int64.ofInt x
theorem jI_add (a b : Int) : jI a + jI b = jI (a + b) := by unfold jI; rw [Int32.ofInt_add]
theorem jI_sub (a b : Int) : jI a - jI b = jI (a - b) := by unfold jI; rw [Int32.ofInt_sub]
theorem jI_mul (a b : Int) : jI a * jI b = jI (a * b) := by unfold jI; rw [Int32.ofInt_mul]
theorem jI_neg (a : Int) : -jI a = jI (-a) := by unfold jI; rw [Int32.ofInt_neg]
theorem jL_add (a b : Int) : jL a + jL b = jL (a + b) := by unfold jL; rw [Int64.ofInt_add]
theorem jL_sub (a b : Int) : jL a - jL b = jL (a - b) := by unfold jL; rw [Int64.ofInt_sub]
theorem jL_mul (a b : Int) : jL a * jL b = jL (a * b) := by unfold jL; rw [Int64.ofInt_mul]
theorem jI_toInt {a : Int} (h : -2147483648 ≤ a ∧ a ≤ 2147483647) : (jI a).toInt = a := by
  unfold jI
  exact Int32.toInt_ofInt_of_le (by omega) (by omega)
theorem jL_toInt {a : Int} (h : -9223372036854775808 ≤ a ∧ a ≤ 9223372036854775807) : (jL a).toInt = a := by
  unfold jL
  exact Int64.toInt_ofInt_of_le (by omega) (by omega)
theorem jI_of (x : Int32) : jI x.toInt = x := by unfold jI; exact Int32.ofInt_toInt x
theorem jI_rng (x : Int32) : -2147483648 ≤ x.toInt ∧ x.toInt ≤ 2147483647 := by
  have h1 := Int32.le_toInt x
  have h2 := Int32.toInt_lt x
  omega
theorem jL_of (x : Int64) : jL x.toInt = x := by unfold jL; exact Int64.ofInt_toInt x
theorem jL_rng (x : Int64) : -9223372036854775808 ≤ x.toInt ∧ x.toInt ≤ 9223372036854775807 := by
  have h1 := Int64.le_toInt x
  have h2 := Int64.toInt_lt x
  omega
theorem jI_lt {a b : Int} (ha : -2147483648 ≤ a ∧ a ≤ 2147483647) (hb : -2147483648 ≤ b ∧ b ≤ 2147483647) : jI a < jI b ↔ a < b := by
  rw [Int32.lt_iff_toInt_lt, jI_toInt ha, jI_toInt hb]
theorem jI_le {a b : Int} (ha : -2147483648 ≤ a ∧ a ≤ 2147483647) (hb : -2147483648 ≤ b ∧ b ≤ 2147483647) : jI a ≤ jI b ↔ a ≤ b := by
  rw [Int32.le_iff_toInt_le, jI_toInt ha, jI_toInt hb]
theorem jI_eq {a b : Int} (ha : -2147483648 ≤ a ∧ a ≤ 2147483647) (hb : -2147483648 ≤ b ∧ b ≤ 2147483647) : jI a = jI b ↔ a = b := by
  refine ⟨fun h => ?_, fun h => by rw [h]⟩
  have := congrArg Int32.toInt h
  rwa [jI_toInt ha, jI_toInt hb] at this
theorem jL_lt {a b : Int} (ha : -9223372036854775808 ≤ a ∧ a ≤ 9223372036854775807) (hb : -9223372036854775808 ≤ b ∧ b ≤ 9223372036854775807) : jL a < jL b ↔ a < b := by
  rw [Int64.lt_iff_toInt_lt, jL_toInt ha, jL_toInt hb]
theorem jL_eq {a b : Int} (ha : -9223372036854775808 ≤ a ∧ a ≤ 9223372036854775807) (hb : -9223372036854775808 ≤ b ∧ b ≤ 9223372036854775807) : jL a = jL b ↔ a = b := by
  refine ⟨fun h => ?_, fun h => by rw [h]⟩
  have := congrArg Int64.toInt h
  rwa [jL_toInt ha, jL_toInt hb] at this
theorem jI_0 : jI 0 = 0 := rfl
theorem jI_cl {a : Int} (h0 : 0 ≤ a) (h : a ≤ 2147483647) : (jI a).toNatClampNeg = a.toNat := by
  show (jI a).toInt.toNat = a.toNat
  rw [jI_toInt (by omega)]
theorem jI_in {a : Int} {n : Nat} (hn : n < 2 ^ 31) (h0 : 0 ≤ a) (h : a < n) : vp_in (jI a) n := by
  have hn' : (n : Int) < 2147483648 := by omega
  intro q
  rcases q with q | q
  · rw [← jI_0, jI_lt (by omega) (by omega)] at q
    omega
  · rw [jI_cl h0 (by omega)] at q
    omega
theorem jI_i2l {a : Int} (h : -2147483648 ≤ a ∧ a ≤ 2147483647) : (jI a).toInt64 = jL a := by
  have h1 : (jI a).toInt64.toInt = a := by rw [Int32.toInt_toInt64, jI_toInt h]
  rw [← jL_of (jI a).toInt64, h1]
theorem jL_l2i (a : Int) : (jL a).toInt32 = jI a := by
  unfold jL jI
  first | exact Int64.toInt32_ofInt | simp
/-! the store -/
abbrev jH : Type := Nat → Int → Int
def jU (H : jH) (k : Nat) (i v : Int) : jH := fun a b => if a = k ∧ b = i then v else H a b
def jR (H : jH) : Prop := ∀ k i, -2147483648 ≤ H k i ∧ H k i ≤ 2147483647
theorem jR_u {H : jH} (h : jR H) {k : Nat} {i v : Int} (hv : -2147483648 ≤ v ∧ v ≤ 2147483647) : jR (jU H k i v) := by
  intro a b
  unfold jU
  split
  · exact hv
  · exact h a b
abbrev jE : Type := Launch × va_G × (Nat → Nat) × (Nat → ClassId)
def jK : Nat := 78
def j_shpL : List (Nat ⊕ (Nat ⊕ Nat)) := [.inr (.inr 4), .inr (.inr 0), .inl 35, .inl 9, .inl 9, .inl 9, .inl 9, .inr (.inr 3), .inl 24, .inl 24, .inl 24, .inl 8, .inl 8, .inr (.inl 4),
  .inr (.inr 2), .inl 60, .inr (.inr 2), .inl 60, .inr (.inr 2), .inl 60, .inr (.inr 2), .inl 60,
  .inr (.inr 1), .inl 9, .inl 9, .inl 9, .inl 9, .inr (.inl 3), .inl 60, .inl 60, .inl 60, .inl 60, .inl 60, .inl 9, .inl 9, .inl 9, .inl 9,
  .inr (.inr 1), .inl 9, .inl 9, .inl 9, .inl 9, .inr (.inl 3), .inl 60, .inl 60, .inl 60, .inl 60, .inl 60, .inl 9, .inl 9, .inl 9, .inl 9,
  .inl 37, .inl 10, .inl 9, .inl 9,
  .inr (.inr 5), .inl 4, .inl 4, .inl 240, .inl 60, .inl 35, .inl 27, .inl 9, .inl 72, .inl 180, .inl 60, .inl 60, .inl 540, .inl 9, .inl 9, .inl 9, .inl 9, .inl 9, .inl 6, .inl 6, .inl 16, .inl 10]
def j_refL : List (List (Option Nat)) := [[some 1, some 6, none, some 7, some 11, some 12, none, some 13, none, some 22, none, some 37, some 52, some 53, some 54, some 55], [some 2, none, none, none, some 3, some 4, some 5], [], [], [], [], [], [some 8, some 9, some 10, none], [], [], [], [], [], [some 14, some 16, some 18, some 20],
  [none, none, none, some 15], [], [none, none, none, some 17], [], [none, none, none, some 19], [], [none, none, none, some 21], [],
  [none, some 23, some 24, some 25, some 26, none, some 27, some 31, some 32, some 33, some 34, some 35, some 36, none, none, none], [], [], [], [], [some 28, some 29, some 30], [], [], [], [], [], [], [], [], [],
  [none, some 38, some 39, some 40, some 41, none, some 42, some 46, some 47, some 48, some 49, some 50, some 51, none, none, none], [], [], [], [], [some 43, some 44, some 45], [], [], [], [], [], [], [], [], [],
  [], [], [], [],
  [some 57, some 58, some 59, some 60, none, some 61, none, none, none, some 62, some 63, none, none, some 64, some 65, some 66, some 67, some 68, some 69, some 70, some 71, none, some 72, some 73, some 74, some 75, none, some 76, some 77], [], [], [], [], [], [], [], [], [], [], [], [], [], [], [], [], [], [], [], [], []]
def j_shp (k : Nat) : Nat ⊕ (Nat ⊕ Nat) := j_shpL.getD k (.inl 0)
def j_ref (k j : Nat) : Option Nat := (j_refL.getD k []).getD j none
def j_ty (k : Nat) : FieldType := if k = 13 then .object RX2 else if k = 27 ∨ k = 42 then .array .int else .int
abbrev jCl : List vw_C := [(RX0, TX0, 7), (RX1, TX1, 16), (RX2, TX2, 4), (RX3, TX3, 4), (RX4, TX4, 16), (RX5, TX5, 29)]
def jRF (E : jE) (k : Nat) : Value := .ref (E.2.2.1 k)
def jFld (E : jE) (H : jH) (k j : Nat) (o : Option Nat) : Value := match o with
  | some a => .ref (E.2.2.1 a)
  | none => .int (jI (H k j))
def jFlds (E : jE) (H : jH) (k : Nat) : List Value := (j_refL.getD k []).mapIdx (fun j o => jFld E H k j o)
def jCell (E : jE) (H : jH) (k : Nat) : va_E := match j_shp k with
  | .inl n => .inl (E.2.2.2 k, (n, .inl (fun j => jI (H k j))))
  | .inr (.inl n) => .inl (E.2.2.2 k, (n, .inr (.inr (.inr (.inr (fun j => (j_ref k j).map E.2.2.1))))))
  | .inr (.inr ci) => .inr (ci, jFlds E H k)
def jWs (E : jE) (H : jH) : va_W := (List.range jK).map (fun k => (E.2.2.1 k, jCell E H k))
def jTys (E : jE) : List (ClassId × FieldType) := (List.range jK).map (fun k => (E.2.2.2 k, j_ty k))
def jA (E : jE) : Nat → Prop := fun q => ∃ k : Nat, k < jK ∧ q = E.2.2.1 k
theorem jWs_get (E : jE) (H : jH) {k : Nat} (h : k < jK) : (jWs E H)[k]? = some (E.2.2.1 k, jCell E H k) := by
  unfold jWs
  rw [List.getElem?_map, List.getElem?_range h]
  rfl
theorem jTys_get (E : jE) {k : Nat} (h : k < jK) : (jTys E)[k]? = some (E.2.2.2 k, j_ty k) := by
  unfold jTys
  rw [List.getElem?_map, List.getElem?_range h]
  rfl
theorem jWs_set (E : jE) (H H' : jH) {k : Nat} (h : k < jK) {e : va_E} (he : e = jCell E H' k) (ho : ∀ a, a ≠ k → H' a = H a) : (jWs E H).set k (E.2.2.1 k, e) = jWs E H' := by
  apply List.ext_getElem?
  intro i
  by_cases hi : i < jK
  · rw [jWs_get E H' hi, List.getElem?_set]
    by_cases hk : k = i
    · subst hk
      have hl : k < (jWs E H).length := by unfold jWs; simpa using h
      simp [hl, he]
    · rw [if_neg hk, jWs_get E H hi]
      have : H' i = H i := ho i (fun q => hk q.symm)
      unfold jCell jFlds jFld
      rw [this]
  · have e1 : (jWs E H').length = jK := by unfold jWs; simp
    have e2 : ((jWs E H).set k (E.2.2.1 k, e)).length = jK := by unfold jWs; simp
    rw [List.getElem?_eq_none (by omega), List.getElem?_eq_none (by omega)]
theorem jU_other (H : jH) (k : Nat) (i v : Int) : ∀ a, a ≠ k → jU H k i v a = H a := by
  intro a ha
  funext b
  unfold jU
  rw [if_neg (fun q => ha q.1)]
def jInj (E : jE) : Prop := ∀ i j : Nat, i < jK → j < jK → E.2.2.1 i = E.2.2.1 j → i = j
theorem jWs_at {E : jE} {H : jH} {i : Nat} {q : Nat × va_E} (h : (jWs E H)[i]? = some q) : i < jK ∧ q = (E.2.2.1 i, jCell E H i) := by
  have e1 : (jWs E H).length = jK := by unfold jWs; simp
  have hi : i < jK := by rw [← e1]; exact (List.getElem?_eq_some_iff.mp h).1
  rw [jWs_get E H hi] at h
  exact ⟨hi, (Option.some.inj h).symm⟩
theorem jD {E : jE} (hi : jInj E) (H : jH) : va_D (jA E) (jWs E H) := by
  refine ⟨fun i j p q h1 h2 h3 => ?_, fun k q h => ?_⟩
  · obtain ⟨a1, a2⟩ := jWs_at h1
    obtain ⟨b1, b2⟩ := jWs_at h2
    rw [a2, b2] at h3
    exact hi i j a1 b1 h3
  · obtain ⟨a1, a2⟩ := jWs_at h
    rw [a2]
    exact ⟨k, a1, rfl⟩
/-! words -/
def jW : List Cond := lw_tbl.filter goodWord
theorem jW_of {w : Cond} (h : w ∈ lw_tbl) (g : goodWord w = true) : w ∈ jW := List.mem_filter.mpr ⟨h, g⟩
abbrev jM : Type := MethodName × ByteArray × Nat × Option FieldType × Nat × Nat
def jWd (me : jM) : List Cond := .code me.1 me.2.1 me.2.2.1 me.2.2.2.1 :: jW
def jRoom (me : jM) : Room := { frames := me.2.2.2.2.1, cells := 0, slots := 0, locals := me.2.2.2.2.2 }
theorem jGood {me me' : jM} (h : Cond.code me'.1 me'.2.1 me'.2.2.1 me'.2.2.2.1 ∈ jW) : GoodIn (jWd me) (jWd me') := by
  intro w hw
  have h1 : w ∈ jW := by
    rcases List.mem_cons.mp hw with rfl | q
    · exact h
    · exact q
  exact ⟨List.mem_cons_of_mem _ h1, good_of_word (List.mem_filter.mp h1).2⟩
end
section
/-! ===== the judgement jWP, and its rows ===== -/
def jDig (j : Nat) : Int := match j with
  | 0 => 0
  | 1 => 1
  | 2 => 2
  | 3 => 9
  | _ => 59
/-- what lies outside the world and never changes: two links of nest mates, the text "telwx" (its cell 78, its bytes 79), a static, the row of DIGEST_STEPS (80) -/
def jOld (E : jE) (s : State) : Prop := va_Nw (.methodLinkNest RX3 25 yX4_isStep RX4) s ∧ va_Nw (.methodLinkNest RX3 29 yX4_isNumber RX4) s ∧ vk_R RX0 38 "telwx" (E.2.2.1 78) s ∧ vk_S 1 [5] [[116, 101, 108, 119, 120]] (fun _ => E.2.2.1 78) (fun _ => E.2.2.1 79) (jA E) s s.heap ∧
  va_Z "java/lang/String" "COMPACT_STRINGS" "Z" (.int 1) (jA E) s s.heap ∧ va_Z RX4 "DIGEST_STEPS" "[I" (.ref (E.2.2.1 80)) (jA E) s s.heap ∧ va_T .int (E.2.2.1 80) 5 (fun j => .int (jI (jDig j))) (jA E) s s.heap
theorem jOld.go {E : jE} {s U : State} {locs : List Loc} (h : jOld E s) (hS : va_S (jA E) s.heap U.heap locs) (hW : s.WarmedH U.vm) : jOld E U := by
  obtain ⟨h1, h2, h3, h4, h5, h6, h7⟩ := h
  exact ⟨h1.warmM hW, h2.warmM hW, h3.warm hW, (h4.kept hS.2.1).moved hW.alike, (h5.kept hS.2.1).moved hW.alike, (h6.kept hS.2.1).moved hW.alike, (h7.kept hS.2.1).moved hW.alike⟩
theorem jOld.blind {E : jE} {U : State} {g : JFrame} {mk : MethodId} {a : Array Value} (h : jOld E U) : jOld E (U.calling g mk a) := by
  obtain ⟨h1, h2, h3, h4, h5, h6, h7⟩ := h
  exact ⟨h1.same rfl rfl, h2.same rfl rfl, h3.same rfl, h4.moved (U := U.calling g mk a) (Vm.Alike.refl U.vm), h5.moved (U := U.calling g mk a) (Vm.Alike.refl U.vm), h6.moved (U := U.calling g mk a) (Vm.Alike.refl U.vm), h7.moved (U := U.calling g mk a) (Vm.Alike.refl U.vm)⟩
def jWS (E : jE) (s : State) : Prop := va_K E.2.1 jCl (jTys E) s ∧ jInj E ∧ jOld E s
def jWH (E : jE) (H : jH) (heap : Heap) : Prop := va_P E.2.1 jCl (jWs E H) heap ∧ jR H
theorem jWS.go {E : jE} {s U : State} {locs : List Loc} (h : jWS E s) (hS : va_S (jA E) s.heap U.heap locs) (hW : s.WarmedH U.vm) : jWS E U := ⟨va_K.moved hW.alike h.1, h.2.1, h.2.2.go hS hW⟩
def jFx (me : jM) (p : Program) (s : State) (m : MethodId) (args : Array Value) (meth : Method) (c : Code) : Prop :=
  p.tables.exec = Jvm.exec ∧ c.code = me.2.1 ∧ c.maxLocals = me.2.2.1 ∧ s.vm.findClass me.1.cls = some m.cls ∧ (∀ w ∈ jWd me, w.before args s = true) ∧ meth.sig.returnType = me.2.2.2.1 ∧ meth.locks = false
def jQQ (E : jE) (Q : Option Value → jH → Prop) : Array Value → State → Outcome → State → Prop := fun _ st oc t => (∃ (r : Option Value) (H' : jH), oc = .returned r ∧ Q r H' ∧ jWH E H' t.heap) ∧ va_F (jA E) st t
/-! locals -/
def jGet : List (Option Value) → Nat → Option Value
  | [], _ => none
  | a :: _, 0 => a
  | _ :: t, n + 1 => jGet t n
def jSt : List (Option Value) → Nat → Value → List (Option Value)
  | [], _, _ => []
  | _ :: t, 0, v => some v :: t
  | a :: t, n + 1, v => a :: jSt t n v
def jSt2 : List (Option Value) → Nat → Value → List (Option Value)
  | [], _, _ => []
  | [a], _, _ => [a]
  | _ :: _ :: t, 0, v => some v :: none :: t
  | a :: b :: t, n + 1, v => a :: jSt2 (b :: t) n v
def jCk (lv : List (Option Value)) : Nat → Bool
  | 0 => true
  | i + 1 => match jGet lv i with
    | some v => v.category == 1
    | none => true
def jAsc : Nat → List (Option Value) → List (Nat × Value)
  | _, [] => []
  | i, none :: t => jAsc (i + 1) t
  | i, some v :: t => (i, v) :: jAsc (i + 1) t
theorem jAsc_mem : ∀ (l : List (Option Value)) (i d : Nat) (v : Value), jGet l d = some v → (i + d, v) ∈ jAsc i l
  | [], i, d, v, h => by simp [jGet] at h
  | none :: t, i, 0, v, h => by simp [jGet] at h
  | some w :: t, i, 0, v, h => by
    simp [jGet] at h
    subst h
    simp [jAsc]
  | none :: t, i, d + 1, v, h => by
    have := jAsc_mem t (i + 1) d v h
    rw [show i + (d + 1) = i + 1 + d by omega]
    exact this
  | some w :: t, i, d + 1, v, h => by
    have := jAsc_mem t (i + 1) d v h
    rw [show i + (d + 1) = i + 1 + d by omega]
    exact List.mem_cons_of_mem _ this
theorem jAsc_at : ∀ (l : List (Option Value)) (i : Nat) (q : Nat × Value), q ∈ jAsc i l → ∃ d, q.1 = i + d ∧ jGet l d = some q.2
  | [], i, q, h => by simp [jAsc] at h
  | none :: t, i, q, h => by
    obtain ⟨d, h1, h2⟩ := jAsc_at t (i + 1) q h
    exact ⟨d + 1, by omega, h2⟩
  | some w :: t, i, q, h => by
    rcases List.mem_cons.mp h with rfl | h
    · exact ⟨0, rfl, rfl⟩
    · obtain ⟨d, h1, h2⟩ := jAsc_at t (i + 1) q h
      exact ⟨d + 1, by omega, h2⟩
def jHas (ls : Array Slot) (nL : Nat) (lv : List (Option Value)) : Prop := lv_has ls nL (jAsc 0 lv)
theorem jHas.get {ls : Array Slot} {nL : Nat} {lv : List (Option Value)} (h : jHas ls nL lv) {i : Nat} {v : Value} (hv : jGet lv i = some v) : ls[i]? = some (.val v) := by
  have := h.2.2 _ (jAsc_mem lv 0 i v hv)
  rwa [Nat.zero_add] at this
theorem jHas.of {ls : Array Slot} {nL : Nat} {lv : List (Option Value)} {l : List (Nat × Value)} (h : lv_has ls nL l) (hs : ∀ i v, jGet lv i = some v → (i, v) ∈ l) : jHas ls nL lv := by
  refine ⟨h.1, h.2.1, fun q hq => ?_⟩
  obtain ⟨d, h1, h2⟩ := jAsc_at lv 0 q hq
  rw [Nat.zero_add] at h1
  rw [h1]
  exact h.2.2 _ (hs d q.2 h2)
theorem jSt_get : ∀ (lv : List (Option Value)) (i : Nat) (v : Value) (j : Nat) (w : Value), jGet (jSt lv i v) j = some w → (j = i ∧ w = v) ∨ (j ≠ i ∧ jGet lv j = some w)
  | [], i, v, j, w, h => by simp [jSt, jGet] at h
  | a :: t, 0, v, 0, w, h => by
    simp [jSt, jGet] at h
    exact Or.inl ⟨rfl, h.symm⟩
  | a :: t, 0, v, j + 1, w, h => Or.inr ⟨by omega, h⟩
  | a :: t, n + 1, v, 0, w, h => Or.inr ⟨by omega, h⟩
  | a :: t, n + 1, v, j + 1, w, h => by
    rcases jSt_get t n v j w h with ⟨h1, h2⟩ | ⟨h1, h2⟩
    · exact Or.inl ⟨by omega, h2⟩
    · exact Or.inr ⟨by omega, h2⟩
theorem jSt2_get : ∀ (lv : List (Option Value)) (i : Nat) (v : Value) (j : Nat) (w : Value), i + 1 < lv.length → jGet (jSt2 lv i v) j = some w → (j = i ∧ w = v) ∨ (j ≠ i ∧ j ≠ i + 1 ∧ jGet lv j = some w)
  | [], i, v, j, w, hl, h => by simp at hl
  | [a], i, v, j, w, hl, h => by simp at hl
  | a :: b :: t, 0, v, 0, w, hl, h => by
    simp [jSt2, jGet] at h
    exact Or.inl ⟨rfl, h.symm⟩
  | a :: b :: t, 0, v, 1, w, hl, h => by simp [jSt2, jGet] at h
  | a :: b :: t, 0, v, j + 2, w, hl, h => Or.inr ⟨by omega, by omega, h⟩
  | a :: b :: t, n + 1, v, 0, w, hl, h => Or.inr ⟨by omega, by omega, h⟩
  | a :: b :: t, n + 1, v, j + 1, w, hl, h => by
    have hl' : n + 1 < (b :: t).length := by simp at hl ⊢; omega
    rcases jSt2_get (b :: t) n v j w hl' h with ⟨h1, h2⟩ | ⟨h1, h2, h3⟩
    · exact Or.inl ⟨by omega, h2⟩
    · exact Or.inr ⟨by omega, by omega, h3⟩
theorem jHas.st {ls : Array Slot} {nL : Nat} {lv : List (Option Value)} {i : Nat} {v : Value} (hc : jCk lv i = true) (h : lv_has ls nL ((i, v) :: (jAsc 0 lv).filter (fun q => !(q.1 == i) && !(q.1 + 1 == i && q.2.category == 2)))) : jHas ls nL (jSt lv i v) := by
  refine jHas.of h (fun j w hw => ?_)
  rcases jSt_get lv i v j w hw with ⟨rfl, rfl⟩ | ⟨h1, h2⟩
  · exact List.mem_cons_self
  · refine List.mem_cons_of_mem _ (List.mem_filter.mpr ⟨by have := jAsc_mem lv 0 j w h2; rwa [Nat.zero_add] at this, ?_⟩)
    have hcat : ¬ (j + 1 = i ∧ w.category = 2) := by
      rintro ⟨rfl, q⟩
      simp [jCk, h2, q] at hc
    simp only [Bool.and_eq_true, Bool.not_eq_true', beq_eq_false_iff_ne, ne_eq, Bool.and_eq_false_iff]
    refine ⟨h1, ?_⟩
    by_cases hj : j + 1 = i
    · right
      intro q
      exact hcat ⟨hj, q⟩
    · left
      exact hj
theorem jHas.st2 {ls : Array Slot} {nL : Nat} {lv : List (Option Value)} {i : Nat} {v : Value} (hl : i + 1 < lv.length) (hc : jCk lv i = true) (h : lv_has ls nL ((i, v) :: (jAsc 0 lv).filter (fun q => !(q.1 == i) && (!(q.1 == i + 1) && !(q.1 + 1 == i && q.2.category == 2))))) : jHas ls nL (jSt2 lv i v) := by
  refine jHas.of h (fun j w hw => ?_)
  rcases jSt2_get lv i v j w hl hw with ⟨rfl, rfl⟩ | ⟨h1, h1', h2⟩
  · exact List.mem_cons_self
  · refine List.mem_cons_of_mem _ (List.mem_filter.mpr ⟨by have := jAsc_mem lv 0 j w h2; rwa [Nat.zero_add] at this, ?_⟩)
    have hcat : ¬ (j + 1 = i ∧ w.category = 2) := by
      rintro ⟨rfl, q⟩
      simp [jCk, h2, q] at hc
    simp only [Bool.and_eq_true, Bool.not_eq_true', beq_eq_false_iff_ne, ne_eq, Bool.and_eq_false_iff]
    refine ⟨h1, h1', ?_⟩
    by_cases hj : j + 1 = i
    · right
      intro q
      exact hcat ⟨hj, q⟩
    · left
      exact hj
/-! the judgement -/
def jWP (E : jE) (me : jM) (Q : Option Value → jH → Prop) (pc : Nat) (lv : List (Option Value)) (st : List Value) (H : jH) : Prop :=
  ∀ (p : Program) (e : Env) (s : State) (m : MethodId) (args : Array Value) (below : List Frame) (meth : Method) (c : Code) (heap : Heap) (locs : List Loc) (ls : Array Slot),
    jFx me p s m args meth c → jWS E s → jWH E H heap → va_S (jA E) s.heap heap locs → jHas ls me.2.2.1 lv →
      W p E.1 e (jRoom me) s m args below meth c heap locs 0 0 (MQ below (jQQ E Q) args s 0 0 (jA E)) (F0 m pc ls st)
def jPc (E : jE) (vs : List Value) (H : jH) : Array Value → State → Prop := va_Pc vs (fun U => jWH E H U.heap ∧ jWS E U)
def jOk (E : jE) (me : jM) (vs : List Value) (H : jH) (Q : Option Value → jH → Prop) : Prop := Met E.1 me.1 (jWd me) (jRoom me) (jPc E vs H) (jQQ E Q) 0 0 (jA E)
def jEnt : List Value → Nat → List (Option Value)
  | [], n => List.replicate n none
  | v :: vs, n => if v.category = 2 then some v :: none :: jEnt vs (n - 2) else some v :: jEnt vs (n - 1)
theorem jEnt_get : ∀ (vs : List Value) (n i : Nat) (w : Value) (b : Nat), jGet (jEnt vs n) i = some w → (b + i, w) ∈ lv_args b vs
  | [], n, i, w, b, h => by
    exfalso
    have : ∀ n i, jGet (List.replicate n (none : Option Value)) i = none := by
      intro n
      induction n with
      | zero => intro i; rfl
      | succ n ih =>
        intro i
        rw [List.replicate_succ]
        cases i with
        | zero => rfl
        | succ i => exact ih i
    unfold jEnt at h
    rw [this] at h
    cases h
  | v :: vs, n, i, w, b, h => by
    unfold jEnt at h
    by_cases hc : v.category = 2
    · rw [if_pos hc] at h
      cases i with
      | zero => simp [jGet] at h; subst h; simp [lv_args]
      | succ i =>
        cases i with
        | zero => simp [jGet] at h
        | succ i =>
          have := jEnt_get vs (n - 2) i w (b + 2) h
          simp only [lv_args, hc, if_true]
          rw [show b + (i + 1 + 1) = b + 2 + i by omega]
          exact List.mem_cons_of_mem _ this
    · rw [if_neg hc] at h
      cases i with
      | zero => simp [jGet] at h; subst h; simp [lv_args]
      | succ i =>
        have := jEnt_get vs (n - 1) i w (b + 1) h
        simp only [lv_args, hc, if_false]
        rw [show b + (i + 1) = b + 1 + i by omega]
        exact List.mem_cons_of_mem _ this
/-- a method's contract out of the walk from its entry -/
theorem jOk.of {E : jE} {me : jM} {vs : List Value} {H : jH} {Q : Option Value → jH → Prop} (hy : plainName me.1.cls = true) (hl : (lg_sl vs).length ≤ me.2.2.1) (k : jWP E me Q 0 (jEnt vs me.2.2.1) [] H) : jOk E me vs H Q := by
  refine Met.ofW (cc := me.2.1) (maxL := me.2.2.1) (ret := me.2.2.2.1) (ws' := jW) hy rfl ?_
  intro p e s m args below meth c s₁ B hml hv
  obtain ⟨rfl, hWH, hWS⟩ := hv
  rw [lg_entry_eq]
  exact k p e s m _ below meth c s.heap [] _ ⟨B.exec, B.bytes, hml, findClass_of_methodNamed B.named, atoms_spec (ws := jWd me) B.pre, B.returns, B.notSynchronized⟩ hWS hWH va_S.rf (jHas.of (lv_entry vs hl) (fun i v h => by have := jEnt_get vs me.2.2.1 i v 0 h; rwa [Nat.zero_add] at this))
theorem jOk.mono {E : jE} {me : jM} {vs : List Value} {H : jH} {Q Q' : Option Value → jH → Prop} (h : jOk E me vs H Q) (hq : ∀ r H', Q r H' → Q' r H') : jOk E me vs H Q' := by
  intro p e ha hc hk s m args below hf hpre hP hK
  obtain ⟨k, o, h1, h2, h3, ⟨⟨r, H', e1, e2, e3⟩, e4⟩, e5⟩ := h p e ha hc hk s m args below hf hpre hP hK
  exact ⟨k, o, h1, h2, h3, ⟨⟨r, H', e1, hq r H' e2, e3⟩, e4⟩, e5⟩
section JROWS
variable {E : jE} {me : jM} {Q : Option Value → jH → Prop} {pc : Nat} {lv : List (Option Value)} {st : List Value} {H : jH}
theorem jWP.at {pc' : Nat} (h : pc = pc') (k : jWP E me Q pc' lv st H) : jWP E me Q pc lv st H := by subst h; exact k

theorem j_iconst (n : Nat) (hn : pc + 1 = n) {x : Int} (hd : decode me.2.1 pc = .ok (.iconst x, 1)) (k : jWP E me Q n lv (.int (jI x) :: st) H) : jWP E me Q pc lv (st) H := by
  subst hn
  intro p e s m args below meth c heap locs ls F S X V Y
  refine lv_iconst F.1 F.2.1 hd (v := jI x) rfl ?_
  exact k p e s m args below meth c heap locs ls F S X V Y
theorem j_bipush (n : Nat) (hn : pc + 2 = n) {x : Int} (hv : (Int8.ofInt x).toInt32 = jI x) (hd : decode me.2.1 pc = .ok (.bipush x, 2)) (k : jWP E me Q n lv (.int (jI x) :: st) H) : jWP E me Q pc lv (st) H := by
  subst hn
  intro p e s m args below meth c heap locs ls F S X V Y
  refine lv_bipush F.1 F.2.1 hd hv ?_
  exact k p e s m args below meth c heap locs ls F S X V Y
theorem j_sipush (n : Nat) (hn : pc + 3 = n) {x : Int} (hv : (Int16.ofInt x).toInt32 = jI x) (hd : decode me.2.1 pc = .ok (.sipush x, 3)) (k : jWP E me Q n lv (.int (jI x) :: st) H) : jWP E me Q pc lv (st) H := by
  subst hn
  intro p e s m args below meth c heap locs ls F S X V Y
  refine lv_sipush F.1 F.2.1 hd hv ?_
  exact k p e s m args below meth c heap locs ls F S X V Y
theorem j_lconst (n : Nat) (hn : pc + 1 = n) {z : Fin 2} {x : Int} (hv : Int64.ofNat (z : Nat) = jL x) (hd : decode me.2.1 pc = .ok (.lconst z, 1)) (k : jWP E me Q n lv (.long (jL x) :: st) H) : jWP E me Q pc lv (st) H := by
  subst hn
  intro p e s m args below meth c heap locs ls F S X V Y
  refine lv_lconst F.1 F.2.1 hd hv ?_
  exact k p e s m args below meth c heap locs ls F S X V Y
theorem j_ldc (n : Nat) (hn : pc + 2 = n) {ix : Nat} {x : Int} (hc : Cond.constant me.1.cls ix (jI x) ∈ jW) (hd : decode me.2.1 pc = .ok (.ldc ix, 2)) (k : jWP E me Q n lv (.int (jI x) :: st) H) : jWP E me Q pc lv (st) H := by
  subst hn
  intro p e s m args below meth c heap locs ls F S X V Y
  refine lv_ldc F.1 F.2.1 F.2.2.2.1 (F.2.2.2.2.1 _ (List.mem_cons_of_mem _ hc)) hd ?_
  exact k p e s m args below meth c heap locs ls F S X V Y
theorem j_ldcw (n : Nat) (hn : pc + 3 = n) {ix : Nat} {x : Int} (hc : Cond.constant me.1.cls ix (jI x) ∈ jW) (hd : decode me.2.1 pc = .ok (.ldc_w ix, 3)) (k : jWP E me Q n lv (.int (jI x) :: st) H) : jWP E me Q pc lv (st) H := by
  subst hn
  intro p e s m args below meth c heap locs ls F S X V Y
  refine lv_ldcw F.1 F.2.1 F.2.2.2.1 (F.2.2.2.2.1 _ (List.mem_cons_of_mem _ hc)) hd ?_
  exact k p e s m args below meth c heap locs ls F S X V Y
theorem j_ldc2 (n : Nat) (hn : pc + 3 = n) {ix : Nat} {x : Int} (hc : Cond.constantLong me.1.cls ix (jL x) ∈ jW) (hd : decode me.2.1 pc = .ok (.ldc2_w ix, 3)) (k : jWP E me Q n lv (.long (jL x) :: st) H) : jWP E me Q pc lv (st) H := by
  subst hn
  intro p e s m args below meth c heap locs ls F S X V Y
  refine lv_ldc2 F.1 F.2.1 F.2.2.2.1 (F.2.2.2.2.1 _ (List.mem_cons_of_mem _ hc)) hd ?_
  exact k p e s m args below meth c heap locs ls F S X V Y
theorem j_iload_n (n : Nat) (hn : pc + 1 = n) {i : Fin 4} {x : Int} (hl : jGet lv i = some (.int (jI x))) (hd : decode me.2.1 pc = .ok (.iload_n i, 1)) (k : jWP E me Q n lv (.int (jI x) :: st) H) : jWP E me Q pc lv (st) H := by
  subst hn
  intro p e s m args below meth c heap locs ls F S X V Y
  refine lv_iload_n F.1 F.2.1 hd rfl (Y.get hl) ?_
  exact k p e s m args below meth c heap locs ls F S X V Y
theorem j_lload_n (n : Nat) (hn : pc + 1 = n) {i : Fin 4} {x : Int} (hl : jGet lv i = some (.long (jL x))) (hd : decode me.2.1 pc = .ok (.lload_n i, 1)) (k : jWP E me Q n lv (.long (jL x) :: st) H) : jWP E me Q pc lv (st) H := by
  subst hn
  intro p e s m args below meth c heap locs ls F S X V Y
  refine lv_lload_n F.1 F.2.1 hd rfl (Y.get hl) ?_
  exact k p e s m args below meth c heap locs ls F S X V Y
theorem j_iload (n : Nat) (hn : pc + 2 = n) {i : Nat} {x : Int} (hl : jGet lv i = some (.int (jI x))) (hd : decode me.2.1 pc = .ok (.iload i, 2)) (k : jWP E me Q n lv (.int (jI x) :: st) H) : jWP E me Q pc lv (st) H := by
  subst hn
  intro p e s m args below meth c heap locs ls F S X V Y
  refine lv_iload F.1 F.2.1 hd (Y.get hl) ?_
  exact k p e s m args below meth c heap locs ls F S X V Y
theorem j_lload (n : Nat) (hn : pc + 2 = n) {i : Nat} {x : Int} (hl : jGet lv i = some (.long (jL x))) (hd : decode me.2.1 pc = .ok (.lload i, 2)) (k : jWP E me Q n lv (.long (jL x) :: st) H) : jWP E me Q pc lv (st) H := by
  subst hn
  intro p e s m args below meth c heap locs ls F S X V Y
  refine lv_lload F.1 F.2.1 hd (Y.get hl) ?_
  exact k p e s m args below meth c heap locs ls F S X V Y
theorem j_aload_n (n : Nat) (hn : pc + 1 = n) {i : Fin 4} {x : Nat} (hl : jGet lv i = some (jRF E x)) (hd : decode me.2.1 pc = .ok (.aload_n i, 1)) (k : jWP E me Q n lv (jRF E x :: st) H) : jWP E me Q pc lv (st) H := by
  subst hn
  intro p e s m args below meth c heap locs ls F S X V Y
  refine lv_aload_n F.1 F.2.1 hd rfl (Y.get hl) ?_
  exact k p e s m args below meth c heap locs ls F S X V Y
theorem j_aload (n : Nat) (hn : pc + 2 = n) {i : Nat} {x : Nat} (hl : jGet lv i = some (jRF E x)) (hd : decode me.2.1 pc = .ok (.aload i, 2)) (k : jWP E me Q n lv (jRF E x :: st) H) : jWP E me Q pc lv (st) H := by
  subst hn
  intro p e s m args below meth c heap locs ls F S X V Y
  refine lv_aload F.1 F.2.1 hd (Y.get hl) ?_
  exact k p e s m args below meth c heap locs ls F S X V Y
theorem j_istore_n (n : Nat) (hn : pc + 1 = n) {i : Fin 4} {x : Int} {lv' : List (Option Value)} (hs : jSt lv i (.int (jI x)) = lv') (hi : (i : Nat) < me.2.2.1) (hc : jCk lv i = true) (hd : decode me.2.1 pc = .ok (.istore_n i, 1)) (k : jWP E me Q n lv' st H) : jWP E me Q pc lv (.int (jI x) :: st) H := by
  subst hn
  subst hs
  intro p e s m args below meth c heap locs ls F S X V Y
  refine lv_istore_n F.1 F.2.1 hd rfl Y hi rfl (fun ls q => ?_)
  exact k p e s m args below meth c heap locs ls F S X V (jHas.st hc q)
theorem j_istore (n : Nat) (hn : pc + 2 = n) {i : Nat} {x : Int} {lv' : List (Option Value)} (hs : jSt lv i (.int (jI x)) = lv') (hi : (i : Nat) < me.2.2.1) (hc : jCk lv i = true) (hd : decode me.2.1 pc = .ok (.istore i, 2)) (k : jWP E me Q n lv' st H) : jWP E me Q pc lv (.int (jI x) :: st) H := by
  subst hn
  subst hs
  intro p e s m args below meth c heap locs ls F S X V Y
  refine lv_istore F.1 F.2.1 hd Y hi rfl (fun ls q => ?_)
  exact k p e s m args below meth c heap locs ls F S X V (jHas.st hc q)
theorem j_lstore_n (n : Nat) (hn : pc + 1 = n) {i : Fin 4} {x : Int} {lv' : List (Option Value)} (hs : jSt2 lv i (.long (jL x)) = lv') (hi : (i : Nat) + 1 < me.2.2.1) (hll : (i : Nat) + 1 < lv.length) (hc : jCk lv i = true) (hd : decode me.2.1 pc = .ok (.lstore_n i, 1)) (k : jWP E me Q n lv' st H) : jWP E me Q pc lv (.long (jL x) :: st) H := by
  subst hn
  subst hs
  intro p e s m args below meth c heap locs ls F S X V Y
  refine lv_lstore_n F.1 F.2.1 hd rfl Y hi rfl (fun ls q => ?_)
  exact k p e s m args below meth c heap locs ls F S X V (jHas.st2 hll hc q)
theorem j_lstore (n : Nat) (hn : pc + 2 = n) {i : Nat} {x : Int} {lv' : List (Option Value)} (hs : jSt2 lv i (.long (jL x)) = lv') (hi : (i : Nat) + 1 < me.2.2.1) (hll : (i : Nat) + 1 < lv.length) (hc : jCk lv i = true) (hd : decode me.2.1 pc = .ok (.lstore i, 2)) (k : jWP E me Q n lv' st H) : jWP E me Q pc lv (.long (jL x) :: st) H := by
  subst hn
  subst hs
  intro p e s m args below meth c heap locs ls F S X V Y
  refine lv_lstore F.1 F.2.1 hd Y hi rfl (fun ls q => ?_)
  exact k p e s m args below meth c heap locs ls F S X V (jHas.st2 hll hc q)
theorem j_astore_n (n : Nat) (hn : pc + 1 = n) {i : Fin 4} {x : Nat} {lv' : List (Option Value)} (hs : jSt lv i (jRF E x) = lv') (hi : (i : Nat) < me.2.2.1) (hc : jCk lv i = true) (hd : decode me.2.1 pc = .ok (.astore_n i, 1)) (k : jWP E me Q n lv' st H) : jWP E me Q pc lv (jRF E x :: st) H := by
  subst hn
  subst hs
  intro p e s m args below meth c heap locs ls F S X V Y
  refine lv_astore_n F.1 F.2.1 hd rfl Y hi rfl (fun ls q => ?_)
  exact k p e s m args below meth c heap locs ls F S X V (jHas.st hc q)
theorem j_astore (n : Nat) (hn : pc + 2 = n) {i : Nat} {x : Nat} {lv' : List (Option Value)} (hs : jSt lv i (jRF E x) = lv') (hi : (i : Nat) < me.2.2.1) (hc : jCk lv i = true) (hd : decode me.2.1 pc = .ok (.astore i, 2)) (k : jWP E me Q n lv' st H) : jWP E me Q pc lv (jRF E x :: st) H := by
  subst hn
  subst hs
  intro p e s m args below meth c heap locs ls F S X V Y
  refine lv_astore F.1 F.2.1 hd Y hi rfl (fun ls q => ?_)
  exact k p e s m args below meth c heap locs ls F S X V (jHas.st hc q)
theorem j_iinc (n : Nat) (hn : pc + 3 = n) {i : Nat} {x y : Int} {lv' : List (Option Value)} (hl : jGet lv i = some (.int (jI x))) (hs : jSt lv i (.int (jI (x + y))) = lv') (hi : i < me.2.2.1) (hc : jCk lv i = true) (hd : decode me.2.1 pc = .ok (.iinc i y, 3)) (k : jWP E me Q n lv' st H) : jWP E me Q pc lv st H := by
  subst hn
  subst hs
  intro p e s m args below meth c heap locs ls F S X V Y
  have hm := jAsc_mem lv 0 i _ hl
  rw [Nat.zero_add] at hm
  obtain ⟨k0, hk0⟩ := List.getElem?_of_mem hm
  refine lv_iinc (v := jI (x + y)) F.1 F.2.1 hd Y hk0 (by rw [← jI_add]; rfl) hi rfl (fun ls q => ?_)
  exact k p e s m args below meth c heap locs ls F S X V (jHas.st hc q)
theorem j_iadd (n : Nat) (hn : pc + 1 = n) {a b : Int} (hd : decode me.2.1 pc = .ok (.iadd, 1)) (k : jWP E me Q n lv (.int (jI (a + b)) :: st) H) : jWP E me Q pc lv (.int (jI b) :: .int (jI a) :: st) H := by
  subst hn
  intro p e s m args below meth c heap locs ls F S X V Y
  refine lv_iadd F.1 F.2.1 hd ?_
  rw [jI_add]
  exact k p e s m args below meth c heap locs ls F S X V Y
theorem j_isub (n : Nat) (hn : pc + 1 = n) {a b : Int} (hd : decode me.2.1 pc = .ok (.isub, 1)) (k : jWP E me Q n lv (.int (jI (a - b)) :: st) H) : jWP E me Q pc lv (.int (jI b) :: .int (jI a) :: st) H := by
  subst hn
  intro p e s m args below meth c heap locs ls F S X V Y
  refine lv_isub F.1 F.2.1 hd ?_
  rw [jI_sub]
  exact k p e s m args below meth c heap locs ls F S X V Y
theorem j_imul (n : Nat) (hn : pc + 1 = n) {a b : Int} (hd : decode me.2.1 pc = .ok (.imul, 1)) (k : jWP E me Q n lv (.int (jI (a * b)) :: st) H) : jWP E me Q pc lv (.int (jI b) :: .int (jI a) :: st) H := by
  subst hn
  intro p e s m args below meth c heap locs ls F S X V Y
  refine lv_imul F.1 F.2.1 hd ?_
  rw [jI_mul]
  exact k p e s m args below meth c heap locs ls F S X V Y
theorem j_ladd (n : Nat) (hn : pc + 1 = n) {a b : Int} (hd : decode me.2.1 pc = .ok (.ladd, 1)) (k : jWP E me Q n lv (.long (jL (a + b)) :: st) H) : jWP E me Q pc lv (.long (jL b) :: .long (jL a) :: st) H := by
  subst hn
  intro p e s m args below meth c heap locs ls F S X V Y
  refine lv_ladd F.1 F.2.1 hd ?_
  rw [jL_add]
  exact k p e s m args below meth c heap locs ls F S X V Y
theorem j_lsub (n : Nat) (hn : pc + 1 = n) {a b : Int} (hd : decode me.2.1 pc = .ok (.lsub, 1)) (k : jWP E me Q n lv (.long (jL (a - b)) :: st) H) : jWP E me Q pc lv (.long (jL b) :: .long (jL a) :: st) H := by
  subst hn
  intro p e s m args below meth c heap locs ls F S X V Y
  refine lv_lsub F.1 F.2.1 hd ?_
  rw [jL_sub]
  exact k p e s m args below meth c heap locs ls F S X V Y
theorem j_lmul (n : Nat) (hn : pc + 1 = n) {a b : Int} (hd : decode me.2.1 pc = .ok (.lmul, 1)) (k : jWP E me Q n lv (.long (jL (a * b)) :: st) H) : jWP E me Q pc lv (.long (jL b) :: .long (jL a) :: st) H := by
  subst hn
  intro p e s m args below meth c heap locs ls F S X V Y
  refine lv_lmul F.1 F.2.1 hd ?_
  rw [jL_mul]
  exact k p e s m args below meth c heap locs ls F S X V Y
theorem j_ineg (n : Nat) (hn : pc + 1 = n) {a : Int} (hd : decode me.2.1 pc = .ok (.ineg, 1)) (k : jWP E me Q n lv (.int (jI (-a)) :: st) H) : jWP E me Q pc lv (.int (jI a) :: st) H := by
  subst hn
  intro p e s m args below meth c heap locs ls F S X V Y
  refine lv_ineg F.1 F.2.1 hd ?_
  rw [jI_neg]
  exact k p e s m args below meth c heap locs ls F S X V Y
theorem j_iand (n : Nat) (hn : pc + 1 = n) {a b : Int} (v : Int) (hv : jR H → jI a &&& jI b = jI v) (hd : decode me.2.1 pc = .ok (.iand, 1)) (k : jWP E me Q n lv (.int (jI v) :: st) H) : jWP E me Q pc lv (.int (jI b) :: .int (jI a) :: st) H := by
  subst hn
  intro p e s m args below meth c heap locs ls F S X V Y
  refine lv_iand F.1 F.2.1 hd ?_
  rw [hv X.2]
  exact k p e s m args below meth c heap locs ls F S X V Y
theorem j_ior (n : Nat) (hn : pc + 1 = n) {a b : Int} (v : Int) (hv : jR H → jI a ||| jI b = jI v) (hd : decode me.2.1 pc = .ok (.ior, 1)) (k : jWP E me Q n lv (.int (jI v) :: st) H) : jWP E me Q pc lv (.int (jI b) :: .int (jI a) :: st) H := by
  subst hn
  intro p e s m args below meth c heap locs ls F S X V Y
  refine lv_ior F.1 F.2.1 hd ?_
  rw [hv X.2]
  exact k p e s m args below meth c heap locs ls F S X V Y
theorem j_ixor (n : Nat) (hn : pc + 1 = n) {a b : Int} (v : Int) (hv : jR H → jI a ^^^ jI b = jI v) (hd : decode me.2.1 pc = .ok (.ixor, 1)) (k : jWP E me Q n lv (.int (jI v) :: st) H) : jWP E me Q pc lv (.int (jI b) :: .int (jI a) :: st) H := by
  subst hn
  intro p e s m args below meth c heap locs ls F S X V Y
  refine lv_ixor F.1 F.2.1 hd ?_
  rw [hv X.2]
  exact k p e s m args below meth c heap locs ls F S X V Y
theorem j_ishl (n : Nat) (hn : pc + 1 = n) {a b : Int} (v : Int) (hv : jR H → jI a <<< (jI b &&& 31) = jI v) (hd : decode me.2.1 pc = .ok (.ishl, 1)) (k : jWP E me Q n lv (.int (jI v) :: st) H) : jWP E me Q pc lv (.int (jI b) :: .int (jI a) :: st) H := by
  subst hn
  intro p e s m args below meth c heap locs ls F S X V Y
  refine lv_ishl F.1 F.2.1 hd ?_
  rw [hv X.2]
  exact k p e s m args below meth c heap locs ls F S X V Y
theorem j_ishr (n : Nat) (hn : pc + 1 = n) {a b : Int} (v : Int) (hv : jR H → jI a >>> (jI b &&& 31) = jI v) (hd : decode me.2.1 pc = .ok (.ishr, 1)) (k : jWP E me Q n lv (.int (jI v) :: st) H) : jWP E me Q pc lv (.int (jI b) :: .int (jI a) :: st) H := by
  subst hn
  intro p e s m args below meth c heap locs ls F S X V Y
  refine lv_ishr F.1 F.2.1 hd ?_
  rw [hv X.2]
  exact k p e s m args below meth c heap locs ls F S X V Y
theorem j_iushr (n : Nat) (hn : pc + 1 = n) {a b : Int} (v : Int) (hv : jR H → ((jI a).toUInt32 >>> ((jI b).toUInt32 &&& Int32.toUInt32 31)).toInt32 = jI v) (hd : decode me.2.1 pc = .ok (.iushr, 1)) (k : jWP E me Q n lv (.int (jI v) :: st) H) : jWP E me Q pc lv (.int (jI b) :: .int (jI a) :: st) H := by
  subst hn
  intro p e s m args below meth c heap locs ls F S X V Y
  refine lv_iushr (v := jI v) F.1 F.2.1 hd (hv X.2) ?_
  exact k p e s m args below meth c heap locs ls F S X V Y
theorem j_lshl (n : Nat) (hn : pc + 1 = n) {a b : Int} (v : Int) (hv : jR H → jL a <<< ((jI b).toInt64 &&& 63) = jL v) (hd : decode me.2.1 pc = .ok (.lshl, 1)) (k : jWP E me Q n lv (.long (jL v) :: st) H) : jWP E me Q pc lv (.int (jI b) :: .long (jL a) :: st) H := by
  subst hn
  intro p e s m args below meth c heap locs ls F S X V Y
  refine lv_lshl (v := jL v) F.1 F.2.1 hd (hv X.2) ?_
  exact k p e s m args below meth c heap locs ls F S X V Y
theorem j_idiv (n : Nat) (hn : pc + 1 = n) {a b : Int} (v : Int) (hb : jR H → ¬ jI b = 0) (hv : jR H → jI a / jI b = jI v) (hd : decode me.2.1 pc = .ok (.idiv, 1)) (k : jWP E me Q n lv (.int (jI v) :: st) H) : jWP E me Q pc lv (.int (jI b) :: .int (jI a) :: st) H := by
  subst hn
  intro p e s m args below meth c heap locs ls F S X V Y
  refine lv_idiv F.1 F.2.1 hd (hb X.2) ?_
  rw [hv X.2]
  exact k p e s m args below meth c heap locs ls F S X V Y
theorem j_irem (n : Nat) (hn : pc + 1 = n) {a b : Int} (v : Int) (hb : jR H → ¬ jI b = 0) (hv : jR H → jI a - jI a / jI b * jI b = jI v) (hd : decode me.2.1 pc = .ok (.irem, 1)) (k : jWP E me Q n lv (.int (jI v) :: st) H) : jWP E me Q pc lv (.int (jI b) :: .int (jI a) :: st) H := by
  subst hn
  intro p e s m args below meth c heap locs ls F S X V Y
  refine lv_irem F.1 F.2.1 hd (hb X.2) ?_
  rw [hv X.2]
  exact k p e s m args below meth c heap locs ls F S X V Y
theorem j_ldiv (n : Nat) (hn : pc + 1 = n) {a b : Int} (v : Int) (hb : jR H → ¬ jL b = 0) (hv : jR H → jL a / jL b = jL v) (hd : decode me.2.1 pc = .ok (.ldiv, 1)) (k : jWP E me Q n lv (.long (jL v) :: st) H) : jWP E me Q pc lv (.long (jL b) :: .long (jL a) :: st) H := by
  subst hn
  intro p e s m args below meth c heap locs ls F S X V Y
  refine lv_ldiv F.1 F.2.1 hd (hb X.2) ?_
  rw [hv X.2]
  exact k p e s m args below meth c heap locs ls F S X V Y
theorem j_lrem (n : Nat) (hn : pc + 1 = n) {a b : Int} (v : Int) (hb : jR H → ¬ jL b = 0) (hv : jR H → jL a - jL a / jL b * jL b = jL v) (hd : decode me.2.1 pc = .ok (.lrem, 1)) (k : jWP E me Q n lv (.long (jL v) :: st) H) : jWP E me Q pc lv (.long (jL b) :: .long (jL a) :: st) H := by
  subst hn
  intro p e s m args below meth c heap locs ls F S X V Y
  refine lv_lrem F.1 F.2.1 hd (hb X.2) ?_
  rw [hv X.2]
  exact k p e s m args below meth c heap locs ls F S X V Y
theorem j_i2l (n : Nat) (hn : pc + 1 = n) {a : Int} (ha : jR H → -2147483648 ≤ a ∧ a ≤ 2147483647) (hd : decode me.2.1 pc = .ok (.i2l, 1)) (k : jWP E me Q n lv (.long (jL a) :: st) H) : jWP E me Q pc lv (.int (jI a) :: st) H := by
  subst hn
  intro p e s m args below meth c heap locs ls F S X V Y
  refine lv_i2l (v := jL a) F.1 F.2.1 hd (jI_i2l (ha X.2)) ?_
  exact k p e s m args below meth c heap locs ls F S X V Y
theorem j_i2b (n : Nat) (hn : pc + 1 = n) {a : Int} (v : Int) (hv : jR H → (jI a).toInt8.toInt32 = jI v) (hd : decode me.2.1 pc = .ok (.i2b, 1)) (k : jWP E me Q n lv (.int (jI v) :: st) H) : jWP E me Q pc lv (.int (jI a) :: st) H := by
  subst hn
  intro p e s m args below meth c heap locs ls F S X V Y
  refine lv_i2b (v := jI v) F.1 F.2.1 hd (hv X.2) ?_
  exact k p e s m args below meth c heap locs ls F S X V Y
theorem j_i2s (n : Nat) (hn : pc + 1 = n) {a : Int} (v : Int) (hv : jR H → (jI a).toInt16.toInt32 = jI v) (hd : decode me.2.1 pc = .ok (.i2s, 1)) (k : jWP E me Q n lv (.int (jI v) :: st) H) : jWP E me Q pc lv (.int (jI a) :: st) H := by
  subst hn
  intro p e s m args below meth c heap locs ls F S X V Y
  refine lv_i2s (v := jI v) F.1 F.2.1 hd (hv X.2) ?_
  exact k p e s m args below meth c heap locs ls F S X V Y
theorem j_i2c (n : Nat) (hn : pc + 1 = n) {a : Int} (v : Int) (hv : jR H → ((jI a).toUInt32 % 65536).toInt32 = jI v) (hd : decode me.2.1 pc = .ok (.i2c, 1)) (k : jWP E me Q n lv (.int (jI v) :: st) H) : jWP E me Q pc lv (.int (jI a) :: st) H := by
  subst hn
  intro p e s m args below meth c heap locs ls F S X V Y
  refine lv_i2c (v := jI v) F.1 F.2.1 hd (hv X.2) ?_
  exact k p e s m args below meth c heap locs ls F S X V Y
theorem j_dup (n : Nat) (hn : pc + 1 = n) {v : Value} (hc : v.category = 1) (hd : decode me.2.1 pc = .ok (.dup, 1)) (k : jWP E me Q n lv (v :: v :: st) H) : jWP E me Q pc lv (v :: st) H := by
  subst hn
  intro p e s m args below meth c heap locs ls F S X V Y
  refine lv_dup F.1 F.2.1 hd hc ?_
  exact k p e s m args below meth c heap locs ls F S X V Y
theorem j_pop (n : Nat) (hn : pc + 1 = n) {v : Value} (hc : v.category = 1) (hd : decode me.2.1 pc = .ok (.pop, 1)) (k : jWP E me Q n lv (st) H) : jWP E me Q pc lv (v :: st) H := by
  subst hn
  intro p e s m args below meth c heap locs ls F S X V Y
  refine lv_pop F.1 F.2.1 hd hc ?_
  exact k p e s m args below meth c heap locs ls F S X V Y
theorem j_dup2 (n : Nat) (hn : pc + 1 = n) {v w : Value} (hc : v.category = 1) (hw : w.category = 1) (hd : decode me.2.1 pc = .ok (.dup2, 1)) (k : jWP E me Q n lv (v :: w :: v :: w :: st) H) : jWP E me Q pc lv (v :: w :: st) H := by
  subst hn
  intro p e s m args below meth c heap locs ls F S X V Y
  refine lv_dup2_11 F.1 F.2.1 hd hc hw ?_
  exact k p e s m args below meth c heap locs ls F S X V Y
theorem j_dup_x1 (n : Nat) (hn : pc + 1 = n) {v w : Value} (hc : v.category = 1) (hw : w.category = 1) (hd : decode me.2.1 pc = .ok (.dup_x1, 1)) (k : jWP E me Q n lv (v :: w :: v :: st) H) : jWP E me Q pc lv (v :: w :: st) H := by
  subst hn
  intro p e s m args below meth c heap locs ls F S X V Y
  refine lv_dup_x1 F.1 F.2.1 hd hc hw ?_
  exact k p e s m args below meth c heap locs ls F S X V Y
theorem j_dup_x2 (n : Nat) (hn : pc + 1 = n) {v w x : Value} (hc : v.category = 1) (hw : w.category = 1) (hx : x.category = 1) (hd : decode me.2.1 pc = .ok (.dup_x2, 1)) (k : jWP E me Q n lv (v :: w :: x :: v :: st) H) : jWP E me Q pc lv (v :: w :: x :: st) H := by
  subst hn
  intro p e s m args below meth c heap locs ls F S X V Y
  refine lv_dup_x2 F.1 F.2.1 hd hc hw hx ?_
  exact k p e s m args below meth c heap locs ls F S X V Y
theorem j_goto (t : Nat) {off : Int} (ht : (pc : Int) + off = (t : Int)) (hd : decode me.2.1 pc = .ok (.goto off, 3)) (k : jWP E me Q t lv st H) : jWP E me Q pc lv st H := by
  intro p e s m args below meth c heap locs ls F S X V Y
  exact lv_goto F.1 F.2.1 hd ht (k p e s m args below meth c heap locs ls F S X V Y)
theorem j_icmp_eq (t n : Nat) {off : Int} {a b : Int} (ht : (pc : Int) + off = (t : Int)) (hn : pc + 3 = n) (hd : decode me.2.1 pc = .ok (.if_icmp .eq off, 3)) (ha : jR H → -2147483648 ≤ a ∧ a ≤ 2147483647) (hb : jR H → -2147483648 ≤ b ∧ b ≤ 2147483647) (kt : a = b → jWP E me Q t lv st H) (kf : a ≠ b → jWP E me Q n lv st H) : jWP E me Q pc lv (.int (jI b) :: .int (jI a) :: st) H := by
  subst hn
  intro p e s m args below meth c heap locs ls F S X V Y
  have ra := ha X.2
  have rb := hb X.2
  refine lv_icmp_eq F.1 F.2.1 hd ht (fun h => kt ?_ p e s m args below meth c heap locs ls F S X V Y) (fun h => kf ?_ p e s m args below meth c heap locs ls F S X V Y) <;> rw [jI_eq ra rb] at h <;> omega
theorem j_if_eq (t n : Nat) {off : Int} {a : Int} (ht : (pc : Int) + off = (t : Int)) (hn : pc + 3 = n) (hd : decode me.2.1 pc = .ok (.ifCond .eq off, 3)) (ha : jR H → -2147483648 ≤ a ∧ a ≤ 2147483647) (kt : a = 0 → jWP E me Q t lv st H) (kf : a ≠ 0 → jWP E me Q n lv st H) : jWP E me Q pc lv (.int (jI a) :: st) H := by
  subst hn
  intro p e s m args below meth c heap locs ls F S X V Y
  have ra := ha X.2
  have rb : -2147483648 ≤ (0 : Int) ∧ (0 : Int) ≤ 2147483647 := by omega
  refine lv_if_eq F.1 F.2.1 hd ht (fun h => kt ?_ p e s m args below meth c heap locs ls F S X V Y) (fun h => kf ?_ p e s m args below meth c heap locs ls F S X V Y) <;> rw [← jI_0, jI_eq ra rb] at h <;> omega
theorem j_icmp_ne (t n : Nat) {off : Int} {a b : Int} (ht : (pc : Int) + off = (t : Int)) (hn : pc + 3 = n) (hd : decode me.2.1 pc = .ok (.if_icmp .ne off, 3)) (ha : jR H → -2147483648 ≤ a ∧ a ≤ 2147483647) (hb : jR H → -2147483648 ≤ b ∧ b ≤ 2147483647) (kt : a ≠ b → jWP E me Q t lv st H) (kf : a = b → jWP E me Q n lv st H) : jWP E me Q pc lv (.int (jI b) :: .int (jI a) :: st) H := by
  subst hn
  intro p e s m args below meth c heap locs ls F S X V Y
  have ra := ha X.2
  have rb := hb X.2
  refine lv_icmp_ne F.1 F.2.1 hd ht (fun h => kt ?_ p e s m args below meth c heap locs ls F S X V Y) (fun h => kf ?_ p e s m args below meth c heap locs ls F S X V Y) <;> rw [jI_eq ra rb] at h <;> omega
theorem j_if_ne (t n : Nat) {off : Int} {a : Int} (ht : (pc : Int) + off = (t : Int)) (hn : pc + 3 = n) (hd : decode me.2.1 pc = .ok (.ifCond .ne off, 3)) (ha : jR H → -2147483648 ≤ a ∧ a ≤ 2147483647) (kt : a ≠ 0 → jWP E me Q t lv st H) (kf : a = 0 → jWP E me Q n lv st H) : jWP E me Q pc lv (.int (jI a) :: st) H := by
  subst hn
  intro p e s m args below meth c heap locs ls F S X V Y
  have ra := ha X.2
  have rb : -2147483648 ≤ (0 : Int) ∧ (0 : Int) ≤ 2147483647 := by omega
  refine lv_if_ne F.1 F.2.1 hd ht (fun h => kt ?_ p e s m args below meth c heap locs ls F S X V Y) (fun h => kf ?_ p e s m args below meth c heap locs ls F S X V Y) <;> rw [← jI_0, jI_eq ra rb] at h <;> omega
theorem j_icmp_lt (t n : Nat) {off : Int} {a b : Int} (ht : (pc : Int) + off = (t : Int)) (hn : pc + 3 = n) (hd : decode me.2.1 pc = .ok (.if_icmp .lt off, 3)) (ha : jR H → -2147483648 ≤ a ∧ a ≤ 2147483647) (hb : jR H → -2147483648 ≤ b ∧ b ≤ 2147483647) (kt : a < b → jWP E me Q t lv st H) (kf : b ≤ a → jWP E me Q n lv st H) : jWP E me Q pc lv (.int (jI b) :: .int (jI a) :: st) H := by
  subst hn
  intro p e s m args below meth c heap locs ls F S X V Y
  have ra := ha X.2
  have rb := hb X.2
  refine lv_icmp_lt F.1 F.2.1 hd ht (fun h => kt ?_ p e s m args below meth c heap locs ls F S X V Y) (fun h => kf ?_ p e s m args below meth c heap locs ls F S X V Y) <;> rw [jI_lt ra rb] at h <;> omega
theorem j_if_lt (t n : Nat) {off : Int} {a : Int} (ht : (pc : Int) + off = (t : Int)) (hn : pc + 3 = n) (hd : decode me.2.1 pc = .ok (.ifCond .lt off, 3)) (ha : jR H → -2147483648 ≤ a ∧ a ≤ 2147483647) (kt : a < 0 → jWP E me Q t lv st H) (kf : 0 ≤ a → jWP E me Q n lv st H) : jWP E me Q pc lv (.int (jI a) :: st) H := by
  subst hn
  intro p e s m args below meth c heap locs ls F S X V Y
  have ra := ha X.2
  have rb : -2147483648 ≤ (0 : Int) ∧ (0 : Int) ≤ 2147483647 := by omega
  refine lv_if_lt F.1 F.2.1 hd ht (fun h => kt ?_ p e s m args below meth c heap locs ls F S X V Y) (fun h => kf ?_ p e s m args below meth c heap locs ls F S X V Y) <;> rw [← jI_0, jI_lt ra rb] at h <;> omega
theorem j_icmp_ge (t n : Nat) {off : Int} {a b : Int} (ht : (pc : Int) + off = (t : Int)) (hn : pc + 3 = n) (hd : decode me.2.1 pc = .ok (.if_icmp .ge off, 3)) (ha : jR H → -2147483648 ≤ a ∧ a ≤ 2147483647) (hb : jR H → -2147483648 ≤ b ∧ b ≤ 2147483647) (kt : b ≤ a → jWP E me Q t lv st H) (kf : a < b → jWP E me Q n lv st H) : jWP E me Q pc lv (.int (jI b) :: .int (jI a) :: st) H := by
  subst hn
  intro p e s m args below meth c heap locs ls F S X V Y
  have ra := ha X.2
  have rb := hb X.2
  refine lv_icmp_ge F.1 F.2.1 hd ht (fun h => kt ?_ p e s m args below meth c heap locs ls F S X V Y) (fun h => kf ?_ p e s m args below meth c heap locs ls F S X V Y) <;> rw [jI_le rb ra] at h <;> omega
theorem j_if_ge (t n : Nat) {off : Int} {a : Int} (ht : (pc : Int) + off = (t : Int)) (hn : pc + 3 = n) (hd : decode me.2.1 pc = .ok (.ifCond .ge off, 3)) (ha : jR H → -2147483648 ≤ a ∧ a ≤ 2147483647) (kt : 0 ≤ a → jWP E me Q t lv st H) (kf : a < 0 → jWP E me Q n lv st H) : jWP E me Q pc lv (.int (jI a) :: st) H := by
  subst hn
  intro p e s m args below meth c heap locs ls F S X V Y
  have ra := ha X.2
  have rb : -2147483648 ≤ (0 : Int) ∧ (0 : Int) ≤ 2147483647 := by omega
  refine lv_if_ge F.1 F.2.1 hd ht (fun h => kt ?_ p e s m args below meth c heap locs ls F S X V Y) (fun h => kf ?_ p e s m args below meth c heap locs ls F S X V Y) <;> rw [← jI_0, jI_le rb ra] at h <;> omega
theorem j_icmp_gt (t n : Nat) {off : Int} {a b : Int} (ht : (pc : Int) + off = (t : Int)) (hn : pc + 3 = n) (hd : decode me.2.1 pc = .ok (.if_icmp .gt off, 3)) (ha : jR H → -2147483648 ≤ a ∧ a ≤ 2147483647) (hb : jR H → -2147483648 ≤ b ∧ b ≤ 2147483647) (kt : b < a → jWP E me Q t lv st H) (kf : a ≤ b → jWP E me Q n lv st H) : jWP E me Q pc lv (.int (jI b) :: .int (jI a) :: st) H := by
  subst hn
  intro p e s m args below meth c heap locs ls F S X V Y
  have ra := ha X.2
  have rb := hb X.2
  refine lv_icmp_gt F.1 F.2.1 hd ht (fun h => kt ?_ p e s m args below meth c heap locs ls F S X V Y) (fun h => kf ?_ p e s m args below meth c heap locs ls F S X V Y) <;> rw [jI_lt rb ra] at h <;> omega
theorem j_if_gt (t n : Nat) {off : Int} {a : Int} (ht : (pc : Int) + off = (t : Int)) (hn : pc + 3 = n) (hd : decode me.2.1 pc = .ok (.ifCond .gt off, 3)) (ha : jR H → -2147483648 ≤ a ∧ a ≤ 2147483647) (kt : 0 < a → jWP E me Q t lv st H) (kf : a ≤ 0 → jWP E me Q n lv st H) : jWP E me Q pc lv (.int (jI a) :: st) H := by
  subst hn
  intro p e s m args below meth c heap locs ls F S X V Y
  have ra := ha X.2
  have rb : -2147483648 ≤ (0 : Int) ∧ (0 : Int) ≤ 2147483647 := by omega
  refine lv_if_gt F.1 F.2.1 hd ht (fun h => kt ?_ p e s m args below meth c heap locs ls F S X V Y) (fun h => kf ?_ p e s m args below meth c heap locs ls F S X V Y) <;> rw [← jI_0, jI_lt rb ra] at h <;> omega
theorem j_icmp_le (t n : Nat) {off : Int} {a b : Int} (ht : (pc : Int) + off = (t : Int)) (hn : pc + 3 = n) (hd : decode me.2.1 pc = .ok (.if_icmp .le off, 3)) (ha : jR H → -2147483648 ≤ a ∧ a ≤ 2147483647) (hb : jR H → -2147483648 ≤ b ∧ b ≤ 2147483647) (kt : a ≤ b → jWP E me Q t lv st H) (kf : b < a → jWP E me Q n lv st H) : jWP E me Q pc lv (.int (jI b) :: .int (jI a) :: st) H := by
  subst hn
  intro p e s m args below meth c heap locs ls F S X V Y
  have ra := ha X.2
  have rb := hb X.2
  refine lv_icmp_le F.1 F.2.1 hd ht (fun h => kt ?_ p e s m args below meth c heap locs ls F S X V Y) (fun h => kf ?_ p e s m args below meth c heap locs ls F S X V Y) <;> rw [jI_le ra rb] at h <;> omega
theorem j_if_le (t n : Nat) {off : Int} {a : Int} (ht : (pc : Int) + off = (t : Int)) (hn : pc + 3 = n) (hd : decode me.2.1 pc = .ok (.ifCond .le off, 3)) (ha : jR H → -2147483648 ≤ a ∧ a ≤ 2147483647) (kt : a ≤ 0 → jWP E me Q t lv st H) (kf : 0 < a → jWP E me Q n lv st H) : jWP E me Q pc lv (.int (jI a) :: st) H := by
  subst hn
  intro p e s m args below meth c heap locs ls F S X V Y
  have ra := ha X.2
  have rb : -2147483648 ≤ (0 : Int) ∧ (0 : Int) ≤ 2147483647 := by omega
  refine lv_if_le F.1 F.2.1 hd ht (fun h => kt ?_ p e s m args below meth c heap locs ls F S X V Y) (fun h => kf ?_ p e s m args below meth c heap locs ls F S X V Y) <;> rw [← jI_0, jI_le ra rb] at h <;> omega
end JROWS
end
section
/-! ===== rows of the heap, of calls and of ends ===== -/
section JHEAP
variable {E : jE} {me : jM} {Q : Option Value → jH → Prop} {pc : Nat} {lv : List (Option Value)} {st : List Value} {H : jH}
/-- an entry of a method's class is the link to field j of class ci -/
def jFL (own : String) (ix ci j : Nat) : Prop := ∃ (C : String) (T : u_T) (N : Nat), jCl[ci]? = some (C, T, N) ∧ j < N ∧ Cond.fieldLink own ix (T j).1 (T j).2.1 (T j).2.2.1 ∈ jW ∧ (∀ w ∈ u_ws C T N, w ∈ jW)
theorem jFlds_get (E : jE) (H : jH) (k j : Nat) {o : Option Nat} (h : (j_refL.getD k [])[j]? = some o) : (jFlds E H k)[j]? = some (jFld E H k j o) := by
  unfold jFlds
  rw [List.getElem?_mapIdx, h]
  rfl
theorem jCell_o (E : jE) (H : jH) {k ci : Nat} (h : j_shp k = .inr (.inr ci)) : jCell E H k = .inr (ci, jFlds E H k) := by unfold jCell; rw [h]
theorem jCell_a (E : jE) (H : jH) {k n : Nat} (h : j_shp k = .inl n) : jCell E H k = .inl (E.2.2.2 k, (n, .inl (fun j => jI (H k j)))) := by unfold jCell; rw [h]
theorem jCell_r (E : jE) (H : jH) {k n : Nat} (h : j_shp k = .inr (.inl n)) : jCell E H k = .inl (E.2.2.2 k, (n, .inr (.inr (.inr (.inr (fun j => (j_ref k j).map E.2.2.1)))))) := by unfold jCell; rw [h]
theorem j_geti (n : Nat) (hn : pc + 3 = n) {ix ci k : Nat} (j : Nat) (hl : jFL me.1.cls ix ci j) (hd : decode me.2.1 pc = .ok (.getfield ix, 3)) (hk : k < jK) (ho : j_shp k = .inr (.inr ci)) (hr : (j_refL.getD k [])[j]? = some none) (kk : jWP E me Q n lv (.int (jI (H k j)) :: st) H) : jWP E me Q pc lv (jRF E k :: st) H := by
  subst hn
  intro p e s m args below meth c heap locs ls F S X V Y
  obtain ⟨C, T, N, h1, h2, h3, h4⟩ := hl
  have he := jWs_get E H hk
  rw [jCell_o E H ho] at he
  refine va_get (ci := ci) (C := C) (T := T) (N := N) (Ts := jWd me) F.1 F.2.1 F.2.2.2.2.1 (fun w h => List.mem_cons_of_mem _ (h4 w h)) F.2.2.2.1 S.1 X.1 k he h1 j h2 (F.2.2.2.2.1 _ (List.mem_cons_of_mem _ h3)) (fun _ h => h) (jFlds_get E H k j hr) hd ?_
  exact kk p e s m args below meth c heap locs ls F S X V Y
theorem j_getr (n : Nat) (hn : pc + 3 = n) {ix ci k a : Nat} (j : Nat) (hl : jFL me.1.cls ix ci j) (hd : decode me.2.1 pc = .ok (.getfield ix, 3)) (hk : k < jK) (ho : j_shp k = .inr (.inr ci)) (hr : (j_refL.getD k [])[j]? = some (some a)) (kk : jWP E me Q n lv (jRF E a :: st) H) : jWP E me Q pc lv (jRF E k :: st) H := by
  subst hn
  intro p e s m args below meth c heap locs ls F S X V Y
  obtain ⟨C, T, N, h1, h2, h3, h4⟩ := hl
  have he := jWs_get E H hk
  rw [jCell_o E H ho] at he
  refine va_get (ci := ci) (C := C) (T := T) (N := N) (Ts := jWd me) F.1 F.2.1 F.2.2.2.2.1 (fun w h => List.mem_cons_of_mem _ (h4 w h)) F.2.2.2.1 S.1 X.1 k he h1 j h2 (F.2.2.2.2.1 _ (List.mem_cons_of_mem _ h3)) (fun _ h => h) (jFlds_get E H k j hr) hd ?_
  exact kk p e s m args below meth c heap locs ls F S X V Y
/-- what a field of ints takes -/
def jFT (ci j : Nat) (ty : FieldType) : Prop := ∃ (C : String) (T : u_T) (N : Nat) (t0 : Nat → FieldType), jCl[ci]? = some (C, T, N) ∧ j < N ∧ (T j).2.2.2 = false ∧ parseFieldDescriptor (T j).2.2.1 = some ty ∧ (∀ k, k < N → parseFieldDescriptor (T k).2.2.1 = some (t0 k)) ∧ (∀ a, a < N → ∀ b, b < N → a ≠ b → (T a).2.1 ≠ (T b).2.1)
theorem jFlds_set (E : jE) (H : jH) (k j : Nat) (v : Int) (h : (j_refL.getD k [])[j]? = some none) : (jFlds E H k).set j (.int (jI v)) = jFlds E (jU H k j v) k := by
  apply List.ext_getElem?
  intro i
  have hl : j < (j_refL.getD k []).length := (List.getElem?_eq_some_iff.mp h).1
  have hl2 : j < (jFlds E H k).length := by unfold jFlds; simpa using hl
  rw [List.getElem?_set]
  by_cases hi : j = i
  · subst hi
    rw [if_pos rfl, if_pos hl2, jFlds_get E (jU H k j v) k j h]
    simp [jFld, jU]
  · rw [if_neg hi]
    unfold jFlds
    rw [List.getElem?_mapIdx, List.getElem?_mapIdx]
    cases (j_refL.getD k [])[i]? with
    | none => rfl
    | some o =>
      cases o with
      | some a => rfl
      | none =>
        have hne : ¬ ((i : Int) = (j : Int)) := by omega
        simp [jFld, jU, hne]
theorem j_put {ty : FieldType} (n : Nat) (hn : pc + 3 = n) {ix ci k : Nat} (j : Nat) {x : Int} (hl : jFL me.1.cls ix ci j) (hf : jFT ci j ty) (hd : decode me.2.1 pc = .ok (.putfield ix, 3)) (hk : k < jK) (ho : j_shp k = .inr (.inr ci)) (hr : (j_refL.getD k [])[j]? = some none) (hx : jR H → -2147483648 ≤ x ∧ x ≤ 2147483647) (hnr : narrow ty (.int (jI x)) = .int (jI x)) (hft : fits ty (.int (jI x)) = true) (kk : jWP E me Q n lv st (jU H k j x)) : jWP E me Q pc lv (.int (jI x) :: jRF E k :: st) H := by
  subst hn
  intro p e s m args below meth c heap locs ls F S X V Y
  obtain ⟨C, T, N, h1, h2, h3, h4⟩ := hl
  obtain ⟨C', T', N', t0, g1, g2, g3, g4, g5, g6⟩ := hf
  have hq := Option.some.inj (h1.symm.trans g1)
  obtain ⟨rfl, hq2⟩ := Prod.mk.inj hq
  obtain ⟨rfl, rfl⟩ := Prod.mk.inj hq2
  have he := jWs_get E H hk
  rw [jCell_o E H ho] at he
  have hll : j < (jFlds E H k).length := by
    have := (List.getElem?_eq_some_iff.mp hr).1
    unfold jFlds
    simpa using this
  refine va_put (ci := ci) (C := C) (T := T) (N := N) (Ts := jWd me) (A := jA E) F.1 F.2.1 F.2.2.2.2.1 (fun w h => List.mem_cons_of_mem _ (h4 w h)) t0 g5 g6 F.2.2.2.1 S.1 X.1 (jD S.2.1 H) V k he h1 j h2 (F.2.2.2.2.1 _ (List.mem_cons_of_mem _ h3)) (fun _ h => h) g3 g4 hnr hft hll hd ?_
  intro H1 locs1 hP hD hS
  rw [jWs_set E H (jU H k j x) hk (by rw [jCell_o E _ ho, jFlds_set E H k j x hr]) (jU_other H k j x)] at hP
  exact kk p e s m args below meth c H1 locs1 ls F S ⟨hP, jR_u X.2 (hx X.2)⟩ hS Y
theorem j_puti (n : Nat) (hn : pc + 3 = n) {ix ci k : Nat} (j : Nat) {x : Int} (hl : jFL me.1.cls ix ci j) (hf : jFT ci j .int) (hd : decode me.2.1 pc = .ok (.putfield ix, 3)) (hk : k < jK) (ho : j_shp k = .inr (.inr ci)) (hr : (j_refL.getD k [])[j]? = some none) (hx : jR H → -2147483648 ≤ x ∧ x ≤ 2147483647) (kk : jWP E me Q n lv st (jU H k j x)) : jWP E me Q pc lv (.int (jI x) :: jRF E k :: st) H :=
  j_put n hn j hl hf hd hk ho hr hx rfl rfl kk
theorem j_putz (n : Nat) (hn : pc + 3 = n) {ix ci k : Nat} (j : Nat) {x : Int} (hl : jFL me.1.cls ix ci j) (hf : jFT ci j .boolean) (hd : decode me.2.1 pc = .ok (.putfield ix, 3)) (hk : k < jK) (ho : j_shp k = .inr (.inr ci)) (hr : (j_refL.getD k [])[j]? = some none) (hx : x = 0 ∨ x = 1) (kk : jWP E me Q n lv st (jU H k j x)) : jWP E me Q pc lv (.int (jI x) :: jRF E k :: st) H := by
  rcases hx with rfl | rfl
  · exact j_put n hn j hl hf hd hk ho hr (fun _ => by omega) (by decide) (by decide) kk
  · exact j_put n hn j hl hf hd hk ho hr (fun _ => by omega) (by decide) (by decide) kk
theorem j_iald (n : Nat) (hn : pc + 1 = n) {k N : Nat} {i : Int} (hd : decode me.2.1 pc = .ok (.iaload, 1)) (hk : k < jK) (ho : j_shp k = .inl N) (hN : N < 2 ^ 31) (hty : j_ty k = .int) (h0 : 0 ≤ i ∧ i < N) (kk : jWP E me Q n lv (.int (jI (H k i)) :: st) H) : jWP E me Q pc lv (.int (jI i) :: jRF E k :: st) H := by
  subst hn
  intro p e s m args below meth c heap locs ls F S X V Y
  have he := jWs_get E H hk
  rw [jCell_a E H ho] at he
  have ht := jTys_get E hk
  rw [hty] at ht
  refine va_iald F.1 F.2.1 S.1 X.1 k k he ht (jI_in hN h0.1 h0.2) hd ?_
  rw [jI_cl h0.1 (by omega)]
  have e1 : ((i.toNat : Nat) : Int) = i := Int.toNat_of_nonneg h0.1
  rw [e1]
  exact kk p e s m args below meth c heap locs ls F S X V Y
theorem jU_fn (H : jH) (k : Nat) {i v : Int} (h0 : 0 ≤ i) : (fun j : Nat => jI (jU H k i v k j)) = upd (fun j : Nat => jI (H k j)) i.toNat (jI v) := by
  funext q
  unfold upd jU
  by_cases h : q = i.toNat
  · subst h
    rw [if_pos rfl, if_pos ⟨rfl, Int.toNat_of_nonneg h0⟩]
  · rw [if_neg h, if_neg (fun z => h (by omega))]
theorem j_iast (n : Nat) (hn : pc + 1 = n) {k N : Nat} {i x : Int} (hd : decode me.2.1 pc = .ok (.iastore, 1)) (hk : k < jK) (ho : j_shp k = .inl N) (hN : N < 2 ^ 31) (hty : j_ty k = .int) (h0 : 0 ≤ i ∧ i < N) (hx : jR H → -2147483648 ≤ x ∧ x ≤ 2147483647) (kk : jWP E me Q n lv st (jU H k i x)) : jWP E me Q pc lv (.int (jI x) :: .int (jI i) :: jRF E k :: st) H := by
  subst hn
  intro p e s m args below meth c heap locs ls F S X V Y
  have he := jWs_get E H hk
  rw [jCell_a E H ho] at he
  have ht := jTys_get E hk
  rw [hty] at ht
  refine va_iast F.1 F.2.1 S.1 X.1 (jD S.2.1 H) V k k he ht (jI_in hN h0.1 h0.2) hd ?_
  intro H1 locs1 hP hD hS
  rw [jI_cl h0.1 (by omega)] at hP
  rw [jWs_set E H (jU H k i x) hk (by rw [jCell_a E _ ho, jU_fn H k h0.1]) (jU_other H k i x)] at hP
  exact kk p e s m args below meth c H1 locs1 ls F S ⟨hP, jR_u X.2 (hx X.2)⟩ hS Y
theorem j_aald (n : Nat) (hn : pc + 1 = n) {k N a : Nat} {i : Int} (hd : decode me.2.1 pc = .ok (.aaload, 1)) (hk : k < jK) (ho : j_shp k = .inr (.inl N)) (hN : N < 2 ^ 31) (hty : (j_ty k).isReference = true) (h0 : 0 ≤ i ∧ i < N) (hr : j_ref k i.toNat = some a) (kk : jWP E me Q n lv (jRF E a :: st) H) : jWP E me Q pc lv (.int (jI i) :: jRF E k :: st) H := by
  subst hn
  intro p e s m args below meth c heap locs ls F S X V Y
  have he := jWs_get E H hk
  rw [jCell_r E H ho] at he
  have ht := jTys_get E hk
  have hin := jI_in hN h0.1 h0.2
  have hlt : (jI i).toNatClampNeg < N := Nat.not_le.mp fun q => hin (Or.inr q)
  have e0 : (jI i).toNatClampNeg = i.toNat := jI_cl h0.1 (by omega)
  refine W.aald (v := jRF E a) (ty := j_ty k) F.1 F.2.1 (X.1 k _ he) ((S.1.2 k _ ht).1 N (fun j => va_rf ((j_ref k j).map E.2.2.1))) hty (fun q => by cases q) (by show ¬ (jI i < 0 ∨ (arrV _ _ _).slots.size ≤ _); rw [arrV_size]; exact hin) (by show (arrV _ _ _).slots[_]? = _; rw [arrV_read _ _ hlt, e0]; show some (va_rf ((j_ref k i.toNat).map E.2.2.1)) = some (jRF E a); rw [hr]; rfl) rfl rfl hd ?_
  exact kk p e s m args below meth c heap locs ls F S X V Y
theorem j_alen (n : Nat) (hn : pc + 1 = n) {k N : Nat} (hd : decode me.2.1 pc = .ok (.arraylength, 1)) (hk : k < jK) (ho : j_shp k = .inl N) (kk : jWP E me Q n lv (.int (jI N) :: st) H) : jWP E me Q pc lv (jRF E k :: st) H := by
  subst hn
  intro p e s m args below meth c heap locs ls F S X V Y
  have he := jWs_get E H hk
  rw [jCell_a E H ho] at he
  refine va_alen (v := jI N) F.1 F.2.1 S.1 X.1 k k he (jTys_get E hk) ?_ hd ?_
  · show Int32.ofNat N = Int32.ofInt N
    exact (Int32.ofInt_eq_ofNat).symm
  · exact kk p e s m args below meth c heap locs ls F S X V Y
/-! ends -/
theorem j_iret {x : Int} (hd : decode me.2.1 pc = .ok (.ireturn, 1)) (hr : me.2.2.2.1 = some .int) (hq : Q (some (.int (jI x))) H) : jWP E me Q pc lv [.int (jI x)] H := by
  intro p e s m args below meth c heap locs ls F S X V Y
  exact W.iret (hlocks := F.2.2.2.2.2.2) F.1 F.2.1 (F.2.2.2.2.2.1.trans hr) (fun t ht _ => ⟨⟨_, H, rfl, hq, by rw [ht]; exact X⟩, V.F ht⟩) V.2.2 hd
theorem j_zret {x : Int} (hd : decode me.2.1 pc = .ok (.ireturn, 1)) (hr : me.2.2.2.1 = some .boolean) (hx : x = 0 ∨ x = 1) (hq : Q (some (.int (jI x))) H) : jWP E me Q pc lv [.int (jI x)] H := by
  intro p e s m args below meth c heap locs ls F S X V Y
  have hn : narrow .boolean (.int (jI x)) = .int (jI x) := by rcases hx with rfl | rfl <;> decide
  exact W.zret (hlocks := F.2.2.2.2.2.2) F.1 F.2.1 (F.2.2.2.2.2.1.trans hr) hn (fun t ht _ => ⟨⟨_, H, rfl, hq, by rw [ht]; exact X⟩, V.F ht⟩) V.2.2 hd
theorem j_lret {x : Int} (hd : decode me.2.1 pc = .ok (.lreturn, 1)) (hr : me.2.2.2.1 = some .long) (hq : Q (some (.long (jL x))) H) : jWP E me Q pc lv [.long (jL x)] H := by
  intro p e s m args below meth c heap locs ls F S X V Y
  exact W.lret (hlocks := F.2.2.2.2.2.2) F.1 F.2.1 (F.2.2.2.2.2.1.trans hr) (fun t ht _ => ⟨⟨_, H, rfl, hq, by rw [ht]; exact X⟩, V.F ht⟩) V.2.2 hd
theorem j_vret (hd : decode me.2.1 pc = .ok (.return_, 1)) (hr : me.2.2.2.1 = none) (hq : Q none H) : jWP E me Q pc lv [] H := by
  intro p e s m args below meth c heap locs ls F S X V Y
  exact W.vret (hlocks := F.2.2.2.2.2.2) F.1 F.2.1 (F.2.2.2.2.2.1.trans hr) (fun t ht _ => ⟨⟨_, H, rfl, hq, by rw [ht]; exact X⟩, V.F ht⟩) V.2.2 hd
/-! calls -/
theorem jPc_blind (E : jE) (vs : List Value) (H : jH) : FrameBlind (jPc E vs H) := by
  intro a U g mk h
  obtain ⟨h1, h2, h3, h4, h5⟩ := h
  exact ⟨h1, h2, va_K.moved (u := U) (U := U.calling g mk a) (Vm.Alike.refl U.vm) h3, h4, h5.blind⟩
/-- behind a call -/
theorem jBack {p : Program} {e : Env} {s : State} {m : MethodId} {args : Array Value} {below : List Frame} {meth : Method} {c : Code} {heap : Heap} {locs : List Loc} {ls : Array Slot} {Q' : Option Value → jH → Prop} {st0 : List Value} {av : Array Value}
    (hr : va_Run p E.1 e (jRoom me) s m args below meth c heap locs 0 0 0 0 (F0 m pc ls st0) st (jQQ E Q' av) (jA E))
    (k : ∀ r H', Q' r H' → jWP E me Q (pc + 3) lv (r.toList ++ st) H')
    (F : jFx me p s m args meth c) (S : jWS E s) (V : va_S (jA E) s.heap heap locs) (Y : jHas ls me.2.2.1 lv) : W p E.1 e (jRoom me) s m args below meth c heap locs 0 0 (MQ below (jQQ E Q) args s 0 0 (jA E)) (F0 m pc ls st0) := by
  intro T hT X
  obtain ⟨v, st₀, t, T', L, h0, X', hL, e1, e2, ⟨⟨r, H', hv, hq, hw⟩, hz, hk⟩, stp⟩ := hr T hT X
  cases hv
  rw [h0] at hz hk
  obtain ⟨t2, a1, b1⟩ := k v H' hq p e s m args below meth c T'.heap (locs ++ L) ls F S (by rw [e1]; exact hw)
    ⟨Nat.le_trans V.1 (by rw [e1]; exact hz), fun q h1 h2 => by rw [e1, hk q (Nat.lt_of_lt_of_le h1 V.1) h2]; exact V.2.1 q h1 h2, fun q hq => by
      rcases List.mem_append.mp hq with h | h
      · exact V.2.2 q h
      · exact hL q h⟩ Y T' rfl X'
  exact ⟨t2, stp t2 a1, b1⟩
/-- the link of a call to the method me', whose class name and number of arguments fit -/
def jLk (own : String) (ix : Nat) (me' : jM) (na : Nat) : Prop := Cond.methodLink own ix me'.1 ∈ jW ∧ Cond.initialized me'.1.cls ∈ jW ∧ Cond.code me'.1 me'.2.1 me'.2.2.1 me'.2.2.2.1 ∈ jW ∧ (me'.1.cls ≠ "java/lang/invoke/MethodHandle" ∧ me'.1.cls ≠ "java/lang/invoke/VarHandle" ∧ (parseMethodDescriptor me'.1.desc).map (fun d => d.parameters.length) = some na)
def jFit (me me' : jM) : Bool := Nat.ble (me'.2.2.2.2.1 + 1) me.2.2.2.2.1 && Nat.ble (8 + (me'.2.2.1 + 11) + me'.2.2.2.2.2) me.2.2.2.2.2
theorem jFit_of {me me' : jM} (h : jFit me me' = true) : (jRoom me').frames + 1 ≤ (jRoom me).frames ∧ 8 + (me'.2.2.1 + 11) + (jRoom me').locals ≤ (jRoom me).locals := by
  unfold jFit at h
  rw [Bool.and_eq_true] at h
  exact ⟨Nat.le_of_ble_eq_true h.1, Nat.le_of_ble_eq_true h.2⟩
def jCat (st : List Value) : Bool := Nat.ble (st.map fun v => v.category).sum 8
theorem j_callS {me' : jM} {ix na : Nat} {vs st0 : List Value} {Q' : Option Value → jH → Prop} (hd : decode me.2.1 pc = .ok (.invokestatic ix, 3)) (hl : jLk me.1.cls ix me' na) (hs : Cond.static me'.1 ∈ jW) (hf : jFit me me' = true) (hc : jCat st = true) (hna : vs.length = na) (hst : st0 = vs.reverse ++ st) (hok : jOk E me' vs H Q') (k : ∀ r H', Q' r H' → jWP E me Q (pc + 3) lv (r.toList ++ st) H') : jWP E me Q pc lv st0 H := by
  intro p e s m args below meth c heap locs ls F S X V Y
  have cw : CallB (jRoom me) s args me.1.cls ix me'.1 me'.2.1 me'.2.2.1 me'.2.2.2.1 (jWd me') (jRoom me') 0 0 na := callB_of na F.2.2.2.2.1 (jGood hl.2.2.1) rfl rfl rfl (F.2.2.2.2.1 _ (List.mem_cons_of_mem _ hl.2.1)) (F.2.2.2.2.1 _ (List.mem_cons_of_mem _ hl.1)) hl.2.2.2 (jFit_of hf)
  refine jBack (Q' := Q') (av := vs.toArray) (va_runS (As := vs) (rest := st) ⟨F.1, F.2.1, F.2.2.1, F.2.2.2.1, F.2.2.2.2.1⟩ hok ⟨cw, F.2.2.2.2.1 _ (List.mem_cons_of_mem _ hs)⟩ ⟨jPc_blind E vs H, fun U hU hW => ⟨rfl, by rw [hU]; exact X, S.go (by rw [hU]; exact V) hW⟩⟩ rfl hna Y.1 hst (lv_room (Nat.le_of_ble_eq_true hc)) hd ⟨Nat.le_refl _, Nat.le_refl _⟩) k F S V Y
theorem j_callSN {me' : jM} {ix na : Nat} {host : String} {vs st0 : List Value} {Q' : Option Value → jH → Prop} (hd : decode me.2.1 pc = .ok (.invokestatic ix, 3)) (hl : (Cond.initialized me'.1.cls ∈ jW ∧ Cond.code me'.1 me'.2.1 me'.2.2.1 me'.2.2.2.1 ∈ jW ∧ (me'.1.cls ≠ "java/lang/invoke/MethodHandle" ∧ me'.1.cls ≠ "java/lang/invoke/VarHandle" ∧ (parseMethodDescriptor me'.1.desc).map (fun d => d.parameters.length) = some na))) (hN : ∀ s, jOld E s → va_Nw (.methodLinkNest me.1.cls ix me'.1 host) s) (hs : Cond.static me'.1 ∈ jW) (hf : jFit me me' = true) (hc : jCat st = true) (hna : vs.length = na) (hst : st0 = vs.reverse ++ st) (hok : jOk E me' vs H Q') (k : ∀ r H', Q' r H' → jWP E me Q (pc + 3) lv (r.toList ++ st) H') : jWP E me Q pc lv st0 H := by
  intro p e s m args below meth c heap locs ls F S X V Y
  have cw : va_CN (jRoom me) s args me.1.cls ix me'.1 host me'.2.1 me'.2.2.1 me'.2.2.2.1 (jWd me') (jRoom me') 0 0 na := va_cnB na F.2.2.2.2.1 (jGood hl.2.1) rfl rfl rfl (hN s S.2.2) (F.2.2.2.2.1 _ (List.mem_cons_of_mem _ hl.1)) hl.2.2 (jFit_of hf)
  refine jBack (Q' := Q') (av := vs.toArray) (va_runSN (As := vs) (rest := st) ⟨F.1, F.2.1, F.2.2.1, F.2.2.2.1, F.2.2.2.2.1⟩ hok ⟨cw, F.2.2.2.2.1 _ (List.mem_cons_of_mem _ hs), trivial⟩ ⟨jPc_blind E vs H, fun U hU hW => ⟨rfl, by rw [hU]; exact X, S.go (by rw [hU]; exact V) hW⟩⟩ rfl hna Y.1 hst (lv_room (Nat.le_of_ble_eq_true hc)) hd ⟨Nat.le_refl _, Nat.le_refl _⟩) k F S V Y
theorem j_callV {me' : jM} {ix na k0 ci : Nat} {As st0 : List Value} {Q' : Option Value → jH → Prop} (hd : decode me.2.1 pc = .ok (.invokevirtual ix, 3)) (hl : jLk me.1.cls ix me' na) (hs : Cond.instanceMethod me'.1 ∈ jW ∧ Cond.selects me'.1.cls me'.1 me'.1 ∈ jW) (hf : jFit me me' = true) (hc : jCat st = true) (hk : k0 < jK) (ho : j_shp k0 = .inr (.inr ci)) (hcl : (jCl[ci]?).map (fun q => q.1) = some me'.1.cls) (hna : As.length = na) (hst : st0 = As.reverse ++ jRF E k0 :: st) (hok : jOk E me' (jRF E k0 :: As) H Q') (k : ∀ r H', Q' r H' → jWP E me Q (pc + 3) lv (r.toList ++ st) H') : jWP E me Q pc lv st0 H := by
  intro p e s m args below meth c heap locs ls F S X V Y
  have cw : CallB (jRoom me) s args me.1.cls ix me'.1 me'.2.1 me'.2.2.1 me'.2.2.2.1 (jWd me') (jRoom me') 0 0 na := callB_of na F.2.2.2.2.1 (jGood hl.2.2.1) rfl rfl rfl (F.2.2.2.2.1 _ (List.mem_cons_of_mem _ hl.2.1)) (F.2.2.2.2.1 _ (List.mem_cons_of_mem _ hl.1)) hl.2.2.2 (jFit_of hf)
  obtain ⟨q, hq1, hq2⟩ := Option.map_eq_some_iff.mp hcl
  have he := jWs_get E H hk
  rw [jCell_o E H ho] at he
  have hrc := va_recv S.1 X.1 hq1 he
  rw [hq2] at hrc
  refine jBack (Q' := Q') (av := (jRF E k0 :: As).toArray) (va_runV (As := As) (rest := st) ⟨F.1, F.2.1, F.2.2.1, F.2.2.2.1, F.2.2.2.2.1⟩ hok ⟨cw, F.2.2.2.2.1 _ (List.mem_cons_of_mem _ hs.1), F.2.2.2.2.1 _ (List.mem_cons_of_mem _ hs.2)⟩ ⟨jPc_blind E _ H, hrc, fun U hU hW => ⟨rfl, by rw [hU]; exact X, S.go (by rw [hU]; exact V) hW⟩⟩ rfl hna Y.1 hst (lv_room (Nat.le_of_ble_eq_true hc)) hd ⟨Nat.le_refl _, Nat.le_refl _⟩) k F S V Y
end JHEAP
end
section
/-! ===== typed ends and calls, switches, copies ===== -/
def jQi (P : Int → jH → Prop) : Option Value → jH → Prop := fun r H' => ∃ x : Int, r = some (.int (jI x)) ∧ P x H'
def jQl (P : Int → jH → Prop) : Option Value → jH → Prop := fun r H' => ∃ x : Int, r = some (.long (jL x)) ∧ P x H'
def jQv (P : jH → Prop) : Option Value → jH → Prop := fun r H' => r = none ∧ P H'
theorem jOk.moni {E : jE} {me : jM} {vs : List Value} {H : jH} {P P' : Int → jH → Prop} (h : jOk E me vs H (jQi P)) (hq : ∀ x H', P x H' → P' x H') : jOk E me vs H (jQi P') := h.mono (fun r H' ⟨x, e, q⟩ => ⟨x, e, hq x H' q⟩)
theorem jOk.monl {E : jE} {me : jM} {vs : List Value} {H : jH} {P P' : Int → jH → Prop} (h : jOk E me vs H (jQl P)) (hq : ∀ x H', P x H' → P' x H') : jOk E me vs H (jQl P') := h.mono (fun r H' ⟨x, e, q⟩ => ⟨x, e, hq x H' q⟩)
theorem jOk.monv {E : jE} {me : jM} {vs : List Value} {H : jH} {P P' : jH → Prop} (h : jOk E me vs H (jQv P)) (hq : ∀ H', P H' → P' H') : jOk E me vs H (jQv P') := h.mono (fun r H' ⟨e, q⟩ => ⟨e, hq H' q⟩)
def jCmp (a b : Int) : Int := if b < a then 1 else if a = b then 0 else -1
theorem jCmp_lt (a b : Int) : jCmp a b < 0 ↔ a < b := by unfold jCmp; split <;> (try split) <;> omega
theorem jCmp_gt (a b : Int) : 0 < jCmp a b ↔ b < a := by unfold jCmp; split <;> (try split) <;> omega
theorem jCmp_eq (a b : Int) : jCmp a b = 0 ↔ a = b := by unfold jCmp; split <;> (try split) <;> omega
theorem jCmp_r (a b : Int) : -1 ≤ jCmp a b ∧ jCmp a b ≤ 1 := by unfold jCmp; split <;> (try split) <;> omega
/-- the link of a static call, of a call of a method of an object -/
def jLs (own : String) (ix : Nat) (me' : jM) (na : Nat) : Prop := jLk own ix me' na ∧ Cond.static me'.1 ∈ jW
def jLv (own : String) (ix : Nat) (me' : jM) (na : Nat) : Prop := jLk own ix me' na ∧ Cond.instanceMethod me'.1 ∈ jW ∧ Cond.selects me'.1.cls me'.1 me'.1 ∈ jW
section JTYP
variable {E : jE} {me : jM} {Q : Option Value → jH → Prop} {pc : Nat} {lv : List (Option Value)} {st : List Value} {H : jH} {P : Int → jH → Prop} {Pv : jH → Prop}
theorem j_ireti {x : Int} (hd : decode me.2.1 pc = .ok (.ireturn, 1)) (hr : me.2.2.2.1 = some .int) (hq : P x H) : jWP E me (jQi P) pc lv [.int (jI x)] H := j_iret hd hr ⟨x, rfl, hq⟩
theorem j_zreti {x : Int} (hd : decode me.2.1 pc = .ok (.ireturn, 1)) (hr : me.2.2.2.1 = some .boolean) (hx : x = 0 ∨ x = 1) (hq : P x H) : jWP E me (jQi P) pc lv [.int (jI x)] H := j_zret hd hr hx ⟨x, rfl, hq⟩
theorem j_lretl {x : Int} (hd : decode me.2.1 pc = .ok (.lreturn, 1)) (hr : me.2.2.2.1 = some .long) (hq : P x H) : jWP E me (jQl P) pc lv [.long (jL x)] H := j_lret hd hr ⟨x, rfl, hq⟩
theorem j_vretv (hd : decode me.2.1 pc = .ok (.return_, 1)) (hr : me.2.2.2.1 = none) (hq : Pv H) : jWP E me (jQv Pv) pc lv [] H := j_vret hd hr ⟨rfl, hq⟩
theorem j_lcmp (n : Nat) (hn : pc + 1 = n) {a b : Int} (hd : decode me.2.1 pc = .ok (.lcmp, 1)) (ha : jR H → -9223372036854775808 ≤ a ∧ a ≤ 9223372036854775807) (hb : jR H → -9223372036854775808 ≤ b ∧ b ≤ 9223372036854775807) (k : jWP E me Q n lv (.int (jI (jCmp a b)) :: st) H) : jWP E me Q pc lv (.long (jL b) :: .long (jL a) :: st) H := by
  subst hn
  intro p e s m args below meth c heap locs ls F S X V Y
  refine W.lcmp F.1 F.2.1 hd ?_
  have e1 : lg_cmp (jL a) (jL b) = jI (jCmp a b) := by
    unfold lg_cmp jCmp
    simp only [gt_iff_lt, jL_lt (hb X.2) (ha X.2), jL_eq (ha X.2) (hb X.2)]
    split
    · rfl
    · split <;> rfl
  rw [e1]
  exact k p e s m args below meth c heap locs ls F S X V Y
theorem j_tabIn (t : Nat) {dflt lo hi : Int} {offs : Array Int} {len : Nat} {a off : Int} (hd : decode me.2.1 pc = .ok (.tableswitch dflt lo hi offs, len)) (hr : -2147483648 ≤ a ∧ a ≤ 2147483647) (h1 : lo ≤ a ∧ a ≤ hi) (ho : offs[(a - lo).toNat]? = some off) (ht : (pc : Int) + off = (t : Int)) (k : jWP E me Q t lv st H) : jWP E me Q pc lv (.int (jI a) :: st) H := by
  intro p e s m args below meth c heap locs ls F S X V Y
  exact lv_tableIn F.1 F.2.1 hd (by rw [jI_toInt hr]; omega) (by rw [jI_toInt hr]; omega) (by rw [jI_toInt hr]; exact ho) ht (k p e s m args below meth c heap locs ls F S X V Y)
theorem j_tabOut (t : Nat) {dflt lo hi : Int} {offs : Array Int} {len : Nat} {a : Int} (hd : decode me.2.1 pc = .ok (.tableswitch dflt lo hi offs, len)) (hr : jR H → -2147483648 ≤ a ∧ a ≤ 2147483647) (h1 : a < lo ∨ hi < a) (ht : (pc : Int) + dflt = (t : Int)) (k : jWP E me Q t lv st H) : jWP E me Q pc lv (.int (jI a) :: st) H := by
  intro p e s m args below meth c heap locs ls F S X V Y
  exact lv_tableOut F.1 F.2.1 hd (by rw [jI_toInt (hr X.2)]; omega) ht (k p e s m args below meth c heap locs ls F S X V Y)
theorem j_look (t : Nat) {dflt : Int} {ps : Array (Int × Int)} {len : Nat} {a off : Int} (hd : decode me.2.1 pc = .ok (.lookupswitch dflt ps, len)) (hp : (ps.toList.zip (ps.toList.drop 1)).all (fun (a, next) => a.1 < next.1) = true) (hr : jR H → -2147483648 ≤ a ∧ a ≤ 2147483647) (ho : Op.lookupswitch.offset ps.toList dflt a = off) (ht : (pc : Int) + off = (t : Int)) (k : jWP E me Q t lv st H) : jWP E me Q pc lv (.int (jI a) :: st) H := by
  intro p e s m args below meth c heap locs ls F S X V Y
  exact lv_lookup F.1 F.2.1 hd hp (by rw [jI_toInt (hr X.2)]; exact ho) ht (k p e s m args below meth c heap locs ls F S X V Y)
/-- n items of the row a, from sp on, into the row b, from dp on -/
def jCpy (H : jH) (a b : Nat) (sp dp n : Int) : jH := fun q i => if q = b ∧ dp ≤ i ∧ i < dp + n then H a (sp + (i - dp)) else H q i
theorem jR_cpy {H : jH} (h : jR H) (a b : Nat) (sp dp n : Int) : jR (jCpy H a b sp dp n) := by
  intro k i
  unfold jCpy
  split
  · exact h _ _
  · exact h _ _
theorem j_copy (n : Nat) (hn : pc + 3 = n) {ix a b Na Nb : Nat} {sp dp q : Int} (hl : Cond.methodLink me.1.cls ix arraycopyName ∈ jW ∧ Cond.native arraycopyName ∈ jW ∧ Cond.static arraycopyName ∈ jW ∧ Cond.initialized "java/lang/System" ∈ jW) (hd : decode me.2.1 pc = .ok (.invokestatic ix, 3)) (ha : a < jK) (hb : b < jK) (oa : j_shp a = .inl Na) (ob : j_shp b = .inl Nb) (ta : j_ty a = .int) (tb : j_ty b = .int) (hNa : Na < 2 ^ 31) (hNb : Nb < 2 ^ 31) (h1 : 0 ≤ sp ∧ sp + q ≤ Na) (h2 : 0 ≤ dp ∧ dp + q ≤ Nb) (h3 : 0 ≤ q) (hf : 1 ≤ me.2.2.2.2.1) (hlo : (st.map fun v => v.category).sum + 18 ≤ me.2.2.2.2.2) (k : jWP E me Q n lv st (jCpy H a b sp dp q)) : jWP E me Q pc lv (.int (jI q) :: .int (jI dp) :: jRF E b :: .int (jI sp) :: jRF E a :: st) H := by
  subst hn
  intro p e s m args below meth c heap locs ls F S X V Y
  have ea := jWs_get E H ha
  rw [jCell_a E H oa] at ea
  have eb := jWs_get E H hb
  rw [jCell_a E H ob] at eb
  have wa := jTys_get E ha
  rw [ta] at wa
  have wb := jTys_get E hb
  rw [tb] at wb
  have rn : ∀ z : Int, 0 ≤ z → z < 2 ^ 31 → ¬ jI z < 0 := fun z z0 z1 => by rw [← jI_0, jI_lt (by omega) (by omega)]; omega
  have cs : (jI sp).toNatClampNeg = sp.toNat := jI_cl h1.1 (by omega)
  have cd : (jI dp).toNatClampNeg = dp.toNat := jI_cl h2.1 (by omega)
  have cq : (jI q).toNatClampNeg = q.toNat := jI_cl h3 (by omega)
  refine va_copyi (ty := .int) F.1 F.2.1 (F.2.2.1.trans Y.1.symm) F.2.2.2.1 (F.2.2.2.2.1 _ (List.mem_cons_of_mem _ hl.1)) (F.2.2.2.2.1 _ (List.mem_cons_of_mem _ hl.2.1)) (F.2.2.2.2.1 _ (List.mem_cons_of_mem _ hl.2.2.1)) (F.2.2.2.2.1 _ (List.mem_cons_of_mem _ hl.2.2.2)) S.1 X.1 (jD S.2.1 H) V a b a b ea eb wa wb rfl (rn sp h1.1 (by omega)) (rn dp h2.1 (by omega)) (rn q h3 (by omega)) (by rw [cs, cq]; omega) (by rw [cd, cq]; omega) (fun _ _ => rfl) hf (by show _ + (5 + 2 + 11) ≤ _; exact hlo) hd ?_
  intro H1 locs1 hP hD hS
  rw [cs, cd, cq] at hP
  have hfn : (fun j : Nat => jI (jCpy H a b sp dp q b j)) = va_cpy (fun j : Nat => jI (H a j)) (fun j : Nat => jI (H b j)) sp.toNat dp.toNat q.toNat := by
    funext z
    unfold va_cpy jCpy
    by_cases hz : dp.toNat ≤ z ∧ z < dp.toNat + q.toNat
    · rw [if_pos hz, if_pos ⟨rfl, by omega, by omega⟩]
      have : sp + ((z : Int) - dp) = ((sp.toNat + (z - dp.toNat) : Nat) : Int) := by omega
      rw [this]
    · rw [if_neg hz, if_neg (fun w => hz ⟨by omega, by omega⟩)]
  rw [jWs_set E H (jCpy H a b sp dp q) hb (by rw [jCell_a E _ ob, hfn]) (fun w hw => by funext i; unfold jCpy; rw [if_neg (fun z => hw z.1)])] at hP
  exact k p e s m args below meth c H1 locs1 ls F S ⟨hP, jR_cpy X.2 a b sp dp q⟩ hS Y

theorem jS1i (n : Nat) (hn : pc + 3 = n) {me' : jM} {ix : Nat} {v0 : Value} (hd : decode me.2.1 pc = .ok (.invokestatic ix, 3)) (hl : jLs me.1.cls ix me' 1) (hf : jFit me me' = true) (hc : jCat st = true) (hok : jOk E me' [v0] H (jQi P)) (k : ∀ x H', P x H' → jWP E me Q n lv (.int (jI x) :: st) H') : jWP E me Q pc lv (v0 :: st) H := by
  subst hn
  exact j_callS (vs := [v0]) (st := st) hd hl.1 hl.2 hf hc rfl rfl hok (fun r H' ⟨x, e, q⟩ => by subst e; exact k x H' q)
theorem jS2i (n : Nat) (hn : pc + 3 = n) {me' : jM} {ix : Nat} {v0 v1 : Value} (hd : decode me.2.1 pc = .ok (.invokestatic ix, 3)) (hl : jLs me.1.cls ix me' 2) (hf : jFit me me' = true) (hc : jCat st = true) (hok : jOk E me' [v0, v1] H (jQi P)) (k : ∀ x H', P x H' → jWP E me Q n lv (.int (jI x) :: st) H') : jWP E me Q pc lv (v1 :: v0 :: st) H := by
  subst hn
  exact j_callS (vs := [v0, v1]) (st := st) hd hl.1 hl.2 hf hc rfl rfl hok (fun r H' ⟨x, e, q⟩ => by subst e; exact k x H' q)
theorem jS3i (n : Nat) (hn : pc + 3 = n) {me' : jM} {ix : Nat} {v0 v1 v2 : Value} (hd : decode me.2.1 pc = .ok (.invokestatic ix, 3)) (hl : jLs me.1.cls ix me' 3) (hf : jFit me me' = true) (hc : jCat st = true) (hok : jOk E me' [v0, v1, v2] H (jQi P)) (k : ∀ x H', P x H' → jWP E me Q n lv (.int (jI x) :: st) H') : jWP E me Q pc lv (v2 :: v1 :: v0 :: st) H := by
  subst hn
  exact j_callS (vs := [v0, v1, v2]) (st := st) hd hl.1 hl.2 hf hc rfl rfl hok (fun r H' ⟨x, e, q⟩ => by subst e; exact k x H' q)
theorem jS4i (n : Nat) (hn : pc + 3 = n) {me' : jM} {ix : Nat} {v0 v1 v2 v3 : Value} (hd : decode me.2.1 pc = .ok (.invokestatic ix, 3)) (hl : jLs me.1.cls ix me' 4) (hf : jFit me me' = true) (hc : jCat st = true) (hok : jOk E me' [v0, v1, v2, v3] H (jQi P)) (k : ∀ x H', P x H' → jWP E me Q n lv (.int (jI x) :: st) H') : jWP E me Q pc lv (v3 :: v2 :: v1 :: v0 :: st) H := by
  subst hn
  exact j_callS (vs := [v0, v1, v2, v3]) (st := st) hd hl.1 hl.2 hf hc rfl rfl hok (fun r H' ⟨x, e, q⟩ => by subst e; exact k x H' q)
theorem jS5i (n : Nat) (hn : pc + 3 = n) {me' : jM} {ix : Nat} {v0 v1 v2 v3 v4 : Value} (hd : decode me.2.1 pc = .ok (.invokestatic ix, 3)) (hl : jLs me.1.cls ix me' 5) (hf : jFit me me' = true) (hc : jCat st = true) (hok : jOk E me' [v0, v1, v2, v3, v4] H (jQi P)) (k : ∀ x H', P x H' → jWP E me Q n lv (.int (jI x) :: st) H') : jWP E me Q pc lv (v4 :: v3 :: v2 :: v1 :: v0 :: st) H := by
  subst hn
  exact j_callS (vs := [v0, v1, v2, v3, v4]) (st := st) hd hl.1 hl.2 hf hc rfl rfl hok (fun r H' ⟨x, e, q⟩ => by subst e; exact k x H' q)
theorem jV0i (n : Nat) (hn : pc + 3 = n) {me' : jM} {ix k0 ci : Nat} (hd : decode me.2.1 pc = .ok (.invokevirtual ix, 3)) (hl : jLv me.1.cls ix me' 0) (hf : jFit me me' = true) (hc : jCat st = true) (hk : k0 < jK) (ho : j_shp k0 = .inr (.inr ci)) (hcl : (jCl[ci]?).map (fun q => q.1) = some me'.1.cls) (hok : jOk E me' [jRF E k0] H (jQi P)) (k : ∀ x H', P x H' → jWP E me Q n lv (.int (jI x) :: st) H') : jWP E me Q pc lv (jRF E k0 :: st) H := by
  subst hn
  exact j_callV (As := []) (st := st) hd hl.1 hl.2 hf hc hk ho hcl rfl rfl hok (fun r H' ⟨x, e, q⟩ => by subst e; exact k x H' q)
theorem jV1i (n : Nat) (hn : pc + 3 = n) {me' : jM} {ix k0 ci : Nat} {v0 : Value} (hd : decode me.2.1 pc = .ok (.invokevirtual ix, 3)) (hl : jLv me.1.cls ix me' 1) (hf : jFit me me' = true) (hc : jCat st = true) (hk : k0 < jK) (ho : j_shp k0 = .inr (.inr ci)) (hcl : (jCl[ci]?).map (fun q => q.1) = some me'.1.cls) (hok : jOk E me' [jRF E k0, v0] H (jQi P)) (k : ∀ x H', P x H' → jWP E me Q n lv (.int (jI x) :: st) H') : jWP E me Q pc lv (v0 :: jRF E k0 :: st) H := by
  subst hn
  exact j_callV (As := [v0]) (st := st) hd hl.1 hl.2 hf hc hk ho hcl rfl rfl hok (fun r H' ⟨x, e, q⟩ => by subst e; exact k x H' q)
theorem jV2i (n : Nat) (hn : pc + 3 = n) {me' : jM} {ix k0 ci : Nat} {v0 v1 : Value} (hd : decode me.2.1 pc = .ok (.invokevirtual ix, 3)) (hl : jLv me.1.cls ix me' 2) (hf : jFit me me' = true) (hc : jCat st = true) (hk : k0 < jK) (ho : j_shp k0 = .inr (.inr ci)) (hcl : (jCl[ci]?).map (fun q => q.1) = some me'.1.cls) (hok : jOk E me' [jRF E k0, v0, v1] H (jQi P)) (k : ∀ x H', P x H' → jWP E me Q n lv (.int (jI x) :: st) H') : jWP E me Q pc lv (v1 :: v0 :: jRF E k0 :: st) H := by
  subst hn
  exact j_callV (As := [v0, v1]) (st := st) hd hl.1 hl.2 hf hc hk ho hcl rfl rfl hok (fun r H' ⟨x, e, q⟩ => by subst e; exact k x H' q)
theorem jV3i (n : Nat) (hn : pc + 3 = n) {me' : jM} {ix k0 ci : Nat} {v0 v1 v2 : Value} (hd : decode me.2.1 pc = .ok (.invokevirtual ix, 3)) (hl : jLv me.1.cls ix me' 3) (hf : jFit me me' = true) (hc : jCat st = true) (hk : k0 < jK) (ho : j_shp k0 = .inr (.inr ci)) (hcl : (jCl[ci]?).map (fun q => q.1) = some me'.1.cls) (hok : jOk E me' [jRF E k0, v0, v1, v2] H (jQi P)) (k : ∀ x H', P x H' → jWP E me Q n lv (.int (jI x) :: st) H') : jWP E me Q pc lv (v2 :: v1 :: v0 :: jRF E k0 :: st) H := by
  subst hn
  exact j_callV (As := [v0, v1, v2]) (st := st) hd hl.1 hl.2 hf hc hk ho hcl rfl rfl hok (fun r H' ⟨x, e, q⟩ => by subst e; exact k x H' q)
theorem jV4i (n : Nat) (hn : pc + 3 = n) {me' : jM} {ix k0 ci : Nat} {v0 v1 v2 v3 : Value} (hd : decode me.2.1 pc = .ok (.invokevirtual ix, 3)) (hl : jLv me.1.cls ix me' 4) (hf : jFit me me' = true) (hc : jCat st = true) (hk : k0 < jK) (ho : j_shp k0 = .inr (.inr ci)) (hcl : (jCl[ci]?).map (fun q => q.1) = some me'.1.cls) (hok : jOk E me' [jRF E k0, v0, v1, v2, v3] H (jQi P)) (k : ∀ x H', P x H' → jWP E me Q n lv (.int (jI x) :: st) H') : jWP E me Q pc lv (v3 :: v2 :: v1 :: v0 :: jRF E k0 :: st) H := by
  subst hn
  exact j_callV (As := [v0, v1, v2, v3]) (st := st) hd hl.1 hl.2 hf hc hk ho hcl rfl rfl hok (fun r H' ⟨x, e, q⟩ => by subst e; exact k x H' q)
theorem jV5i (n : Nat) (hn : pc + 3 = n) {me' : jM} {ix k0 ci : Nat} {v0 v1 v2 v3 v4 : Value} (hd : decode me.2.1 pc = .ok (.invokevirtual ix, 3)) (hl : jLv me.1.cls ix me' 5) (hf : jFit me me' = true) (hc : jCat st = true) (hk : k0 < jK) (ho : j_shp k0 = .inr (.inr ci)) (hcl : (jCl[ci]?).map (fun q => q.1) = some me'.1.cls) (hok : jOk E me' [jRF E k0, v0, v1, v2, v3, v4] H (jQi P)) (k : ∀ x H', P x H' → jWP E me Q n lv (.int (jI x) :: st) H') : jWP E me Q pc lv (v4 :: v3 :: v2 :: v1 :: v0 :: jRF E k0 :: st) H := by
  subst hn
  exact j_callV (As := [v0, v1, v2, v3, v4]) (st := st) hd hl.1 hl.2 hf hc hk ho hcl rfl rfl hok (fun r H' ⟨x, e, q⟩ => by subst e; exact k x H' q)
theorem jS1l (n : Nat) (hn : pc + 3 = n) {me' : jM} {ix : Nat} {v0 : Value} (hd : decode me.2.1 pc = .ok (.invokestatic ix, 3)) (hl : jLs me.1.cls ix me' 1) (hf : jFit me me' = true) (hc : jCat st = true) (hok : jOk E me' [v0] H (jQl P)) (k : ∀ x H', P x H' → jWP E me Q n lv (.long (jL x) :: st) H') : jWP E me Q pc lv (v0 :: st) H := by
  subst hn
  exact j_callS (vs := [v0]) (st := st) hd hl.1 hl.2 hf hc rfl rfl hok (fun r H' ⟨x, e, q⟩ => by subst e; exact k x H' q)
theorem jS2l (n : Nat) (hn : pc + 3 = n) {me' : jM} {ix : Nat} {v0 v1 : Value} (hd : decode me.2.1 pc = .ok (.invokestatic ix, 3)) (hl : jLs me.1.cls ix me' 2) (hf : jFit me me' = true) (hc : jCat st = true) (hok : jOk E me' [v0, v1] H (jQl P)) (k : ∀ x H', P x H' → jWP E me Q n lv (.long (jL x) :: st) H') : jWP E me Q pc lv (v1 :: v0 :: st) H := by
  subst hn
  exact j_callS (vs := [v0, v1]) (st := st) hd hl.1 hl.2 hf hc rfl rfl hok (fun r H' ⟨x, e, q⟩ => by subst e; exact k x H' q)
theorem jS3l (n : Nat) (hn : pc + 3 = n) {me' : jM} {ix : Nat} {v0 v1 v2 : Value} (hd : decode me.2.1 pc = .ok (.invokestatic ix, 3)) (hl : jLs me.1.cls ix me' 3) (hf : jFit me me' = true) (hc : jCat st = true) (hok : jOk E me' [v0, v1, v2] H (jQl P)) (k : ∀ x H', P x H' → jWP E me Q n lv (.long (jL x) :: st) H') : jWP E me Q pc lv (v2 :: v1 :: v0 :: st) H := by
  subst hn
  exact j_callS (vs := [v0, v1, v2]) (st := st) hd hl.1 hl.2 hf hc rfl rfl hok (fun r H' ⟨x, e, q⟩ => by subst e; exact k x H' q)
theorem jS4l (n : Nat) (hn : pc + 3 = n) {me' : jM} {ix : Nat} {v0 v1 v2 v3 : Value} (hd : decode me.2.1 pc = .ok (.invokestatic ix, 3)) (hl : jLs me.1.cls ix me' 4) (hf : jFit me me' = true) (hc : jCat st = true) (hok : jOk E me' [v0, v1, v2, v3] H (jQl P)) (k : ∀ x H', P x H' → jWP E me Q n lv (.long (jL x) :: st) H') : jWP E me Q pc lv (v3 :: v2 :: v1 :: v0 :: st) H := by
  subst hn
  exact j_callS (vs := [v0, v1, v2, v3]) (st := st) hd hl.1 hl.2 hf hc rfl rfl hok (fun r H' ⟨x, e, q⟩ => by subst e; exact k x H' q)
theorem jS5l (n : Nat) (hn : pc + 3 = n) {me' : jM} {ix : Nat} {v0 v1 v2 v3 v4 : Value} (hd : decode me.2.1 pc = .ok (.invokestatic ix, 3)) (hl : jLs me.1.cls ix me' 5) (hf : jFit me me' = true) (hc : jCat st = true) (hok : jOk E me' [v0, v1, v2, v3, v4] H (jQl P)) (k : ∀ x H', P x H' → jWP E me Q n lv (.long (jL x) :: st) H') : jWP E me Q pc lv (v4 :: v3 :: v2 :: v1 :: v0 :: st) H := by
  subst hn
  exact j_callS (vs := [v0, v1, v2, v3, v4]) (st := st) hd hl.1 hl.2 hf hc rfl rfl hok (fun r H' ⟨x, e, q⟩ => by subst e; exact k x H' q)
theorem jV0l (n : Nat) (hn : pc + 3 = n) {me' : jM} {ix k0 ci : Nat} (hd : decode me.2.1 pc = .ok (.invokevirtual ix, 3)) (hl : jLv me.1.cls ix me' 0) (hf : jFit me me' = true) (hc : jCat st = true) (hk : k0 < jK) (ho : j_shp k0 = .inr (.inr ci)) (hcl : (jCl[ci]?).map (fun q => q.1) = some me'.1.cls) (hok : jOk E me' [jRF E k0] H (jQl P)) (k : ∀ x H', P x H' → jWP E me Q n lv (.long (jL x) :: st) H') : jWP E me Q pc lv (jRF E k0 :: st) H := by
  subst hn
  exact j_callV (As := []) (st := st) hd hl.1 hl.2 hf hc hk ho hcl rfl rfl hok (fun r H' ⟨x, e, q⟩ => by subst e; exact k x H' q)
theorem jV1l (n : Nat) (hn : pc + 3 = n) {me' : jM} {ix k0 ci : Nat} {v0 : Value} (hd : decode me.2.1 pc = .ok (.invokevirtual ix, 3)) (hl : jLv me.1.cls ix me' 1) (hf : jFit me me' = true) (hc : jCat st = true) (hk : k0 < jK) (ho : j_shp k0 = .inr (.inr ci)) (hcl : (jCl[ci]?).map (fun q => q.1) = some me'.1.cls) (hok : jOk E me' [jRF E k0, v0] H (jQl P)) (k : ∀ x H', P x H' → jWP E me Q n lv (.long (jL x) :: st) H') : jWP E me Q pc lv (v0 :: jRF E k0 :: st) H := by
  subst hn
  exact j_callV (As := [v0]) (st := st) hd hl.1 hl.2 hf hc hk ho hcl rfl rfl hok (fun r H' ⟨x, e, q⟩ => by subst e; exact k x H' q)
theorem jV2l (n : Nat) (hn : pc + 3 = n) {me' : jM} {ix k0 ci : Nat} {v0 v1 : Value} (hd : decode me.2.1 pc = .ok (.invokevirtual ix, 3)) (hl : jLv me.1.cls ix me' 2) (hf : jFit me me' = true) (hc : jCat st = true) (hk : k0 < jK) (ho : j_shp k0 = .inr (.inr ci)) (hcl : (jCl[ci]?).map (fun q => q.1) = some me'.1.cls) (hok : jOk E me' [jRF E k0, v0, v1] H (jQl P)) (k : ∀ x H', P x H' → jWP E me Q n lv (.long (jL x) :: st) H') : jWP E me Q pc lv (v1 :: v0 :: jRF E k0 :: st) H := by
  subst hn
  exact j_callV (As := [v0, v1]) (st := st) hd hl.1 hl.2 hf hc hk ho hcl rfl rfl hok (fun r H' ⟨x, e, q⟩ => by subst e; exact k x H' q)
theorem jV3l (n : Nat) (hn : pc + 3 = n) {me' : jM} {ix k0 ci : Nat} {v0 v1 v2 : Value} (hd : decode me.2.1 pc = .ok (.invokevirtual ix, 3)) (hl : jLv me.1.cls ix me' 3) (hf : jFit me me' = true) (hc : jCat st = true) (hk : k0 < jK) (ho : j_shp k0 = .inr (.inr ci)) (hcl : (jCl[ci]?).map (fun q => q.1) = some me'.1.cls) (hok : jOk E me' [jRF E k0, v0, v1, v2] H (jQl P)) (k : ∀ x H', P x H' → jWP E me Q n lv (.long (jL x) :: st) H') : jWP E me Q pc lv (v2 :: v1 :: v0 :: jRF E k0 :: st) H := by
  subst hn
  exact j_callV (As := [v0, v1, v2]) (st := st) hd hl.1 hl.2 hf hc hk ho hcl rfl rfl hok (fun r H' ⟨x, e, q⟩ => by subst e; exact k x H' q)
theorem jV4l (n : Nat) (hn : pc + 3 = n) {me' : jM} {ix k0 ci : Nat} {v0 v1 v2 v3 : Value} (hd : decode me.2.1 pc = .ok (.invokevirtual ix, 3)) (hl : jLv me.1.cls ix me' 4) (hf : jFit me me' = true) (hc : jCat st = true) (hk : k0 < jK) (ho : j_shp k0 = .inr (.inr ci)) (hcl : (jCl[ci]?).map (fun q => q.1) = some me'.1.cls) (hok : jOk E me' [jRF E k0, v0, v1, v2, v3] H (jQl P)) (k : ∀ x H', P x H' → jWP E me Q n lv (.long (jL x) :: st) H') : jWP E me Q pc lv (v3 :: v2 :: v1 :: v0 :: jRF E k0 :: st) H := by
  subst hn
  exact j_callV (As := [v0, v1, v2, v3]) (st := st) hd hl.1 hl.2 hf hc hk ho hcl rfl rfl hok (fun r H' ⟨x, e, q⟩ => by subst e; exact k x H' q)
theorem jV5l (n : Nat) (hn : pc + 3 = n) {me' : jM} {ix k0 ci : Nat} {v0 v1 v2 v3 v4 : Value} (hd : decode me.2.1 pc = .ok (.invokevirtual ix, 3)) (hl : jLv me.1.cls ix me' 5) (hf : jFit me me' = true) (hc : jCat st = true) (hk : k0 < jK) (ho : j_shp k0 = .inr (.inr ci)) (hcl : (jCl[ci]?).map (fun q => q.1) = some me'.1.cls) (hok : jOk E me' [jRF E k0, v0, v1, v2, v3, v4] H (jQl P)) (k : ∀ x H', P x H' → jWP E me Q n lv (.long (jL x) :: st) H') : jWP E me Q pc lv (v4 :: v3 :: v2 :: v1 :: v0 :: jRF E k0 :: st) H := by
  subst hn
  exact j_callV (As := [v0, v1, v2, v3, v4]) (st := st) hd hl.1 hl.2 hf hc hk ho hcl rfl rfl hok (fun r H' ⟨x, e, q⟩ => by subst e; exact k x H' q)
theorem jS1v (n : Nat) (hn : pc + 3 = n) {me' : jM} {ix : Nat} {v0 : Value} (hd : decode me.2.1 pc = .ok (.invokestatic ix, 3)) (hl : jLs me.1.cls ix me' 1) (hf : jFit me me' = true) (hc : jCat st = true) (hok : jOk E me' [v0] H (jQv Pv)) (k : ∀ H', Pv H' → jWP E me Q n lv st H') : jWP E me Q pc lv (v0 :: st) H := by
  subst hn
  exact j_callS (vs := [v0]) (st := st) hd hl.1 hl.2 hf hc rfl rfl hok (fun r H' ⟨e, q⟩ => by subst e; exact k H' q)
theorem jS2v (n : Nat) (hn : pc + 3 = n) {me' : jM} {ix : Nat} {v0 v1 : Value} (hd : decode me.2.1 pc = .ok (.invokestatic ix, 3)) (hl : jLs me.1.cls ix me' 2) (hf : jFit me me' = true) (hc : jCat st = true) (hok : jOk E me' [v0, v1] H (jQv Pv)) (k : ∀ H', Pv H' → jWP E me Q n lv st H') : jWP E me Q pc lv (v1 :: v0 :: st) H := by
  subst hn
  exact j_callS (vs := [v0, v1]) (st := st) hd hl.1 hl.2 hf hc rfl rfl hok (fun r H' ⟨e, q⟩ => by subst e; exact k H' q)
theorem jS3v (n : Nat) (hn : pc + 3 = n) {me' : jM} {ix : Nat} {v0 v1 v2 : Value} (hd : decode me.2.1 pc = .ok (.invokestatic ix, 3)) (hl : jLs me.1.cls ix me' 3) (hf : jFit me me' = true) (hc : jCat st = true) (hok : jOk E me' [v0, v1, v2] H (jQv Pv)) (k : ∀ H', Pv H' → jWP E me Q n lv st H') : jWP E me Q pc lv (v2 :: v1 :: v0 :: st) H := by
  subst hn
  exact j_callS (vs := [v0, v1, v2]) (st := st) hd hl.1 hl.2 hf hc rfl rfl hok (fun r H' ⟨e, q⟩ => by subst e; exact k H' q)
theorem jS4v (n : Nat) (hn : pc + 3 = n) {me' : jM} {ix : Nat} {v0 v1 v2 v3 : Value} (hd : decode me.2.1 pc = .ok (.invokestatic ix, 3)) (hl : jLs me.1.cls ix me' 4) (hf : jFit me me' = true) (hc : jCat st = true) (hok : jOk E me' [v0, v1, v2, v3] H (jQv Pv)) (k : ∀ H', Pv H' → jWP E me Q n lv st H') : jWP E me Q pc lv (v3 :: v2 :: v1 :: v0 :: st) H := by
  subst hn
  exact j_callS (vs := [v0, v1, v2, v3]) (st := st) hd hl.1 hl.2 hf hc rfl rfl hok (fun r H' ⟨e, q⟩ => by subst e; exact k H' q)
theorem jS5v (n : Nat) (hn : pc + 3 = n) {me' : jM} {ix : Nat} {v0 v1 v2 v3 v4 : Value} (hd : decode me.2.1 pc = .ok (.invokestatic ix, 3)) (hl : jLs me.1.cls ix me' 5) (hf : jFit me me' = true) (hc : jCat st = true) (hok : jOk E me' [v0, v1, v2, v3, v4] H (jQv Pv)) (k : ∀ H', Pv H' → jWP E me Q n lv st H') : jWP E me Q pc lv (v4 :: v3 :: v2 :: v1 :: v0 :: st) H := by
  subst hn
  exact j_callS (vs := [v0, v1, v2, v3, v4]) (st := st) hd hl.1 hl.2 hf hc rfl rfl hok (fun r H' ⟨e, q⟩ => by subst e; exact k H' q)
theorem jV0v (n : Nat) (hn : pc + 3 = n) {me' : jM} {ix k0 ci : Nat} (hd : decode me.2.1 pc = .ok (.invokevirtual ix, 3)) (hl : jLv me.1.cls ix me' 0) (hf : jFit me me' = true) (hc : jCat st = true) (hk : k0 < jK) (ho : j_shp k0 = .inr (.inr ci)) (hcl : (jCl[ci]?).map (fun q => q.1) = some me'.1.cls) (hok : jOk E me' [jRF E k0] H (jQv Pv)) (k : ∀ H', Pv H' → jWP E me Q n lv st H') : jWP E me Q pc lv (jRF E k0 :: st) H := by
  subst hn
  exact j_callV (As := []) (st := st) hd hl.1 hl.2 hf hc hk ho hcl rfl rfl hok (fun r H' ⟨e, q⟩ => by subst e; exact k H' q)
theorem jV1v (n : Nat) (hn : pc + 3 = n) {me' : jM} {ix k0 ci : Nat} {v0 : Value} (hd : decode me.2.1 pc = .ok (.invokevirtual ix, 3)) (hl : jLv me.1.cls ix me' 1) (hf : jFit me me' = true) (hc : jCat st = true) (hk : k0 < jK) (ho : j_shp k0 = .inr (.inr ci)) (hcl : (jCl[ci]?).map (fun q => q.1) = some me'.1.cls) (hok : jOk E me' [jRF E k0, v0] H (jQv Pv)) (k : ∀ H', Pv H' → jWP E me Q n lv st H') : jWP E me Q pc lv (v0 :: jRF E k0 :: st) H := by
  subst hn
  exact j_callV (As := [v0]) (st := st) hd hl.1 hl.2 hf hc hk ho hcl rfl rfl hok (fun r H' ⟨e, q⟩ => by subst e; exact k H' q)
theorem jV2v (n : Nat) (hn : pc + 3 = n) {me' : jM} {ix k0 ci : Nat} {v0 v1 : Value} (hd : decode me.2.1 pc = .ok (.invokevirtual ix, 3)) (hl : jLv me.1.cls ix me' 2) (hf : jFit me me' = true) (hc : jCat st = true) (hk : k0 < jK) (ho : j_shp k0 = .inr (.inr ci)) (hcl : (jCl[ci]?).map (fun q => q.1) = some me'.1.cls) (hok : jOk E me' [jRF E k0, v0, v1] H (jQv Pv)) (k : ∀ H', Pv H' → jWP E me Q n lv st H') : jWP E me Q pc lv (v1 :: v0 :: jRF E k0 :: st) H := by
  subst hn
  exact j_callV (As := [v0, v1]) (st := st) hd hl.1 hl.2 hf hc hk ho hcl rfl rfl hok (fun r H' ⟨e, q⟩ => by subst e; exact k H' q)
theorem jV3v (n : Nat) (hn : pc + 3 = n) {me' : jM} {ix k0 ci : Nat} {v0 v1 v2 : Value} (hd : decode me.2.1 pc = .ok (.invokevirtual ix, 3)) (hl : jLv me.1.cls ix me' 3) (hf : jFit me me' = true) (hc : jCat st = true) (hk : k0 < jK) (ho : j_shp k0 = .inr (.inr ci)) (hcl : (jCl[ci]?).map (fun q => q.1) = some me'.1.cls) (hok : jOk E me' [jRF E k0, v0, v1, v2] H (jQv Pv)) (k : ∀ H', Pv H' → jWP E me Q n lv st H') : jWP E me Q pc lv (v2 :: v1 :: v0 :: jRF E k0 :: st) H := by
  subst hn
  exact j_callV (As := [v0, v1, v2]) (st := st) hd hl.1 hl.2 hf hc hk ho hcl rfl rfl hok (fun r H' ⟨e, q⟩ => by subst e; exact k H' q)
theorem jV4v (n : Nat) (hn : pc + 3 = n) {me' : jM} {ix k0 ci : Nat} {v0 v1 v2 v3 : Value} (hd : decode me.2.1 pc = .ok (.invokevirtual ix, 3)) (hl : jLv me.1.cls ix me' 4) (hf : jFit me me' = true) (hc : jCat st = true) (hk : k0 < jK) (ho : j_shp k0 = .inr (.inr ci)) (hcl : (jCl[ci]?).map (fun q => q.1) = some me'.1.cls) (hok : jOk E me' [jRF E k0, v0, v1, v2, v3] H (jQv Pv)) (k : ∀ H', Pv H' → jWP E me Q n lv st H') : jWP E me Q pc lv (v3 :: v2 :: v1 :: v0 :: jRF E k0 :: st) H := by
  subst hn
  exact j_callV (As := [v0, v1, v2, v3]) (st := st) hd hl.1 hl.2 hf hc hk ho hcl rfl rfl hok (fun r H' ⟨e, q⟩ => by subst e; exact k H' q)
theorem jV5v (n : Nat) (hn : pc + 3 = n) {me' : jM} {ix k0 ci : Nat} {v0 v1 v2 v3 v4 : Value} (hd : decode me.2.1 pc = .ok (.invokevirtual ix, 3)) (hl : jLv me.1.cls ix me' 5) (hf : jFit me me' = true) (hc : jCat st = true) (hk : k0 < jK) (ho : j_shp k0 = .inr (.inr ci)) (hcl : (jCl[ci]?).map (fun q => q.1) = some me'.1.cls) (hok : jOk E me' [jRF E k0, v0, v1, v2, v3, v4] H (jQv Pv)) (k : ∀ H', Pv H' → jWP E me Q n lv st H') : jWP E me Q pc lv (v4 :: v3 :: v2 :: v1 :: v0 :: jRF E k0 :: st) H := by
  subst hn
  exact j_callV (As := [v0, v1, v2, v3, v4]) (st := st) hd hl.1 hl.2 hf hc hk ho hcl rfl rfl hok (fun r H' ⟨e, q⟩ => by subst e; exact k H' q)
end JTYP
end
section
/-! ===== the methods, and their links in the tables ===== -/
def mX0_parse : jM := (yX0_parse, cX0_parse, 2, none, 9, 201)
def mX0_findFault : jM := (yX0_findFault, cX0_findFault, 2, (some .int), 8, 180)
def mX0_isDue : jM := (yX0_isDue, cX0_isDue, 2, (some .boolean), 7, 159)
def mX0_allBits : jM := (yX0_allBits, cX0_allBits, 1, (some .int), 0, 0)
def mX0_allSprings : jM := (yX0_allSprings, cX0_allSprings, 3, (some .int), 0, 0)
def mX0_withLaw : jM := (yX0_withLaw, cX0_withLaw, 4, (some .int), 0, 0)
def mX1_load : jM := (yX1_load, cX1_load, 6, none, 1, 26)
def mX1_putRow : jM := (yX1_putRow, cX1_putRow, 3, none, 0, 0)
def mX1_putLaw : jM := (yX1_putLaw, cX1_putLaw, 3, none, 0, 0)
def mX1_putLooks : jM := (yX1_putLooks, cX1_putLooks, 6, none, 0, 0)
def mX1_run : jM := (yX1_run, cX1_run, 3, none, 2, 47)
def mX1_placesAround : jM := (yX1_placesAround, cX1_placesAround, 3, (some .int), 0, 0)
def mX1_go : jM := (yX1_go, cX1_go, 6, none, 1, 22)
def mX1_opensByLaw : jM := (yX1_opensByLaw, cX1_opensByLaw, 3, (some .boolean), 0, 0)
def mX1_isUp : jM := (yX1_isUp, cX1_isUp, 3, (some .boolean), 0, 0)
def mX1_openings : jM := (yX1_openings, cX1_openings, 4, (some .int), 1, 20)
def mX2_renew : jM := (yX2_renew, cX2_renew, 3, none, 1, 23)
def mX2_put : jM := (yX2_put, cX2_put, 3, none, 0, 0)
def mX2_has : jM := (yX2_has, cX2_has, 3, (some .boolean), 0, 0)
def mX2_findingAt : jM := (yX2_findingAt, cX2_findingAt, 3, (some .int), 1, 22)
def mX3_mayBe : jM := (yX3_mayBe, cX3_mayBe, 3, (some .boolean), 1, 20)
def mX3_add : jM := (yX3_add, cX3_add, 4, none, 0, 0)
def mJ11_isValidCodePoint_9a6ad : jM := (yJ11_isValidCodePoint_9a6ad, cJ11_isValidCodePoint_9a6ad, 2, (some .boolean), 0, 0)
def mJ11_highSurrogate_5068e : jM := (yJ11_highSurrogate_5068e, cJ11_highSurrogate_5068e, 1, (some .char), 0, 0)
def mJ11_lowSurrogate_5068e : jM := (yJ11_lowSurrogate_5068e, cJ11_lowSurrogate_5068e, 1, (some .char), 0, 0)
def mJ6_bitCount_0f7a4 : jM := (yJ6_bitCount_0f7a4, cJ6_bitCount_0f7a4, 1, (some .int), 0, 0)
def mJ9_max_7cf53 : jM := (yJ9_max_7cf53, cJ9_max_7cf53, 2, (some .int), 0, 0)
def mJ9_min_7cf53 : jM := (yJ9_min_7cf53, cJ9_min_7cf53, 2, (some .int), 0, 0)
def mJ0_length_8abf5 : jM := (yJ0_length_8abf5, cJ0_length_8abf5, 1, (some .int), 1, 20)
def mJ0_indexOf_0f7a4 : jM := (yJ0_indexOf_0f7a4, cJ0_indexOf_0f7a4, 2, (some .int), 6, 138)
def mJ0_indexOf_7cf53 : jM := (yJ0_indexOf_7cf53, cJ0_indexOf_7cf53, 3, (some .int), 5, 116)
def mJ0_coder_7d493 : jM := (yJ0_coder_7d493, cJ0_coder_7d493, 1, (some .byte), 0, 0)
def mJ0_isLatin1_aae02 : jM := (yJ0_isLatin1_aae02, cJ0_isLatin1_aae02, 1, (some .boolean), 0, 0)
def mJ0_checkBoundsBeginEnd_23922 : jM := (yJ0_checkBoundsBeginEnd_23922, cJ0_checkBoundsBeginEnd_23922, 3, none, 1, 23)
def mJ1_canEncode_9a6ad : jM := (yJ1_canEncode_9a6ad, cJ1_canEncode_9a6ad, 1, (some .boolean), 0, 0)
def mJ1_indexOf_4cfef : jM := (yJ1_indexOf_4cfef, cJ1_indexOf_4cfef, 4, (some .int), 1, 25)
def mJ1_indexOfChar_4cfef : jM := (yJ1_indexOfChar_4cfef, cJ1_indexOfChar_4cfef, 6, (some .int), 0, 0)
def mJ2_getChar_3b067 : jM := (yJ2_getChar_3b067, cJ2_getChar_3b067, 2, (some .char), 1, 20)
def mJ2_length_9d52b : jM := (yJ2_length_9d52b, cJ2_length_9d52b, 1, (some .int), 0, 0)
def mJ2_indexOf_4cfef : jM := (yJ2_indexOf_4cfef, cJ2_indexOf_4cfef, 4, (some .int), 4, 93)
def mJ2_indexOfChar_4cfef : jM := (yJ2_indexOfChar_4cfef, cJ2_indexOfChar_4cfef, 4, (some .int), 3, 67)
def mJ2_indexOfCharUnsafe_4cfef : jM := (yJ2_indexOfCharUnsafe_4cfef, cJ2_indexOfCharUnsafe_4cfef, 5, (some .int), 2, 41)
def mJ2_indexOfSupplementary_4cfef : jM := (yJ2_indexOfSupplementary_4cfef, cJ2_indexOfSupplementary_4cfef, 7, (some .int), 3, 67)
def mJ2_checkBoundsBeginEnd_d044e : jM := (yJ2_checkBoundsBeginEnd_d044e, cJ2_checkBoundsBeginEnd_d044e, 3, none, 2, 45)
def mJ7_fill_53178 : jM := (yJ7_fill_53178, cJ7_fill_53178, 4, none, 0, 0)
def mJ3_checkFromToIndex_8c36e : jM := (yJ3_checkFromToIndex_8c36e, cJ3_checkFromToIndex_8c36e, 4, (some .int), 0, 0)
def mX4_type : jM := (yX4_type, cX4_type, 2, (some .int), 11, 243)
def mX4_wipe : jM := (yX4_wipe, cX4_wipe, 2, (some .int), 11, 243)
def mX4_undo : jM := (yX4_undo, cX4_undo, 1, (some .int), 11, 243)
def mX4_fault : jM := (yX4_fault, cX4_fault, 1, (some .int), 0, 0)
def mX4_box : jM := (yX4_box, cX4_box, 3, (some .int), 1, 21)
def mX4_place : jM := (yX4_place, cX4_place, 2, (some .int), 1, 20)
def mX4_swap : jM := (yX4_swap, cX4_swap, 3, (some .int), 1, 23)
def mX4_lids : jM := (yX4_lids, cX4_lids, 3, (some .int), 0, 0)
def mX4_tell : jM := (yX4_tell, cX4_tell, 4, (some .int), 2, 42)
def mX4_back : jM := (yX4_back, cX4_back, 1, (some .int), 0, 0)
def mX4_read : jM := (yX4_read, cX4_read, 6, (some .int), 3, 65)
def mX4_step : jM := (yX4_step, cX4_step, 3, (some .int), 4, 89)
def mX4_spring : jM := (yX4_spring, cX4_spring, 5, (some .int), 4, 89)
def mX4_quiet : jM := (yX4_quiet, cX4_quiet, 2, (some .int), 4, 89)
def mX4_loudest : jM := (yX4_loudest, cX4_loudest, 6, (some .int), 4, 89)
def mX4_first : jM := (yX4_first, cX4_first, 3, (some .int), 4, 89)
def mX4_together : jM := (yX4_together, cX4_together, 6, (some .int), 4, 89)
def mX4_news : jM := (yX4_news, cX4_news, 6, (some .int), 4, 89)
def mX4_hears : jM := (yX4_hears, cX4_hears, 5, (some .int), 4, 89)
def mX4_hush : jM := (yX4_hush, cX4_hush, 6, (some .int), 4, 91)
def mX4_shelf : jM := (yX4_shelf, cX4_shelf, 5, (some .int), 4, 95)
def mX4_heard : jM := (yX4_heard, cX4_heard, 3, (some .int), 1, 20)
def mX4_forget : jM := (yX4_forget, cX4_forget, 2, (some .int), 0, 0)
def mX4_learn : jM := (yX4_learn, cX4_learn, 4, (some .int), 4, 93)
def mX4_empty : jM := (yX4_empty, cX4_empty, 5, (some .int), 3, 69)
def mX4_turn : jM := (yX4_turn, cX4_turn, 8, (some .int), 4, 97)
def mX4_looks : jM := (yX4_looks, cX4_looks, 11, (some .long), 4, 98)
def mX4_night : jM := (yX4_night, cX4_night, 6, (some .int), 3, 69)
def mX4_sheet : jM := (yX4_sheet, cX4_sheet, 4, (some .int), 2, 45)
def mX4_lose : jM := (yX4_lose, cX4_lose, 2, (some .int), 1, 21)
def mX4_lay : jM := (yX4_lay, cX4_lay, 6, (some .int), 2, 44)
def mX4_get : jM := (yX4_get, cX4_get, 5, (some .int), 2, 44)
def mX4_copy : jM := (yX4_copy, cX4_copy, 8, (some .int), 1, 26)
def mX4_write : jM := (yX4_write, cX4_write, 5, (some .int), 4, 89)
def mX4_count : jM := (yX4_count, cX4_count, 2, (some .int), 4, 89)
def mX4_digest : jM := (yX4_digest, cX4_digest, 7, (some .long), 6, 154)
def mX4_digestBox : jM := (yX4_digestBox, cX4_digestBox, 7, (some .long), 5, 128)
def mX4_isBox : jM := (yX4_isBox, cX4_isBox, 2, (some .boolean), 0, 0)
def mX4_isNumber : jM := (yX4_isNumber, cX4_isNumber, 1, (some .boolean), 0, 0)
def mX4_isStep : jM := (yX4_isStep, cX4_isStep, 1, (some .boolean), 0, 0)
def mX4_isEither : jM := (yX4_isEither, cX4_isEither, 1, (some .boolean), 0, 0)
def mX4_isSheet : jM := (yX4_isSheet, cX4_isSheet, 1, (some .boolean), 0, 0)
def mX4_isForm : jM := (yX4_isForm, cX4_isForm, 1, (some .boolean), 0, 0)
def mX4_finding : jM := (yX4_finding, cX4_finding, 2, (some .int), 0, 0)
def mX4_lengthen : jM := (yX4_lengthen, cX4_lengthen, 2, (some .int), 10, 222)
def mX4_runAsTold : jM := (yX4_runAsTold, cX4_runAsTold, 1, none, 3, 69)
def mX4_spread : jM := (yX4_spread, cX4_spread, 2, (some .int), 0, 0)
def mX4_exchange : jM := (yX4_exchange, cX4_exchange, 4, none, 0, 0)
def mX4_isHushed : jM := (yX4_isHushed, cX4_isHushed, 3, (some .boolean), 3, 69)
def mX4_findShelf : jM := (yX4_findShelf, cX4_findShelf, 7, (some .int), 3, 69)
def mX4_stepToNextRow : jM := (yX4_stepToNextRow, cX4_stepToNextRow, 6, (some .boolean), 1, 23)
def mX4_lastHeardStep : jM := (yX4_lastHeardStep, cX4_lastHeardStep, 3, (some .int), 1, 21)
def mX4_isAsHeard : jM := (yX4_isAsHeard, cX4_isAsHeard, 2, (some .boolean), 1, 20)
def mX4_findFitting : jM := (yX4_findFitting, cX4_findFitting, 5, (some .int), 3, 69)
def mX4_greatestAlike : jM := (yX4_greatestAlike, cX4_greatestAlike, 9, (some .int), 3, 69)
def mX4_weightUp : jM := (yX4_weightUp, cX4_weightUp, 10, (some .long), 3, 69)
def mX4_wholeWeight : jM := (yX4_wholeWeight, cX4_wholeWeight, 1, (some .long), 0, 0)
def mX4_weight : jM := (yX4_weight, cX4_weight, 6, (some .long), 0, 0)
def mX4_commonDivisor : jM := (yX4_commonDivisor, cX4_commonDivisor, 11, (some .long), 0, 0)
def mX5_in : jM := (yX5_in, cX5_in, 6, (some .boolean), 0, 0)
def mX5_no : jM := (yX5_no, cX5_no, 1, (some .long), 0, 0)
def mX5_isTwo : jM := (yX5_isTwo, cX5_isTwo, 1, (some .boolean), 1, 25)
def mX5_isIn : jM := (yX5_isIn, cX5_isIn, 2, (some .boolean), 0, 0)
def mX5_ones : jM := (yX5_ones, cX5_ones, 3, (some .int), 0, 0)
def mX5_amount : jM := (yX5_amount, cX5_amount, 1, (some .int), 0, 0)
def mX5_part : jM := (yX5_part, cX5_part, 11, (some .long), 0, 0)
def mX5_finds : jM := (yX5_finds, cX5_finds, 2, (some .int), 0, 0)
def mX5_isSheet : jM := (yX5_isSheet, cX5_isSheet, 1, (some .boolean), 1, 25)
def mX5_sheet : jM := (yX5_sheet, cX5_sheet, 5, (some .int), 2, 45)
def mX5_lose : jM := (yX5_lose, cX5_lose, 2, (some .int), 2, 45)
def mX5_lacks : jM := (yX5_lacks, cX5_lacks, 4, (some .int), 1, 25)
def mX5_cut : jM := (yX5_cut, cX5_cut, 2, (some .int), 0, 0)
def mX5_lay : jM := (yX5_lay, cX5_lay, 6, (some .int), 2, 48)
def mX5_get : jM := (yX5_get, cX5_get, 4, (some .int), 2, 48)
def mX5_copy : jM := (yX5_copy, cX5_copy, 7, (some .int), 2, 45)
def mX5_type : jM := (yX5_type, cX5_type, 2, (some .int), 1, 25)
def mX5_wipe : jM := (yX5_wipe, cX5_wipe, 2, (some .int), 0, 0)
def mX5_undo : jM := (yX5_undo, cX5_undo, 1, (some .int), 0, 0)
def mX5_lawOf : jM := (yX5_lawOf, cX5_lawOf, 1, (some .int), 0, 0)
def mX5_readsBox : jM := (yX5_readsBox, cX5_readsBox, 4, (some .boolean), 1, 25)
def mX5_reads : jM := (yX5_reads, cX5_reads, 3, (some .int), 2, 48)
def mX5_fault : jM := (yX5_fault, cX5_fault, 1, (some .int), 3, 70)
def mX5_isBox : jM := (yX5_isBox, cX5_isBox, 2, (some .boolean), 1, 25)
def mX5_isAny : jM := (yX5_isAny, cX5_isAny, 1, (some .boolean), 1, 25)
def mX5_isStep : jM := (yX5_isStep, cX5_isStep, 1, (some .boolean), 1, 25)
def mX5_box : jM := (yX5_box, cX5_box, 3, (some .int), 3, 70)
def mX5_place : jM := (yX5_place, cX5_place, 2, (some .int), 2, 45)
def mX5_swap : jM := (yX5_swap, cX5_swap, 4, (some .int), 2, 45)
def mX5_lids : jM := (yX5_lids, cX5_lids, 3, (some .int), 1, 25)
def mX5_tell : jM := (yX5_tell, cX5_tell, 4, (some .int), 2, 45)
def mX5_back : jM := (yX5_back, cX5_back, 1, (some .int), 0, 0)
def mX5_read : jM := (yX5_read, cX5_read, 5, (some .int), 3, 68)
def mX5_plain : jM := (yX5_plain, cX5_plain, 2, none, 3, 70)
def mX5_isNear : jM := (yX5_isNear, cX5_isNear, 5, (some .boolean), 1, 21)
def mX5_opensNow : jM := (yX5_opensNow, cX5_opensNow, 4, (some .boolean), 2, 45)
def mX5_springAt : jM := (yX5_springAt, cX5_springAt, 3, (some .int), 0, 0)
def mX5_lives : jM := (yX5_lives, cX5_lives, 8, none, 3, 68)
def mX5_find : jM := (yX5_find, cX5_find, 1, none, 4, 95)
def mX5_step : jM := (yX5_step, cX5_step, 3, (some .int), 5, 115)
def mX5_spring : jM := (yX5_spring, cX5_spring, 3, (some .int), 5, 115)
def mX5_quietNow : jM := (yX5_quietNow, cX5_quietNow, 2, (some .int), 0, 0)
def mX5_quiet : jM := (yX5_quiet, cX5_quiet, 1, (some .int), 5, 115)
def mX5_loudestOf : jM := (yX5_loudestOf, cX5_loudestOf, 4, (some .int), 1, 22)
def mX5_loudest : jM := (yX5_loudest, cX5_loudest, 2, (some .int), 5, 115)
def mX5_firstOf : jM := (yX5_firstOf, cX5_firstOf, 3, (some .int), 1, 21)
def mX5_first : jM := (yX5_first, cX5_first, 2, (some .int), 5, 115)
def mX5_areTwo : jM := (yX5_areTwo, cX5_areTwo, 3, (some .boolean), 2, 46)
def mX5_togetherOf : jM := (yX5_togetherOf, cX5_togetherOf, 5, (some .int), 1, 21)
def mX5_together : jM := (yX5_together, cX5_together, 3, (some .int), 5, 115)
def mX5_haveIt : jM := (yX5_haveIt, cX5_haveIt, 6, (some .int), 0, 0)
def mX5_newsOf : jM := (yX5_newsOf, cX5_newsOf, 5, (some .int), 1, 25)
def mX5_news : jM := (yX5_news, cX5_news, 4, (some .int), 5, 115)
def mX5_hears : jM := (yX5_hears, cX5_hears, 3, (some .int), 5, 115)
def mX5_tells : jM := (yX5_tells, cX5_tells, 2, (some .int), 1, 22)
def mX5_hushOf : jM := (yX5_hushOf, cX5_hushOf, 4, (some .int), 4, 95)
def mX5_hush : jM := (yX5_hush, cX5_hush, 3, (some .int), 5, 118)
def mX5_unfolds : jM := (yX5_unfolds, cX5_unfolds, 6, none, 0, 0)
def mX5_opened : jM := (yX5_opened, cX5_opened, 4, (some .int), 1, 22)
def mX5_findShelf : jM := (yX5_findShelf, cX5_findShelf, 8, (some .int), 5, 115)
def mX5_shelfOf : jM := (yX5_shelfOf, cX5_shelfOf, 5, (some .int), 6, 142)
def mX5_shelf : jM := (yX5_shelf, cX5_shelf, 4, (some .int), 7, 166)
def mX5_lesserOf : jM := (yX5_lesserOf, cX5_lesserOf, 1, (some .int), 0, 0)
def mX5_heard : jM := (yX5_heard, cX5_heard, 3, (some .int), 2, 45)
def mX5_forget : jM := (yX5_forget, cX5_forget, 2, (some .int), 0, 0)
def mX5_isHeard : jM := (yX5_isHeard, cX5_isHeard, 3, (some .boolean), 1, 22)
def mX5_takes : jM := (yX5_takes, cX5_takes, 3, none, 0, 0)
def mX5_gives : jM := (yX5_gives, cX5_gives, 2, none, 4, 95)
def mX5_lawName : jM := (yX5_lawName, cX5_lawName, 1, (some .int), 0, 0)
def mX5_learnOf : jM := (yX5_learnOf, cX5_learnOf, 6, (some .int), 5, 116)
def mX5_learn : jM := (yX5_learn, cX5_learn, 3, (some .int), 6, 141)
def mX5_emptyNow : jM := (yX5_emptyNow, cX5_emptyNow, 3, (some .int), 5, 116)
def mX5_empty : jM := (yX5_empty, cX5_empty, 1, (some .int), 6, 138)
def mX5_turnOf : jM := (yX5_turnOf, cX5_turnOf, 10, (some .int), 5, 116)
def mX5_turn : jM := (yX5_turn, cX5_turn, 3, (some .int), 6, 145)
def mX5_looksOf : jM := (yX5_looksOf, cX5_looksOf, 14, (some .long), 5, 115)
def mX5_looks : jM := (yX5_looks, cX5_looks, 5, (some .long), 6, 148)
def mX5_nightOf : jM := (yX5_nightOf, cX5_nightOf, 6, (some .int), 5, 115)
def mX5_night : jM := (yX5_night, cX5_night, 4, (some .int), 6, 140)
def mX5_write : jM := (yX5_write, cX5_write, 4, (some .int), 5, 115)
def mX5_count : jM := (yX5_count, cX5_count, 4, (some .int), 5, 115)
def mX5_tellsBox : jM := (yX5_tellsBox, cX5_tellsBox, 7, (some .long), 6, 148)
def mX5_digest : jM := (yX5_digest, cX5_digest, 5, (some .long), 8, 189)
theorem inW0 : ∀ w ∈ u_ws RX0 TX0 7, w ∈ jW := by decide +kernel
theorem inW1 : ∀ w ∈ u_ws RX1 TX1 16, w ∈ jW := by decide +kernel
theorem inW2 : ∀ w ∈ u_ws RX2 TX2 4, w ∈ jW := by decide +kernel
theorem inW3 : ∀ w ∈ u_ws RX3 TX3 4, w ∈ jW := by decide +kernel
theorem inW4 : ∀ w ∈ u_ws RX4 TX4 16, w ∈ jW := by decide +kernel
theorem inW5 : ∀ w ∈ u_ws RX5 TX5 29, w ∈ jW := by decide +kernel
theorem tw_174 : Cond.fieldLink RX4 10 (TX4 0).1 (TX4 0).2.1 (TX4 0).2.2.1 ∈ jW := jW_of (List.mem_append_right _ (List.mem_of_getElem? (l := tables_1) (i := 174) (by decide +kernel))) rfl
theorem fl_X4_10 : jFL RX4 10 4 0 := ⟨RX4, TX4, 16, rfl, by decide, tw_174, inW4⟩
theorem tw_175 : Cond.fieldLink RX4 16 (TX4 1).1 (TX4 1).2.1 (TX4 1).2.2.1 ∈ jW := jW_of (List.mem_append_right _ (List.mem_of_getElem? (l := tables_1) (i := 175) (by decide +kernel))) rfl
theorem fl_X4_16 : jFL RX4 16 4 1 := ⟨RX4, TX4, 16, rfl, by decide, tw_175, inW4⟩
theorem tw_176 : Cond.fieldLink RX4 20 (TX4 2).1 (TX4 2).2.1 (TX4 2).2.2.1 ∈ jW := jW_of (List.mem_append_right _ (List.mem_of_getElem? (l := tables_1) (i := 176) (by decide +kernel))) rfl
theorem fl_X4_20 : jFL RX4 20 4 2 := ⟨RX4, TX4, 16, rfl, by decide, tw_176, inW4⟩
theorem tw_177 : Cond.fieldLink RX4 27 (TX4 3).1 (TX4 3).2.1 (TX4 3).2.2.1 ∈ jW := jW_of (List.mem_append_right _ (List.mem_of_getElem? (l := tables_1) (i := 177) (by decide +kernel))) rfl
theorem fl_X4_27 : jFL RX4 27 4 3 := ⟨RX4, TX4, 16, rfl, by decide, tw_177, inW4⟩
theorem tw_178 : Cond.fieldLink RX4 31 (TX4 4).1 (TX4 4).2.1 (TX4 4).2.2.1 ∈ jW := jW_of (List.mem_append_right _ (List.mem_of_getElem? (l := tables_1) (i := 178) (by decide +kernel))) rfl
theorem fl_X4_31 : jFL RX4 31 4 4 := ⟨RX4, TX4, 16, rfl, by decide, tw_178, inW4⟩
theorem tw_179 : Cond.fieldLink RX4 34 (TX4 5).1 (TX4 5).2.1 (TX4 5).2.2.1 ∈ jW := jW_of (List.mem_append_right _ (List.mem_of_getElem? (l := tables_1) (i := 179) (by decide +kernel))) rfl
theorem fl_X4_34 : jFL RX4 34 4 5 := ⟨RX4, TX4, 16, rfl, by decide, tw_179, inW4⟩
theorem tw_180 : Cond.fieldLink RX4 37 (TX4 6).1 (TX4 6).2.1 (TX4 6).2.2.1 ∈ jW := jW_of (List.mem_append_right _ (List.mem_of_getElem? (l := tables_1) (i := 180) (by decide +kernel))) rfl
theorem fl_X4_37 : jFL RX4 37 4 6 := ⟨RX4, TX4, 16, rfl, by decide, tw_180, inW4⟩
theorem tw_181 : Cond.fieldLink RX4 42 (TX4 7).1 (TX4 7).2.1 (TX4 7).2.2.1 ∈ jW := jW_of (List.mem_append_right _ (List.mem_of_getElem? (l := tables_1) (i := 181) (by decide +kernel))) rfl
theorem fl_X4_42 : jFL RX4 42 4 7 := ⟨RX4, TX4, 16, rfl, by decide, tw_181, inW4⟩
theorem tw_182 : Cond.fieldLink RX4 46 (TX4 8).1 (TX4 8).2.1 (TX4 8).2.2.1 ∈ jW := jW_of (List.mem_append_right _ (List.mem_of_getElem? (l := tables_1) (i := 182) (by decide +kernel))) rfl
theorem fl_X4_46 : jFL RX4 46 4 8 := ⟨RX4, TX4, 16, rfl, by decide, tw_182, inW4⟩
theorem tw_183 : Cond.fieldLink RX4 52 (TX4 9).1 (TX4 9).2.1 (TX4 9).2.2.1 ∈ jW := jW_of (List.mem_append_right _ (List.mem_of_getElem? (l := tables_1) (i := 183) (by decide +kernel))) rfl
theorem fl_X4_52 : jFL RX4 52 4 9 := ⟨RX4, TX4, 16, rfl, by decide, tw_183, inW4⟩
theorem tw_184 : Cond.fieldLink RX4 56 (TX4 10).1 (TX4 10).2.1 (TX4 10).2.2.1 ∈ jW := jW_of (List.mem_append_right _ (List.mem_of_getElem? (l := tables_1) (i := 184) (by decide +kernel))) rfl
theorem fl_X4_56 : jFL RX4 56 4 10 := ⟨RX4, TX4, 16, rfl, by decide, tw_184, inW4⟩
theorem tw_185 : Cond.fieldLink RX4 60 (TX4 11).1 (TX4 11).2.1 (TX4 11).2.2.1 ∈ jW := jW_of (List.mem_append_right _ (List.mem_of_getElem? (l := tables_1) (i := 185) (by decide +kernel))) rfl
theorem fl_X4_60 : jFL RX4 60 4 11 := ⟨RX4, TX4, 16, rfl, by decide, tw_185, inW4⟩
theorem tw_186 : Cond.fieldLink RX4 63 (TX4 12).1 (TX4 12).2.1 (TX4 12).2.2.1 ∈ jW := jW_of (List.mem_append_right _ (List.mem_of_getElem? (l := tables_1) (i := 186) (by decide +kernel))) rfl
theorem fl_X4_63 : jFL RX4 63 4 12 := ⟨RX4, TX4, 16, rfl, by decide, tw_186, inW4⟩
theorem tw_187 : Cond.fieldLink RX4 66 (TX4 13).1 (TX4 13).2.1 (TX4 13).2.2.1 ∈ jW := jW_of (List.mem_append_right _ (List.mem_of_getElem? (l := tables_1) (i := 187) (by decide +kernel))) rfl
theorem fl_X4_66 : jFL RX4 66 4 13 := ⟨RX4, TX4, 16, rfl, by decide, tw_187, inW4⟩
theorem tw_188 : Cond.fieldLink RX4 69 (TX4 14).1 (TX4 14).2.1 (TX4 14).2.2.1 ∈ jW := jW_of (List.mem_append_right _ (List.mem_of_getElem? (l := tables_1) (i := 188) (by decide +kernel))) rfl
theorem fl_X4_69 : jFL RX4 69 4 14 := ⟨RX4, TX4, 16, rfl, by decide, tw_188, inW4⟩
theorem tw_189 : Cond.fieldLink RX4 72 (TX4 15).1 (TX4 15).2.1 (TX4 15).2.2.1 ∈ jW := jW_of (List.mem_append_right _ (List.mem_of_getElem? (l := tables_1) (i := 189) (by decide +kernel))) rfl
theorem fl_X4_72 : jFL RX4 72 4 15 := ⟨RX4, TX4, 16, rfl, by decide, tw_189, inW4⟩
theorem tw_33 : Cond.fieldLink RX4 76 (TX0 1).1 (TX0 1).2.1 (TX0 1).2.2.1 ∈ jW := jW_of (List.mem_append_right _ (List.mem_of_getElem? (l := tables_1) (i := 33) (by decide +kernel))) rfl
theorem fl_X4_76 : jFL RX4 76 0 1 := ⟨RX0, TX0, 7, rfl, by decide, tw_33, inW0⟩
theorem tw_31 : Cond.fieldLink RX4 79 (TX0 0).1 (TX0 0).2.1 (TX0 0).2.2.1 ∈ jW := jW_of (List.mem_append_right _ (List.mem_of_getElem? (l := tables_1) (i := 31) (by decide +kernel))) rfl
theorem fl_X4_79 : jFL RX4 79 0 0 := ⟨RX0, TX0, 7, rfl, by decide, tw_31, inW0⟩
theorem tw_35 : Cond.fieldLink RX4 86 (TX0 2).1 (TX0 2).2.1 (TX0 2).2.2.1 ∈ jW := jW_of (List.mem_append_right _ (List.mem_of_getElem? (l := tables_1) (i := 35) (by decide +kernel))) rfl
theorem fl_X4_86 : jFL RX4 86 0 2 := ⟨RX0, TX0, 7, rfl, by decide, tw_35, inW0⟩
theorem tw_41 : Cond.fieldLink RX4 93 (TX0 4).1 (TX0 4).2.1 (TX0 4).2.2.1 ∈ jW := jW_of (List.mem_append_right _ (List.mem_of_getElem? (l := tables_1) (i := 41) (by decide +kernel))) rfl
theorem fl_X4_93 : jFL RX4 93 0 4 := ⟨RX0, TX0, 7, rfl, by decide, tw_41, inW0⟩
theorem tw_44 : Cond.fieldLink RX4 96 (TX0 5).1 (TX0 5).2.1 (TX0 5).2.2.1 ∈ jW := jW_of (List.mem_append_right _ (List.mem_of_getElem? (l := tables_1) (i := 44) (by decide +kernel))) rfl
theorem fl_X4_96 : jFL RX4 96 0 5 := ⟨RX0, TX0, 7, rfl, by decide, tw_44, inW0⟩
theorem tw_47 : Cond.fieldLink RX4 99 (TX0 6).1 (TX0 6).2.1 (TX0 6).2.2.1 ∈ jW := jW_of (List.mem_append_right _ (List.mem_of_getElem? (l := tables_1) (i := 47) (by decide +kernel))) rfl
theorem fl_X4_99 : jFL RX4 99 0 6 := ⟨RX0, TX0, 7, rfl, by decide, tw_47, inW0⟩
theorem tw_78 : Cond.fieldLink RX4 113 (TX3 3).1 (TX3 3).2.1 (TX3 3).2.2.1 ∈ jW := jW_of (List.mem_append_right _ (List.mem_of_getElem? (l := tables_1) (i := 78) (by decide +kernel))) rfl
theorem fl_X4_113 : jFL RX4 113 3 3 := ⟨RX3, TX3, 4, rfl, by decide, tw_78, inW3⟩
theorem tw_158 : Cond.fieldLink RX4 123 (TX2 0).1 (TX2 0).2.1 (TX2 0).2.2.1 ∈ jW := jW_of (List.mem_append_right _ (List.mem_of_getElem? (l := tables_1) (i := 158) (by decide +kernel))) rfl
theorem fl_X4_123 : jFL RX4 123 2 0 := ⟨RX2, TX2, 4, rfl, by decide, tw_158, inW2⟩
theorem tw_162 : Cond.fieldLink RX4 129 (TX2 2).1 (TX2 2).2.1 (TX2 2).2.2.1 ∈ jW := jW_of (List.mem_append_right _ (List.mem_of_getElem? (l := tables_1) (i := 162) (by decide +kernel))) rfl
theorem fl_X4_129 : jFL RX4 129 2 2 := ⟨RX2, TX2, 4, rfl, by decide, tw_162, inW2⟩
theorem tw_164 : Cond.fieldLink RX4 130 (TX2 3).1 (TX2 3).2.1 (TX2 3).2.2.1 ∈ jW := jW_of (List.mem_append_right _ (List.mem_of_getElem? (l := tables_1) (i := 164) (by decide +kernel))) rfl
theorem fl_X4_130 : jFL RX4 130 2 3 := ⟨RX2, TX2, 4, rfl, by decide, tw_164, inW2⟩
theorem tw_109 : Cond.fieldLink RX4 146 (TX1 7).1 (TX1 7).2.1 (TX1 7).2.2.1 ∈ jW := jW_of (List.mem_append_right _ (List.mem_of_getElem? (l := tables_1) (i := 109) (by decide +kernel))) rfl
theorem fl_X4_146 : jFL RX4 146 1 7 := ⟨RX1, TX1, 16, rfl, by decide, tw_109, inW1⟩
theorem tw_111 : Cond.fieldLink RX4 149 (TX1 8).1 (TX1 8).2.1 (TX1 8).2.2.1 ∈ jW := jW_of (List.mem_append_right _ (List.mem_of_getElem? (l := tables_1) (i := 111) (by decide +kernel))) rfl
theorem fl_X4_149 : jFL RX4 149 1 8 := ⟨RX1, TX1, 16, rfl, by decide, tw_111, inW1⟩
theorem tw_38 : Cond.fieldLink RX4 173 (TX0 3).1 (TX0 3).2.1 (TX0 3).2.2.1 ∈ jW := jW_of (List.mem_append_right _ (List.mem_of_getElem? (l := tables_1) (i := 38) (by decide +kernel))) rfl
theorem fl_X4_173 : jFL RX4 173 0 3 := ⟨RX0, TX0, 7, rfl, by decide, tw_38, inW0⟩
theorem tw_100 : Cond.fieldLink RX4 186 (TX1 1).1 (TX1 1).2.1 (TX1 1).2.2.1 ∈ jW := jW_of (List.mem_append_right _ (List.mem_of_getElem? (l := tables_1) (i := 100) (by decide +kernel))) rfl
theorem fl_X4_186 : jFL RX4 186 1 1 := ⟨RX1, TX1, 16, rfl, by decide, tw_100, inW1⟩
theorem tw_107 : Cond.fieldLink RX4 216 (TX1 6).1 (TX1 6).2.1 (TX1 6).2.2.1 ∈ jW := jW_of (List.mem_append_right _ (List.mem_of_getElem? (l := tables_1) (i := 107) (by decide +kernel))) rfl
theorem fl_X4_216 : jFL RX4 216 1 6 := ⟨RX1, TX1, 16, rfl, by decide, tw_107, inW1⟩
theorem tw_160 : Cond.fieldLink RX4 237 (TX2 1).1 (TX2 1).2.1 (TX2 1).2.2.1 ∈ jW := jW_of (List.mem_append_right _ (List.mem_of_getElem? (l := tables_1) (i := 160) (by decide +kernel))) rfl
theorem fl_X4_237 : jFL RX4 237 2 1 := ⟨RX2, TX2, 4, rfl, by decide, tw_160, inW2⟩
theorem tw_105 : Cond.fieldLink RX4 325 (TX1 5).1 (TX1 5).2.1 (TX1 5).2.2.1 ∈ jW := jW_of (List.mem_append_right _ (List.mem_of_getElem? (l := tables_1) (i := 105) (by decide +kernel))) rfl
theorem fl_X4_325 : jFL RX4 325 1 5 := ⟨RX1, TX1, 16, rfl, by decide, tw_105, inW1⟩
theorem tw_30 : Cond.fieldLink RX0 9 (TX0 0).1 (TX0 0).2.1 (TX0 0).2.2.1 ∈ jW := jW_of (List.mem_append_right _ (List.mem_of_getElem? (l := tables_1) (i := 30) (by decide +kernel))) rfl
theorem fl_X0_9 : jFL RX0 9 0 0 := ⟨RX0, TX0, 7, rfl, by decide, tw_30, inW0⟩
theorem tw_32 : Cond.fieldLink RX0 15 (TX0 1).1 (TX0 1).2.1 (TX0 1).2.2.1 ∈ jW := jW_of (List.mem_append_right _ (List.mem_of_getElem? (l := tables_1) (i := 32) (by decide +kernel))) rfl
theorem fl_X0_15 : jFL RX0 15 0 1 := ⟨RX0, TX0, 7, rfl, by decide, tw_32, inW0⟩
theorem tw_34 : Cond.fieldLink RX0 19 (TX0 2).1 (TX0 2).2.1 (TX0 2).2.2.1 ∈ jW := jW_of (List.mem_append_right _ (List.mem_of_getElem? (l := tables_1) (i := 34) (by decide +kernel))) rfl
theorem fl_X0_19 : jFL RX0 19 0 2 := ⟨RX0, TX0, 7, rfl, by decide, tw_34, inW0⟩
theorem tw_36 : Cond.fieldLink RX0 22 (TX0 3).1 (TX0 3).2.1 (TX0 3).2.2.1 ∈ jW := jW_of (List.mem_append_right _ (List.mem_of_getElem? (l := tables_1) (i := 36) (by decide +kernel))) rfl
theorem fl_X0_22 : jFL RX0 22 0 3 := ⟨RX0, TX0, 7, rfl, by decide, tw_36, inW0⟩
theorem tw_39 : Cond.fieldLink RX0 25 (TX0 4).1 (TX0 4).2.1 (TX0 4).2.2.1 ∈ jW := jW_of (List.mem_append_right _ (List.mem_of_getElem? (l := tables_1) (i := 39) (by decide +kernel))) rfl
theorem fl_X0_25 : jFL RX0 25 0 4 := ⟨RX0, TX0, 7, rfl, by decide, tw_39, inW0⟩
theorem tw_42 : Cond.fieldLink RX0 28 (TX0 5).1 (TX0 5).2.1 (TX0 5).2.2.1 ∈ jW := jW_of (List.mem_append_right _ (List.mem_of_getElem? (l := tables_1) (i := 42) (by decide +kernel))) rfl
theorem fl_X0_28 : jFL RX0 28 0 5 := ⟨RX0, TX0, 7, rfl, by decide, tw_42, inW0⟩
theorem tw_45 : Cond.fieldLink RX0 31 (TX0 6).1 (TX0 6).2.1 (TX0 6).2.2.1 ∈ jW := jW_of (List.mem_append_right _ (List.mem_of_getElem? (l := tables_1) (i := 45) (by decide +kernel))) rfl
theorem fl_X0_31 : jFL RX0 31 0 6 := ⟨RX0, TX0, 7, rfl, by decide, tw_45, inW0⟩
theorem tw_98 : Cond.fieldLink RX1 9 (TX1 0).1 (TX1 0).2.1 (TX1 0).2.2.1 ∈ jW := jW_of (List.mem_append_right _ (List.mem_of_getElem? (l := tables_1) (i := 98) (by decide +kernel))) rfl
theorem fl_X1_9 : jFL RX1 9 1 0 := ⟨RX1, TX1, 16, rfl, by decide, tw_98, inW1⟩
theorem tw_99 : Cond.fieldLink RX1 15 (TX1 1).1 (TX1 1).2.1 (TX1 1).2.2.1 ∈ jW := jW_of (List.mem_append_right _ (List.mem_of_getElem? (l := tables_1) (i := 99) (by decide +kernel))) rfl
theorem fl_X1_15 : jFL RX1 15 1 1 := ⟨RX1, TX1, 16, rfl, by decide, tw_99, inW1⟩
theorem tw_101 : Cond.fieldLink RX1 19 (TX1 2).1 (TX1 2).2.1 (TX1 2).2.2.1 ∈ jW := jW_of (List.mem_append_right _ (List.mem_of_getElem? (l := tables_1) (i := 101) (by decide +kernel))) rfl
theorem fl_X1_19 : jFL RX1 19 1 2 := ⟨RX1, TX1, 16, rfl, by decide, tw_101, inW1⟩
theorem tw_102 : Cond.fieldLink RX1 22 (TX1 3).1 (TX1 3).2.1 (TX1 3).2.2.1 ∈ jW := jW_of (List.mem_append_right _ (List.mem_of_getElem? (l := tables_1) (i := 102) (by decide +kernel))) rfl
theorem fl_X1_22 : jFL RX1 22 1 3 := ⟨RX1, TX1, 16, rfl, by decide, tw_102, inW1⟩
theorem tw_103 : Cond.fieldLink RX1 25 (TX1 4).1 (TX1 4).2.1 (TX1 4).2.2.1 ∈ jW := jW_of (List.mem_append_right _ (List.mem_of_getElem? (l := tables_1) (i := 103) (by decide +kernel))) rfl
theorem fl_X1_25 : jFL RX1 25 1 4 := ⟨RX1, TX1, 16, rfl, by decide, tw_103, inW1⟩
theorem tw_104 : Cond.fieldLink RX1 28 (TX1 5).1 (TX1 5).2.1 (TX1 5).2.2.1 ∈ jW := jW_of (List.mem_append_right _ (List.mem_of_getElem? (l := tables_1) (i := 104) (by decide +kernel))) rfl
theorem fl_X1_28 : jFL RX1 28 1 5 := ⟨RX1, TX1, 16, rfl, by decide, tw_104, inW1⟩
theorem tw_106 : Cond.fieldLink RX1 33 (TX1 6).1 (TX1 6).2.1 (TX1 6).2.2.1 ∈ jW := jW_of (List.mem_append_right _ (List.mem_of_getElem? (l := tables_1) (i := 106) (by decide +kernel))) rfl
theorem fl_X1_33 : jFL RX1 33 1 6 := ⟨RX1, TX1, 16, rfl, by decide, tw_106, inW1⟩
theorem tw_108 : Cond.fieldLink RX1 36 (TX1 7).1 (TX1 7).2.1 (TX1 7).2.2.1 ∈ jW := jW_of (List.mem_append_right _ (List.mem_of_getElem? (l := tables_1) (i := 108) (by decide +kernel))) rfl
theorem fl_X1_36 : jFL RX1 36 1 7 := ⟨RX1, TX1, 16, rfl, by decide, tw_108, inW1⟩
theorem tw_110 : Cond.fieldLink RX1 39 (TX1 8).1 (TX1 8).2.1 (TX1 8).2.2.1 ∈ jW := jW_of (List.mem_append_right _ (List.mem_of_getElem? (l := tables_1) (i := 110) (by decide +kernel))) rfl
theorem fl_X1_39 : jFL RX1 39 1 8 := ⟨RX1, TX1, 16, rfl, by decide, tw_110, inW1⟩
theorem tw_112 : Cond.fieldLink RX1 42 (TX1 9).1 (TX1 9).2.1 (TX1 9).2.2.1 ∈ jW := jW_of (List.mem_append_right _ (List.mem_of_getElem? (l := tables_1) (i := 112) (by decide +kernel))) rfl
theorem fl_X1_42 : jFL RX1 42 1 9 := ⟨RX1, TX1, 16, rfl, by decide, tw_112, inW1⟩
theorem tw_113 : Cond.fieldLink RX1 45 (TX1 10).1 (TX1 10).2.1 (TX1 10).2.2.1 ∈ jW := jW_of (List.mem_append_right _ (List.mem_of_getElem? (l := tables_1) (i := 113) (by decide +kernel))) rfl
theorem fl_X1_45 : jFL RX1 45 1 10 := ⟨RX1, TX1, 16, rfl, by decide, tw_113, inW1⟩
theorem tw_114 : Cond.fieldLink RX1 48 (TX1 11).1 (TX1 11).2.1 (TX1 11).2.2.1 ∈ jW := jW_of (List.mem_append_right _ (List.mem_of_getElem? (l := tables_1) (i := 114) (by decide +kernel))) rfl
theorem fl_X1_48 : jFL RX1 48 1 11 := ⟨RX1, TX1, 16, rfl, by decide, tw_114, inW1⟩
theorem tw_115 : Cond.fieldLink RX1 51 (TX1 12).1 (TX1 12).2.1 (TX1 12).2.2.1 ∈ jW := jW_of (List.mem_append_right _ (List.mem_of_getElem? (l := tables_1) (i := 115) (by decide +kernel))) rfl
theorem fl_X1_51 : jFL RX1 51 1 12 := ⟨RX1, TX1, 16, rfl, by decide, tw_115, inW1⟩
theorem tw_116 : Cond.fieldLink RX1 54 (TX1 13).1 (TX1 13).2.1 (TX1 13).2.2.1 ∈ jW := jW_of (List.mem_append_right _ (List.mem_of_getElem? (l := tables_1) (i := 116) (by decide +kernel))) rfl
theorem fl_X1_54 : jFL RX1 54 1 13 := ⟨RX1, TX1, 16, rfl, by decide, tw_116, inW1⟩
theorem tw_117 : Cond.fieldLink RX1 57 (TX1 14).1 (TX1 14).2.1 (TX1 14).2.2.1 ∈ jW := jW_of (List.mem_append_right _ (List.mem_of_getElem? (l := tables_1) (i := 117) (by decide +kernel))) rfl
theorem fl_X1_57 : jFL RX1 57 1 14 := ⟨RX1, TX1, 16, rfl, by decide, tw_117, inW1⟩
theorem tw_118 : Cond.fieldLink RX1 60 (TX1 15).1 (TX1 15).2.1 (TX1 15).2.2.1 ∈ jW := jW_of (List.mem_append_right _ (List.mem_of_getElem? (l := tables_1) (i := 118) (by decide +kernel))) rfl
theorem fl_X1_60 : jFL RX1 60 1 15 := ⟨RX1, TX1, 16, rfl, by decide, tw_118, inW1⟩
theorem tw_37 : Cond.fieldLink RX1 63 (TX0 3).1 (TX0 3).2.1 (TX0 3).2.2.1 ∈ jW := jW_of (List.mem_append_right _ (List.mem_of_getElem? (l := tables_1) (i := 37) (by decide +kernel))) rfl
theorem fl_X1_63 : jFL RX1 63 0 3 := ⟨RX0, TX0, 7, rfl, by decide, tw_37, inW0⟩
theorem tw_40 : Cond.fieldLink RX1 66 (TX0 4).1 (TX0 4).2.1 (TX0 4).2.2.1 ∈ jW := jW_of (List.mem_append_right _ (List.mem_of_getElem? (l := tables_1) (i := 40) (by decide +kernel))) rfl
theorem fl_X1_66 : jFL RX1 66 0 4 := ⟨RX0, TX0, 7, rfl, by decide, tw_40, inW0⟩
theorem tw_43 : Cond.fieldLink RX1 73 (TX0 5).1 (TX0 5).2.1 (TX0 5).2.2.1 ∈ jW := jW_of (List.mem_append_right _ (List.mem_of_getElem? (l := tables_1) (i := 43) (by decide +kernel))) rfl
theorem fl_X1_73 : jFL RX1 73 0 5 := ⟨RX0, TX0, 7, rfl, by decide, tw_43, inW0⟩
theorem tw_46 : Cond.fieldLink RX1 74 (TX0 6).1 (TX0 6).2.1 (TX0 6).2.2.1 ∈ jW := jW_of (List.mem_append_right _ (List.mem_of_getElem? (l := tables_1) (i := 46) (by decide +kernel))) rfl
theorem fl_X1_74 : jFL RX1 74 0 6 := ⟨RX0, TX0, 7, rfl, by decide, tw_46, inW0⟩
theorem tw_77 : Cond.fieldLink RX1 85 (TX3 3).1 (TX3 3).2.1 (TX3 3).2.2.1 ∈ jW := jW_of (List.mem_append_right _ (List.mem_of_getElem? (l := tables_1) (i := 77) (by decide +kernel))) rfl
theorem fl_X1_85 : jFL RX1 85 3 3 := ⟨RX3, TX3, 4, rfl, by decide, tw_77, inW3⟩
theorem tw_75 : Cond.fieldLink RX1 90 (TX3 2).1 (TX3 2).2.1 (TX3 2).2.2.1 ∈ jW := jW_of (List.mem_append_right _ (List.mem_of_getElem? (l := tables_1) (i := 75) (by decide +kernel))) rfl
theorem fl_X1_90 : jFL RX1 90 3 2 := ⟨RX3, TX3, 4, rfl, by decide, tw_75, inW3⟩
theorem tw_71 : Cond.fieldLink RX1 92 (TX3 0).1 (TX3 0).2.1 (TX3 0).2.2.1 ∈ jW := jW_of (List.mem_append_right _ (List.mem_of_getElem? (l := tables_1) (i := 71) (by decide +kernel))) rfl
theorem fl_X1_92 : jFL RX1 92 3 0 := ⟨RX3, TX3, 4, rfl, by decide, tw_71, inW3⟩
theorem tw_73 : Cond.fieldLink RX1 95 (TX3 1).1 (TX3 1).2.1 (TX3 1).2.2.1 ∈ jW := jW_of (List.mem_append_right _ (List.mem_of_getElem? (l := tables_1) (i := 73) (by decide +kernel))) rfl
theorem fl_X1_95 : jFL RX1 95 3 1 := ⟨RX3, TX3, 4, rfl, by decide, tw_73, inW3⟩
theorem tw_157 : Cond.fieldLink RX2 9 (TX2 0).1 (TX2 0).2.1 (TX2 0).2.2.1 ∈ jW := jW_of (List.mem_append_right _ (List.mem_of_getElem? (l := tables_1) (i := 157) (by decide +kernel))) rfl
theorem fl_X2_9 : jFL RX2 9 2 0 := ⟨RX2, TX2, 4, rfl, by decide, tw_157, inW2⟩
theorem tw_159 : Cond.fieldLink RX2 15 (TX2 1).1 (TX2 1).2.1 (TX2 1).2.2.1 ∈ jW := jW_of (List.mem_append_right _ (List.mem_of_getElem? (l := tables_1) (i := 159) (by decide +kernel))) rfl
theorem fl_X2_15 : jFL RX2 15 2 1 := ⟨RX2, TX2, 4, rfl, by decide, tw_159, inW2⟩
theorem tw_161 : Cond.fieldLink RX2 19 (TX2 2).1 (TX2 2).2.1 (TX2 2).2.2.1 ∈ jW := jW_of (List.mem_append_right _ (List.mem_of_getElem? (l := tables_1) (i := 161) (by decide +kernel))) rfl
theorem fl_X2_19 : jFL RX2 19 2 2 := ⟨RX2, TX2, 4, rfl, by decide, tw_161, inW2⟩
theorem tw_163 : Cond.fieldLink RX2 22 (TX2 3).1 (TX2 3).2.1 (TX2 3).2.2.1 ∈ jW := jW_of (List.mem_append_right _ (List.mem_of_getElem? (l := tables_1) (i := 163) (by decide +kernel))) rfl
theorem fl_X2_22 : jFL RX2 22 2 3 := ⟨RX2, TX2, 4, rfl, by decide, tw_163, inW2⟩
theorem tw_70 : Cond.fieldLink RX3 9 (TX3 0).1 (TX3 0).2.1 (TX3 0).2.2.1 ∈ jW := jW_of (List.mem_append_right _ (List.mem_of_getElem? (l := tables_1) (i := 70) (by decide +kernel))) rfl
theorem fl_X3_9 : jFL RX3 9 3 0 := ⟨RX3, TX3, 4, rfl, by decide, tw_70, inW3⟩
theorem tw_72 : Cond.fieldLink RX3 15 (TX3 1).1 (TX3 1).2.1 (TX3 1).2.2.1 ∈ jW := jW_of (List.mem_append_right _ (List.mem_of_getElem? (l := tables_1) (i := 72) (by decide +kernel))) rfl
theorem fl_X3_15 : jFL RX3 15 3 1 := ⟨RX3, TX3, 4, rfl, by decide, tw_72, inW3⟩
theorem tw_74 : Cond.fieldLink RX3 18 (TX3 2).1 (TX3 2).2.1 (TX3 2).2.2.1 ∈ jW := jW_of (List.mem_append_right _ (List.mem_of_getElem? (l := tables_1) (i := 74) (by decide +kernel))) rfl
theorem fl_X3_18 : jFL RX3 18 3 2 := ⟨RX3, TX3, 4, rfl, by decide, tw_74, inW3⟩
theorem tw_76 : Cond.fieldLink RX3 21 (TX3 3).1 (TX3 3).2.1 (TX3 3).2.2.1 ∈ jW := jW_of (List.mem_append_right _ (List.mem_of_getElem? (l := tables_1) (i := 76) (by decide +kernel))) rfl
theorem fl_X3_21 : jFL RX3 21 3 3 := ⟨RX3, TX3, 4, rfl, by decide, tw_76, inW3⟩
theorem tw_676 : Cond.fieldLink RX5 7 (TX5 0).1 (TX5 0).2.1 (TX5 0).2.2.1 ∈ jW := jW_of (List.mem_append_right _ (List.mem_of_getElem? (l := tables_1) (i := 676) (by decide +kernel))) rfl
theorem fl_X5_7 : jFL RX5 7 5 0 := ⟨RX5, TX5, 29, rfl, by decide, tw_676, inW5⟩
theorem tw_677 : Cond.fieldLink RX5 13 (TX5 1).1 (TX5 1).2.1 (TX5 1).2.2.1 ∈ jW := jW_of (List.mem_append_right _ (List.mem_of_getElem? (l := tables_1) (i := 677) (by decide +kernel))) rfl
theorem fl_X5_13 : jFL RX5 13 5 1 := ⟨RX5, TX5, 29, rfl, by decide, tw_677, inW5⟩
theorem tw_678 : Cond.fieldLink RX5 16 (TX5 2).1 (TX5 2).2.1 (TX5 2).2.2.1 ∈ jW := jW_of (List.mem_append_right _ (List.mem_of_getElem? (l := tables_1) (i := 678) (by decide +kernel))) rfl
theorem fl_X5_16 : jFL RX5 16 5 2 := ⟨RX5, TX5, 29, rfl, by decide, tw_678, inW5⟩
theorem tw_679 : Cond.fieldLink RX5 19 (TX5 3).1 (TX5 3).2.1 (TX5 3).2.2.1 ∈ jW := jW_of (List.mem_append_right _ (List.mem_of_getElem? (l := tables_1) (i := 679) (by decide +kernel))) rfl
theorem fl_X5_19 : jFL RX5 19 5 3 := ⟨RX5, TX5, 29, rfl, by decide, tw_679, inW5⟩
theorem tw_681 : Cond.fieldLink RX5 22 (TX5 5).1 (TX5 5).2.1 (TX5 5).2.2.1 ∈ jW := jW_of (List.mem_append_right _ (List.mem_of_getElem? (l := tables_1) (i := 681) (by decide +kernel))) rfl
theorem fl_X5_22 : jFL RX5 22 5 5 := ⟨RX5, TX5, 29, rfl, by decide, tw_681, inW5⟩
theorem tw_685 : Cond.fieldLink RX5 25 (TX5 9).1 (TX5 9).2.1 (TX5 9).2.2.1 ∈ jW := jW_of (List.mem_append_right _ (List.mem_of_getElem? (l := tables_1) (i := 685) (by decide +kernel))) rfl
theorem fl_X5_25 : jFL RX5 25 5 9 := ⟨RX5, TX5, 29, rfl, by decide, tw_685, inW5⟩
theorem tw_686 : Cond.fieldLink RX5 28 (TX5 10).1 (TX5 10).2.1 (TX5 10).2.2.1 ∈ jW := jW_of (List.mem_append_right _ (List.mem_of_getElem? (l := tables_1) (i := 686) (by decide +kernel))) rfl
theorem fl_X5_28 : jFL RX5 28 5 10 := ⟨RX5, TX5, 29, rfl, by decide, tw_686, inW5⟩
theorem tw_689 : Cond.fieldLink RX5 31 (TX5 13).1 (TX5 13).2.1 (TX5 13).2.2.1 ∈ jW := jW_of (List.mem_append_right _ (List.mem_of_getElem? (l := tables_1) (i := 689) (by decide +kernel))) rfl
theorem fl_X5_31 : jFL RX5 31 5 13 := ⟨RX5, TX5, 29, rfl, by decide, tw_689, inW5⟩
theorem tw_690 : Cond.fieldLink RX5 34 (TX5 14).1 (TX5 14).2.1 (TX5 14).2.2.1 ∈ jW := jW_of (List.mem_append_right _ (List.mem_of_getElem? (l := tables_1) (i := 690) (by decide +kernel))) rfl
theorem fl_X5_34 : jFL RX5 34 5 14 := ⟨RX5, TX5, 29, rfl, by decide, tw_690, inW5⟩
theorem tw_691 : Cond.fieldLink RX5 37 (TX5 15).1 (TX5 15).2.1 (TX5 15).2.2.1 ∈ jW := jW_of (List.mem_append_right _ (List.mem_of_getElem? (l := tables_1) (i := 691) (by decide +kernel))) rfl
theorem fl_X5_37 : jFL RX5 37 5 15 := ⟨RX5, TX5, 29, rfl, by decide, tw_691, inW5⟩
theorem tw_692 : Cond.fieldLink RX5 40 (TX5 16).1 (TX5 16).2.1 (TX5 16).2.2.1 ∈ jW := jW_of (List.mem_append_right _ (List.mem_of_getElem? (l := tables_1) (i := 692) (by decide +kernel))) rfl
theorem fl_X5_40 : jFL RX5 40 5 16 := ⟨RX5, TX5, 29, rfl, by decide, tw_692, inW5⟩
theorem tw_693 : Cond.fieldLink RX5 43 (TX5 17).1 (TX5 17).2.1 (TX5 17).2.2.1 ∈ jW := jW_of (List.mem_append_right _ (List.mem_of_getElem? (l := tables_1) (i := 693) (by decide +kernel))) rfl
theorem fl_X5_43 : jFL RX5 43 5 17 := ⟨RX5, TX5, 29, rfl, by decide, tw_693, inW5⟩
theorem tw_694 : Cond.fieldLink RX5 46 (TX5 18).1 (TX5 18).2.1 (TX5 18).2.2.1 ∈ jW := jW_of (List.mem_append_right _ (List.mem_of_getElem? (l := tables_1) (i := 694) (by decide +kernel))) rfl
theorem fl_X5_46 : jFL RX5 46 5 18 := ⟨RX5, TX5, 29, rfl, by decide, tw_694, inW5⟩
theorem tw_695 : Cond.fieldLink RX5 49 (TX5 19).1 (TX5 19).2.1 (TX5 19).2.2.1 ∈ jW := jW_of (List.mem_append_right _ (List.mem_of_getElem? (l := tables_1) (i := 695) (by decide +kernel))) rfl
theorem fl_X5_49 : jFL RX5 49 5 19 := ⟨RX5, TX5, 29, rfl, by decide, tw_695, inW5⟩
theorem tw_696 : Cond.fieldLink RX5 52 (TX5 20).1 (TX5 20).2.1 (TX5 20).2.2.1 ∈ jW := jW_of (List.mem_append_right _ (List.mem_of_getElem? (l := tables_1) (i := 696) (by decide +kernel))) rfl
theorem fl_X5_52 : jFL RX5 52 5 20 := ⟨RX5, TX5, 29, rfl, by decide, tw_696, inW5⟩
theorem tw_698 : Cond.fieldLink RX5 55 (TX5 22).1 (TX5 22).2.1 (TX5 22).2.2.1 ∈ jW := jW_of (List.mem_append_right _ (List.mem_of_getElem? (l := tables_1) (i := 698) (by decide +kernel))) rfl
theorem fl_X5_55 : jFL RX5 55 5 22 := ⟨RX5, TX5, 29, rfl, by decide, tw_698, inW5⟩
theorem tw_699 : Cond.fieldLink RX5 58 (TX5 23).1 (TX5 23).2.1 (TX5 23).2.2.1 ∈ jW := jW_of (List.mem_append_right _ (List.mem_of_getElem? (l := tables_1) (i := 699) (by decide +kernel))) rfl
theorem fl_X5_58 : jFL RX5 58 5 23 := ⟨RX5, TX5, 29, rfl, by decide, tw_699, inW5⟩
theorem tw_700 : Cond.fieldLink RX5 61 (TX5 24).1 (TX5 24).2.1 (TX5 24).2.2.1 ∈ jW := jW_of (List.mem_append_right _ (List.mem_of_getElem? (l := tables_1) (i := 700) (by decide +kernel))) rfl
theorem fl_X5_61 : jFL RX5 61 5 24 := ⟨RX5, TX5, 29, rfl, by decide, tw_700, inW5⟩
theorem tw_701 : Cond.fieldLink RX5 64 (TX5 25).1 (TX5 25).2.1 (TX5 25).2.2.1 ∈ jW := jW_of (List.mem_append_right _ (List.mem_of_getElem? (l := tables_1) (i := 701) (by decide +kernel))) rfl
theorem fl_X5_64 : jFL RX5 64 5 25 := ⟨RX5, TX5, 29, rfl, by decide, tw_701, inW5⟩
theorem tw_703 : Cond.fieldLink RX5 67 (TX5 27).1 (TX5 27).2.1 (TX5 27).2.2.1 ∈ jW := jW_of (List.mem_append_right _ (List.mem_of_getElem? (l := tables_1) (i := 703) (by decide +kernel))) rfl
theorem fl_X5_67 : jFL RX5 67 5 27 := ⟨RX5, TX5, 29, rfl, by decide, tw_703, inW5⟩
theorem tw_704 : Cond.fieldLink RX5 70 (TX5 28).1 (TX5 28).2.1 (TX5 28).2.2.1 ∈ jW := jW_of (List.mem_append_right _ (List.mem_of_getElem? (l := tables_1) (i := 704) (by decide +kernel))) rfl
theorem fl_X5_70 : jFL RX5 70 5 28 := ⟨RX5, TX5, 29, rfl, by decide, tw_704, inW5⟩
theorem tw_680 : Cond.fieldLink RX5 79 (TX5 4).1 (TX5 4).2.1 (TX5 4).2.2.1 ∈ jW := jW_of (List.mem_append_right _ (List.mem_of_getElem? (l := tables_1) (i := 680) (by decide +kernel))) rfl
theorem fl_X5_79 : jFL RX5 79 5 4 := ⟨RX5, TX5, 29, rfl, by decide, tw_680, inW5⟩
theorem tw_682 : Cond.fieldLink RX5 106 (TX5 6).1 (TX5 6).2.1 (TX5 6).2.2.1 ∈ jW := jW_of (List.mem_append_right _ (List.mem_of_getElem? (l := tables_1) (i := 682) (by decide +kernel))) rfl
theorem fl_X5_106 : jFL RX5 106 5 6 := ⟨RX5, TX5, 29, rfl, by decide, tw_682, inW5⟩
theorem tw_684 : Cond.fieldLink RX5 109 (TX5 8).1 (TX5 8).2.1 (TX5 8).2.2.1 ∈ jW := jW_of (List.mem_append_right _ (List.mem_of_getElem? (l := tables_1) (i := 684) (by decide +kernel))) rfl
theorem fl_X5_109 : jFL RX5 109 5 8 := ⟨RX5, TX5, 29, rfl, by decide, tw_684, inW5⟩
theorem tw_683 : Cond.fieldLink RX5 112 (TX5 7).1 (TX5 7).2.1 (TX5 7).2.2.1 ∈ jW := jW_of (List.mem_append_right _ (List.mem_of_getElem? (l := tables_1) (i := 683) (by decide +kernel))) rfl
theorem fl_X5_112 : jFL RX5 112 5 7 := ⟨RX5, TX5, 29, rfl, by decide, tw_683, inW5⟩
theorem tw_687 : Cond.fieldLink RX5 142 (TX5 11).1 (TX5 11).2.1 (TX5 11).2.2.1 ∈ jW := jW_of (List.mem_append_right _ (List.mem_of_getElem? (l := tables_1) (i := 687) (by decide +kernel))) rfl
theorem fl_X5_142 : jFL RX5 142 5 11 := ⟨RX5, TX5, 29, rfl, by decide, tw_687, inW5⟩
theorem tw_688 : Cond.fieldLink RX5 148 (TX5 12).1 (TX5 12).2.1 (TX5 12).2.2.1 ∈ jW := jW_of (List.mem_append_right _ (List.mem_of_getElem? (l := tables_1) (i := 688) (by decide +kernel))) rfl
theorem fl_X5_148 : jFL RX5 148 5 12 := ⟨RX5, TX5, 29, rfl, by decide, tw_688, inW5⟩
theorem tw_697 : Cond.fieldLink RX5 154 (TX5 21).1 (TX5 21).2.1 (TX5 21).2.2.1 ∈ jW := jW_of (List.mem_append_right _ (List.mem_of_getElem? (l := tables_1) (i := 697) (by decide +kernel))) rfl
theorem fl_X5_154 : jFL RX5 154 5 21 := ⟨RX5, TX5, 29, rfl, by decide, tw_697, inW5⟩
theorem tw_702 : Cond.fieldLink RX5 236 (TX5 26).1 (TX5 26).2.1 (TX5 26).2.2.1 ∈ jW := jW_of (List.mem_append_right _ (List.mem_of_getElem? (l := tables_1) (i := 702) (by decide +kernel))) rfl
theorem fl_X5_236 : jFL RX5 236 5 26 := ⟨RX5, TX5, 29, rfl, by decide, tw_702, inW5⟩
theorem ft_0_1 : jFT 0 1 .int := ⟨RX0, TX0, 7, tyX0, rfl, by decide, rfl, by decide +kernel, tyX0_ok, nmX0⟩
theorem ft_0_2 : jFT 0 2 .int := ⟨RX0, TX0, 7, tyX0, rfl, by decide, rfl, by decide +kernel, tyX0_ok, nmX0⟩
theorem ft_0_3 : jFT 0 3 .int := ⟨RX0, TX0, 7, tyX0, rfl, by decide, rfl, by decide +kernel, tyX0_ok, nmX0⟩
theorem ft_1_0 : jFT 1 0 .int := ⟨RX1, TX1, 16, tyX1, rfl, by decide, rfl, by decide +kernel, tyX1_ok, nmX1⟩
theorem ft_1_5 : jFT 1 5 .int := ⟨RX1, TX1, 16, tyX1, rfl, by decide, rfl, by decide +kernel, tyX1_ok, nmX1⟩
theorem ft_1_13 : jFT 1 13 .int := ⟨RX1, TX1, 16, tyX1, rfl, by decide, rfl, by decide +kernel, tyX1_ok, nmX1⟩
theorem ft_1_14 : jFT 1 14 .int := ⟨RX1, TX1, 16, tyX1, rfl, by decide, rfl, by decide +kernel, tyX1_ok, nmX1⟩
theorem ft_1_15 : jFT 1 15 .int := ⟨RX1, TX1, 16, tyX1, rfl, by decide, rfl, by decide +kernel, tyX1_ok, nmX1⟩
theorem ft_2_0 : jFT 2 0 .boolean := ⟨RX2, TX2, 4, tyX2, rfl, by decide, rfl, by decide +kernel, tyX2_ok, nmX2⟩
theorem ft_2_1 : jFT 2 1 .int := ⟨RX2, TX2, 4, tyX2, rfl, by decide, rfl, by decide +kernel, tyX2_ok, nmX2⟩
theorem ft_2_2 : jFT 2 2 .int := ⟨RX2, TX2, 4, tyX2, rfl, by decide, rfl, by decide +kernel, tyX2_ok, nmX2⟩
theorem ft_3_3 : jFT 3 3 .int := ⟨RX3, TX3, 4, tyX3, rfl, by decide, rfl, by decide +kernel, tyX3_ok, nmX3⟩
theorem ft_4_2 : jFT 4 2 .int := ⟨RX4, TX4, 16, tyX4, rfl, by decide, rfl, by decide +kernel, tyX4_ok, nmX4⟩
theorem ft_4_6 : jFT 4 6 .int := ⟨RX4, TX4, 16, tyX4, rfl, by decide, rfl, by decide +kernel, tyX4_ok, nmX4⟩
theorem ft_4_8 : jFT 4 8 .int := ⟨RX4, TX4, 16, tyX4, rfl, by decide, rfl, by decide +kernel, tyX4_ok, nmX4⟩
theorem ft_4_10 : jFT 4 10 .boolean := ⟨RX4, TX4, 16, tyX4, rfl, by decide, rfl, by decide +kernel, tyX4_ok, nmX4⟩
theorem ft_5_4 : jFT 5 4 .int := ⟨RX5, TX5, 29, tyX5, rfl, by decide, rfl, by decide +kernel, tyX5_ok, nmX5⟩
theorem ft_5_6 : jFT 5 6 .int := ⟨RX5, TX5, 29, tyX5, rfl, by decide, rfl, by decide +kernel, tyX5_ok, nmX5⟩
theorem ft_5_7 : jFT 5 7 .int := ⟨RX5, TX5, 29, tyX5, rfl, by decide, rfl, by decide +kernel, tyX5_ok, nmX5⟩
theorem ft_5_8 : jFT 5 8 .int := ⟨RX5, TX5, 29, tyX5, rfl, by decide, rfl, by decide +kernel, tyX5_ok, nmX5⟩
theorem ft_5_11 : jFT 5 11 .int := ⟨RX5, TX5, 29, tyX5, rfl, by decide, rfl, by decide +kernel, tyX5_ok, nmX5⟩
theorem ft_5_12 : jFT 5 12 .int := ⟨RX5, TX5, 29, tyX5, rfl, by decide, rfl, by decide +kernel, tyX5_ok, nmX5⟩
theorem ft_5_21 : jFT 5 21 .int := ⟨RX5, TX5, 29, tyX5, rfl, by decide, rfl, by decide +kernel, tyX5_ok, nmX5⟩
theorem ft_5_26 : jFT 5 26 .int := ⟨RX5, TX5, 29, tyX5, rfl, by decide, rfl, by decide +kernel, tyX5_ok, nmX5⟩
theorem tw_227 : Cond.methodLink RX4 82 yX4_lengthen ∈ jW := jW_of (List.mem_append_right _ (List.mem_of_getElem? (l := tables_1) (i := 227) (by decide +kernel))) rfl
theorem tw_1 : Cond.initialized RX4 ∈ jW := jW_of (List.mem_append_right _ (List.mem_of_getElem? (l := tables_1) (i := 1) (by decide +kernel))) rfl
theorem tw_230 : Cond.code yX4_lengthen cX4_lengthen 2 (some .int) ∈ jW := jW_of (List.mem_append_right _ (List.mem_of_getElem? (l := tables_1) (i := 230) (by decide +kernel))) rfl
theorem tw_229 : Cond.instanceMethod yX4_lengthen ∈ jW := jW_of (List.mem_append_right _ (List.mem_of_getElem? (l := tables_1) (i := 229) (by decide +kernel))) rfl
theorem ts_0 : Cond.selects RX4 yX4_lengthen yX4_lengthen ∈ jW := jW_of (List.mem_append_left _ (List.mem_of_getElem? (l := k2_sels lw_privs) (i := 0) (by decide +kernel))) rfl
theorem lk_X4_82 : jLv RX4 82 mX4_lengthen 1 := ⟨⟨tw_227, tw_1, tw_230, by decide +kernel⟩, tw_229, ts_0⟩
theorem tw_346 : Cond.methodLink RX4 89 yX4_isBox ∈ jW := jW_of (List.mem_append_right _ (List.mem_of_getElem? (l := tables_1) (i := 346) (by decide +kernel))) rfl
theorem tw_349 : Cond.code yX4_isBox cX4_isBox 2 (some .boolean) ∈ jW := jW_of (List.mem_append_right _ (List.mem_of_getElem? (l := tables_1) (i := 349) (by decide +kernel))) rfl
theorem tw_348 : Cond.instanceMethod yX4_isBox ∈ jW := jW_of (List.mem_append_right _ (List.mem_of_getElem? (l := tables_1) (i := 348) (by decide +kernel))) rfl
theorem ts_2 : Cond.selects RX4 yX4_isBox yX4_isBox ∈ jW := jW_of (List.mem_append_left _ (List.mem_of_getElem? (l := k2_sels lw_privs) (i := 2) (by decide +kernel))) rfl
theorem lk_X4_89 : jLv RX4 89 mX4_isBox 1 := ⟨⟨tw_346, tw_1, tw_349, by decide +kernel⟩, tw_348, ts_2⟩
theorem tw_354 : Cond.methodLink RX4 102 yX4_isNumber ∈ jW := jW_of (List.mem_append_right _ (List.mem_of_getElem? (l := tables_1) (i := 354) (by decide +kernel))) rfl
theorem tw_356 : Cond.code yX4_isNumber cX4_isNumber 1 (some .boolean) ∈ jW := jW_of (List.mem_append_right _ (List.mem_of_getElem? (l := tables_1) (i := 356) (by decide +kernel))) rfl
theorem tw_355 : Cond.static yX4_isNumber ∈ jW := jW_of (List.mem_append_right _ (List.mem_of_getElem? (l := tables_1) (i := 355) (by decide +kernel))) rfl
theorem lk_X4_102 : jLs RX4 102 mX4_isNumber 1 := ⟨⟨tw_354, tw_1, tw_356, by decide +kernel⟩, tw_355⟩
theorem tw_361 : Cond.methodLink RX4 105 yX4_exchange ∈ jW := jW_of (List.mem_append_right _ (List.mem_of_getElem? (l := tables_1) (i := 361) (by decide +kernel))) rfl
theorem tw_363 : Cond.code yX4_exchange cX4_exchange 4 none ∈ jW := jW_of (List.mem_append_right _ (List.mem_of_getElem? (l := tables_1) (i := 363) (by decide +kernel))) rfl
theorem tw_362 : Cond.static yX4_exchange ∈ jW := jW_of (List.mem_append_right _ (List.mem_of_getElem? (l := tables_1) (i := 362) (by decide +kernel))) rfl
theorem lk_X4_105 : jLs RX4 105 mX4_exchange 3 := ⟨⟨tw_361, tw_1, tw_363, by decide +kernel⟩, tw_362⟩
theorem tw_372 : Cond.methodLink RX4 109 yX3_mayBe ∈ jW := jW_of (List.mem_append_right _ (List.mem_of_getElem? (l := tables_1) (i := 372) (by decide +kernel))) rfl
theorem tw_3 : Cond.initialized RX3 ∈ jW := jW_of (List.mem_append_right _ (List.mem_of_getElem? (l := tables_1) (i := 3) (by decide +kernel))) rfl
theorem tw_374 : Cond.code yX3_mayBe cX3_mayBe 3 (some .boolean) ∈ jW := jW_of (List.mem_append_right _ (List.mem_of_getElem? (l := tables_1) (i := 374) (by decide +kernel))) rfl
theorem tw_373 : Cond.static yX3_mayBe ∈ jW := jW_of (List.mem_append_right _ (List.mem_of_getElem? (l := tables_1) (i := 373) (by decide +kernel))) rfl
theorem lk_X4_109 : jLs RX4 109 mX3_mayBe 3 := ⟨⟨tw_372, tw_3, tw_374, by decide +kernel⟩, tw_373⟩
theorem tw_379 : Cond.methodLink RX4 116 yX3_add ∈ jW := jW_of (List.mem_append_right _ (List.mem_of_getElem? (l := tables_1) (i := 379) (by decide +kernel))) rfl
theorem tw_382 : Cond.code yX3_add cX3_add 4 none ∈ jW := jW_of (List.mem_append_right _ (List.mem_of_getElem? (l := tables_1) (i := 382) (by decide +kernel))) rfl
theorem tw_380 : Cond.instanceMethod yX3_add ∈ jW := jW_of (List.mem_append_right _ (List.mem_of_getElem? (l := tables_1) (i := 380) (by decide +kernel))) rfl
theorem tw_381 : Cond.selects RX3 yX3_add yX3_add ∈ jW := jW_of (List.mem_append_right _ (List.mem_of_getElem? (l := tables_1) (i := 381) (by decide +kernel))) rfl
theorem lk_X4_116 : jLv RX4 116 mX3_add 3 := ⟨⟨tw_379, tw_3, tw_382, by decide +kernel⟩, tw_380, tw_381⟩
theorem tw_391 : Cond.methodLink RX4 120 yX4_isSheet ∈ jW := jW_of (List.mem_append_right _ (List.mem_of_getElem? (l := tables_1) (i := 391) (by decide +kernel))) rfl
theorem tw_393 : Cond.code yX4_isSheet cX4_isSheet 1 (some .boolean) ∈ jW := jW_of (List.mem_append_right _ (List.mem_of_getElem? (l := tables_1) (i := 393) (by decide +kernel))) rfl
theorem tw_392 : Cond.static yX4_isSheet ∈ jW := jW_of (List.mem_append_right _ (List.mem_of_getElem? (l := tables_1) (i := 392) (by decide +kernel))) rfl
theorem lk_X4_120 : jLs RX4 120 mX4_isSheet 1 := ⟨⟨tw_391, tw_1, tw_393, by decide +kernel⟩, tw_392⟩
theorem tw_394 : Cond.methodLink RX4 126 yX4_finding ∈ jW := jW_of (List.mem_append_right _ (List.mem_of_getElem? (l := tables_1) (i := 394) (by decide +kernel))) rfl
theorem tw_397 : Cond.code yX4_finding cX4_finding 2 (some .int) ∈ jW := jW_of (List.mem_append_right _ (List.mem_of_getElem? (l := tables_1) (i := 397) (by decide +kernel))) rfl
theorem tw_396 : Cond.instanceMethod yX4_finding ∈ jW := jW_of (List.mem_append_right _ (List.mem_of_getElem? (l := tables_1) (i := 396) (by decide +kernel))) rfl
theorem ts_3 : Cond.selects RX4 yX4_finding yX4_finding ∈ jW := jW_of (List.mem_append_left _ (List.mem_of_getElem? (l := k2_sels lw_privs) (i := 3) (by decide +kernel))) rfl
theorem lk_X4_126 : jLv RX4 126 mX4_finding 1 := ⟨⟨tw_394, tw_1, tw_397, by decide +kernel⟩, tw_396, ts_3⟩
theorem tw_398 : Cond.methodLink RX4 133 yX4_tell ∈ jW := jW_of (List.mem_append_right _ (List.mem_of_getElem? (l := tables_1) (i := 398) (by decide +kernel))) rfl
theorem tw_371 : Cond.code yX4_tell cX4_tell 4 (some .int) ∈ jW := jW_of (List.mem_append_right _ (List.mem_of_getElem? (l := tables_1) (i := 371) (by decide +kernel))) rfl
theorem tw_369 : Cond.instanceMethod yX4_tell ∈ jW := jW_of (List.mem_append_right _ (List.mem_of_getElem? (l := tables_1) (i := 369) (by decide +kernel))) rfl
theorem tw_370 : Cond.selects RX4 yX4_tell yX4_tell ∈ jW := jW_of (List.mem_append_right _ (List.mem_of_getElem? (l := tables_1) (i := 370) (by decide +kernel))) rfl
theorem lk_X4_133 : jLv RX4 133 mX4_tell 3 := ⟨⟨tw_398, tw_1, tw_371, by decide +kernel⟩, tw_369, tw_370⟩
theorem tw_403 : Cond.methodLink RX4 137 yX4_isStep ∈ jW := jW_of (List.mem_append_right _ (List.mem_of_getElem? (l := tables_1) (i := 403) (by decide +kernel))) rfl
theorem tw_377 : Cond.code yX4_isStep cX4_isStep 1 (some .boolean) ∈ jW := jW_of (List.mem_append_right _ (List.mem_of_getElem? (l := tables_1) (i := 377) (by decide +kernel))) rfl
theorem tw_376 : Cond.static yX4_isStep ∈ jW := jW_of (List.mem_append_right _ (List.mem_of_getElem? (l := tables_1) (i := 376) (by decide +kernel))) rfl
theorem lk_X4_137 : jLs RX4 137 mX4_isStep 1 := ⟨⟨tw_403, tw_1, tw_377, by decide +kernel⟩, tw_376⟩
theorem tw_404 : Cond.methodLink RX4 140 yX4_isEither ∈ jW := jW_of (List.mem_append_right _ (List.mem_of_getElem? (l := tables_1) (i := 404) (by decide +kernel))) rfl
theorem tw_406 : Cond.code yX4_isEither cX4_isEither 1 (some .boolean) ∈ jW := jW_of (List.mem_append_right _ (List.mem_of_getElem? (l := tables_1) (i := 406) (by decide +kernel))) rfl
theorem tw_405 : Cond.static yX4_isEither ∈ jW := jW_of (List.mem_append_right _ (List.mem_of_getElem? (l := tables_1) (i := 405) (by decide +kernel))) rfl
theorem lk_X4_140 : jLs RX4 140 mX4_isEither 1 := ⟨⟨tw_404, tw_1, tw_406, by decide +kernel⟩, tw_405⟩
theorem tw_407 : Cond.methodLink RX4 143 yX4_runAsTold ∈ jW := jW_of (List.mem_append_right _ (List.mem_of_getElem? (l := tables_1) (i := 407) (by decide +kernel))) rfl
theorem tw_410 : Cond.code yX4_runAsTold cX4_runAsTold 1 none ∈ jW := jW_of (List.mem_append_right _ (List.mem_of_getElem? (l := tables_1) (i := 410) (by decide +kernel))) rfl
theorem tw_409 : Cond.instanceMethod yX4_runAsTold ∈ jW := jW_of (List.mem_append_right _ (List.mem_of_getElem? (l := tables_1) (i := 409) (by decide +kernel))) rfl
theorem ts_4 : Cond.selects RX4 yX4_runAsTold yX4_runAsTold ∈ jW := jW_of (List.mem_append_left _ (List.mem_of_getElem? (l := k2_sels lw_privs) (i := 4) (by decide +kernel))) rfl
theorem lk_X4_143 : jLv RX4 143 mX4_runAsTold 0 := ⟨⟨tw_407, tw_1, tw_410, by decide +kernel⟩, tw_409, ts_4⟩
theorem tw_458 : Cond.methodLink RX4 152 yJ6_bitCount_0f7a4 ∈ jW := jW_of (List.mem_append_right _ (List.mem_of_getElem? (l := tables_1) (i := 458) (by decide +kernel))) rfl
theorem tw_15 : Cond.initialized RJ6 ∈ jW := jW_of (List.mem_append_right _ (List.mem_of_getElem? (l := tables_1) (i := 15) (by decide +kernel))) rfl
theorem tw_438 : Cond.code yJ6_bitCount_0f7a4 cJ6_bitCount_0f7a4 1 (some .int) ∈ jW := jW_of (List.mem_append_right _ (List.mem_of_getElem? (l := tables_1) (i := 438) (by decide +kernel))) rfl
theorem tw_437 : Cond.static yJ6_bitCount_0f7a4 ∈ jW := jW_of (List.mem_append_right _ (List.mem_of_getElem? (l := tables_1) (i := 437) (by decide +kernel))) rfl
theorem lk_X4_152 : jLs RX4 152 mJ6_bitCount_0f7a4 1 := ⟨⟨tw_458, tw_15, tw_438, by decide +kernel⟩, tw_437⟩
theorem tw_471 : Cond.methodLink RX4 157 yX4_spread ∈ jW := jW_of (List.mem_append_right _ (List.mem_of_getElem? (l := tables_1) (i := 471) (by decide +kernel))) rfl
theorem tw_473 : Cond.code yX4_spread cX4_spread 2 (some .int) ∈ jW := jW_of (List.mem_append_right _ (List.mem_of_getElem? (l := tables_1) (i := 473) (by decide +kernel))) rfl
theorem tw_472 : Cond.static yX4_spread ∈ jW := jW_of (List.mem_append_right _ (List.mem_of_getElem? (l := tables_1) (i := 472) (by decide +kernel))) rfl
theorem lk_X4_157 : jLs RX4 157 mX4_spread 2 := ⟨⟨tw_471, tw_1, tw_473, by decide +kernel⟩, tw_472⟩
theorem tw_411 : Cond.methodLink RX4 161 yX1_load ∈ jW := jW_of (List.mem_append_right _ (List.mem_of_getElem? (l := tables_1) (i := 411) (by decide +kernel))) rfl
theorem tw_4 : Cond.initialized RX1 ∈ jW := jW_of (List.mem_append_right _ (List.mem_of_getElem? (l := tables_1) (i := 4) (by decide +kernel))) rfl
theorem tw_414 : Cond.code yX1_load cX1_load 6 none ∈ jW := jW_of (List.mem_append_right _ (List.mem_of_getElem? (l := tables_1) (i := 414) (by decide +kernel))) rfl
theorem tw_412 : Cond.instanceMethod yX1_load ∈ jW := jW_of (List.mem_append_right _ (List.mem_of_getElem? (l := tables_1) (i := 412) (by decide +kernel))) rfl
theorem tw_413 : Cond.selects RX1 yX1_load yX1_load ∈ jW := jW_of (List.mem_append_right _ (List.mem_of_getElem? (l := tables_1) (i := 413) (by decide +kernel))) rfl
theorem lk_X4_161 : jLv RX4 161 mX1_load 4 := ⟨⟨tw_411, tw_4, tw_414, by decide +kernel⟩, tw_412, tw_413⟩
theorem tw_482 : Cond.methodLink RX4 165 yX0_allBits ∈ jW := jW_of (List.mem_append_right _ (List.mem_of_getElem? (l := tables_1) (i := 482) (by decide +kernel))) rfl
theorem tw_2 : Cond.initialized RX0 ∈ jW := jW_of (List.mem_append_right _ (List.mem_of_getElem? (l := tables_1) (i := 2) (by decide +kernel))) rfl
theorem tw_485 : Cond.code yX0_allBits cX0_allBits 1 (some .int) ∈ jW := jW_of (List.mem_append_right _ (List.mem_of_getElem? (l := tables_1) (i := 485) (by decide +kernel))) rfl
theorem tw_483 : Cond.instanceMethod yX0_allBits ∈ jW := jW_of (List.mem_append_right _ (List.mem_of_getElem? (l := tables_1) (i := 483) (by decide +kernel))) rfl
theorem tw_484 : Cond.selects RX0 yX0_allBits yX0_allBits ∈ jW := jW_of (List.mem_append_right _ (List.mem_of_getElem? (l := tables_1) (i := 484) (by decide +kernel))) rfl
theorem lk_X4_165 : jLv RX4 165 mX0_allBits 0 := ⟨⟨tw_482, tw_2, tw_485, by decide +kernel⟩, tw_483, tw_484⟩
theorem tw_486 : Cond.methodLink RX4 169 yX4_isHushed ∈ jW := jW_of (List.mem_append_right _ (List.mem_of_getElem? (l := tables_1) (i := 486) (by decide +kernel))) rfl
theorem tw_489 : Cond.code yX4_isHushed cX4_isHushed 3 (some .boolean) ∈ jW := jW_of (List.mem_append_right _ (List.mem_of_getElem? (l := tables_1) (i := 489) (by decide +kernel))) rfl
theorem tw_488 : Cond.instanceMethod yX4_isHushed ∈ jW := jW_of (List.mem_append_right _ (List.mem_of_getElem? (l := tables_1) (i := 488) (by decide +kernel))) rfl
theorem ts_7 : Cond.selects RX4 yX4_isHushed yX4_isHushed ∈ jW := jW_of (List.mem_append_left _ (List.mem_of_getElem? (l := k2_sels lw_privs) (i := 7) (by decide +kernel))) rfl
theorem lk_X4_169 : jLv RX4 169 mX4_isHushed 2 := ⟨⟨tw_486, tw_1, tw_489, by decide +kernel⟩, tw_488, ts_7⟩
theorem tw_494 : Cond.methodLink RX4 176 yX4_findShelf ∈ jW := jW_of (List.mem_append_right _ (List.mem_of_getElem? (l := tables_1) (i := 494) (by decide +kernel))) rfl
theorem tw_497 : Cond.code yX4_findShelf cX4_findShelf 7 (some .int) ∈ jW := jW_of (List.mem_append_right _ (List.mem_of_getElem? (l := tables_1) (i := 497) (by decide +kernel))) rfl
theorem tw_496 : Cond.instanceMethod yX4_findShelf ∈ jW := jW_of (List.mem_append_right _ (List.mem_of_getElem? (l := tables_1) (i := 496) (by decide +kernel))) rfl
theorem ts_8 : Cond.selects RX4 yX4_findShelf yX4_findShelf ∈ jW := jW_of (List.mem_append_left _ (List.mem_of_getElem? (l := k2_sels lw_privs) (i := 8) (by decide +kernel))) rfl
theorem lk_X4_176 : jLv RX4 176 mX4_findShelf 2 := ⟨⟨tw_494, tw_1, tw_497, by decide +kernel⟩, tw_496, ts_8⟩
theorem tw_520 : Cond.methodLink RX4 180 yX4_findFitting ∈ jW := jW_of (List.mem_append_right _ (List.mem_of_getElem? (l := tables_1) (i := 520) (by decide +kernel))) rfl
theorem tw_523 : Cond.code yX4_findFitting cX4_findFitting 5 (some .int) ∈ jW := jW_of (List.mem_append_right _ (List.mem_of_getElem? (l := tables_1) (i := 523) (by decide +kernel))) rfl
theorem tw_522 : Cond.instanceMethod yX4_findFitting ∈ jW := jW_of (List.mem_append_right _ (List.mem_of_getElem? (l := tables_1) (i := 522) (by decide +kernel))) rfl
theorem ts_10 : Cond.selects RX4 yX4_findFitting yX4_findFitting ∈ jW := jW_of (List.mem_append_left _ (List.mem_of_getElem? (l := k2_sels lw_privs) (i := 10) (by decide +kernel))) rfl
theorem lk_X4_180 : jLv RX4 180 mX4_findFitting 1 := ⟨⟨tw_520, tw_1, tw_523, by decide +kernel⟩, tw_522, ts_10⟩
theorem tw_524 : Cond.methodLink RX4 183 yX4_lastHeardStep ∈ jW := jW_of (List.mem_append_right _ (List.mem_of_getElem? (l := tables_1) (i := 524) (by decide +kernel))) rfl
theorem tw_527 : Cond.code yX4_lastHeardStep cX4_lastHeardStep 3 (some .int) ∈ jW := jW_of (List.mem_append_right _ (List.mem_of_getElem? (l := tables_1) (i := 527) (by decide +kernel))) rfl
theorem tw_526 : Cond.instanceMethod yX4_lastHeardStep ∈ jW := jW_of (List.mem_append_right _ (List.mem_of_getElem? (l := tables_1) (i := 526) (by decide +kernel))) rfl
theorem ts_11 : Cond.selects RX4 yX4_lastHeardStep yX4_lastHeardStep ∈ jW := jW_of (List.mem_append_left _ (List.mem_of_getElem? (l := k2_sels lw_privs) (i := 11) (by decide +kernel))) rfl
theorem lk_X4_183 : jLv RX4 183 mX4_lastHeardStep 0 := ⟨⟨tw_524, tw_1, tw_527, by decide +kernel⟩, tw_526, ts_11⟩
theorem tw_425 : Cond.methodLink RX4 187 yX1_run ∈ jW := jW_of (List.mem_append_right _ (List.mem_of_getElem? (l := tables_1) (i := 425) (by decide +kernel))) rfl
theorem tw_428 : Cond.code yX1_run cX1_run 3 none ∈ jW := jW_of (List.mem_append_right _ (List.mem_of_getElem? (l := tables_1) (i := 428) (by decide +kernel))) rfl
theorem tw_426 : Cond.instanceMethod yX1_run ∈ jW := jW_of (List.mem_append_right _ (List.mem_of_getElem? (l := tables_1) (i := 426) (by decide +kernel))) rfl
theorem tw_427 : Cond.selects RX1 yX1_run yX1_run ∈ jW := jW_of (List.mem_append_right _ (List.mem_of_getElem? (l := tables_1) (i := 427) (by decide +kernel))) rfl
theorem lk_X4_187 : jLv RX4 187 mX1_run 1 := ⟨⟨tw_425, tw_4, tw_428, by decide +kernel⟩, tw_426, tw_427⟩
theorem tw_533 : Cond.methodLink RX4 191 yX4_isAsHeard ∈ jW := jW_of (List.mem_append_right _ (List.mem_of_getElem? (l := tables_1) (i := 533) (by decide +kernel))) rfl
theorem tw_536 : Cond.code yX4_isAsHeard cX4_isAsHeard 2 (some .boolean) ∈ jW := jW_of (List.mem_append_right _ (List.mem_of_getElem? (l := tables_1) (i := 536) (by decide +kernel))) rfl
theorem tw_535 : Cond.instanceMethod yX4_isAsHeard ∈ jW := jW_of (List.mem_append_right _ (List.mem_of_getElem? (l := tables_1) (i := 535) (by decide +kernel))) rfl
theorem ts_12 : Cond.selects RX4 yX4_isAsHeard yX4_isAsHeard ∈ jW := jW_of (List.mem_append_left _ (List.mem_of_getElem? (l := k2_sels lw_privs) (i := 12) (by decide +kernel))) rfl
theorem lk_X4_191 : jLv RX4 191 mX4_isAsHeard 0 := ⟨⟨tw_533, tw_1, tw_536, by decide +kernel⟩, tw_535, ts_12⟩
theorem tw_545 : Cond.methodLink RX4 195 yX4_greatestAlike ∈ jW := jW_of (List.mem_append_right _ (List.mem_of_getElem? (l := tables_1) (i := 545) (by decide +kernel))) rfl
theorem tw_548 : Cond.code yX4_greatestAlike cX4_greatestAlike 9 (some .int) ∈ jW := jW_of (List.mem_append_right _ (List.mem_of_getElem? (l := tables_1) (i := 548) (by decide +kernel))) rfl
theorem tw_547 : Cond.instanceMethod yX4_greatestAlike ∈ jW := jW_of (List.mem_append_right _ (List.mem_of_getElem? (l := tables_1) (i := 547) (by decide +kernel))) rfl
theorem ts_13 : Cond.selects RX4 yX4_greatestAlike yX4_greatestAlike ∈ jW := jW_of (List.mem_append_left _ (List.mem_of_getElem? (l := k2_sels lw_privs) (i := 13) (by decide +kernel))) rfl
theorem lk_X4_195 : jLv RX4 195 mX4_greatestAlike 4 := ⟨⟨tw_545, tw_1, tw_548, by decide +kernel⟩, tw_547, ts_13⟩
theorem tw_555 : Cond.methodLink RX4 203 yX4_wholeWeight ∈ jW := jW_of (List.mem_append_right _ (List.mem_of_getElem? (l := tables_1) (i := 555) (by decide +kernel))) rfl
theorem tw_557 : Cond.code yX4_wholeWeight cX4_wholeWeight 1 (some .long) ∈ jW := jW_of (List.mem_append_right _ (List.mem_of_getElem? (l := tables_1) (i := 557) (by decide +kernel))) rfl
theorem tw_556 : Cond.static yX4_wholeWeight ∈ jW := jW_of (List.mem_append_right _ (List.mem_of_getElem? (l := tables_1) (i := 556) (by decide +kernel))) rfl
theorem lk_X4_203 : jLs RX4 203 mX4_wholeWeight 1 := ⟨⟨tw_555, tw_1, tw_557, by decide +kernel⟩, tw_556⟩
theorem tw_558 : Cond.methodLink RX4 207 yX4_weightUp ∈ jW := jW_of (List.mem_append_right _ (List.mem_of_getElem? (l := tables_1) (i := 558) (by decide +kernel))) rfl
theorem tw_561 : Cond.code yX4_weightUp cX4_weightUp 10 (some .long) ∈ jW := jW_of (List.mem_append_right _ (List.mem_of_getElem? (l := tables_1) (i := 561) (by decide +kernel))) rfl
theorem tw_560 : Cond.instanceMethod yX4_weightUp ∈ jW := jW_of (List.mem_append_right _ (List.mem_of_getElem? (l := tables_1) (i := 560) (by decide +kernel))) rfl
theorem ts_14 : Cond.selects RX4 yX4_weightUp yX4_weightUp ∈ jW := jW_of (List.mem_append_left _ (List.mem_of_getElem? (l := k2_sels lw_privs) (i := 14) (by decide +kernel))) rfl
theorem lk_X4_207 : jLv RX4 207 mX4_weightUp 3 := ⟨⟨tw_558, tw_1, tw_561, by decide +kernel⟩, tw_560, ts_14⟩
theorem tw_573 : Cond.methodLink RX4 211 yX4_commonDivisor ∈ jW := jW_of (List.mem_append_right _ (List.mem_of_getElem? (l := tables_1) (i := 573) (by decide +kernel))) rfl
theorem tw_575 : Cond.code yX4_commonDivisor cX4_commonDivisor 11 (some .long) ∈ jW := jW_of (List.mem_append_right _ (List.mem_of_getElem? (l := tables_1) (i := 575) (by decide +kernel))) rfl
theorem tw_574 : Cond.static yX4_commonDivisor ∈ jW := jW_of (List.mem_append_right _ (List.mem_of_getElem? (l := tables_1) (i := 574) (by decide +kernel))) rfl
theorem lk_X4_211 : jLs RX4 211 mX4_commonDivisor 2 := ⟨⟨tw_573, tw_1, tw_575, by decide +kernel⟩, tw_574⟩
theorem tw_499 : Cond.methodLink RX4 220 yX1_openings ∈ jW := jW_of (List.mem_append_right _ (List.mem_of_getElem? (l := tables_1) (i := 499) (by decide +kernel))) rfl
theorem tw_502 : Cond.code yX1_openings cX1_openings 4 (some .int) ∈ jW := jW_of (List.mem_append_right _ (List.mem_of_getElem? (l := tables_1) (i := 502) (by decide +kernel))) rfl
theorem tw_500 : Cond.instanceMethod yX1_openings ∈ jW := jW_of (List.mem_append_right _ (List.mem_of_getElem? (l := tables_1) (i := 500) (by decide +kernel))) rfl
theorem tw_501 : Cond.selects RX1 yX1_openings yX1_openings ∈ jW := jW_of (List.mem_append_right _ (List.mem_of_getElem? (l := tables_1) (i := 501) (by decide +kernel))) rfl
theorem lk_X4_220 : jLv RX4 220 mX1_openings 1 := ⟨⟨tw_499, tw_4, tw_502, by decide +kernel⟩, tw_500, tw_501⟩
theorem tw_585 : Cond.methodLink RX4 223 yX4_isForm ∈ jW := jW_of (List.mem_append_right _ (List.mem_of_getElem? (l := tables_1) (i := 585) (by decide +kernel))) rfl
theorem tw_587 : Cond.code yX4_isForm cX4_isForm 1 (some .boolean) ∈ jW := jW_of (List.mem_append_right _ (List.mem_of_getElem? (l := tables_1) (i := 587) (by decide +kernel))) rfl
theorem tw_586 : Cond.static yX4_isForm ∈ jW := jW_of (List.mem_append_right _ (List.mem_of_getElem? (l := tables_1) (i := 586) (by decide +kernel))) rfl
theorem lk_X4_223 : jLs RX4 223 mX4_isForm 1 := ⟨⟨tw_585, tw_1, tw_587, by decide +kernel⟩, tw_586⟩
theorem tw_588 : Cond.methodLink RX4 226 yX2_renew ∈ jW := jW_of (List.mem_append_right _ (List.mem_of_getElem? (l := tables_1) (i := 588) (by decide +kernel))) rfl
theorem tw_5 : Cond.initialized RX2 ∈ jW := jW_of (List.mem_append_right _ (List.mem_of_getElem? (l := tables_1) (i := 5) (by decide +kernel))) rfl
theorem tw_591 : Cond.code yX2_renew cX2_renew 3 none ∈ jW := jW_of (List.mem_append_right _ (List.mem_of_getElem? (l := tables_1) (i := 591) (by decide +kernel))) rfl
theorem tw_589 : Cond.instanceMethod yX2_renew ∈ jW := jW_of (List.mem_append_right _ (List.mem_of_getElem? (l := tables_1) (i := 589) (by decide +kernel))) rfl
theorem tw_590 : Cond.selects RX2 yX2_renew yX2_renew ∈ jW := jW_of (List.mem_append_right _ (List.mem_of_getElem? (l := tables_1) (i := 590) (by decide +kernel))) rfl
theorem lk_X4_226 : jLv RX4 226 mX2_renew 2 := ⟨⟨tw_588, tw_5, tw_591, by decide +kernel⟩, tw_589, tw_590⟩
theorem tw_601 : Cond.methodLink RX4 230 yX2_findingAt ∈ jW := jW_of (List.mem_append_right _ (List.mem_of_getElem? (l := tables_1) (i := 601) (by decide +kernel))) rfl
theorem tw_604 : Cond.code yX2_findingAt cX2_findingAt 3 (some .int) ∈ jW := jW_of (List.mem_append_right _ (List.mem_of_getElem? (l := tables_1) (i := 604) (by decide +kernel))) rfl
theorem tw_602 : Cond.instanceMethod yX2_findingAt ∈ jW := jW_of (List.mem_append_right _ (List.mem_of_getElem? (l := tables_1) (i := 602) (by decide +kernel))) rfl
theorem tw_603 : Cond.selects RX2 yX2_findingAt yX2_findingAt ∈ jW := jW_of (List.mem_append_right _ (List.mem_of_getElem? (l := tables_1) (i := 603) (by decide +kernel))) rfl
theorem lk_X4_230 : jLv RX4 230 mX2_findingAt 2 := ⟨⟨tw_601, tw_5, tw_604, by decide +kernel⟩, tw_602, tw_603⟩
theorem tw_609 : Cond.methodLink RX4 233 yX2_put ∈ jW := jW_of (List.mem_append_right _ (List.mem_of_getElem? (l := tables_1) (i := 609) (by decide +kernel))) rfl
theorem tw_612 : Cond.code yX2_put cX2_put 3 none ∈ jW := jW_of (List.mem_append_right _ (List.mem_of_getElem? (l := tables_1) (i := 612) (by decide +kernel))) rfl
theorem tw_610 : Cond.instanceMethod yX2_put ∈ jW := jW_of (List.mem_append_right _ (List.mem_of_getElem? (l := tables_1) (i := 610) (by decide +kernel))) rfl
theorem tw_611 : Cond.selects RX2 yX2_put yX2_put ∈ jW := jW_of (List.mem_append_right _ (List.mem_of_getElem? (l := tables_1) (i := 611) (by decide +kernel))) rfl
theorem lk_X4_233 : jLv RX4 233 mX2_put 2 := ⟨⟨tw_609, tw_5, tw_612, by decide +kernel⟩, tw_610, tw_611⟩
theorem tw_622 : Cond.methodLink RX4 240 yX2_has ∈ jW := jW_of (List.mem_append_right _ (List.mem_of_getElem? (l := tables_1) (i := 622) (by decide +kernel))) rfl
theorem tw_608 : Cond.code yX2_has cX2_has 3 (some .boolean) ∈ jW := jW_of (List.mem_append_right _ (List.mem_of_getElem? (l := tables_1) (i := 608) (by decide +kernel))) rfl
theorem tw_606 : Cond.instanceMethod yX2_has ∈ jW := jW_of (List.mem_append_right _ (List.mem_of_getElem? (l := tables_1) (i := 606) (by decide +kernel))) rfl
theorem tw_607 : Cond.selects RX2 yX2_has yX2_has ∈ jW := jW_of (List.mem_append_right _ (List.mem_of_getElem? (l := tables_1) (i := 607) (by decide +kernel))) rfl
theorem lk_X4_240 : jLv RX4 240 mX2_has 2 := ⟨⟨tw_622, tw_5, tw_608, by decide +kernel⟩, tw_606, tw_607⟩
theorem tw_503 : Cond.methodLink RX4 243 arraycopyName ∈ jW := jW_of (List.mem_append_right _ (List.mem_of_getElem? (l := tables_1) (i := 503) (by decide +kernel))) rfl
theorem tw_417 : Cond.native arraycopyName ∈ jW := jW_of (List.mem_append_right _ (List.mem_of_getElem? (l := tables_1) (i := 417) (by decide +kernel))) rfl
theorem tw_416 : Cond.static arraycopyName ∈ jW := jW_of (List.mem_append_right _ (List.mem_of_getElem? (l := tables_1) (i := 416) (by decide +kernel))) rfl
theorem tw_13 : Cond.initialized "java/lang/System" ∈ jW := jW_of (List.mem_append_right _ (List.mem_of_getElem? (l := tables_1) (i := 13) (by decide +kernel))) rfl
theorem lc_X4_243 : Cond.methodLink RX4 243 arraycopyName ∈ jW ∧ Cond.native arraycopyName ∈ jW ∧ Cond.static arraycopyName ∈ jW ∧ Cond.initialized "java/lang/System" ∈ jW := ⟨tw_503, tw_417, tw_416, tw_13⟩
theorem tw_631 : Cond.methodLink RX4 249 yX0_allSprings ∈ jW := jW_of (List.mem_append_right _ (List.mem_of_getElem? (l := tables_1) (i := 631) (by decide +kernel))) rfl
theorem tw_634 : Cond.code yX0_allSprings cX0_allSprings 3 (some .int) ∈ jW := jW_of (List.mem_append_right _ (List.mem_of_getElem? (l := tables_1) (i := 634) (by decide +kernel))) rfl
theorem tw_632 : Cond.instanceMethod yX0_allSprings ∈ jW := jW_of (List.mem_append_right _ (List.mem_of_getElem? (l := tables_1) (i := 632) (by decide +kernel))) rfl
theorem tw_633 : Cond.selects RX0 yX0_allSprings yX0_allSprings ∈ jW := jW_of (List.mem_append_right _ (List.mem_of_getElem? (l := tables_1) (i := 633) (by decide +kernel))) rfl
theorem lk_X4_249 : jLv RX4 249 mX0_allSprings 0 := ⟨⟨tw_631, tw_2, tw_634, by decide +kernel⟩, tw_632, tw_633⟩
theorem tw_635 : Cond.methodLink RX4 252 yX0_withLaw ∈ jW := jW_of (List.mem_append_right _ (List.mem_of_getElem? (l := tables_1) (i := 635) (by decide +kernel))) rfl
theorem tw_638 : Cond.code yX0_withLaw cX0_withLaw 4 (some .int) ∈ jW := jW_of (List.mem_append_right _ (List.mem_of_getElem? (l := tables_1) (i := 638) (by decide +kernel))) rfl
theorem tw_636 : Cond.instanceMethod yX0_withLaw ∈ jW := jW_of (List.mem_append_right _ (List.mem_of_getElem? (l := tables_1) (i := 636) (by decide +kernel))) rfl
theorem tw_637 : Cond.selects RX0 yX0_withLaw yX0_withLaw ∈ jW := jW_of (List.mem_append_right _ (List.mem_of_getElem? (l := tables_1) (i := 637) (by decide +kernel))) rfl
theorem lk_X4_252 : jLv RX4 252 mX0_withLaw 1 := ⟨⟨tw_635, tw_2, tw_638, by decide +kernel⟩, tw_636, tw_637⟩
theorem tw_645 : Cond.methodLink RX4 259 yX4_count ∈ jW := jW_of (List.mem_append_right _ (List.mem_of_getElem? (l := tables_1) (i := 645) (by decide +kernel))) rfl
theorem tw_630 : Cond.code yX4_count cX4_count 2 (some .int) ∈ jW := jW_of (List.mem_append_right _ (List.mem_of_getElem? (l := tables_1) (i := 630) (by decide +kernel))) rfl
theorem tw_628 : Cond.instanceMethod yX4_count ∈ jW := jW_of (List.mem_append_right _ (List.mem_of_getElem? (l := tables_1) (i := 628) (by decide +kernel))) rfl
theorem tw_629 : Cond.selects RX4 yX4_count yX4_count ∈ jW := jW_of (List.mem_append_right _ (List.mem_of_getElem? (l := tables_1) (i := 629) (by decide +kernel))) rfl
theorem lk_X4_259 : jLv RX4 259 mX4_count 1 := ⟨⟨tw_645, tw_1, tw_630, by decide +kernel⟩, tw_628, tw_629⟩
theorem tw_646 : Cond.methodLink RX4 261 yX4_fault ∈ jW := jW_of (List.mem_append_right _ (List.mem_of_getElem? (l := tables_1) (i := 646) (by decide +kernel))) rfl
theorem tw_341 : Cond.code yX4_fault cX4_fault 1 (some .int) ∈ jW := jW_of (List.mem_append_right _ (List.mem_of_getElem? (l := tables_1) (i := 341) (by decide +kernel))) rfl
theorem tw_339 : Cond.instanceMethod yX4_fault ∈ jW := jW_of (List.mem_append_right _ (List.mem_of_getElem? (l := tables_1) (i := 339) (by decide +kernel))) rfl
theorem tw_340 : Cond.selects RX4 yX4_fault yX4_fault ∈ jW := jW_of (List.mem_append_right _ (List.mem_of_getElem? (l := tables_1) (i := 340) (by decide +kernel))) rfl
theorem lk_X4_261 : jLv RX4 261 mX4_fault 0 := ⟨⟨tw_646, tw_1, tw_341, by decide +kernel⟩, tw_339, tw_340⟩
theorem tw_647 : Cond.methodLink RX4 263 yX4_place ∈ jW := jW_of (List.mem_append_right _ (List.mem_of_getElem? (l := tables_1) (i := 647) (by decide +kernel))) rfl
theorem tw_353 : Cond.code yX4_place cX4_place 2 (some .int) ∈ jW := jW_of (List.mem_append_right _ (List.mem_of_getElem? (l := tables_1) (i := 353) (by decide +kernel))) rfl
theorem tw_351 : Cond.instanceMethod yX4_place ∈ jW := jW_of (List.mem_append_right _ (List.mem_of_getElem? (l := tables_1) (i := 351) (by decide +kernel))) rfl
theorem tw_352 : Cond.selects RX4 yX4_place yX4_place ∈ jW := jW_of (List.mem_append_right _ (List.mem_of_getElem? (l := tables_1) (i := 352) (by decide +kernel))) rfl
theorem lk_X4_263 : jLv RX4 263 mX4_place 1 := ⟨⟨tw_647, tw_1, tw_353, by decide +kernel⟩, tw_351, tw_352⟩
theorem tw_648 : Cond.methodLink RX4 266 yX4_digestBox ∈ jW := jW_of (List.mem_append_right _ (List.mem_of_getElem? (l := tables_1) (i := 648) (by decide +kernel))) rfl
theorem tw_651 : Cond.code yX4_digestBox cX4_digestBox 7 (some .long) ∈ jW := jW_of (List.mem_append_right _ (List.mem_of_getElem? (l := tables_1) (i := 651) (by decide +kernel))) rfl
theorem tw_650 : Cond.instanceMethod yX4_digestBox ∈ jW := jW_of (List.mem_append_right _ (List.mem_of_getElem? (l := tables_1) (i := 650) (by decide +kernel))) rfl
theorem ts_15 : Cond.selects RX4 yX4_digestBox yX4_digestBox ∈ jW := jW_of (List.mem_append_left _ (List.mem_of_getElem? (l := k2_sels lw_privs) (i := 15) (by decide +kernel))) rfl
theorem lk_X4_266 : jLv RX4 266 mX4_digestBox 2 := ⟨⟨tw_648, tw_1, tw_651, by decide +kernel⟩, tw_650, ts_15⟩
theorem tw_661 : Cond.methodLink RX4 273 yX4_step ∈ jW := jW_of (List.mem_append_right _ (List.mem_of_getElem? (l := tables_1) (i := 661) (by decide +kernel))) rfl
theorem tw_402 : Cond.code yX4_step cX4_step 3 (some .int) ∈ jW := jW_of (List.mem_append_right _ (List.mem_of_getElem? (l := tables_1) (i := 402) (by decide +kernel))) rfl
theorem tw_400 : Cond.instanceMethod yX4_step ∈ jW := jW_of (List.mem_append_right _ (List.mem_of_getElem? (l := tables_1) (i := 400) (by decide +kernel))) rfl
theorem tw_401 : Cond.selects RX4 yX4_step yX4_step ∈ jW := jW_of (List.mem_append_right _ (List.mem_of_getElem? (l := tables_1) (i := 401) (by decide +kernel))) rfl
theorem lk_X4_273 : jLv RX4 273 mX4_step 2 := ⟨⟨tw_661, tw_1, tw_402, by decide +kernel⟩, tw_400, tw_401⟩
theorem tw_662 : Cond.methodLink RX4 276 yX4_quiet ∈ jW := jW_of (List.mem_append_right _ (List.mem_of_getElem? (l := tables_1) (i := 662) (by decide +kernel))) rfl
theorem tw_453 : Cond.code yX4_quiet cX4_quiet 2 (some .int) ∈ jW := jW_of (List.mem_append_right _ (List.mem_of_getElem? (l := tables_1) (i := 453) (by decide +kernel))) rfl
theorem tw_451 : Cond.instanceMethod yX4_quiet ∈ jW := jW_of (List.mem_append_right _ (List.mem_of_getElem? (l := tables_1) (i := 451) (by decide +kernel))) rfl
theorem tw_452 : Cond.selects RX4 yX4_quiet yX4_quiet ∈ jW := jW_of (List.mem_append_right _ (List.mem_of_getElem? (l := tables_1) (i := 452) (by decide +kernel))) rfl
theorem lk_X4_276 : jLv RX4 276 mX4_quiet 0 := ⟨⟨tw_662, tw_1, tw_453, by decide +kernel⟩, tw_451, tw_452⟩
theorem tw_663 : Cond.methodLink RX4 279 yX4_loudest ∈ jW := jW_of (List.mem_append_right _ (List.mem_of_getElem? (l := tables_1) (i := 663) (by decide +kernel))) rfl
theorem tw_457 : Cond.code yX4_loudest cX4_loudest 6 (some .int) ∈ jW := jW_of (List.mem_append_right _ (List.mem_of_getElem? (l := tables_1) (i := 457) (by decide +kernel))) rfl
theorem tw_455 : Cond.instanceMethod yX4_loudest ∈ jW := jW_of (List.mem_append_right _ (List.mem_of_getElem? (l := tables_1) (i := 455) (by decide +kernel))) rfl
theorem tw_456 : Cond.selects RX4 yX4_loudest yX4_loudest ∈ jW := jW_of (List.mem_append_right _ (List.mem_of_getElem? (l := tables_1) (i := 456) (by decide +kernel))) rfl
theorem lk_X4_279 : jLv RX4 279 mX4_loudest 1 := ⟨⟨tw_663, tw_1, tw_457, by decide +kernel⟩, tw_455, tw_456⟩
theorem tw_664 : Cond.methodLink RX4 282 yX4_news ∈ jW := jW_of (List.mem_append_right _ (List.mem_of_getElem? (l := tables_1) (i := 664) (by decide +kernel))) rfl
theorem tw_470 : Cond.code yX4_news cX4_news 6 (some .int) ∈ jW := jW_of (List.mem_append_right _ (List.mem_of_getElem? (l := tables_1) (i := 470) (by decide +kernel))) rfl
theorem tw_468 : Cond.instanceMethod yX4_news ∈ jW := jW_of (List.mem_append_right _ (List.mem_of_getElem? (l := tables_1) (i := 468) (by decide +kernel))) rfl
theorem tw_469 : Cond.selects RX4 yX4_news yX4_news ∈ jW := jW_of (List.mem_append_right _ (List.mem_of_getElem? (l := tables_1) (i := 469) (by decide +kernel))) rfl
theorem lk_X4_282 : jLv RX4 282 mX4_news 3 := ⟨⟨tw_664, tw_1, tw_470, by decide +kernel⟩, tw_468, tw_469⟩
theorem tw_665 : Cond.methodLink RX4 285 yX4_hush ∈ jW := jW_of (List.mem_append_right _ (List.mem_of_getElem? (l := tables_1) (i := 665) (by decide +kernel))) rfl
theorem tw_481 : Cond.code yX4_hush cX4_hush 6 (some .int) ∈ jW := jW_of (List.mem_append_right _ (List.mem_of_getElem? (l := tables_1) (i := 481) (by decide +kernel))) rfl
theorem tw_479 : Cond.instanceMethod yX4_hush ∈ jW := jW_of (List.mem_append_right _ (List.mem_of_getElem? (l := tables_1) (i := 479) (by decide +kernel))) rfl
theorem tw_480 : Cond.selects RX4 yX4_hush yX4_hush ∈ jW := jW_of (List.mem_append_right _ (List.mem_of_getElem? (l := tables_1) (i := 480) (by decide +kernel))) rfl
theorem lk_X4_285 : jLv RX4 285 mX4_hush 2 := ⟨⟨tw_665, tw_1, tw_481, by decide +kernel⟩, tw_479, tw_480⟩
theorem tw_666 : Cond.methodLink RX4 288 yX4_shelf ∈ jW := jW_of (List.mem_append_right _ (List.mem_of_getElem? (l := tables_1) (i := 666) (by decide +kernel))) rfl
theorem tw_493 : Cond.code yX4_shelf cX4_shelf 5 (some .int) ∈ jW := jW_of (List.mem_append_right _ (List.mem_of_getElem? (l := tables_1) (i := 493) (by decide +kernel))) rfl
theorem tw_491 : Cond.instanceMethod yX4_shelf ∈ jW := jW_of (List.mem_append_right _ (List.mem_of_getElem? (l := tables_1) (i := 491) (by decide +kernel))) rfl
theorem tw_492 : Cond.selects RX4 yX4_shelf yX4_shelf ∈ jW := jW_of (List.mem_append_right _ (List.mem_of_getElem? (l := tables_1) (i := 492) (by decide +kernel))) rfl
theorem lk_X4_288 : jLv RX4 288 mX4_shelf 3 := ⟨⟨tw_666, tw_1, tw_493, by decide +kernel⟩, tw_491, tw_492⟩
theorem tw_667 : Cond.methodLink RX4 291 yX4_empty ∈ jW := jW_of (List.mem_append_right _ (List.mem_of_getElem? (l := tables_1) (i := 667) (by decide +kernel))) rfl
theorem tw_540 : Cond.code yX4_empty cX4_empty 5 (some .int) ∈ jW := jW_of (List.mem_append_right _ (List.mem_of_getElem? (l := tables_1) (i := 540) (by decide +kernel))) rfl
theorem tw_538 : Cond.instanceMethod yX4_empty ∈ jW := jW_of (List.mem_append_right _ (List.mem_of_getElem? (l := tables_1) (i := 538) (by decide +kernel))) rfl
theorem tw_539 : Cond.selects RX4 yX4_empty yX4_empty ∈ jW := jW_of (List.mem_append_right _ (List.mem_of_getElem? (l := tables_1) (i := 539) (by decide +kernel))) rfl
theorem lk_X4_291 : jLv RX4 291 mX4_empty 0 := ⟨⟨tw_667, tw_1, tw_540, by decide +kernel⟩, tw_538, tw_539⟩
theorem tw_668 : Cond.methodLink RX4 294 yX4_turn ∈ jW := jW_of (List.mem_append_right _ (List.mem_of_getElem? (l := tables_1) (i := 668) (by decide +kernel))) rfl
theorem tw_544 : Cond.code yX4_turn cX4_turn 8 (some .int) ∈ jW := jW_of (List.mem_append_right _ (List.mem_of_getElem? (l := tables_1) (i := 544) (by decide +kernel))) rfl
theorem tw_542 : Cond.instanceMethod yX4_turn ∈ jW := jW_of (List.mem_append_right _ (List.mem_of_getElem? (l := tables_1) (i := 542) (by decide +kernel))) rfl
theorem tw_543 : Cond.selects RX4 yX4_turn yX4_turn ∈ jW := jW_of (List.mem_append_right _ (List.mem_of_getElem? (l := tables_1) (i := 543) (by decide +kernel))) rfl
theorem lk_X4_294 : jLv RX4 294 mX4_turn 2 := ⟨⟨tw_668, tw_1, tw_544, by decide +kernel⟩, tw_542, tw_543⟩
theorem tw_669 : Cond.methodLink RX4 297 yX4_night ∈ jW := jW_of (List.mem_append_right _ (List.mem_of_getElem? (l := tables_1) (i := 669) (by decide +kernel))) rfl
theorem tw_579 : Cond.code yX4_night cX4_night 6 (some .int) ∈ jW := jW_of (List.mem_append_right _ (List.mem_of_getElem? (l := tables_1) (i := 579) (by decide +kernel))) rfl
theorem tw_577 : Cond.instanceMethod yX4_night ∈ jW := jW_of (List.mem_append_right _ (List.mem_of_getElem? (l := tables_1) (i := 577) (by decide +kernel))) rfl
theorem tw_578 : Cond.selects RX4 yX4_night yX4_night ∈ jW := jW_of (List.mem_append_right _ (List.mem_of_getElem? (l := tables_1) (i := 578) (by decide +kernel))) rfl
theorem lk_X4_297 : jLv RX4 297 mX4_night 3 := ⟨⟨tw_669, tw_1, tw_579, by decide +kernel⟩, tw_577, tw_578⟩
theorem tw_652 : Cond.methodLink RX4 300 yX4_box ∈ jW := jW_of (List.mem_append_right _ (List.mem_of_getElem? (l := tables_1) (i := 652) (by decide +kernel))) rfl
theorem tw_345 : Cond.code yX4_box cX4_box 3 (some .int) ∈ jW := jW_of (List.mem_append_right _ (List.mem_of_getElem? (l := tables_1) (i := 345) (by decide +kernel))) rfl
theorem tw_343 : Cond.instanceMethod yX4_box ∈ jW := jW_of (List.mem_append_right _ (List.mem_of_getElem? (l := tables_1) (i := 343) (by decide +kernel))) rfl
theorem tw_344 : Cond.selects RX4 yX4_box yX4_box ∈ jW := jW_of (List.mem_append_right _ (List.mem_of_getElem? (l := tables_1) (i := 344) (by decide +kernel))) rfl
theorem lk_X4_300 : jLv RX4 300 mX4_box 2 := ⟨⟨tw_652, tw_1, tw_345, by decide +kernel⟩, tw_343, tw_344⟩
theorem tw_653 : Cond.methodLink RX4 303 yX4_first ∈ jW := jW_of (List.mem_append_right _ (List.mem_of_getElem? (l := tables_1) (i := 653) (by decide +kernel))) rfl
theorem tw_462 : Cond.code yX4_first cX4_first 3 (some .int) ∈ jW := jW_of (List.mem_append_right _ (List.mem_of_getElem? (l := tables_1) (i := 462) (by decide +kernel))) rfl
theorem tw_460 : Cond.instanceMethod yX4_first ∈ jW := jW_of (List.mem_append_right _ (List.mem_of_getElem? (l := tables_1) (i := 460) (by decide +kernel))) rfl
theorem tw_461 : Cond.selects RX4 yX4_first yX4_first ∈ jW := jW_of (List.mem_append_right _ (List.mem_of_getElem? (l := tables_1) (i := 461) (by decide +kernel))) rfl
theorem lk_X4_303 : jLv RX4 303 mX4_first 1 := ⟨⟨tw_653, tw_1, tw_462, by decide +kernel⟩, tw_460, tw_461⟩
theorem tw_654 : Cond.methodLink RX4 306 yX4_spring ∈ jW := jW_of (List.mem_append_right _ (List.mem_of_getElem? (l := tables_1) (i := 654) (by decide +kernel))) rfl
theorem tw_449 : Cond.code yX4_spring cX4_spring 5 (some .int) ∈ jW := jW_of (List.mem_append_right _ (List.mem_of_getElem? (l := tables_1) (i := 449) (by decide +kernel))) rfl
theorem tw_447 : Cond.instanceMethod yX4_spring ∈ jW := jW_of (List.mem_append_right _ (List.mem_of_getElem? (l := tables_1) (i := 447) (by decide +kernel))) rfl
theorem tw_448 : Cond.selects RX4 yX4_spring yX4_spring ∈ jW := jW_of (List.mem_append_right _ (List.mem_of_getElem? (l := tables_1) (i := 448) (by decide +kernel))) rfl
theorem lk_X4_306 : jLv RX4 306 mX4_spring 2 := ⟨⟨tw_654, tw_1, tw_449, by decide +kernel⟩, tw_447, tw_448⟩
theorem tw_655 : Cond.methodLink RX4 309 yX4_together ∈ jW := jW_of (List.mem_append_right _ (List.mem_of_getElem? (l := tables_1) (i := 655) (by decide +kernel))) rfl
theorem tw_466 : Cond.code yX4_together cX4_together 6 (some .int) ∈ jW := jW_of (List.mem_append_right _ (List.mem_of_getElem? (l := tables_1) (i := 466) (by decide +kernel))) rfl
theorem tw_464 : Cond.instanceMethod yX4_together ∈ jW := jW_of (List.mem_append_right _ (List.mem_of_getElem? (l := tables_1) (i := 464) (by decide +kernel))) rfl
theorem tw_465 : Cond.selects RX4 yX4_together yX4_together ∈ jW := jW_of (List.mem_append_right _ (List.mem_of_getElem? (l := tables_1) (i := 465) (by decide +kernel))) rfl
theorem lk_X4_309 : jLv RX4 309 mX4_together 2 := ⟨⟨tw_655, tw_1, tw_466, by decide +kernel⟩, tw_464, tw_465⟩
theorem tw_656 : Cond.methodLink RX4 312 yX4_hears ∈ jW := jW_of (List.mem_append_right _ (List.mem_of_getElem? (l := tables_1) (i := 656) (by decide +kernel))) rfl
theorem tw_477 : Cond.code yX4_hears cX4_hears 5 (some .int) ∈ jW := jW_of (List.mem_append_right _ (List.mem_of_getElem? (l := tables_1) (i := 477) (by decide +kernel))) rfl
theorem tw_475 : Cond.instanceMethod yX4_hears ∈ jW := jW_of (List.mem_append_right _ (List.mem_of_getElem? (l := tables_1) (i := 475) (by decide +kernel))) rfl
theorem tw_476 : Cond.selects RX4 yX4_hears yX4_hears ∈ jW := jW_of (List.mem_append_right _ (List.mem_of_getElem? (l := tables_1) (i := 476) (by decide +kernel))) rfl
theorem lk_X4_312 : jLv RX4 312 mX4_hears 2 := ⟨⟨tw_656, tw_1, tw_477, by decide +kernel⟩, tw_475, tw_476⟩
theorem tw_657 : Cond.methodLink RX4 315 yX4_learn ∈ jW := jW_of (List.mem_append_right _ (List.mem_of_getElem? (l := tables_1) (i := 657) (by decide +kernel))) rfl
theorem tw_519 : Cond.code yX4_learn cX4_learn 4 (some .int) ∈ jW := jW_of (List.mem_append_right _ (List.mem_of_getElem? (l := tables_1) (i := 519) (by decide +kernel))) rfl
theorem tw_517 : Cond.instanceMethod yX4_learn ∈ jW := jW_of (List.mem_append_right _ (List.mem_of_getElem? (l := tables_1) (i := 517) (by decide +kernel))) rfl
theorem tw_518 : Cond.selects RX4 yX4_learn yX4_learn ∈ jW := jW_of (List.mem_append_right _ (List.mem_of_getElem? (l := tables_1) (i := 518) (by decide +kernel))) rfl
theorem lk_X4_315 : jLv RX4 315 mX4_learn 2 := ⟨⟨tw_657, tw_1, tw_519, by decide +kernel⟩, tw_517, tw_518⟩
theorem tw_658 : Cond.methodLink RX4 318 yX4_looks ∈ jW := jW_of (List.mem_append_right _ (List.mem_of_getElem? (l := tables_1) (i := 658) (by decide +kernel))) rfl
theorem tw_553 : Cond.code yX4_looks cX4_looks 11 (some .long) ∈ jW := jW_of (List.mem_append_right _ (List.mem_of_getElem? (l := tables_1) (i := 553) (by decide +kernel))) rfl
theorem tw_551 : Cond.instanceMethod yX4_looks ∈ jW := jW_of (List.mem_append_right _ (List.mem_of_getElem? (l := tables_1) (i := 551) (by decide +kernel))) rfl
theorem tw_552 : Cond.selects RX4 yX4_looks yX4_looks ∈ jW := jW_of (List.mem_append_right _ (List.mem_of_getElem? (l := tables_1) (i := 552) (by decide +kernel))) rfl
theorem lk_X4_318 : jLv RX4 318 mX4_looks 4 := ⟨⟨tw_658, tw_1, tw_553, by decide +kernel⟩, tw_551, tw_552⟩
theorem tw_231 : Cond.methodLink RX4 322 yX0_parse ∈ jW := jW_of (List.mem_append_right _ (List.mem_of_getElem? (l := tables_1) (i := 231) (by decide +kernel))) rfl
theorem tw_234 : Cond.code yX0_parse cX0_parse 2 none ∈ jW := jW_of (List.mem_append_right _ (List.mem_of_getElem? (l := tables_1) (i := 234) (by decide +kernel))) rfl
theorem tw_232 : Cond.instanceMethod yX0_parse ∈ jW := jW_of (List.mem_append_right _ (List.mem_of_getElem? (l := tables_1) (i := 232) (by decide +kernel))) rfl
theorem tw_233 : Cond.selects RX0 yX0_parse yX0_parse ∈ jW := jW_of (List.mem_append_right _ (List.mem_of_getElem? (l := tables_1) (i := 233) (by decide +kernel))) rfl
theorem lk_X4_322 : jLv RX4 322 mX0_parse 0 := ⟨⟨tw_231, tw_2, tw_234, by decide +kernel⟩, tw_232, tw_233⟩
theorem tw_498 : Cond.methodLink RX4 328 yX1_putRow ∈ jW := jW_of (List.mem_append_right _ (List.mem_of_getElem? (l := tables_1) (i := 498) (by decide +kernel))) rfl
theorem tw_421 : Cond.code yX1_putRow cX1_putRow 3 none ∈ jW := jW_of (List.mem_append_right _ (List.mem_of_getElem? (l := tables_1) (i := 421) (by decide +kernel))) rfl
theorem tw_419 : Cond.instanceMethod yX1_putRow ∈ jW := jW_of (List.mem_append_right _ (List.mem_of_getElem? (l := tables_1) (i := 419) (by decide +kernel))) rfl
theorem tw_420 : Cond.selects RX1 yX1_putRow yX1_putRow ∈ jW := jW_of (List.mem_append_right _ (List.mem_of_getElem? (l := tables_1) (i := 420) (by decide +kernel))) rfl
theorem lk_X4_328 : jLv RX4 328 mX1_putRow 1 := ⟨⟨tw_498, tw_4, tw_421, by decide +kernel⟩, tw_419, tw_420⟩
theorem tw_504 : Cond.methodLink RX4 332 yX4_stepToNextRow ∈ jW := jW_of (List.mem_append_right _ (List.mem_of_getElem? (l := tables_1) (i := 504) (by decide +kernel))) rfl
theorem tw_507 : Cond.code yX4_stepToNextRow cX4_stepToNextRow 6 (some .boolean) ∈ jW := jW_of (List.mem_append_right _ (List.mem_of_getElem? (l := tables_1) (i := 507) (by decide +kernel))) rfl
theorem tw_506 : Cond.instanceMethod yX4_stepToNextRow ∈ jW := jW_of (List.mem_append_right _ (List.mem_of_getElem? (l := tables_1) (i := 506) (by decide +kernel))) rfl
theorem ts_9 : Cond.selects RX4 yX4_stepToNextRow yX4_stepToNextRow ∈ jW := jW_of (List.mem_append_left _ (List.mem_of_getElem? (l := k2_sels lw_privs) (i := 9) (by decide +kernel))) rfl
theorem lk_X4_332 : jLv RX4 332 mX4_stepToNextRow 1 := ⟨⟨tw_504, tw_1, tw_507, by decide +kernel⟩, tw_506, ts_9⟩
theorem tw_528 : Cond.methodLink RX4 335 yJ9_max_7cf53 ∈ jW := jW_of (List.mem_append_right _ (List.mem_of_getElem? (l := tables_1) (i := 528) (by decide +kernel))) rfl
theorem tw_9 : Cond.initialized RJ9 ∈ jW := jW_of (List.mem_append_right _ (List.mem_of_getElem? (l := tables_1) (i := 9) (by decide +kernel))) rfl
theorem tw_273 : Cond.code yJ9_max_7cf53 cJ9_max_7cf53 2 (some .int) ∈ jW := jW_of (List.mem_append_right _ (List.mem_of_getElem? (l := tables_1) (i := 273) (by decide +kernel))) rfl
theorem tw_272 : Cond.static yJ9_max_7cf53 ∈ jW := jW_of (List.mem_append_right _ (List.mem_of_getElem? (l := tables_1) (i := 272) (by decide +kernel))) rfl
theorem lk_X4_335 : jLs RX4 335 mJ9_max_7cf53 2 := ⟨⟨tw_528, tw_9, tw_273, by decide +kernel⟩, tw_272⟩
theorem tw_529 : Cond.methodLink RX4 340 yX1_putLaw ∈ jW := jW_of (List.mem_append_right _ (List.mem_of_getElem? (l := tables_1) (i := 529) (by decide +kernel))) rfl
theorem tw_532 : Cond.code yX1_putLaw cX1_putLaw 3 none ∈ jW := jW_of (List.mem_append_right _ (List.mem_of_getElem? (l := tables_1) (i := 532) (by decide +kernel))) rfl
theorem tw_530 : Cond.instanceMethod yX1_putLaw ∈ jW := jW_of (List.mem_append_right _ (List.mem_of_getElem? (l := tables_1) (i := 530) (by decide +kernel))) rfl
theorem tw_531 : Cond.selects RX1 yX1_putLaw yX1_putLaw ∈ jW := jW_of (List.mem_append_right _ (List.mem_of_getElem? (l := tables_1) (i := 531) (by decide +kernel))) rfl
theorem lk_X4_340 : jLv RX4 340 mX1_putLaw 2 := ⟨⟨tw_529, tw_4, tw_532, by decide +kernel⟩, tw_530, tw_531⟩
theorem tw_549 : Cond.methodLink RX4 343 yJ7_fill_53178 ∈ jW := jW_of (List.mem_append_right _ (List.mem_of_getElem? (l := tables_1) (i := 549) (by decide +kernel))) rfl
theorem tw_14 : Cond.initialized RJ7 ∈ jW := jW_of (List.mem_append_right _ (List.mem_of_getElem? (l := tables_1) (i := 14) (by decide +kernel))) rfl
theorem tw_424 : Cond.code yJ7_fill_53178 cJ7_fill_53178 4 none ∈ jW := jW_of (List.mem_append_right _ (List.mem_of_getElem? (l := tables_1) (i := 424) (by decide +kernel))) rfl
theorem tw_423 : Cond.static yJ7_fill_53178 ∈ jW := jW_of (List.mem_append_right _ (List.mem_of_getElem? (l := tables_1) (i := 423) (by decide +kernel))) rfl
theorem lk_X4_343 : jLs RX4 343 mJ7_fill_53178 2 := ⟨⟨tw_549, tw_14, tw_424, by decide +kernel⟩, tw_423⟩
theorem tw_562 : Cond.methodLink RX4 349 yX1_isUp ∈ jW := jW_of (List.mem_append_right _ (List.mem_of_getElem? (l := tables_1) (i := 562) (by decide +kernel))) rfl
theorem tw_565 : Cond.code yX1_isUp cX1_isUp 3 (some .boolean) ∈ jW := jW_of (List.mem_append_right _ (List.mem_of_getElem? (l := tables_1) (i := 565) (by decide +kernel))) rfl
theorem tw_563 : Cond.instanceMethod yX1_isUp ∈ jW := jW_of (List.mem_append_right _ (List.mem_of_getElem? (l := tables_1) (i := 563) (by decide +kernel))) rfl
theorem tw_564 : Cond.selects RX1 yX1_isUp yX1_isUp ∈ jW := jW_of (List.mem_append_right _ (List.mem_of_getElem? (l := tables_1) (i := 564) (by decide +kernel))) rfl
theorem lk_X4_349 : jLv RX4 349 mX1_isUp 2 := ⟨⟨tw_562, tw_4, tw_565, by decide +kernel⟩, tw_563, tw_564⟩
theorem tw_566 : Cond.methodLink RX4 352 yX4_weight ∈ jW := jW_of (List.mem_append_right _ (List.mem_of_getElem? (l := tables_1) (i := 566) (by decide +kernel))) rfl
theorem tw_568 : Cond.code yX4_weight cX4_weight 6 (some .long) ∈ jW := jW_of (List.mem_append_right _ (List.mem_of_getElem? (l := tables_1) (i := 568) (by decide +kernel))) rfl
theorem tw_567 : Cond.static yX4_weight ∈ jW := jW_of (List.mem_append_right _ (List.mem_of_getElem? (l := tables_1) (i := 567) (by decide +kernel))) rfl
theorem lk_X4_352 : jLs RX4 352 mX4_weight 3 := ⟨⟨tw_566, tw_1, tw_568, by decide +kernel⟩, tw_567⟩
theorem tw_569 : Cond.methodLink RX4 355 yX1_putLooks ∈ jW := jW_of (List.mem_append_right _ (List.mem_of_getElem? (l := tables_1) (i := 569) (by decide +kernel))) rfl
theorem tw_572 : Cond.code yX1_putLooks cX1_putLooks 6 none ∈ jW := jW_of (List.mem_append_right _ (List.mem_of_getElem? (l := tables_1) (i := 572) (by decide +kernel))) rfl
theorem tw_570 : Cond.instanceMethod yX1_putLooks ∈ jW := jW_of (List.mem_append_right _ (List.mem_of_getElem? (l := tables_1) (i := 570) (by decide +kernel))) rfl
theorem tw_571 : Cond.selects RX1 yX1_putLooks yX1_putLooks ∈ jW := jW_of (List.mem_append_right _ (List.mem_of_getElem? (l := tables_1) (i := 571) (by decide +kernel))) rfl
theorem lk_X4_355 : jLv RX4 355 mX1_putLooks 3 := ⟨⟨tw_569, tw_4, tw_572, by decide +kernel⟩, tw_570, tw_571⟩
theorem tw_235 : Cond.methodLink RX0 34 yX0_findFault ∈ jW := jW_of (List.mem_append_right _ (List.mem_of_getElem? (l := tables_1) (i := 235) (by decide +kernel))) rfl
theorem tw_238 : Cond.code yX0_findFault cX0_findFault 2 (some .int) ∈ jW := jW_of (List.mem_append_right _ (List.mem_of_getElem? (l := tables_1) (i := 238) (by decide +kernel))) rfl
theorem tw_237 : Cond.instanceMethod yX0_findFault ∈ jW := jW_of (List.mem_append_right _ (List.mem_of_getElem? (l := tables_1) (i := 237) (by decide +kernel))) rfl
theorem ts_1 : Cond.selects RX0 yX0_findFault yX0_findFault ∈ jW := jW_of (List.mem_append_left _ (List.mem_of_getElem? (l := k2_sels lw_privs) (i := 1) (by decide +kernel))) rfl
theorem lk_X0_34 : jLv RX0 34 mX0_findFault 0 := ⟨⟨tw_235, tw_2, tw_238, by decide +kernel⟩, tw_237, ts_1⟩
theorem tw_243 : Cond.methodLink RX0 40 yJ0_indexOf_0f7a4 ∈ jW := jW_of (List.mem_append_right _ (List.mem_of_getElem? (l := tables_1) (i := 243) (by decide +kernel))) rfl
theorem tw_7 : Cond.initialized RJ0 ∈ jW := jW_of (List.mem_append_right _ (List.mem_of_getElem? (l := tables_1) (i := 7) (by decide +kernel))) rfl
theorem tw_246 : Cond.code yJ0_indexOf_0f7a4 cJ0_indexOf_0f7a4 2 (some .int) ∈ jW := jW_of (List.mem_append_right _ (List.mem_of_getElem? (l := tables_1) (i := 246) (by decide +kernel))) rfl
theorem tw_244 : Cond.instanceMethod yJ0_indexOf_0f7a4 ∈ jW := jW_of (List.mem_append_right _ (List.mem_of_getElem? (l := tables_1) (i := 244) (by decide +kernel))) rfl
theorem tw_245 : Cond.selects RJ0 yJ0_indexOf_0f7a4 yJ0_indexOf_0f7a4 ∈ jW := jW_of (List.mem_append_right _ (List.mem_of_getElem? (l := tables_1) (i := 245) (by decide +kernel))) rfl
theorem lk_X0_40 : jLv RX0 40 mJ0_indexOf_0f7a4 1 := ⟨⟨tw_243, tw_7, tw_246, by decide +kernel⟩, tw_244, tw_245⟩
theorem tw_239 : Cond.methodLink RX0 46 yX0_isDue ∈ jW := jW_of (List.mem_append_right _ (List.mem_of_getElem? (l := tables_1) (i := 239) (by decide +kernel))) rfl
theorem tw_241 : Cond.code yX0_isDue cX0_isDue 2 (some .boolean) ∈ jW := jW_of (List.mem_append_right _ (List.mem_of_getElem? (l := tables_1) (i := 241) (by decide +kernel))) rfl
theorem tw_240 : Cond.static yX0_isDue ∈ jW := jW_of (List.mem_append_right _ (List.mem_of_getElem? (l := tables_1) (i := 240) (by decide +kernel))) rfl
theorem lk_X0_46 : jLs RX0 46 mX0_isDue 2 := ⟨⟨tw_239, tw_2, tw_241, by decide +kernel⟩, tw_240⟩
theorem tw_415 : Cond.methodLink RX1 67 arraycopyName ∈ jW := jW_of (List.mem_append_right _ (List.mem_of_getElem? (l := tables_1) (i := 415) (by decide +kernel))) rfl
theorem lc_X1_67 : Cond.methodLink RX1 67 arraycopyName ∈ jW ∧ Cond.native arraycopyName ∈ jW ∧ Cond.static arraycopyName ∈ jW ∧ Cond.initialized "java/lang/System" ∈ jW := ⟨tw_415, tw_417, tw_416, tw_13⟩
theorem tw_418 : Cond.methodLink RX1 75 yX1_putRow ∈ jW := jW_of (List.mem_append_right _ (List.mem_of_getElem? (l := tables_1) (i := 418) (by decide +kernel))) rfl
theorem lk_X1_75 : jLv RX1 75 mX1_putRow 1 := ⟨⟨tw_418, tw_4, tw_421, by decide +kernel⟩, tw_419, tw_420⟩
theorem tw_422 : Cond.methodLink RX1 79 yJ7_fill_53178 ∈ jW := jW_of (List.mem_append_right _ (List.mem_of_getElem? (l := tables_1) (i := 422) (by decide +kernel))) rfl
theorem lk_X1_79 : jLs RX1 79 mJ7_fill_53178 2 := ⟨⟨tw_422, tw_14, tw_424, by decide +kernel⟩, tw_423⟩
theorem tw_429 : Cond.methodLink RX1 98 yX1_placesAround ∈ jW := jW_of (List.mem_append_right _ (List.mem_of_getElem? (l := tables_1) (i := 429) (by decide +kernel))) rfl
theorem tw_431 : Cond.code yX1_placesAround cX1_placesAround 3 (some .int) ∈ jW := jW_of (List.mem_append_right _ (List.mem_of_getElem? (l := tables_1) (i := 431) (by decide +kernel))) rfl
theorem tw_430 : Cond.static yX1_placesAround ∈ jW := jW_of (List.mem_append_right _ (List.mem_of_getElem? (l := tables_1) (i := 430) (by decide +kernel))) rfl
theorem lk_X1_98 : jLs RX1 98 mX1_placesAround 2 := ⟨⟨tw_429, tw_4, tw_431, by decide +kernel⟩, tw_430⟩
theorem tw_432 : Cond.methodLink RX1 102 yX1_go ∈ jW := jW_of (List.mem_append_right _ (List.mem_of_getElem? (l := tables_1) (i := 432) (by decide +kernel))) rfl
theorem tw_435 : Cond.code yX1_go cX1_go 6 none ∈ jW := jW_of (List.mem_append_right _ (List.mem_of_getElem? (l := tables_1) (i := 435) (by decide +kernel))) rfl
theorem tw_434 : Cond.instanceMethod yX1_go ∈ jW := jW_of (List.mem_append_right _ (List.mem_of_getElem? (l := tables_1) (i := 434) (by decide +kernel))) rfl
theorem ts_5 : Cond.selects RX1 yX1_go yX1_go ∈ jW := jW_of (List.mem_append_left _ (List.mem_of_getElem? (l := k2_sels lw_privs) (i := 5) (by decide +kernel))) rfl
theorem lk_X1_102 : jLv RX1 102 mX1_go 1 := ⟨⟨tw_432, tw_4, tw_435, by decide +kernel⟩, tw_434, ts_5⟩
theorem tw_436 : Cond.methodLink RX1 106 yJ6_bitCount_0f7a4 ∈ jW := jW_of (List.mem_append_right _ (List.mem_of_getElem? (l := tables_1) (i := 436) (by decide +kernel))) rfl
theorem lk_X1_106 : jLs RX1 106 mJ6_bitCount_0f7a4 1 := ⟨⟨tw_436, tw_15, tw_438, by decide +kernel⟩, tw_437⟩
theorem tw_442 : Cond.methodLink RX1 112 yX1_opensByLaw ∈ jW := jW_of (List.mem_append_right _ (List.mem_of_getElem? (l := tables_1) (i := 442) (by decide +kernel))) rfl
theorem tw_445 : Cond.code yX1_opensByLaw cX1_opensByLaw 3 (some .boolean) ∈ jW := jW_of (List.mem_append_right _ (List.mem_of_getElem? (l := tables_1) (i := 445) (by decide +kernel))) rfl
theorem tw_444 : Cond.instanceMethod yX1_opensByLaw ∈ jW := jW_of (List.mem_append_right _ (List.mem_of_getElem? (l := tables_1) (i := 444) (by decide +kernel))) rfl
theorem ts_6 : Cond.selects RX1 yX1_opensByLaw yX1_opensByLaw ∈ jW := jW_of (List.mem_append_left _ (List.mem_of_getElem? (l := k2_sels lw_privs) (i := 6) (by decide +kernel))) rfl
theorem lk_X1_112 : jLv RX1 112 mX1_opensByLaw 2 := ⟨⟨tw_442, tw_4, tw_445, by decide +kernel⟩, tw_444, ts_6⟩
theorem tw_592 : Cond.methodLink RX2 26 yJ7_fill_53178 ∈ jW := jW_of (List.mem_append_right _ (List.mem_of_getElem? (l := tables_1) (i := 592) (by decide +kernel))) rfl
theorem lk_X2_26 : jLs RX2 26 mJ7_fill_53178 2 := ⟨⟨tw_592, tw_14, tw_424, by decide +kernel⟩, tw_423⟩
theorem tw_605 : Cond.methodLink RX2 32 yX2_has ∈ jW := jW_of (List.mem_append_right _ (List.mem_of_getElem? (l := tables_1) (i := 605) (by decide +kernel))) rfl
theorem lk_X2_32 : jLv RX2 32 mX2_has 2 := ⟨⟨tw_605, tw_5, tw_608, by decide +kernel⟩, tw_606, tw_607⟩
theorem ln_X3_25 : (Cond.initialized mX4_isStep.1.cls ∈ jW ∧ Cond.code mX4_isStep.1 mX4_isStep.2.1 mX4_isStep.2.2.1 mX4_isStep.2.2.2.1 ∈ jW ∧ (mX4_isStep.1.cls ≠ "java/lang/invoke/MethodHandle" ∧ mX4_isStep.1.cls ≠ "java/lang/invoke/VarHandle" ∧ (parseMethodDescriptor mX4_isStep.1.desc).map (fun d => d.parameters.length) = some 1)) ∧ Cond.static mX4_isStep.1 ∈ jW := ⟨⟨tw_1, tw_377, by decide +kernel⟩, tw_376⟩
theorem ln_X3_29 : (Cond.initialized mX4_isNumber.1.cls ∈ jW ∧ Cond.code mX4_isNumber.1 mX4_isNumber.2.1 mX4_isNumber.2.2.1 mX4_isNumber.2.2.2.1 ∈ jW ∧ (mX4_isNumber.1.cls ≠ "java/lang/invoke/MethodHandle" ∧ mX4_isNumber.1.cls ≠ "java/lang/invoke/VarHandle" ∧ (parseMethodDescriptor mX4_isNumber.1.desc).map (fun d => d.parameters.length) = some 1)) ∧ Cond.static mX4_isNumber.1 ∈ jW := ⟨⟨tw_1, tw_356, by decide +kernel⟩, tw_355⟩
theorem tw_772 : Cond.methodLink RX5 75 yX5_in ∈ jW := jW_of (List.mem_append_right _ (List.mem_of_getElem? (l := tables_1) (i := 772) (by decide +kernel))) rfl
theorem tw_6 : Cond.initialized RX5 ∈ jW := jW_of (List.mem_append_right _ (List.mem_of_getElem? (l := tables_1) (i := 6) (by decide +kernel))) rfl
theorem tw_774 : Cond.code yX5_in cX5_in 6 (some .boolean) ∈ jW := jW_of (List.mem_append_right _ (List.mem_of_getElem? (l := tables_1) (i := 774) (by decide +kernel))) rfl
theorem tw_773 : Cond.static yX5_in ∈ jW := jW_of (List.mem_append_right _ (List.mem_of_getElem? (l := tables_1) (i := 773) (by decide +kernel))) rfl
theorem lk_X5_75 : jLs RX5 75 mX5_in 3 := ⟨⟨tw_772, tw_6, tw_774, by decide +kernel⟩, tw_773⟩
theorem tw_768 : Cond.methodLink RX5 85 yX5_isSheet ∈ jW := jW_of (List.mem_append_right _ (List.mem_of_getElem? (l := tables_1) (i := 768) (by decide +kernel))) rfl
theorem tw_770 : Cond.code yX5_isSheet cX5_isSheet 1 (some .boolean) ∈ jW := jW_of (List.mem_append_right _ (List.mem_of_getElem? (l := tables_1) (i := 770) (by decide +kernel))) rfl
theorem tw_769 : Cond.static yX5_isSheet ∈ jW := jW_of (List.mem_append_right _ (List.mem_of_getElem? (l := tables_1) (i := 769) (by decide +kernel))) rfl
theorem lk_X5_85 : jLs RX5 85 mX5_isSheet 1 := ⟨⟨tw_768, tw_6, tw_770, by decide +kernel⟩, tw_769⟩
theorem tw_776 : Cond.methodLink RX5 91 yX5_finds ∈ jW := jW_of (List.mem_append_right _ (List.mem_of_getElem? (l := tables_1) (i := 776) (by decide +kernel))) rfl
theorem tw_779 : Cond.code yX5_finds cX5_finds 2 (some .int) ∈ jW := jW_of (List.mem_append_right _ (List.mem_of_getElem? (l := tables_1) (i := 779) (by decide +kernel))) rfl
theorem tw_778 : Cond.instanceMethod yX5_finds ∈ jW := jW_of (List.mem_append_right _ (List.mem_of_getElem? (l := tables_1) (i := 778) (by decide +kernel))) rfl
theorem ts_16 : Cond.selects RX5 yX5_finds yX5_finds ∈ jW := jW_of (List.mem_append_left _ (List.mem_of_getElem? (l := k2_sels lw_privs) (i := 16) (by decide +kernel))) rfl
theorem lk_X5_91 : jLv RX5 91 mX5_finds 1 := ⟨⟨tw_776, tw_6, tw_779, by decide +kernel⟩, tw_778, ts_16⟩
theorem tw_788 : Cond.methodLink RX5 95 yX5_lacks ∈ jW := jW_of (List.mem_append_right _ (List.mem_of_getElem? (l := tables_1) (i := 788) (by decide +kernel))) rfl
theorem tw_791 : Cond.code yX5_lacks cX5_lacks 4 (some .int) ∈ jW := jW_of (List.mem_append_right _ (List.mem_of_getElem? (l := tables_1) (i := 791) (by decide +kernel))) rfl
theorem tw_790 : Cond.instanceMethod yX5_lacks ∈ jW := jW_of (List.mem_append_right _ (List.mem_of_getElem? (l := tables_1) (i := 790) (by decide +kernel))) rfl
theorem ts_17 : Cond.selects RX5 yX5_lacks yX5_lacks ∈ jW := jW_of (List.mem_append_left _ (List.mem_of_getElem? (l := k2_sels lw_privs) (i := 17) (by decide +kernel))) rfl
theorem lk_X5_95 : jLv RX5 95 mX5_lacks 3 := ⟨⟨tw_788, tw_6, tw_791, by decide +kernel⟩, tw_790, ts_17⟩
theorem tw_792 : Cond.methodLink RX5 99 yX5_cut ∈ jW := jW_of (List.mem_append_right _ (List.mem_of_getElem? (l := tables_1) (i := 792) (by decide +kernel))) rfl
theorem tw_794 : Cond.code yX5_cut cX5_cut 2 (some .int) ∈ jW := jW_of (List.mem_append_right _ (List.mem_of_getElem? (l := tables_1) (i := 794) (by decide +kernel))) rfl
theorem tw_793 : Cond.static yX5_cut ∈ jW := jW_of (List.mem_append_right _ (List.mem_of_getElem? (l := tables_1) (i := 793) (by decide +kernel))) rfl
theorem lk_X5_99 : jLs RX5 99 mX5_cut 2 := ⟨⟨tw_792, tw_6, tw_794, by decide +kernel⟩, tw_793⟩
theorem tw_829 : Cond.methodLink RX5 115 yX5_lawOf ∈ jW := jW_of (List.mem_append_right _ (List.mem_of_getElem? (l := tables_1) (i := 829) (by decide +kernel))) rfl
theorem tw_831 : Cond.code yX5_lawOf cX5_lawOf 1 (some .int) ∈ jW := jW_of (List.mem_append_right _ (List.mem_of_getElem? (l := tables_1) (i := 831) (by decide +kernel))) rfl
theorem tw_830 : Cond.static yX5_lawOf ∈ jW := jW_of (List.mem_append_right _ (List.mem_of_getElem? (l := tables_1) (i := 830) (by decide +kernel))) rfl
theorem lk_X5_115 : jLs RX5 115 mX5_lawOf 1 := ⟨⟨tw_829, tw_6, tw_831, by decide +kernel⟩, tw_830⟩
theorem tw_825 : Cond.methodLink RX5 122 yX5_readsBox ∈ jW := jW_of (List.mem_append_right _ (List.mem_of_getElem? (l := tables_1) (i := 825) (by decide +kernel))) rfl
theorem tw_828 : Cond.code yX5_readsBox cX5_readsBox 4 (some .boolean) ∈ jW := jW_of (List.mem_append_right _ (List.mem_of_getElem? (l := tables_1) (i := 828) (by decide +kernel))) rfl
theorem tw_827 : Cond.instanceMethod yX5_readsBox ∈ jW := jW_of (List.mem_append_right _ (List.mem_of_getElem? (l := tables_1) (i := 827) (by decide +kernel))) rfl
theorem ts_19 : Cond.selects RX5 yX5_readsBox yX5_readsBox ∈ jW := jW_of (List.mem_append_left _ (List.mem_of_getElem? (l := k2_sels lw_privs) (i := 19) (by decide +kernel))) rfl
theorem lk_X5_122 : jLv RX5 122 mX5_readsBox 0 := ⟨⟨tw_825, tw_6, tw_828, by decide +kernel⟩, tw_827, ts_19⟩
theorem tw_821 : Cond.methodLink RX5 126 yX5_reads ∈ jW := jW_of (List.mem_append_right _ (List.mem_of_getElem? (l := tables_1) (i := 821) (by decide +kernel))) rfl
theorem tw_824 : Cond.code yX5_reads cX5_reads 3 (some .int) ∈ jW := jW_of (List.mem_append_right _ (List.mem_of_getElem? (l := tables_1) (i := 824) (by decide +kernel))) rfl
theorem tw_823 : Cond.instanceMethod yX5_reads ∈ jW := jW_of (List.mem_append_right _ (List.mem_of_getElem? (l := tables_1) (i := 823) (by decide +kernel))) rfl
theorem ts_18 : Cond.selects RX5 yX5_reads yX5_reads ∈ jW := jW_of (List.mem_append_left _ (List.mem_of_getElem? (l := k2_sels lw_privs) (i := 18) (by decide +kernel))) rfl
theorem lk_X5_126 : jLv RX5 126 mX5_reads 0 := ⟨⟨tw_821, tw_6, tw_824, by decide +kernel⟩, tw_823, ts_18⟩
theorem tw_838 : Cond.methodLink RX5 134 yX5_isBox ∈ jW := jW_of (List.mem_append_right _ (List.mem_of_getElem? (l := tables_1) (i := 838) (by decide +kernel))) rfl
theorem tw_841 : Cond.code yX5_isBox cX5_isBox 2 (some .boolean) ∈ jW := jW_of (List.mem_append_right _ (List.mem_of_getElem? (l := tables_1) (i := 841) (by decide +kernel))) rfl
theorem tw_840 : Cond.instanceMethod yX5_isBox ∈ jW := jW_of (List.mem_append_right _ (List.mem_of_getElem? (l := tables_1) (i := 840) (by decide +kernel))) rfl
theorem ts_20 : Cond.selects RX5 yX5_isBox yX5_isBox ∈ jW := jW_of (List.mem_append_left _ (List.mem_of_getElem? (l := k2_sels lw_privs) (i := 20) (by decide +kernel))) rfl
theorem lk_X5_134 : jLv RX5 134 mX5_isBox 1 := ⟨⟨tw_838, tw_6, tw_841, by decide +kernel⟩, tw_840, ts_20⟩
theorem tw_846 : Cond.methodLink RX5 137 yX5_isAny ∈ jW := jW_of (List.mem_append_right _ (List.mem_of_getElem? (l := tables_1) (i := 846) (by decide +kernel))) rfl
theorem tw_848 : Cond.code yX5_isAny cX5_isAny 1 (some .boolean) ∈ jW := jW_of (List.mem_append_right _ (List.mem_of_getElem? (l := tables_1) (i := 848) (by decide +kernel))) rfl
theorem tw_847 : Cond.static yX5_isAny ∈ jW := jW_of (List.mem_append_right _ (List.mem_of_getElem? (l := tables_1) (i := 847) (by decide +kernel))) rfl
theorem lk_X5_137 : jLs RX5 137 mX5_isAny 1 := ⟨⟨tw_846, tw_6, tw_848, by decide +kernel⟩, tw_847⟩
theorem tw_863 : Cond.methodLink RX5 145 yX5_isStep ∈ jW := jW_of (List.mem_append_right _ (List.mem_of_getElem? (l := tables_1) (i := 863) (by decide +kernel))) rfl
theorem tw_865 : Cond.code yX5_isStep cX5_isStep 1 (some .boolean) ∈ jW := jW_of (List.mem_append_right _ (List.mem_of_getElem? (l := tables_1) (i := 865) (by decide +kernel))) rfl
theorem tw_864 : Cond.static yX5_isStep ∈ jW := jW_of (List.mem_append_right _ (List.mem_of_getElem? (l := tables_1) (i := 864) (by decide +kernel))) rfl
theorem lk_X5_145 : jLs RX5 145 mX5_isStep 1 := ⟨⟨tw_863, tw_6, tw_865, by decide +kernel⟩, tw_864⟩
theorem tw_875 : Cond.methodLink RX5 151 yX5_tell ∈ jW := jW_of (List.mem_append_right _ (List.mem_of_getElem? (l := tables_1) (i := 875) (by decide +kernel))) rfl
theorem tw_862 : Cond.code yX5_tell cX5_tell 4 (some .int) ∈ jW := jW_of (List.mem_append_right _ (List.mem_of_getElem? (l := tables_1) (i := 862) (by decide +kernel))) rfl
theorem tw_860 : Cond.instanceMethod yX5_tell ∈ jW := jW_of (List.mem_append_right _ (List.mem_of_getElem? (l := tables_1) (i := 860) (by decide +kernel))) rfl
theorem tw_861 : Cond.selects RX5 yX5_tell yX5_tell ∈ jW := jW_of (List.mem_append_right _ (List.mem_of_getElem? (l := tables_1) (i := 861) (by decide +kernel))) rfl
theorem lk_X5_151 : jLv RX5 151 mX5_tell 3 := ⟨⟨tw_875, tw_6, tw_862, by decide +kernel⟩, tw_860, tw_861⟩
theorem tw_892 : Cond.methodLink RX5 157 yX5_isIn ∈ jW := jW_of (List.mem_append_right _ (List.mem_of_getElem? (l := tables_1) (i := 892) (by decide +kernel))) rfl
theorem tw_894 : Cond.code yX5_isIn cX5_isIn 2 (some .boolean) ∈ jW := jW_of (List.mem_append_right _ (List.mem_of_getElem? (l := tables_1) (i := 894) (by decide +kernel))) rfl
theorem tw_893 : Cond.static yX5_isIn ∈ jW := jW_of (List.mem_append_right _ (List.mem_of_getElem? (l := tables_1) (i := 893) (by decide +kernel))) rfl
theorem lk_X5_157 : jLs RX5 157 mX5_isIn 2 := ⟨⟨tw_892, tw_6, tw_894, by decide +kernel⟩, tw_893⟩
theorem tw_907 : Cond.methodLink RX5 161 yX5_amount ∈ jW := jW_of (List.mem_append_right _ (List.mem_of_getElem? (l := tables_1) (i := 907) (by decide +kernel))) rfl
theorem tw_909 : Cond.code yX5_amount cX5_amount 1 (some .int) ∈ jW := jW_of (List.mem_append_right _ (List.mem_of_getElem? (l := tables_1) (i := 909) (by decide +kernel))) rfl
theorem tw_908 : Cond.static yX5_amount ∈ jW := jW_of (List.mem_append_right _ (List.mem_of_getElem? (l := tables_1) (i := 908) (by decide +kernel))) rfl
theorem lk_X5_161 : jLs RX5 161 mX5_amount 1 := ⟨⟨tw_907, tw_6, tw_909, by decide +kernel⟩, tw_908⟩
theorem tw_903 : Cond.methodLink RX5 164 yX5_isNear ∈ jW := jW_of (List.mem_append_right _ (List.mem_of_getElem? (l := tables_1) (i := 903) (by decide +kernel))) rfl
theorem tw_906 : Cond.code yX5_isNear cX5_isNear 5 (some .boolean) ∈ jW := jW_of (List.mem_append_right _ (List.mem_of_getElem? (l := tables_1) (i := 906) (by decide +kernel))) rfl
theorem tw_905 : Cond.instanceMethod yX5_isNear ∈ jW := jW_of (List.mem_append_right _ (List.mem_of_getElem? (l := tables_1) (i := 905) (by decide +kernel))) rfl
theorem ts_26 : Cond.selects RX5 yX5_isNear yX5_isNear ∈ jW := jW_of (List.mem_append_left _ (List.mem_of_getElem? (l := k2_sels lw_privs) (i := 26) (by decide +kernel))) rfl
theorem lk_X5_164 : jLv RX5 164 mX5_isNear 2 := ⟨⟨tw_903, tw_6, tw_906, by decide +kernel⟩, tw_905, ts_26⟩
theorem tw_910 : Cond.methodLink RX5 167 yX5_ones ∈ jW := jW_of (List.mem_append_right _ (List.mem_of_getElem? (l := tables_1) (i := 910) (by decide +kernel))) rfl
theorem tw_912 : Cond.code yX5_ones cX5_ones 3 (some .int) ∈ jW := jW_of (List.mem_append_right _ (List.mem_of_getElem? (l := tables_1) (i := 912) (by decide +kernel))) rfl
theorem tw_911 : Cond.static yX5_ones ∈ jW := jW_of (List.mem_append_right _ (List.mem_of_getElem? (l := tables_1) (i := 911) (by decide +kernel))) rfl
theorem lk_X5_167 : jLs RX5 167 mX5_ones 1 := ⟨⟨tw_910, tw_6, tw_912, by decide +kernel⟩, tw_911⟩
theorem tw_895 : Cond.methodLink RX5 170 yX5_springAt ∈ jW := jW_of (List.mem_append_right _ (List.mem_of_getElem? (l := tables_1) (i := 895) (by decide +kernel))) rfl
theorem tw_898 : Cond.code yX5_springAt cX5_springAt 3 (some .int) ∈ jW := jW_of (List.mem_append_right _ (List.mem_of_getElem? (l := tables_1) (i := 898) (by decide +kernel))) rfl
theorem tw_897 : Cond.instanceMethod yX5_springAt ∈ jW := jW_of (List.mem_append_right _ (List.mem_of_getElem? (l := tables_1) (i := 897) (by decide +kernel))) rfl
theorem ts_24 : Cond.selects RX5 yX5_springAt yX5_springAt ∈ jW := jW_of (List.mem_append_left _ (List.mem_of_getElem? (l := k2_sels lw_privs) (i := 24) (by decide +kernel))) rfl
theorem lk_X5_170 : jLv RX5 170 mX5_springAt 2 := ⟨⟨tw_895, tw_6, tw_898, by decide +kernel⟩, tw_897, ts_24⟩
theorem tw_899 : Cond.methodLink RX5 173 yX5_opensNow ∈ jW := jW_of (List.mem_append_right _ (List.mem_of_getElem? (l := tables_1) (i := 899) (by decide +kernel))) rfl
theorem tw_902 : Cond.code yX5_opensNow cX5_opensNow 4 (some .boolean) ∈ jW := jW_of (List.mem_append_right _ (List.mem_of_getElem? (l := tables_1) (i := 902) (by decide +kernel))) rfl
theorem tw_901 : Cond.instanceMethod yX5_opensNow ∈ jW := jW_of (List.mem_append_right _ (List.mem_of_getElem? (l := tables_1) (i := 901) (by decide +kernel))) rfl
theorem ts_25 : Cond.selects RX5 yX5_opensNow yX5_opensNow ∈ jW := jW_of (List.mem_append_left _ (List.mem_of_getElem? (l := k2_sels lw_privs) (i := 25) (by decide +kernel))) rfl
theorem lk_X5_173 : jLv RX5 173 mX5_opensNow 2 := ⟨⟨tw_899, tw_6, tw_902, by decide +kernel⟩, tw_901, ts_25⟩
theorem tw_884 : Cond.methodLink RX5 176 yX5_plain ∈ jW := jW_of (List.mem_append_right _ (List.mem_of_getElem? (l := tables_1) (i := 884) (by decide +kernel))) rfl
theorem tw_887 : Cond.code yX5_plain cX5_plain 2 none ∈ jW := jW_of (List.mem_append_right _ (List.mem_of_getElem? (l := tables_1) (i := 887) (by decide +kernel))) rfl
theorem tw_886 : Cond.instanceMethod yX5_plain ∈ jW := jW_of (List.mem_append_right _ (List.mem_of_getElem? (l := tables_1) (i := 886) (by decide +kernel))) rfl
theorem ts_22 : Cond.selects RX5 yX5_plain yX5_plain ∈ jW := jW_of (List.mem_append_left _ (List.mem_of_getElem? (l := k2_sels lw_privs) (i := 22) (by decide +kernel))) rfl
theorem lk_X5_176 : jLv RX5 176 mX5_plain 0 := ⟨⟨tw_884, tw_6, tw_887, by decide +kernel⟩, tw_886, ts_22⟩
theorem tw_888 : Cond.methodLink RX5 179 yX5_lives ∈ jW := jW_of (List.mem_append_right _ (List.mem_of_getElem? (l := tables_1) (i := 888) (by decide +kernel))) rfl
theorem tw_891 : Cond.code yX5_lives cX5_lives 8 none ∈ jW := jW_of (List.mem_append_right _ (List.mem_of_getElem? (l := tables_1) (i := 891) (by decide +kernel))) rfl
theorem tw_890 : Cond.instanceMethod yX5_lives ∈ jW := jW_of (List.mem_append_right _ (List.mem_of_getElem? (l := tables_1) (i := 890) (by decide +kernel))) rfl
theorem ts_23 : Cond.selects RX5 yX5_lives yX5_lives ∈ jW := jW_of (List.mem_append_left _ (List.mem_of_getElem? (l := k2_sels lw_privs) (i := 23) (by decide +kernel))) rfl
theorem lk_X5_179 : jLv RX5 179 mX5_lives 1 := ⟨⟨tw_888, tw_6, tw_891, by decide +kernel⟩, tw_890, ts_23⟩
theorem tw_880 : Cond.methodLink RX5 183 yX5_find ∈ jW := jW_of (List.mem_append_right _ (List.mem_of_getElem? (l := tables_1) (i := 880) (by decide +kernel))) rfl
theorem tw_883 : Cond.code yX5_find cX5_find 1 none ∈ jW := jW_of (List.mem_append_right _ (List.mem_of_getElem? (l := tables_1) (i := 883) (by decide +kernel))) rfl
theorem tw_882 : Cond.instanceMethod yX5_find ∈ jW := jW_of (List.mem_append_right _ (List.mem_of_getElem? (l := tables_1) (i := 882) (by decide +kernel))) rfl
theorem ts_21 : Cond.selects RX5 yX5_find yX5_find ∈ jW := jW_of (List.mem_append_left _ (List.mem_of_getElem? (l := k2_sels lw_privs) (i := 21) (by decide +kernel))) rfl
theorem lk_X5_183 : jLv RX5 183 mX5_find 0 := ⟨⟨tw_880, tw_6, tw_883, by decide +kernel⟩, tw_882, ts_21⟩
theorem tw_913 : Cond.methodLink RX5 186 yX5_isTwo ∈ jW := jW_of (List.mem_append_right _ (List.mem_of_getElem? (l := tables_1) (i := 913) (by decide +kernel))) rfl
theorem tw_915 : Cond.code yX5_isTwo cX5_isTwo 1 (some .boolean) ∈ jW := jW_of (List.mem_append_right _ (List.mem_of_getElem? (l := tables_1) (i := 915) (by decide +kernel))) rfl
theorem tw_914 : Cond.static yX5_isTwo ∈ jW := jW_of (List.mem_append_right _ (List.mem_of_getElem? (l := tables_1) (i := 914) (by decide +kernel))) rfl
theorem lk_X5_186 : jLs RX5 186 mX5_isTwo 1 := ⟨⟨tw_913, tw_6, tw_915, by decide +kernel⟩, tw_914⟩
theorem tw_924 : Cond.methodLink RX5 189 yX5_quietNow ∈ jW := jW_of (List.mem_append_right _ (List.mem_of_getElem? (l := tables_1) (i := 924) (by decide +kernel))) rfl
theorem tw_927 : Cond.code yX5_quietNow cX5_quietNow 2 (some .int) ∈ jW := jW_of (List.mem_append_right _ (List.mem_of_getElem? (l := tables_1) (i := 927) (by decide +kernel))) rfl
theorem tw_926 : Cond.instanceMethod yX5_quietNow ∈ jW := jW_of (List.mem_append_right _ (List.mem_of_getElem? (l := tables_1) (i := 926) (by decide +kernel))) rfl
theorem ts_27 : Cond.selects RX5 yX5_quietNow yX5_quietNow ∈ jW := jW_of (List.mem_append_left _ (List.mem_of_getElem? (l := k2_sels lw_privs) (i := 27) (by decide +kernel))) rfl
theorem lk_X5_189 : jLv RX5 189 mX5_quietNow 0 := ⟨⟨tw_924, tw_6, tw_927, by decide +kernel⟩, tw_926, ts_27⟩
theorem tw_932 : Cond.methodLink RX5 192 yX5_loudestOf ∈ jW := jW_of (List.mem_append_right _ (List.mem_of_getElem? (l := tables_1) (i := 932) (by decide +kernel))) rfl
theorem tw_935 : Cond.code yX5_loudestOf cX5_loudestOf 4 (some .int) ∈ jW := jW_of (List.mem_append_right _ (List.mem_of_getElem? (l := tables_1) (i := 935) (by decide +kernel))) rfl
theorem tw_934 : Cond.instanceMethod yX5_loudestOf ∈ jW := jW_of (List.mem_append_right _ (List.mem_of_getElem? (l := tables_1) (i := 934) (by decide +kernel))) rfl
theorem ts_28 : Cond.selects RX5 yX5_loudestOf yX5_loudestOf ∈ jW := jW_of (List.mem_append_left _ (List.mem_of_getElem? (l := k2_sels lw_privs) (i := 28) (by decide +kernel))) rfl
theorem lk_X5_192 : jLv RX5 192 mX5_loudestOf 1 := ⟨⟨tw_932, tw_6, tw_935, by decide +kernel⟩, tw_934, ts_28⟩
theorem tw_940 : Cond.methodLink RX5 195 yX5_firstOf ∈ jW := jW_of (List.mem_append_right _ (List.mem_of_getElem? (l := tables_1) (i := 940) (by decide +kernel))) rfl
theorem tw_943 : Cond.code yX5_firstOf cX5_firstOf 3 (some .int) ∈ jW := jW_of (List.mem_append_right _ (List.mem_of_getElem? (l := tables_1) (i := 943) (by decide +kernel))) rfl
theorem tw_942 : Cond.instanceMethod yX5_firstOf ∈ jW := jW_of (List.mem_append_right _ (List.mem_of_getElem? (l := tables_1) (i := 942) (by decide +kernel))) rfl
theorem ts_29 : Cond.selects RX5 yX5_firstOf yX5_firstOf ∈ jW := jW_of (List.mem_append_left _ (List.mem_of_getElem? (l := k2_sels lw_privs) (i := 29) (by decide +kernel))) rfl
theorem lk_X5_195 : jLv RX5 195 mX5_firstOf 1 := ⟨⟨tw_940, tw_6, tw_943, by decide +kernel⟩, tw_942, ts_29⟩
theorem tw_948 : Cond.methodLink RX5 198 yX5_areTwo ∈ jW := jW_of (List.mem_append_right _ (List.mem_of_getElem? (l := tables_1) (i := 948) (by decide +kernel))) rfl
theorem tw_951 : Cond.code yX5_areTwo cX5_areTwo 3 (some .boolean) ∈ jW := jW_of (List.mem_append_right _ (List.mem_of_getElem? (l := tables_1) (i := 951) (by decide +kernel))) rfl
theorem tw_950 : Cond.instanceMethod yX5_areTwo ∈ jW := jW_of (List.mem_append_right _ (List.mem_of_getElem? (l := tables_1) (i := 950) (by decide +kernel))) rfl
theorem ts_30 : Cond.selects RX5 yX5_areTwo yX5_areTwo ∈ jW := jW_of (List.mem_append_left _ (List.mem_of_getElem? (l := k2_sels lw_privs) (i := 30) (by decide +kernel))) rfl
theorem lk_X5_198 : jLv RX5 198 mX5_areTwo 2 := ⟨⟨tw_948, tw_6, tw_951, by decide +kernel⟩, tw_950, ts_30⟩
theorem tw_952 : Cond.methodLink RX5 201 yX5_togetherOf ∈ jW := jW_of (List.mem_append_right _ (List.mem_of_getElem? (l := tables_1) (i := 952) (by decide +kernel))) rfl
theorem tw_955 : Cond.code yX5_togetherOf cX5_togetherOf 5 (some .int) ∈ jW := jW_of (List.mem_append_right _ (List.mem_of_getElem? (l := tables_1) (i := 955) (by decide +kernel))) rfl
theorem tw_954 : Cond.instanceMethod yX5_togetherOf ∈ jW := jW_of (List.mem_append_right _ (List.mem_of_getElem? (l := tables_1) (i := 954) (by decide +kernel))) rfl
theorem ts_31 : Cond.selects RX5 yX5_togetherOf yX5_togetherOf ∈ jW := jW_of (List.mem_append_left _ (List.mem_of_getElem? (l := k2_sels lw_privs) (i := 31) (by decide +kernel))) rfl
theorem lk_X5_201 : jLv RX5 201 mX5_togetherOf 2 := ⟨⟨tw_952, tw_6, tw_955, by decide +kernel⟩, tw_954, ts_31⟩
theorem tw_964 : Cond.methodLink RX5 204 yX5_haveIt ∈ jW := jW_of (List.mem_append_right _ (List.mem_of_getElem? (l := tables_1) (i := 964) (by decide +kernel))) rfl
theorem tw_967 : Cond.code yX5_haveIt cX5_haveIt 6 (some .int) ∈ jW := jW_of (List.mem_append_right _ (List.mem_of_getElem? (l := tables_1) (i := 967) (by decide +kernel))) rfl
theorem tw_966 : Cond.instanceMethod yX5_haveIt ∈ jW := jW_of (List.mem_append_right _ (List.mem_of_getElem? (l := tables_1) (i := 966) (by decide +kernel))) rfl
theorem ts_33 : Cond.selects RX5 yX5_haveIt yX5_haveIt ∈ jW := jW_of (List.mem_append_left _ (List.mem_of_getElem? (l := k2_sels lw_privs) (i := 33) (by decide +kernel))) rfl
theorem lk_X5_204 : jLv RX5 204 mX5_haveIt 3 := ⟨⟨tw_964, tw_6, tw_967, by decide +kernel⟩, tw_966, ts_33⟩
theorem tw_960 : Cond.methodLink RX5 207 yX5_newsOf ∈ jW := jW_of (List.mem_append_right _ (List.mem_of_getElem? (l := tables_1) (i := 960) (by decide +kernel))) rfl
theorem tw_963 : Cond.code yX5_newsOf cX5_newsOf 5 (some .int) ∈ jW := jW_of (List.mem_append_right _ (List.mem_of_getElem? (l := tables_1) (i := 963) (by decide +kernel))) rfl
theorem tw_962 : Cond.instanceMethod yX5_newsOf ∈ jW := jW_of (List.mem_append_right _ (List.mem_of_getElem? (l := tables_1) (i := 962) (by decide +kernel))) rfl
theorem ts_32 : Cond.selects RX5 yX5_newsOf yX5_newsOf ∈ jW := jW_of (List.mem_append_left _ (List.mem_of_getElem? (l := k2_sels lw_privs) (i := 32) (by decide +kernel))) rfl
theorem lk_X5_207 : jLv RX5 207 mX5_newsOf 3 := ⟨⟨tw_960, tw_6, tw_963, by decide +kernel⟩, tw_962, ts_32⟩
theorem tw_976 : Cond.methodLink RX5 210 yX5_hushOf ∈ jW := jW_of (List.mem_append_right _ (List.mem_of_getElem? (l := tables_1) (i := 976) (by decide +kernel))) rfl
theorem tw_979 : Cond.code yX5_hushOf cX5_hushOf 4 (some .int) ∈ jW := jW_of (List.mem_append_right _ (List.mem_of_getElem? (l := tables_1) (i := 979) (by decide +kernel))) rfl
theorem tw_978 : Cond.instanceMethod yX5_hushOf ∈ jW := jW_of (List.mem_append_right _ (List.mem_of_getElem? (l := tables_1) (i := 978) (by decide +kernel))) rfl
theorem ts_34 : Cond.selects RX5 yX5_hushOf yX5_hushOf ∈ jW := jW_of (List.mem_append_left _ (List.mem_of_getElem? (l := k2_sels lw_privs) (i := 34) (by decide +kernel))) rfl
theorem lk_X5_210 : jLv RX5 210 mX5_hushOf 1 := ⟨⟨tw_976, tw_6, tw_979, by decide +kernel⟩, tw_978, ts_34⟩
theorem tw_980 : Cond.methodLink RX5 213 yX5_tells ∈ jW := jW_of (List.mem_append_right _ (List.mem_of_getElem? (l := tables_1) (i := 980) (by decide +kernel))) rfl
theorem tw_982 : Cond.code yX5_tells cX5_tells 2 (some .int) ∈ jW := jW_of (List.mem_append_right _ (List.mem_of_getElem? (l := tables_1) (i := 982) (by decide +kernel))) rfl
theorem tw_981 : Cond.static yX5_tells ∈ jW := jW_of (List.mem_append_right _ (List.mem_of_getElem? (l := tables_1) (i := 981) (by decide +kernel))) rfl
theorem lk_X5_213 : jLs RX5 213 mX5_tells 2 := ⟨⟨tw_980, tw_6, tw_982, by decide +kernel⟩, tw_981⟩
theorem tw_999 : Cond.methodLink RX5 216 yX5_unfolds ∈ jW := jW_of (List.mem_append_right _ (List.mem_of_getElem? (l := tables_1) (i := 999) (by decide +kernel))) rfl
theorem tw_1002 : Cond.code yX5_unfolds cX5_unfolds 6 none ∈ jW := jW_of (List.mem_append_right _ (List.mem_of_getElem? (l := tables_1) (i := 1002) (by decide +kernel))) rfl
theorem tw_1001 : Cond.instanceMethod yX5_unfolds ∈ jW := jW_of (List.mem_append_right _ (List.mem_of_getElem? (l := tables_1) (i := 1001) (by decide +kernel))) rfl
theorem ts_37 : Cond.selects RX5 yX5_unfolds yX5_unfolds ∈ jW := jW_of (List.mem_append_left _ (List.mem_of_getElem? (l := k2_sels lw_privs) (i := 37) (by decide +kernel))) rfl
theorem lk_X5_216 : jLv RX5 216 mX5_unfolds 2 := ⟨⟨tw_999, tw_6, tw_1002, by decide +kernel⟩, tw_1001, ts_37⟩
theorem tw_1003 : Cond.methodLink RX5 220 yX5_opened ∈ jW := jW_of (List.mem_append_right _ (List.mem_of_getElem? (l := tables_1) (i := 1003) (by decide +kernel))) rfl
theorem tw_1006 : Cond.code yX5_opened cX5_opened 4 (some .int) ∈ jW := jW_of (List.mem_append_right _ (List.mem_of_getElem? (l := tables_1) (i := 1006) (by decide +kernel))) rfl
theorem tw_1005 : Cond.instanceMethod yX5_opened ∈ jW := jW_of (List.mem_append_right _ (List.mem_of_getElem? (l := tables_1) (i := 1005) (by decide +kernel))) rfl
theorem ts_38 : Cond.selects RX5 yX5_opened yX5_opened ∈ jW := jW_of (List.mem_append_left _ (List.mem_of_getElem? (l := k2_sels lw_privs) (i := 38) (by decide +kernel))) rfl
theorem lk_X5_220 : jLv RX5 220 mX5_opened 1 := ⟨⟨tw_1003, tw_6, tw_1006, by decide +kernel⟩, tw_1005, ts_38⟩
theorem tw_995 : Cond.methodLink RX5 223 yX5_findShelf ∈ jW := jW_of (List.mem_append_right _ (List.mem_of_getElem? (l := tables_1) (i := 995) (by decide +kernel))) rfl
theorem tw_998 : Cond.code yX5_findShelf cX5_findShelf 8 (some .int) ∈ jW := jW_of (List.mem_append_right _ (List.mem_of_getElem? (l := tables_1) (i := 998) (by decide +kernel))) rfl
theorem tw_997 : Cond.instanceMethod yX5_findShelf ∈ jW := jW_of (List.mem_append_right _ (List.mem_of_getElem? (l := tables_1) (i := 997) (by decide +kernel))) rfl
theorem ts_36 : Cond.selects RX5 yX5_findShelf yX5_findShelf ∈ jW := jW_of (List.mem_append_left _ (List.mem_of_getElem? (l := k2_sels lw_privs) (i := 36) (by decide +kernel))) rfl
theorem lk_X5_223 : jLv RX5 223 mX5_findShelf 2 := ⟨⟨tw_995, tw_6, tw_998, by decide +kernel⟩, tw_997, ts_36⟩
theorem tw_987 : Cond.methodLink RX5 226 yX5_lesserOf ∈ jW := jW_of (List.mem_append_right _ (List.mem_of_getElem? (l := tables_1) (i := 987) (by decide +kernel))) rfl
theorem tw_989 : Cond.code yX5_lesserOf cX5_lesserOf 1 (some .int) ∈ jW := jW_of (List.mem_append_right _ (List.mem_of_getElem? (l := tables_1) (i := 989) (by decide +kernel))) rfl
theorem tw_988 : Cond.static yX5_lesserOf ∈ jW := jW_of (List.mem_append_right _ (List.mem_of_getElem? (l := tables_1) (i := 988) (by decide +kernel))) rfl
theorem lk_X5_226 : jLs RX5 226 mX5_lesserOf 1 := ⟨⟨tw_987, tw_6, tw_989, by decide +kernel⟩, tw_988⟩
theorem tw_991 : Cond.methodLink RX5 231 yX5_shelfOf ∈ jW := jW_of (List.mem_append_right _ (List.mem_of_getElem? (l := tables_1) (i := 991) (by decide +kernel))) rfl
theorem tw_994 : Cond.code yX5_shelfOf cX5_shelfOf 5 (some .int) ∈ jW := jW_of (List.mem_append_right _ (List.mem_of_getElem? (l := tables_1) (i := 994) (by decide +kernel))) rfl
theorem tw_993 : Cond.instanceMethod yX5_shelfOf ∈ jW := jW_of (List.mem_append_right _ (List.mem_of_getElem? (l := tables_1) (i := 993) (by decide +kernel))) rfl
theorem ts_35 : Cond.selects RX5 yX5_shelfOf yX5_shelfOf ∈ jW := jW_of (List.mem_append_left _ (List.mem_of_getElem? (l := k2_sels lw_privs) (i := 35) (by decide +kernel))) rfl
theorem lk_X5_231 : jLv RX5 231 mX5_shelfOf 3 := ⟨⟨tw_991, tw_6, tw_994, by decide +kernel⟩, tw_993, ts_35⟩
theorem tw_1025 : Cond.methodLink RX5 239 yX5_takes ∈ jW := jW_of (List.mem_append_right _ (List.mem_of_getElem? (l := tables_1) (i := 1025) (by decide +kernel))) rfl
theorem tw_1028 : Cond.code yX5_takes cX5_takes 3 none ∈ jW := jW_of (List.mem_append_right _ (List.mem_of_getElem? (l := tables_1) (i := 1028) (by decide +kernel))) rfl
theorem tw_1027 : Cond.instanceMethod yX5_takes ∈ jW := jW_of (List.mem_append_right _ (List.mem_of_getElem? (l := tables_1) (i := 1027) (by decide +kernel))) rfl
theorem ts_40 : Cond.selects RX5 yX5_takes yX5_takes ∈ jW := jW_of (List.mem_append_left _ (List.mem_of_getElem? (l := k2_sels lw_privs) (i := 40) (by decide +kernel))) rfl
theorem lk_X5_239 : jLv RX5 239 mX5_takes 2 := ⟨⟨tw_1025, tw_6, tw_1028, by decide +kernel⟩, tw_1027, ts_40⟩
theorem tw_1029 : Cond.methodLink RX5 242 yX5_isHeard ∈ jW := jW_of (List.mem_append_right _ (List.mem_of_getElem? (l := tables_1) (i := 1029) (by decide +kernel))) rfl
theorem tw_1032 : Cond.code yX5_isHeard cX5_isHeard 3 (some .boolean) ∈ jW := jW_of (List.mem_append_right _ (List.mem_of_getElem? (l := tables_1) (i := 1032) (by decide +kernel))) rfl
theorem tw_1031 : Cond.instanceMethod yX5_isHeard ∈ jW := jW_of (List.mem_append_right _ (List.mem_of_getElem? (l := tables_1) (i := 1031) (by decide +kernel))) rfl
theorem ts_41 : Cond.selects RX5 yX5_isHeard yX5_isHeard ∈ jW := jW_of (List.mem_append_left _ (List.mem_of_getElem? (l := k2_sels lw_privs) (i := 41) (by decide +kernel))) rfl
theorem lk_X5_242 : jLv RX5 242 mX5_isHeard 0 := ⟨⟨tw_1029, tw_6, tw_1032, by decide +kernel⟩, tw_1031, ts_41⟩
theorem tw_1033 : Cond.methodLink RX5 245 yX5_lawName ∈ jW := jW_of (List.mem_append_right _ (List.mem_of_getElem? (l := tables_1) (i := 1033) (by decide +kernel))) rfl
theorem tw_1035 : Cond.code yX5_lawName cX5_lawName 1 (some .int) ∈ jW := jW_of (List.mem_append_right _ (List.mem_of_getElem? (l := tables_1) (i := 1035) (by decide +kernel))) rfl
theorem tw_1034 : Cond.static yX5_lawName ∈ jW := jW_of (List.mem_append_right _ (List.mem_of_getElem? (l := tables_1) (i := 1034) (by decide +kernel))) rfl
theorem lk_X5_245 : jLs RX5 245 mX5_lawName 1 := ⟨⟨tw_1033, tw_6, tw_1035, by decide +kernel⟩, tw_1034⟩
theorem tw_1036 : Cond.methodLink RX5 248 yX5_gives ∈ jW := jW_of (List.mem_append_right _ (List.mem_of_getElem? (l := tables_1) (i := 1036) (by decide +kernel))) rfl
theorem tw_1039 : Cond.code yX5_gives cX5_gives 2 none ∈ jW := jW_of (List.mem_append_right _ (List.mem_of_getElem? (l := tables_1) (i := 1039) (by decide +kernel))) rfl
theorem tw_1038 : Cond.instanceMethod yX5_gives ∈ jW := jW_of (List.mem_append_right _ (List.mem_of_getElem? (l := tables_1) (i := 1038) (by decide +kernel))) rfl
theorem ts_42 : Cond.selects RX5 yX5_gives yX5_gives ∈ jW := jW_of (List.mem_append_left _ (List.mem_of_getElem? (l := k2_sels lw_privs) (i := 42) (by decide +kernel))) rfl
theorem lk_X5_248 : jLv RX5 248 mX5_gives 1 := ⟨⟨tw_1036, tw_6, tw_1039, by decide +kernel⟩, tw_1038, ts_42⟩
theorem tw_1021 : Cond.methodLink RX5 253 yX5_learnOf ∈ jW := jW_of (List.mem_append_right _ (List.mem_of_getElem? (l := tables_1) (i := 1021) (by decide +kernel))) rfl
theorem tw_1024 : Cond.code yX5_learnOf cX5_learnOf 6 (some .int) ∈ jW := jW_of (List.mem_append_right _ (List.mem_of_getElem? (l := tables_1) (i := 1024) (by decide +kernel))) rfl
theorem tw_1023 : Cond.instanceMethod yX5_learnOf ∈ jW := jW_of (List.mem_append_right _ (List.mem_of_getElem? (l := tables_1) (i := 1023) (by decide +kernel))) rfl
theorem ts_39 : Cond.selects RX5 yX5_learnOf yX5_learnOf ∈ jW := jW_of (List.mem_append_left _ (List.mem_of_getElem? (l := k2_sels lw_privs) (i := 39) (by decide +kernel))) rfl
theorem lk_X5_253 : jLv RX5 253 mX5_learnOf 2 := ⟨⟨tw_1021, tw_6, tw_1024, by decide +kernel⟩, tw_1023, ts_39⟩
theorem tw_1044 : Cond.methodLink RX5 256 yX5_emptyNow ∈ jW := jW_of (List.mem_append_right _ (List.mem_of_getElem? (l := tables_1) (i := 1044) (by decide +kernel))) rfl
theorem tw_1047 : Cond.code yX5_emptyNow cX5_emptyNow 3 (some .int) ∈ jW := jW_of (List.mem_append_right _ (List.mem_of_getElem? (l := tables_1) (i := 1047) (by decide +kernel))) rfl
theorem tw_1046 : Cond.instanceMethod yX5_emptyNow ∈ jW := jW_of (List.mem_append_right _ (List.mem_of_getElem? (l := tables_1) (i := 1046) (by decide +kernel))) rfl
theorem ts_43 : Cond.selects RX5 yX5_emptyNow yX5_emptyNow ∈ jW := jW_of (List.mem_append_left _ (List.mem_of_getElem? (l := k2_sels lw_privs) (i := 43) (by decide +kernel))) rfl
theorem lk_X5_256 : jLv RX5 256 mX5_emptyNow 0 := ⟨⟨tw_1044, tw_6, tw_1047, by decide +kernel⟩, tw_1046, ts_43⟩
theorem tw_1052 : Cond.methodLink RX5 259 yX5_turnOf ∈ jW := jW_of (List.mem_append_right _ (List.mem_of_getElem? (l := tables_1) (i := 1052) (by decide +kernel))) rfl
theorem tw_1055 : Cond.code yX5_turnOf cX5_turnOf 10 (some .int) ∈ jW := jW_of (List.mem_append_right _ (List.mem_of_getElem? (l := tables_1) (i := 1055) (by decide +kernel))) rfl
theorem tw_1054 : Cond.instanceMethod yX5_turnOf ∈ jW := jW_of (List.mem_append_right _ (List.mem_of_getElem? (l := tables_1) (i := 1054) (by decide +kernel))) rfl
theorem ts_44 : Cond.selects RX5 yX5_turnOf yX5_turnOf ∈ jW := jW_of (List.mem_append_left _ (List.mem_of_getElem? (l := k2_sels lw_privs) (i := 44) (by decide +kernel))) rfl
theorem lk_X5_259 : jLv RX5 259 mX5_turnOf 2 := ⟨⟨tw_1052, tw_6, tw_1055, by decide +kernel⟩, tw_1054, ts_44⟩
theorem tw_1065 : Cond.methodLink RX5 264 yX5_part ∈ jW := jW_of (List.mem_append_right _ (List.mem_of_getElem? (l := tables_1) (i := 1065) (by decide +kernel))) rfl
theorem tw_1067 : Cond.code yX5_part cX5_part 11 (some .long) ∈ jW := jW_of (List.mem_append_right _ (List.mem_of_getElem? (l := tables_1) (i := 1067) (by decide +kernel))) rfl
theorem tw_1066 : Cond.static yX5_part ∈ jW := jW_of (List.mem_append_right _ (List.mem_of_getElem? (l := tables_1) (i := 1066) (by decide +kernel))) rfl
theorem lk_X5_264 : jLs RX5 264 mX5_part 3 := ⟨⟨tw_1065, tw_6, tw_1067, by decide +kernel⟩, tw_1066⟩
theorem tw_1061 : Cond.methodLink RX5 268 yX5_looksOf ∈ jW := jW_of (List.mem_append_right _ (List.mem_of_getElem? (l := tables_1) (i := 1061) (by decide +kernel))) rfl
theorem tw_1064 : Cond.code yX5_looksOf cX5_looksOf 14 (some .long) ∈ jW := jW_of (List.mem_append_right _ (List.mem_of_getElem? (l := tables_1) (i := 1064) (by decide +kernel))) rfl
theorem tw_1063 : Cond.instanceMethod yX5_looksOf ∈ jW := jW_of (List.mem_append_right _ (List.mem_of_getElem? (l := tables_1) (i := 1063) (by decide +kernel))) rfl
theorem ts_45 : Cond.selects RX5 yX5_looksOf yX5_looksOf ∈ jW := jW_of (List.mem_append_left _ (List.mem_of_getElem? (l := k2_sels lw_privs) (i := 45) (by decide +kernel))) rfl
theorem lk_X5_268 : jLv RX5 268 mX5_looksOf 4 := ⟨⟨tw_1061, tw_6, tw_1064, by decide +kernel⟩, tw_1063, ts_45⟩
theorem tw_1068 : Cond.methodLink RX5 272 yX5_no ∈ jW := jW_of (List.mem_append_right _ (List.mem_of_getElem? (l := tables_1) (i := 1068) (by decide +kernel))) rfl
theorem tw_1070 : Cond.code yX5_no cX5_no 1 (some .long) ∈ jW := jW_of (List.mem_append_right _ (List.mem_of_getElem? (l := tables_1) (i := 1070) (by decide +kernel))) rfl
theorem tw_1069 : Cond.static yX5_no ∈ jW := jW_of (List.mem_append_right _ (List.mem_of_getElem? (l := tables_1) (i := 1069) (by decide +kernel))) rfl
theorem lk_X5_272 : jLs RX5 272 mX5_no 1 := ⟨⟨tw_1068, tw_6, tw_1070, by decide +kernel⟩, tw_1069⟩
theorem tw_1076 : Cond.methodLink RX5 277 yX5_nightOf ∈ jW := jW_of (List.mem_append_right _ (List.mem_of_getElem? (l := tables_1) (i := 1076) (by decide +kernel))) rfl
theorem tw_1079 : Cond.code yX5_nightOf cX5_nightOf 6 (some .int) ∈ jW := jW_of (List.mem_append_right _ (List.mem_of_getElem? (l := tables_1) (i := 1079) (by decide +kernel))) rfl
theorem tw_1078 : Cond.instanceMethod yX5_nightOf ∈ jW := jW_of (List.mem_append_right _ (List.mem_of_getElem? (l := tables_1) (i := 1078) (by decide +kernel))) rfl
theorem ts_46 : Cond.selects RX5 yX5_nightOf yX5_nightOf ∈ jW := jW_of (List.mem_append_left _ (List.mem_of_getElem? (l := k2_sels lw_privs) (i := 46) (by decide +kernel))) rfl
theorem lk_X5_277 : jLv RX5 277 mX5_nightOf 3 := ⟨⟨tw_1076, tw_6, tw_1079, by decide +kernel⟩, tw_1078, ts_46⟩
theorem tw_1095 : Cond.methodLink RX5 284 yX5_count ∈ jW := jW_of (List.mem_append_right _ (List.mem_of_getElem? (l := tables_1) (i := 1095) (by decide +kernel))) rfl
theorem tw_1088 : Cond.code yX5_count cX5_count 4 (some .int) ∈ jW := jW_of (List.mem_append_right _ (List.mem_of_getElem? (l := tables_1) (i := 1088) (by decide +kernel))) rfl
theorem tw_1086 : Cond.instanceMethod yX5_count ∈ jW := jW_of (List.mem_append_right _ (List.mem_of_getElem? (l := tables_1) (i := 1086) (by decide +kernel))) rfl
theorem tw_1087 : Cond.selects RX5 yX5_count yX5_count ∈ jW := jW_of (List.mem_append_right _ (List.mem_of_getElem? (l := tables_1) (i := 1087) (by decide +kernel))) rfl
theorem lk_X5_284 : jLv RX5 284 mX5_count 1 := ⟨⟨tw_1095, tw_6, tw_1088, by decide +kernel⟩, tw_1086, tw_1087⟩
theorem tw_1096 : Cond.methodLink RX5 287 yX5_tellsBox ∈ jW := jW_of (List.mem_append_right _ (List.mem_of_getElem? (l := tables_1) (i := 1096) (by decide +kernel))) rfl
theorem tw_1099 : Cond.code yX5_tellsBox cX5_tellsBox 7 (some .long) ∈ jW := jW_of (List.mem_append_right _ (List.mem_of_getElem? (l := tables_1) (i := 1099) (by decide +kernel))) rfl
theorem tw_1098 : Cond.instanceMethod yX5_tellsBox ∈ jW := jW_of (List.mem_append_right _ (List.mem_of_getElem? (l := tables_1) (i := 1098) (by decide +kernel))) rfl
theorem ts_47 : Cond.selects RX5 yX5_tellsBox yX5_tellsBox ∈ jW := jW_of (List.mem_append_left _ (List.mem_of_getElem? (l := k2_sels lw_privs) (i := 47) (by decide +kernel))) rfl
theorem lk_X5_287 : jLv RX5 287 mX5_tellsBox 2 := ⟨⟨tw_1096, tw_6, tw_1099, by decide +kernel⟩, tw_1098, ts_47⟩
theorem tw_1100 : Cond.methodLink RX5 291 yX5_news ∈ jW := jW_of (List.mem_append_right _ (List.mem_of_getElem? (l := tables_1) (i := 1100) (by decide +kernel))) rfl
theorem tw_959 : Cond.code yX5_news cX5_news 4 (some .int) ∈ jW := jW_of (List.mem_append_right _ (List.mem_of_getElem? (l := tables_1) (i := 959) (by decide +kernel))) rfl
theorem tw_957 : Cond.instanceMethod yX5_news ∈ jW := jW_of (List.mem_append_right _ (List.mem_of_getElem? (l := tables_1) (i := 957) (by decide +kernel))) rfl
theorem tw_958 : Cond.selects RX5 yX5_news yX5_news ∈ jW := jW_of (List.mem_append_right _ (List.mem_of_getElem? (l := tables_1) (i := 958) (by decide +kernel))) rfl
theorem lk_X5_291 : jLv RX5 291 mX5_news 3 := ⟨⟨tw_1100, tw_6, tw_959, by decide +kernel⟩, tw_957, tw_958⟩
theorem tw_1101 : Cond.methodLink RX5 294 yX5_shelf ∈ jW := jW_of (List.mem_append_right _ (List.mem_of_getElem? (l := tables_1) (i := 1101) (by decide +kernel))) rfl
theorem tw_986 : Cond.code yX5_shelf cX5_shelf 4 (some .int) ∈ jW := jW_of (List.mem_append_right _ (List.mem_of_getElem? (l := tables_1) (i := 986) (by decide +kernel))) rfl
theorem tw_984 : Cond.instanceMethod yX5_shelf ∈ jW := jW_of (List.mem_append_right _ (List.mem_of_getElem? (l := tables_1) (i := 984) (by decide +kernel))) rfl
theorem tw_985 : Cond.selects RX5 yX5_shelf yX5_shelf ∈ jW := jW_of (List.mem_append_right _ (List.mem_of_getElem? (l := tables_1) (i := 985) (by decide +kernel))) rfl
theorem lk_X5_294 : jLv RX5 294 mX5_shelf 3 := ⟨⟨tw_1101, tw_6, tw_986, by decide +kernel⟩, tw_984, tw_985⟩
theorem tw_1102 : Cond.methodLink RX5 296 yX5_turn ∈ jW := jW_of (List.mem_append_right _ (List.mem_of_getElem? (l := tables_1) (i := 1102) (by decide +kernel))) rfl
theorem tw_1051 : Cond.code yX5_turn cX5_turn 3 (some .int) ∈ jW := jW_of (List.mem_append_right _ (List.mem_of_getElem? (l := tables_1) (i := 1051) (by decide +kernel))) rfl
theorem tw_1049 : Cond.instanceMethod yX5_turn ∈ jW := jW_of (List.mem_append_right _ (List.mem_of_getElem? (l := tables_1) (i := 1049) (by decide +kernel))) rfl
theorem tw_1050 : Cond.selects RX5 yX5_turn yX5_turn ∈ jW := jW_of (List.mem_append_right _ (List.mem_of_getElem? (l := tables_1) (i := 1050) (by decide +kernel))) rfl
theorem lk_X5_296 : jLv RX5 296 mX5_turn 2 := ⟨⟨tw_1102, tw_6, tw_1051, by decide +kernel⟩, tw_1049, tw_1050⟩
theorem tw_261 : Cond.methodLink RJ0 335 yJ0_coder_7d493 ∈ jW := jW_of (List.mem_append_right _ (List.mem_of_getElem? (l := tables_1) (i := 261) (by decide +kernel))) rfl
theorem tw_264 : Cond.code yJ0_coder_7d493 cJ0_coder_7d493 1 (some .byte) ∈ jW := jW_of (List.mem_append_right _ (List.mem_of_getElem? (l := tables_1) (i := 264) (by decide +kernel))) rfl
theorem tw_262 : Cond.instanceMethod yJ0_coder_7d493 ∈ jW := jW_of (List.mem_append_right _ (List.mem_of_getElem? (l := tables_1) (i := 262) (by decide +kernel))) rfl
theorem tw_263 : Cond.selects RJ0 yJ0_coder_7d493 yJ0_coder_7d493 ∈ jW := jW_of (List.mem_append_right _ (List.mem_of_getElem? (l := tables_1) (i := 263) (by decide +kernel))) rfl
theorem lk_J0_335 : jLv RJ0 335 mJ0_coder_7d493 0 := ⟨⟨tw_261, tw_7, tw_264, by decide +kernel⟩, tw_262, tw_263⟩
theorem tw_251 : Cond.methodLink RJ0 492 yJ0_isLatin1_aae02 ∈ jW := jW_of (List.mem_append_right _ (List.mem_of_getElem? (l := tables_1) (i := 251) (by decide +kernel))) rfl
theorem tw_254 : Cond.code yJ0_isLatin1_aae02 cJ0_isLatin1_aae02 1 (some .boolean) ∈ jW := jW_of (List.mem_append_right _ (List.mem_of_getElem? (l := tables_1) (i := 254) (by decide +kernel))) rfl
theorem tw_252 : Cond.instanceMethod yJ0_isLatin1_aae02 ∈ jW := jW_of (List.mem_append_right _ (List.mem_of_getElem? (l := tables_1) (i := 252) (by decide +kernel))) rfl
theorem tw_253 : Cond.selects RJ0 yJ0_isLatin1_aae02 yJ0_isLatin1_aae02 ∈ jW := jW_of (List.mem_append_right _ (List.mem_of_getElem? (l := tables_1) (i := 253) (by decide +kernel))) rfl
theorem lk_J0_492 : jLv RJ0 492 mJ0_isLatin1_aae02 0 := ⟨⟨tw_251, tw_7, tw_254, by decide +kernel⟩, tw_252, tw_253⟩
theorem tw_257 : Cond.methodLink RJ0 505 yJ0_length_8abf5 ∈ jW := jW_of (List.mem_append_right _ (List.mem_of_getElem? (l := tables_1) (i := 257) (by decide +kernel))) rfl
theorem tw_260 : Cond.code yJ0_length_8abf5 cJ0_length_8abf5 1 (some .int) ∈ jW := jW_of (List.mem_append_right _ (List.mem_of_getElem? (l := tables_1) (i := 260) (by decide +kernel))) rfl
theorem tw_258 : Cond.instanceMethod yJ0_length_8abf5 ∈ jW := jW_of (List.mem_append_right _ (List.mem_of_getElem? (l := tables_1) (i := 258) (by decide +kernel))) rfl
theorem tw_259 : Cond.selects RJ0 yJ0_length_8abf5 yJ0_length_8abf5 ∈ jW := jW_of (List.mem_append_right _ (List.mem_of_getElem? (l := tables_1) (i := 259) (by decide +kernel))) rfl
theorem lk_J0_505 : jLv RJ0 505 mJ0_length_8abf5 0 := ⟨⟨tw_257, tw_7, tw_260, by decide +kernel⟩, tw_258, tw_259⟩
theorem tw_247 : Cond.methodLink RJ0 633 yJ0_indexOf_7cf53 ∈ jW := jW_of (List.mem_append_right _ (List.mem_of_getElem? (l := tables_1) (i := 247) (by decide +kernel))) rfl
theorem tw_250 : Cond.code yJ0_indexOf_7cf53 cJ0_indexOf_7cf53 3 (some .int) ∈ jW := jW_of (List.mem_append_right _ (List.mem_of_getElem? (l := tables_1) (i := 250) (by decide +kernel))) rfl
theorem tw_248 : Cond.instanceMethod yJ0_indexOf_7cf53 ∈ jW := jW_of (List.mem_append_right _ (List.mem_of_getElem? (l := tables_1) (i := 248) (by decide +kernel))) rfl
theorem tw_249 : Cond.selects RJ0 yJ0_indexOf_7cf53 yJ0_indexOf_7cf53 ∈ jW := jW_of (List.mem_append_right _ (List.mem_of_getElem? (l := tables_1) (i := 249) (by decide +kernel))) rfl
theorem lk_J0_633 : jLv RJ0 633 mJ0_indexOf_7cf53 2 := ⟨⟨tw_247, tw_7, tw_250, by decide +kernel⟩, tw_248, tw_249⟩
theorem tw_265 : Cond.methodLink RJ0 637 yJ1_indexOf_4cfef ∈ jW := jW_of (List.mem_append_right _ (List.mem_of_getElem? (l := tables_1) (i := 265) (by decide +kernel))) rfl
theorem tw_8 : Cond.initialized RJ1 ∈ jW := jW_of (List.mem_append_right _ (List.mem_of_getElem? (l := tables_1) (i := 8) (by decide +kernel))) rfl
theorem tw_267 : Cond.code yJ1_indexOf_4cfef cJ1_indexOf_4cfef 4 (some .int) ∈ jW := jW_of (List.mem_append_right _ (List.mem_of_getElem? (l := tables_1) (i := 267) (by decide +kernel))) rfl
theorem tw_266 : Cond.static yJ1_indexOf_4cfef ∈ jW := jW_of (List.mem_append_right _ (List.mem_of_getElem? (l := tables_1) (i := 266) (by decide +kernel))) rfl
theorem lk_J0_637 : jLs RJ0 637 mJ1_indexOf_4cfef 4 := ⟨⟨tw_265, tw_8, tw_267, by decide +kernel⟩, tw_266⟩
theorem tw_280 : Cond.methodLink RJ0 640 yJ2_indexOf_4cfef ∈ jW := jW_of (List.mem_append_right _ (List.mem_of_getElem? (l := tables_1) (i := 280) (by decide +kernel))) rfl
theorem tw_10 : Cond.initialized RJ2 ∈ jW := jW_of (List.mem_append_right _ (List.mem_of_getElem? (l := tables_1) (i := 10) (by decide +kernel))) rfl
theorem tw_282 : Cond.code yJ2_indexOf_4cfef cJ2_indexOf_4cfef 4 (some .int) ∈ jW := jW_of (List.mem_append_right _ (List.mem_of_getElem? (l := tables_1) (i := 282) (by decide +kernel))) rfl
theorem tw_281 : Cond.static yJ2_indexOf_4cfef ∈ jW := jW_of (List.mem_append_right _ (List.mem_of_getElem? (l := tables_1) (i := 281) (by decide +kernel))) rfl
theorem lk_J0_640 : jLs RJ0 640 mJ2_indexOf_4cfef 4 := ⟨⟨tw_280, tw_10, tw_282, by decide +kernel⟩, tw_281⟩
theorem tw_300 : Cond.methodLink RJ0 1062 yJ3_checkFromToIndex_8c36e ∈ jW := jW_of (List.mem_append_right _ (List.mem_of_getElem? (l := tables_1) (i := 300) (by decide +kernel))) rfl
theorem tw_11 : Cond.initialized RJ3 ∈ jW := jW_of (List.mem_append_right _ (List.mem_of_getElem? (l := tables_1) (i := 11) (by decide +kernel))) rfl
theorem tw_302 : Cond.code yJ3_checkFromToIndex_8c36e cJ3_checkFromToIndex_8c36e 4 (some .int) ∈ jW := jW_of (List.mem_append_right _ (List.mem_of_getElem? (l := tables_1) (i := 302) (by decide +kernel))) rfl
theorem tw_301 : Cond.static yJ3_checkFromToIndex_8c36e ∈ jW := jW_of (List.mem_append_right _ (List.mem_of_getElem? (l := tables_1) (i := 301) (by decide +kernel))) rfl
theorem lk_J0_1062 : jLs RJ0 1062 mJ3_checkFromToIndex_8c36e 4 := ⟨⟨tw_300, tw_11, tw_302, by decide +kernel⟩, tw_301⟩
theorem tw_274 : Cond.methodLink RJ1 38 yJ9_min_7cf53 ∈ jW := jW_of (List.mem_append_right _ (List.mem_of_getElem? (l := tables_1) (i := 274) (by decide +kernel))) rfl
theorem tw_276 : Cond.code yJ9_min_7cf53 cJ9_min_7cf53 2 (some .int) ∈ jW := jW_of (List.mem_append_right _ (List.mem_of_getElem? (l := tables_1) (i := 276) (by decide +kernel))) rfl
theorem tw_275 : Cond.static yJ9_min_7cf53 ∈ jW := jW_of (List.mem_append_right _ (List.mem_of_getElem? (l := tables_1) (i := 275) (by decide +kernel))) rfl
theorem lk_J1_38 : jLs RJ1 38 mJ9_min_7cf53 2 := ⟨⟨tw_274, tw_9, tw_276, by decide +kernel⟩, tw_275⟩
theorem tw_268 : Cond.methodLink RJ1 88 yJ1_canEncode_9a6ad ∈ jW := jW_of (List.mem_append_right _ (List.mem_of_getElem? (l := tables_1) (i := 268) (by decide +kernel))) rfl
theorem tw_270 : Cond.code yJ1_canEncode_9a6ad cJ1_canEncode_9a6ad 1 (some .boolean) ∈ jW := jW_of (List.mem_append_right _ (List.mem_of_getElem? (l := tables_1) (i := 270) (by decide +kernel))) rfl
theorem tw_269 : Cond.static yJ1_canEncode_9a6ad ∈ jW := jW_of (List.mem_append_right _ (List.mem_of_getElem? (l := tables_1) (i := 269) (by decide +kernel))) rfl
theorem lk_J1_88 : jLs RJ1 88 mJ1_canEncode_9a6ad 1 := ⟨⟨tw_268, tw_8, tw_270, by decide +kernel⟩, tw_269⟩
theorem tw_271 : Cond.methodLink RJ1 92 yJ9_max_7cf53 ∈ jW := jW_of (List.mem_append_right _ (List.mem_of_getElem? (l := tables_1) (i := 271) (by decide +kernel))) rfl
theorem lk_J1_92 : jLs RJ1 92 mJ9_max_7cf53 2 := ⟨⟨tw_271, tw_9, tw_273, by decide +kernel⟩, tw_272⟩
theorem tw_277 : Cond.methodLink RJ1 95 yJ1_indexOfChar_4cfef ∈ jW := jW_of (List.mem_append_right _ (List.mem_of_getElem? (l := tables_1) (i := 277) (by decide +kernel))) rfl
theorem tw_279 : Cond.code yJ1_indexOfChar_4cfef cJ1_indexOfChar_4cfef 6 (some .int) ∈ jW := jW_of (List.mem_append_right _ (List.mem_of_getElem? (l := tables_1) (i := 279) (by decide +kernel))) rfl
theorem tw_278 : Cond.static yJ1_indexOfChar_4cfef ∈ jW := jW_of (List.mem_append_right _ (List.mem_of_getElem? (l := tables_1) (i := 278) (by decide +kernel))) rfl
theorem lk_J1_95 : jLs RJ1 95 mJ1_indexOfChar_4cfef 4 := ⟨⟨tw_277, tw_8, tw_279, by decide +kernel⟩, tw_278⟩
theorem tw_292 : Cond.methodLink RJ2 48 yJ2_length_9d52b ∈ jW := jW_of (List.mem_append_right _ (List.mem_of_getElem? (l := tables_1) (i := 292) (by decide +kernel))) rfl
theorem tw_294 : Cond.code yJ2_length_9d52b cJ2_length_9d52b 1 (some .int) ∈ jW := jW_of (List.mem_append_right _ (List.mem_of_getElem? (l := tables_1) (i := 294) (by decide +kernel))) rfl
theorem tw_293 : Cond.static yJ2_length_9d52b ∈ jW := jW_of (List.mem_append_right _ (List.mem_of_getElem? (l := tables_1) (i := 293) (by decide +kernel))) rfl
theorem lk_J2_48 : jLs RJ2 48 mJ2_length_9d52b 1 := ⟨⟨tw_292, tw_10, tw_294, by decide +kernel⟩, tw_293⟩
theorem tw_306 : Cond.methodLink RJ2 71 yJ2_getChar_3b067 ∈ jW := jW_of (List.mem_append_right _ (List.mem_of_getElem? (l := tables_1) (i := 306) (by decide +kernel))) rfl
theorem tw_308 : Cond.code yJ2_getChar_3b067 cJ2_getChar_3b067 2 (some .char) ∈ jW := jW_of (List.mem_append_right _ (List.mem_of_getElem? (l := tables_1) (i := 308) (by decide +kernel))) rfl
theorem tw_307 : Cond.static yJ2_getChar_3b067 ∈ jW := jW_of (List.mem_append_right _ (List.mem_of_getElem? (l := tables_1) (i := 307) (by decide +kernel))) rfl
theorem lk_J2_71 : jLs RJ2 71 mJ2_getChar_3b067 2 := ⟨⟨tw_306, tw_10, tw_308, by decide +kernel⟩, tw_307⟩
theorem tw_289 : Cond.methodLink RJ2 96 yJ2_checkBoundsBeginEnd_d044e ∈ jW := jW_of (List.mem_append_right _ (List.mem_of_getElem? (l := tables_1) (i := 289) (by decide +kernel))) rfl
theorem tw_291 : Cond.code yJ2_checkBoundsBeginEnd_d044e cJ2_checkBoundsBeginEnd_d044e 3 none ∈ jW := jW_of (List.mem_append_right _ (List.mem_of_getElem? (l := tables_1) (i := 291) (by decide +kernel))) rfl
theorem tw_290 : Cond.static yJ2_checkBoundsBeginEnd_d044e ∈ jW := jW_of (List.mem_append_right _ (List.mem_of_getElem? (l := tables_1) (i := 290) (by decide +kernel))) rfl
theorem lk_J2_96 : jLs RJ2 96 mJ2_checkBoundsBeginEnd_d044e 3 := ⟨⟨tw_289, tw_10, tw_291, by decide +kernel⟩, tw_290⟩
theorem tw_321 : Cond.methodLink RJ2 157 yJ11_highSurrogate_5068e ∈ jW := jW_of (List.mem_append_right _ (List.mem_of_getElem? (l := tables_1) (i := 321) (by decide +kernel))) rfl
theorem tw_12 : Cond.initialized RJ11 ∈ jW := jW_of (List.mem_append_right _ (List.mem_of_getElem? (l := tables_1) (i := 12) (by decide +kernel))) rfl
theorem tw_323 : Cond.code yJ11_highSurrogate_5068e cJ11_highSurrogate_5068e 1 (some .char) ∈ jW := jW_of (List.mem_append_right _ (List.mem_of_getElem? (l := tables_1) (i := 323) (by decide +kernel))) rfl
theorem tw_322 : Cond.static yJ11_highSurrogate_5068e ∈ jW := jW_of (List.mem_append_right _ (List.mem_of_getElem? (l := tables_1) (i := 322) (by decide +kernel))) rfl
theorem lk_J2_157 : jLs RJ2 157 mJ11_highSurrogate_5068e 1 := ⟨⟨tw_321, tw_12, tw_323, by decide +kernel⟩, tw_322⟩
theorem tw_325 : Cond.methodLink RJ2 161 yJ11_lowSurrogate_5068e ∈ jW := jW_of (List.mem_append_right _ (List.mem_of_getElem? (l := tables_1) (i := 325) (by decide +kernel))) rfl
theorem tw_327 : Cond.code yJ11_lowSurrogate_5068e cJ11_lowSurrogate_5068e 1 (some .char) ∈ jW := jW_of (List.mem_append_right _ (List.mem_of_getElem? (l := tables_1) (i := 327) (by decide +kernel))) rfl
theorem tw_326 : Cond.static yJ11_lowSurrogate_5068e ∈ jW := jW_of (List.mem_append_right _ (List.mem_of_getElem? (l := tables_1) (i := 326) (by decide +kernel))) rfl
theorem lk_J2_161 : jLs RJ2 161 mJ11_lowSurrogate_5068e 1 := ⟨⟨tw_325, tw_12, tw_327, by decide +kernel⟩, tw_326⟩
theorem tw_318 : Cond.methodLink RJ2 164 yJ11_isValidCodePoint_9a6ad ∈ jW := jW_of (List.mem_append_right _ (List.mem_of_getElem? (l := tables_1) (i := 318) (by decide +kernel))) rfl
theorem tw_320 : Cond.code yJ11_isValidCodePoint_9a6ad cJ11_isValidCodePoint_9a6ad 2 (some .boolean) ∈ jW := jW_of (List.mem_append_right _ (List.mem_of_getElem? (l := tables_1) (i := 320) (by decide +kernel))) rfl
theorem tw_319 : Cond.static yJ11_isValidCodePoint_9a6ad ∈ jW := jW_of (List.mem_append_right _ (List.mem_of_getElem? (l := tables_1) (i := 319) (by decide +kernel))) rfl
theorem lk_J2_164 : jLs RJ2 164 mJ11_isValidCodePoint_9a6ad 1 := ⟨⟨tw_318, tw_12, tw_320, by decide +kernel⟩, tw_319⟩
theorem tw_284 : Cond.methodLink RJ2 183 yJ9_min_7cf53 ∈ jW := jW_of (List.mem_append_right _ (List.mem_of_getElem? (l := tables_1) (i := 284) (by decide +kernel))) rfl
theorem lk_J2_183 : jLs RJ2 183 mJ9_min_7cf53 2 := ⟨⟨tw_284, tw_9, tw_276, by decide +kernel⟩, tw_275⟩
theorem tw_283 : Cond.methodLink RJ2 224 yJ9_max_7cf53 ∈ jW := jW_of (List.mem_append_right _ (List.mem_of_getElem? (l := tables_1) (i := 283) (by decide +kernel))) rfl
theorem lk_J2_224 : jLs RJ2 224 mJ9_max_7cf53 2 := ⟨⟨tw_283, tw_9, tw_273, by decide +kernel⟩, tw_272⟩
theorem tw_286 : Cond.methodLink RJ2 228 yJ2_indexOfChar_4cfef ∈ jW := jW_of (List.mem_append_right _ (List.mem_of_getElem? (l := tables_1) (i := 286) (by decide +kernel))) rfl
theorem tw_288 : Cond.code yJ2_indexOfChar_4cfef cJ2_indexOfChar_4cfef 4 (some .int) ∈ jW := jW_of (List.mem_append_right _ (List.mem_of_getElem? (l := tables_1) (i := 288) (by decide +kernel))) rfl
theorem tw_287 : Cond.static yJ2_indexOfChar_4cfef ∈ jW := jW_of (List.mem_append_right _ (List.mem_of_getElem? (l := tables_1) (i := 287) (by decide +kernel))) rfl
theorem lk_J2_228 : jLs RJ2 228 mJ2_indexOfChar_4cfef 4 := ⟨⟨tw_286, tw_10, tw_288, by decide +kernel⟩, tw_287⟩
theorem tw_315 : Cond.methodLink RJ2 232 yJ2_indexOfSupplementary_4cfef ∈ jW := jW_of (List.mem_append_right _ (List.mem_of_getElem? (l := tables_1) (i := 315) (by decide +kernel))) rfl
theorem tw_317 : Cond.code yJ2_indexOfSupplementary_4cfef cJ2_indexOfSupplementary_4cfef 7 (some .int) ∈ jW := jW_of (List.mem_append_right _ (List.mem_of_getElem? (l := tables_1) (i := 317) (by decide +kernel))) rfl
theorem tw_316 : Cond.static yJ2_indexOfSupplementary_4cfef ∈ jW := jW_of (List.mem_append_right _ (List.mem_of_getElem? (l := tables_1) (i := 316) (by decide +kernel))) rfl
theorem lk_J2_232 : jLs RJ2 232 mJ2_indexOfSupplementary_4cfef 4 := ⟨⟨tw_315, tw_10, tw_317, by decide +kernel⟩, tw_316⟩
theorem tw_295 : Cond.methodLink RJ2 241 yJ0_checkBoundsBeginEnd_23922 ∈ jW := jW_of (List.mem_append_right _ (List.mem_of_getElem? (l := tables_1) (i := 295) (by decide +kernel))) rfl
theorem tw_297 : Cond.code yJ0_checkBoundsBeginEnd_23922 cJ0_checkBoundsBeginEnd_23922 3 none ∈ jW := jW_of (List.mem_append_right _ (List.mem_of_getElem? (l := tables_1) (i := 297) (by decide +kernel))) rfl
theorem tw_296 : Cond.static yJ0_checkBoundsBeginEnd_23922 ∈ jW := jW_of (List.mem_append_right _ (List.mem_of_getElem? (l := tables_1) (i := 296) (by decide +kernel))) rfl
theorem lk_J2_241 : jLs RJ2 241 mJ0_checkBoundsBeginEnd_23922 3 := ⟨⟨tw_295, tw_7, tw_297, by decide +kernel⟩, tw_296⟩
theorem tw_303 : Cond.methodLink RJ2 244 yJ2_indexOfCharUnsafe_4cfef ∈ jW := jW_of (List.mem_append_right _ (List.mem_of_getElem? (l := tables_1) (i := 303) (by decide +kernel))) rfl
theorem tw_305 : Cond.code yJ2_indexOfCharUnsafe_4cfef cJ2_indexOfCharUnsafe_4cfef 5 (some .int) ∈ jW := jW_of (List.mem_append_right _ (List.mem_of_getElem? (l := tables_1) (i := 305) (by decide +kernel))) rfl
theorem tw_304 : Cond.static yJ2_indexOfCharUnsafe_4cfef ∈ jW := jW_of (List.mem_append_right _ (List.mem_of_getElem? (l := tables_1) (i := 304) (by decide +kernel))) rfl
theorem lk_J2_244 : jLs RJ2 244 mJ2_indexOfCharUnsafe_4cfef 4 := ⟨⟨tw_303, tw_10, tw_305, by decide +kernel⟩, tw_304⟩
theorem kc_X4_201 : Cond.constantLong RX4 201 (jL (-9223372036854775806)) ∈ jW := jW_of (List.mem_append_right _ (List.mem_of_getElem? (l := tables_1) (i := 554) (by decide +kernel))) rfl
theorem kc_X4_215 : Cond.constant RX4 215 (jI (1103515245)) ∈ jW := jW_of (List.mem_append_right _ (List.mem_of_getElem? (l := tables_1) (i := 580) (by decide +kernel))) rfl
theorem kc_X4_236 : Cond.constant RX4 236 (jI (-2147483648)) ∈ jW := jW_of (List.mem_append_right _ (List.mem_of_getElem? (l := tables_1) (i := 617) (by decide +kernel))) rfl
theorem kc_X4_255 : Cond.constantLong RX4 255 (jL (17)) ∈ jW := jW_of (List.mem_append_right _ (List.mem_of_getElem? (l := tables_1) (i := 643) (by decide +kernel))) rfl
theorem kc_X4_257 : Cond.constantLong RX4 257 (jL (31)) ∈ jW := jW_of (List.mem_append_right _ (List.mem_of_getElem? (l := tables_1) (i := 644) (by decide +kernel))) rfl
theorem kc_X5_73 : Cond.constantLong RX5 73 (jL (-9223372036854775808)) ∈ jW := jW_of (List.mem_append_right _ (List.mem_of_getElem? (l := tables_1) (i := 1071) (by decide +kernel))) rfl
theorem kc_X5_83 : Cond.constantLong RX5 83 (jL (3)) ∈ jW := jW_of (List.mem_append_right _ (List.mem_of_getElem? (l := tables_1) (i := 771) (by decide +kernel))) rfl
theorem kc_X5_89 : Cond.constantLong RX5 89 (jL (2)) ∈ jW := jW_of (List.mem_append_right _ (List.mem_of_getElem? (l := tables_1) (i := 775) (by decide +kernel))) rfl
theorem kc_X5_103 : Cond.constant RX5 103 (jI (-2147483648)) ∈ jW := jW_of (List.mem_append_right _ (List.mem_of_getElem? (l := tables_1) (i := 799) (by decide +kernel))) rfl
theorem kc_X5_104 : Cond.constantLong RX5 104 (jL (255)) ∈ jW := jW_of (List.mem_append_right _ (List.mem_of_getElem? (l := tables_1) (i := 808) (by decide +kernel))) rfl
theorem kc_X5_118 : Cond.constantLong RX5 118 (jL (49)) ∈ jW := jW_of (List.mem_append_right _ (List.mem_of_getElem? (l := tables_1) (i := 832) (by decide +kernel))) rfl
theorem kc_X5_120 : Cond.constantLong RX5 120 (jL (57)) ∈ jW := jW_of (List.mem_append_right _ (List.mem_of_getElem? (l := tables_1) (i := 833) (by decide +kernel))) rfl
theorem kc_X5_130 : Cond.constantLong RX5 130 (jL (8)) ∈ jW := jW_of (List.mem_append_right _ (List.mem_of_getElem? (l := tables_1) (i := 849) (by decide +kernel))) rfl
theorem kc_X5_132 : Cond.constantLong RX5 132 (jL (59)) ∈ jW := jW_of (List.mem_append_right _ (List.mem_of_getElem? (l := tables_1) (i := 866) (by decide +kernel))) rfl
theorem kc_X5_140 : Cond.constantLong RX5 140 (jL (511)) ∈ jW := jW_of (List.mem_append_right _ (List.mem_of_getElem? (l := tables_1) (i := 858) (by decide +kernel))) rfl
theorem kc_X5_229 : Cond.constantLong RX5 229 (jL (-1)) ∈ jW := jW_of (List.mem_append_right _ (List.mem_of_getElem? (l := tables_1) (i := 990) (by decide +kernel))) rfl
theorem kc_X5_234 : Cond.constantLong RX5 234 (jL (9)) ∈ jW := jW_of (List.mem_append_right _ (List.mem_of_getElem? (l := tables_1) (i := 1011) (by decide +kernel))) rfl
theorem kc_X5_251 : Cond.constantLong RX5 251 (jL (36)) ∈ jW := jW_of (List.mem_append_right _ (List.mem_of_getElem? (l := tables_1) (i := 1020) (by decide +kernel))) rfl
theorem kc_X5_262 : Cond.constantLong RX5 262 (jL (16)) ∈ jW := jW_of (List.mem_append_right _ (List.mem_of_getElem? (l := tables_1) (i := 1060) (by decide +kernel))) rfl
theorem kc_X5_276 : Cond.constant RX5 276 (jI (1103515245)) ∈ jW := jW_of (List.mem_append_right _ (List.mem_of_getElem? (l := tables_1) (i := 1080) (by decide +kernel))) rfl
theorem kc_X5_280 : Cond.constantLong RX5 280 (jL (31)) ∈ jW := jW_of (List.mem_append_right _ (List.mem_of_getElem? (l := tables_1) (i := 1094) (by decide +kernel))) rfl
theorem kc_X5_282 : Cond.constantLong RX5 282 (jL (17)) ∈ jW := jW_of (List.mem_append_right _ (List.mem_of_getElem? (l := tables_1) (i := 1093) (by decide +kernel))) rfl
theorem kc_J11_76 : Cond.constant RJ11 76 (jI (56320)) ∈ jW := jW_of (List.mem_append_right _ (List.mem_of_getElem? (l := tables_1) (i := 328) (by decide +kernel))) rfl
theorem kc_J11_110 : Cond.constant RJ11 110 (jI (55232)) ∈ jW := jW_of (List.mem_append_right _ (List.mem_of_getElem? (l := tables_1) (i := 324) (by decide +kernel))) rfl
theorem kc_J6_265 : Cond.constant RJ6 265 (jI (1431655765)) ∈ jW := jW_of (List.mem_append_right _ (List.mem_of_getElem? (l := tables_1) (i := 439) (by decide +kernel))) rfl
theorem kc_J6_266 : Cond.constant RJ6 266 (jI (858993459)) ∈ jW := jW_of (List.mem_append_right _ (List.mem_of_getElem? (l := tables_1) (i := 440) (by decide +kernel))) rfl
theorem kc_J6_267 : Cond.constant RJ6 267 (jI (252645135)) ∈ jW := jW_of (List.mem_append_right _ (List.mem_of_getElem? (l := tables_1) (i := 441) (by decide +kernel))) rfl
theorem kc_J2_227 : Cond.constant RJ2 227 (jI (65536)) ∈ jW := jW_of (List.mem_append_right _ (List.mem_of_getElem? (l := tables_1) (i := 285) (by decide +kernel))) rfl
theorem st_1_0 {a0 : Option Value} {v : Value} : jSt [a0] 0 v = [some v] := rfl
theorem st_2_1 {a0 a1 : Option Value} {v : Value} : jSt [a0, a1] 1 v = [a0, some v] := rfl
theorem st_3_1 {a0 a1 a2 : Option Value} {v : Value} : jSt [a0, a1, a2] 1 v = [a0, some v, a2] := rfl
theorem st_3_2 {a0 a1 a2 : Option Value} {v : Value} : jSt [a0, a1, a2] 2 v = [a0, a1, some v] := rfl
theorem st_4_1 {a0 a1 a2 a3 : Option Value} {v : Value} : jSt [a0, a1, a2, a3] 1 v = [a0, some v, a2, a3] := rfl
theorem st_4_2 {a0 a1 a2 a3 : Option Value} {v : Value} : jSt [a0, a1, a2, a3] 2 v = [a0, a1, some v, a3] := rfl
theorem st_4_3 {a0 a1 a2 a3 : Option Value} {v : Value} : jSt [a0, a1, a2, a3] 3 v = [a0, a1, a2, some v] := rfl
theorem st_5_1 {a0 a1 a2 a3 a4 : Option Value} {v : Value} : jSt [a0, a1, a2, a3, a4] 1 v = [a0, some v, a2, a3, a4] := rfl
theorem st_5_2 {a0 a1 a2 a3 a4 : Option Value} {v : Value} : jSt [a0, a1, a2, a3, a4] 2 v = [a0, a1, some v, a3, a4] := rfl
theorem st_5_3 {a0 a1 a2 a3 a4 : Option Value} {v : Value} : jSt [a0, a1, a2, a3, a4] 3 v = [a0, a1, a2, some v, a4] := rfl
theorem st_5_4 {a0 a1 a2 a3 a4 : Option Value} {v : Value} : jSt [a0, a1, a2, a3, a4] 4 v = [a0, a1, a2, a3, some v] := rfl
theorem st_6_2 {a0 a1 a2 a3 a4 a5 : Option Value} {v : Value} : jSt [a0, a1, a2, a3, a4, a5] 2 v = [a0, a1, some v, a3, a4, a5] := rfl
theorem st_6_3 {a0 a1 a2 a3 a4 a5 : Option Value} {v : Value} : jSt [a0, a1, a2, a3, a4, a5] 3 v = [a0, a1, a2, some v, a4, a5] := rfl
theorem st_6_4 {a0 a1 a2 a3 a4 a5 : Option Value} {v : Value} : jSt [a0, a1, a2, a3, a4, a5] 4 v = [a0, a1, a2, a3, some v, a5] := rfl
theorem st_6_5 {a0 a1 a2 a3 a4 a5 : Option Value} {v : Value} : jSt [a0, a1, a2, a3, a4, a5] 5 v = [a0, a1, a2, a3, a4, some v] := rfl
theorem st_7_3 {a0 a1 a2 a3 a4 a5 a6 : Option Value} {v : Value} : jSt [a0, a1, a2, a3, a4, a5, a6] 3 v = [a0, a1, a2, some v, a4, a5, a6] := rfl
theorem st_7_4 {a0 a1 a2 a3 a4 a5 a6 : Option Value} {v : Value} : jSt [a0, a1, a2, a3, a4, a5, a6] 4 v = [a0, a1, a2, a3, some v, a5, a6] := rfl
theorem st_7_5 {a0 a1 a2 a3 a4 a5 a6 : Option Value} {v : Value} : jSt [a0, a1, a2, a3, a4, a5, a6] 5 v = [a0, a1, a2, a3, a4, some v, a6] := rfl
theorem st_7_6 {a0 a1 a2 a3 a4 a5 a6 : Option Value} {v : Value} : jSt [a0, a1, a2, a3, a4, a5, a6] 6 v = [a0, a1, a2, a3, a4, a5, some v] := rfl
theorem st_8_2 {a0 a1 a2 a3 a4 a5 a6 a7 : Option Value} {v : Value} : jSt [a0, a1, a2, a3, a4, a5, a6, a7] 2 v = [a0, a1, some v, a3, a4, a5, a6, a7] := rfl
theorem st_8_3 {a0 a1 a2 a3 a4 a5 a6 a7 : Option Value} {v : Value} : jSt [a0, a1, a2, a3, a4, a5, a6, a7] 3 v = [a0, a1, a2, some v, a4, a5, a6, a7] := rfl
theorem st_8_4 {a0 a1 a2 a3 a4 a5 a6 a7 : Option Value} {v : Value} : jSt [a0, a1, a2, a3, a4, a5, a6, a7] 4 v = [a0, a1, a2, a3, some v, a5, a6, a7] := rfl
theorem st_8_5 {a0 a1 a2 a3 a4 a5 a6 a7 : Option Value} {v : Value} : jSt [a0, a1, a2, a3, a4, a5, a6, a7] 5 v = [a0, a1, a2, a3, a4, some v, a6, a7] := rfl
theorem st_8_6 {a0 a1 a2 a3 a4 a5 a6 a7 : Option Value} {v : Value} : jSt [a0, a1, a2, a3, a4, a5, a6, a7] 6 v = [a0, a1, a2, a3, a4, a5, some v, a7] := rfl
theorem st_8_7 {a0 a1 a2 a3 a4 a5 a6 a7 : Option Value} {v : Value} : jSt [a0, a1, a2, a3, a4, a5, a6, a7] 7 v = [a0, a1, a2, a3, a4, a5, a6, some v] := rfl
theorem st_9_5 {a0 a1 a2 a3 a4 a5 a6 a7 a8 : Option Value} {v : Value} : jSt [a0, a1, a2, a3, a4, a5, a6, a7, a8] 5 v = [a0, a1, a2, a3, a4, some v, a6, a7, a8] := rfl
theorem st_9_6 {a0 a1 a2 a3 a4 a5 a6 a7 a8 : Option Value} {v : Value} : jSt [a0, a1, a2, a3, a4, a5, a6, a7, a8] 6 v = [a0, a1, a2, a3, a4, a5, some v, a7, a8] := rfl
theorem st_9_7 {a0 a1 a2 a3 a4 a5 a6 a7 a8 : Option Value} {v : Value} : jSt [a0, a1, a2, a3, a4, a5, a6, a7, a8] 7 v = [a0, a1, a2, a3, a4, a5, a6, some v, a8] := rfl
theorem st_9_8 {a0 a1 a2 a3 a4 a5 a6 a7 a8 : Option Value} {v : Value} : jSt [a0, a1, a2, a3, a4, a5, a6, a7, a8] 8 v = [a0, a1, a2, a3, a4, a5, a6, a7, some v] := rfl
theorem st_10_3 {a0 a1 a2 a3 a4 a5 a6 a7 a8 a9 : Option Value} {v : Value} : jSt [a0, a1, a2, a3, a4, a5, a6, a7, a8, a9] 3 v = [a0, a1, a2, some v, a4, a5, a6, a7, a8, a9] := rfl
theorem st_10_4 {a0 a1 a2 a3 a4 a5 a6 a7 a8 a9 : Option Value} {v : Value} : jSt [a0, a1, a2, a3, a4, a5, a6, a7, a8, a9] 4 v = [a0, a1, a2, a3, some v, a5, a6, a7, a8, a9] := rfl
theorem st_10_5 {a0 a1 a2 a3 a4 a5 a6 a7 a8 a9 : Option Value} {v : Value} : jSt [a0, a1, a2, a3, a4, a5, a6, a7, a8, a9] 5 v = [a0, a1, a2, a3, a4, some v, a6, a7, a8, a9] := rfl
theorem st_10_6 {a0 a1 a2 a3 a4 a5 a6 a7 a8 a9 : Option Value} {v : Value} : jSt [a0, a1, a2, a3, a4, a5, a6, a7, a8, a9] 6 v = [a0, a1, a2, a3, a4, a5, some v, a7, a8, a9] := rfl
theorem st_10_7 {a0 a1 a2 a3 a4 a5 a6 a7 a8 a9 : Option Value} {v : Value} : jSt [a0, a1, a2, a3, a4, a5, a6, a7, a8, a9] 7 v = [a0, a1, a2, a3, a4, a5, a6, some v, a8, a9] := rfl
theorem st_10_8 {a0 a1 a2 a3 a4 a5 a6 a7 a8 a9 : Option Value} {v : Value} : jSt [a0, a1, a2, a3, a4, a5, a6, a7, a8, a9] 8 v = [a0, a1, a2, a3, a4, a5, a6, a7, some v, a9] := rfl
theorem st_10_9 {a0 a1 a2 a3 a4 a5 a6 a7 a8 a9 : Option Value} {v : Value} : jSt [a0, a1, a2, a3, a4, a5, a6, a7, a8, a9] 9 v = [a0, a1, a2, a3, a4, a5, a6, a7, a8, some v] := rfl
theorem st_11_8 {a0 a1 a2 a3 a4 a5 a6 a7 a8 a9 a10 : Option Value} {v : Value} : jSt [a0, a1, a2, a3, a4, a5, a6, a7, a8, a9, a10] 8 v = [a0, a1, a2, a3, a4, a5, a6, a7, some v, a9, a10] := rfl
theorem st_14_9 {a0 a1 a2 a3 a4 a5 a6 a7 a8 a9 a10 a11 a12 a13 : Option Value} {v : Value} : jSt [a0, a1, a2, a3, a4, a5, a6, a7, a8, a9, a10, a11, a12, a13] 9 v = [a0, a1, a2, a3, a4, a5, a6, a7, a8, some v, a10, a11, a12, a13] := rfl
theorem st_14_12 {a0 a1 a2 a3 a4 a5 a6 a7 a8 a9 a10 a11 a12 a13 : Option Value} {v : Value} : jSt [a0, a1, a2, a3, a4, a5, a6, a7, a8, a9, a10, a11, a12, a13] 12 v = [a0, a1, a2, a3, a4, a5, a6, a7, a8, a9, a10, a11, some v, a13] := rfl
theorem st_14_13 {a0 a1 a2 a3 a4 a5 a6 a7 a8 a9 a10 a11 a12 a13 : Option Value} {v : Value} : jSt [a0, a1, a2, a3, a4, a5, a6, a7, a8, a9, a10, a11, a12, a13] 13 v = [a0, a1, a2, a3, a4, a5, a6, a7, a8, a9, a10, a11, a12, some v] := rfl
theorem su_5_1 {a0 a1 a2 a3 a4 : Option Value} {v : Value} : jSt2 [a0, a1, a2, a3, a4] 1 v = [a0, some v, none, a3, a4] := rfl
theorem su_6_3 {a0 a1 a2 a3 a4 a5 : Option Value} {v : Value} : jSt2 [a0, a1, a2, a3, a4, a5] 3 v = [a0, a1, a2, some v, none, a5] := rfl
theorem su_7_1 {a0 a1 a2 a3 a4 a5 a6 : Option Value} {v : Value} : jSt2 [a0, a1, a2, a3, a4, a5, a6] 1 v = [a0, some v, none, a3, a4, a5, a6] := rfl
theorem su_7_4 {a0 a1 a2 a3 a4 a5 a6 : Option Value} {v : Value} : jSt2 [a0, a1, a2, a3, a4, a5, a6] 4 v = [a0, a1, a2, a3, some v, none, a6] := rfl
theorem su_10_4 {a0 a1 a2 a3 a4 a5 a6 a7 a8 a9 : Option Value} {v : Value} : jSt2 [a0, a1, a2, a3, a4, a5, a6, a7, a8, a9] 4 v = [a0, a1, a2, a3, some v, none, a6, a7, a8, a9] := rfl
theorem su_10_8 {a0 a1 a2 a3 a4 a5 a6 a7 a8 a9 : Option Value} {v : Value} : jSt2 [a0, a1, a2, a3, a4, a5, a6, a7, a8, a9] 8 v = [a0, a1, a2, a3, a4, a5, a6, a7, some v, none] := rfl
theorem su_11_4 {a0 a1 a2 a3 a4 a5 a6 a7 a8 a9 a10 : Option Value} {v : Value} : jSt2 [a0, a1, a2, a3, a4, a5, a6, a7, a8, a9, a10] 4 v = [a0, a1, a2, a3, some v, none, a6, a7, a8, a9, a10] := rfl
theorem su_11_5 {a0 a1 a2 a3 a4 a5 a6 a7 a8 a9 a10 : Option Value} {v : Value} : jSt2 [a0, a1, a2, a3, a4, a5, a6, a7, a8, a9, a10] 5 v = [a0, a1, a2, a3, a4, some v, none, a7, a8, a9, a10] := rfl
theorem su_11_6 {a0 a1 a2 a3 a4 a5 a6 a7 a8 a9 a10 : Option Value} {v : Value} : jSt2 [a0, a1, a2, a3, a4, a5, a6, a7, a8, a9, a10] 6 v = [a0, a1, a2, a3, a4, a5, some v, none, a8, a9, a10] := rfl
theorem su_11_7 {a0 a1 a2 a3 a4 a5 a6 a7 a8 a9 a10 : Option Value} {v : Value} : jSt2 [a0, a1, a2, a3, a4, a5, a6, a7, a8, a9, a10] 7 v = [a0, a1, a2, a3, a4, a5, a6, some v, none, a9, a10] := rfl
theorem su_11_9 {a0 a1 a2 a3 a4 a5 a6 a7 a8 a9 a10 : Option Value} {v : Value} : jSt2 [a0, a1, a2, a3, a4, a5, a6, a7, a8, a9, a10] 9 v = [a0, a1, a2, a3, a4, a5, a6, a7, a8, some v, none] := rfl
theorem su_14_5 {a0 a1 a2 a3 a4 a5 a6 a7 a8 a9 a10 a11 a12 a13 : Option Value} {v : Value} : jSt2 [a0, a1, a2, a3, a4, a5, a6, a7, a8, a9, a10, a11, a12, a13] 5 v = [a0, a1, a2, a3, a4, some v, none, a7, a8, a9, a10, a11, a12, a13] := rfl
theorem su_14_7 {a0 a1 a2 a3 a4 a5 a6 a7 a8 a9 a10 a11 a12 a13 : Option Value} {v : Value} : jSt2 [a0, a1, a2, a3, a4, a5, a6, a7, a8, a9, a10, a11, a12, a13] 7 v = [a0, a1, a2, a3, a4, a5, a6, some v, none, a9, a10, a11, a12, a13] := rfl
theorem su_14_10 {a0 a1 a2 a3 a4 a5 a6 a7 a8 a9 a10 a11 a12 a13 : Option Value} {v : Value} : jSt2 [a0, a1, a2, a3, a4, a5, a6, a7, a8, a9, a10, a11, a12, a13] 10 v = [a0, a1, a2, a3, a4, a5, a6, a7, a8, a9, some v, none, a12, a13] := rfl
theorem en_a_1 {E : jE} {x0 : Nat} : jEnt [jRF E x0] 1 = [some (jRF E x0)] := rfl
theorem en_a_2 {E : jE} {x0 : Nat} : jEnt [jRF E x0] 2 = [some (jRF E x0), none] := rfl
theorem en_a_3 {E : jE} {x0 : Nat} : jEnt [jRF E x0] 3 = [some (jRF E x0), none, none] := rfl
theorem en_a_4 {E : jE} {x0 : Nat} : jEnt [jRF E x0] 4 = [some (jRF E x0), none, none, none] := rfl
theorem en_a_5 {E : jE} {x0 : Nat} : jEnt [jRF E x0] 5 = [some (jRF E x0), none, none, none, none] := rfl
theorem en_a_7 {E : jE} {x0 : Nat} : jEnt [jRF E x0] 7 = [some (jRF E x0), none, none, none, none, none, none] := rfl
theorem en_aa_3 {E : jE} {x0 : Nat} {x1 : Nat} : jEnt [jRF E x0, jRF E x1] 3 = [some (jRF E x0), some (jRF E x1), none] := rfl
theorem en_aaaia_6 {E : jE} {x0 : Nat} {x1 : Nat} {x2 : Nat} {x3 : Int32} {x4 : Nat} : jEnt [jRF E x0, jRF E x1, jRF E x2, .int x3, jRF E x4] 6 = [some (jRF E x0), some (jRF E x1), some (jRF E x2), some (.int x3), some (jRF E x4), none] := rfl
theorem en_ai_2 {E : jE} {x0 : Nat} {x1 : Int32} : jEnt [jRF E x0, .int x1] 2 = [some (jRF E x0), some (.int x1)] := rfl
theorem en_ai_3 {E : jE} {x0 : Nat} {x1 : Int32} : jEnt [jRF E x0, .int x1] 3 = [some (jRF E x0), some (.int x1), none] := rfl
theorem en_ai_4 {E : jE} {x0 : Nat} {x1 : Int32} : jEnt [jRF E x0, .int x1] 4 = [some (jRF E x0), some (.int x1), none, none] := rfl
theorem en_ai_5 {E : jE} {x0 : Nat} {x1 : Int32} : jEnt [jRF E x0, .int x1] 5 = [some (jRF E x0), some (.int x1), none, none, none] := rfl
theorem en_ai_6 {E : jE} {x0 : Nat} {x1 : Int32} : jEnt [jRF E x0, .int x1] 6 = [some (jRF E x0), some (.int x1), none, none, none, none] := rfl
theorem en_ai_8 {E : jE} {x0 : Nat} {x1 : Int32} : jEnt [jRF E x0, .int x1] 8 = [some (jRF E x0), some (.int x1), none, none, none, none, none, none] := rfl
theorem en_aii_3 {E : jE} {x0 : Nat} {x1 : Int32} {x2 : Int32} : jEnt [jRF E x0, .int x1, .int x2] 3 = [some (jRF E x0), some (.int x1), some (.int x2)] := rfl
theorem en_aii_4 {E : jE} {x0 : Nat} {x1 : Int32} {x2 : Int32} : jEnt [jRF E x0, .int x1, .int x2] 4 = [some (jRF E x0), some (.int x1), some (.int x2), none] := rfl
theorem en_aii_5 {E : jE} {x0 : Nat} {x1 : Int32} {x2 : Int32} : jEnt [jRF E x0, .int x1, .int x2] 5 = [some (jRF E x0), some (.int x1), some (.int x2), none, none] := rfl
theorem en_aii_6 {E : jE} {x0 : Nat} {x1 : Int32} {x2 : Int32} : jEnt [jRF E x0, .int x1, .int x2] 6 = [some (jRF E x0), some (.int x1), some (.int x2), none, none, none] := rfl
theorem en_aii_7 {E : jE} {x0 : Nat} {x1 : Int32} {x2 : Int32} : jEnt [jRF E x0, .int x1, .int x2] 7 = [some (jRF E x0), some (.int x1), some (.int x2), none, none, none, none] := rfl
theorem en_aii_8 {E : jE} {x0 : Nat} {x1 : Int32} {x2 : Int32} : jEnt [jRF E x0, .int x1, .int x2] 8 = [some (jRF E x0), some (.int x1), some (.int x2), none, none, none, none, none] := rfl
theorem en_aii_10 {E : jE} {x0 : Nat} {x1 : Int32} {x2 : Int32} : jEnt [jRF E x0, .int x1, .int x2] 10 = [some (jRF E x0), some (.int x1), some (.int x2), none, none, none, none, none, none, none] := rfl
theorem en_aiii_4 {E : jE} {x0 : Nat} {x1 : Int32} {x2 : Int32} {x3 : Int32} : jEnt [jRF E x0, .int x1, .int x2, .int x3] 4 = [some (jRF E x0), some (.int x1), some (.int x2), some (.int x3)] := rfl
theorem en_aiii_5 {E : jE} {x0 : Nat} {x1 : Int32} {x2 : Int32} {x3 : Int32} : jEnt [jRF E x0, .int x1, .int x2, .int x3] 5 = [some (jRF E x0), some (.int x1), some (.int x2), some (.int x3), none] := rfl
theorem en_aiii_6 {E : jE} {x0 : Nat} {x1 : Int32} {x2 : Int32} {x3 : Int32} : jEnt [jRF E x0, .int x1, .int x2, .int x3] 6 = [some (jRF E x0), some (.int x1), some (.int x2), some (.int x3), none, none] := rfl
theorem en_aiii_7 {E : jE} {x0 : Nat} {x1 : Int32} {x2 : Int32} {x3 : Int32} : jEnt [jRF E x0, .int x1, .int x2, .int x3] 7 = [some (jRF E x0), some (.int x1), some (.int x2), some (.int x3), none, none, none] := rfl
theorem en_aiii_10 {E : jE} {x0 : Nat} {x1 : Int32} {x2 : Int32} {x3 : Int32} : jEnt [jRF E x0, .int x1, .int x2, .int x3] 10 = [some (jRF E x0), some (.int x1), some (.int x2), some (.int x3), none, none, none, none, none, none] := rfl
theorem en_aiiii_5 {E : jE} {x0 : Nat} {x1 : Int32} {x2 : Int32} {x3 : Int32} {x4 : Int32} : jEnt [jRF E x0, .int x1, .int x2, .int x3, .int x4] 5 = [some (jRF E x0), some (.int x1), some (.int x2), some (.int x3), some (.int x4)] := rfl
theorem en_aiiii_6 {E : jE} {x0 : Nat} {x1 : Int32} {x2 : Int32} {x3 : Int32} {x4 : Int32} : jEnt [jRF E x0, .int x1, .int x2, .int x3, .int x4] 6 = [some (jRF E x0), some (.int x1), some (.int x2), some (.int x3), some (.int x4), none] := rfl
theorem en_aiiii_9 {E : jE} {x0 : Nat} {x1 : Int32} {x2 : Int32} {x3 : Int32} {x4 : Int32} : jEnt [jRF E x0, .int x1, .int x2, .int x3, .int x4] 9 = [some (jRF E x0), some (.int x1), some (.int x2), some (.int x3), some (.int x4), none, none, none, none] := rfl
theorem en_aiiii_11 {E : jE} {x0 : Nat} {x1 : Int32} {x2 : Int32} {x3 : Int32} {x4 : Int32} : jEnt [jRF E x0, .int x1, .int x2, .int x3, .int x4] 11 = [some (jRF E x0), some (.int x1), some (.int x2), some (.int x3), some (.int x4), none, none, none, none, none, none] := rfl
theorem en_aiiii_14 {E : jE} {x0 : Nat} {x1 : Int32} {x2 : Int32} {x3 : Int32} {x4 : Int32} : jEnt [jRF E x0, .int x1, .int x2, .int x3, .int x4] 14 = [some (jRF E x0), some (.int x1), some (.int x2), some (.int x3), some (.int x4), none, none, none, none, none, none, none, none, none] := rfl
theorem en_aiiiii_7 {E : jE} {x0 : Nat} {x1 : Int32} {x2 : Int32} {x3 : Int32} {x4 : Int32} {x5 : Int32} : jEnt [jRF E x0, .int x1, .int x2, .int x3, .int x4, .int x5] 7 = [some (jRF E x0), some (.int x1), some (.int x2), some (.int x3), some (.int x4), some (.int x5), none] := rfl
theorem en_aiiiii_8 {E : jE} {x0 : Nat} {x1 : Int32} {x2 : Int32} {x3 : Int32} {x4 : Int32} {x5 : Int32} : jEnt [jRF E x0, .int x1, .int x2, .int x3, .int x4, .int x5] 8 = [some (jRF E x0), some (.int x1), some (.int x2), some (.int x3), some (.int x4), some (.int x5), none, none] := rfl
theorem en_ali_7 {E : jE} {x0 : Nat} {x1 : Int64} {x2 : Int32} : jEnt [jRF E x0, .long x1, .int x2] 7 = [some (jRF E x0), some (.long x1), none, some (.int x2), none, none, none] := rfl
theorem en_i_1 {E : jE} {x0 : Int32} : jEnt [.int x0] 1 = [some (.int x0)] := rfl
theorem en_i_2 {E : jE} {x0 : Int32} : jEnt [.int x0] 2 = [some (.int x0), none] := rfl
theorem en_i_3 {E : jE} {x0 : Int32} : jEnt [.int x0] 3 = [some (.int x0), none, none] := rfl
theorem en_ii_2 {E : jE} {x0 : Int32} {x1 : Int32} : jEnt [.int x0, .int x1] 2 = [some (.int x0), some (.int x1)] := rfl
theorem en_ii_3 {E : jE} {x0 : Int32} {x1 : Int32} : jEnt [.int x0, .int x1] 3 = [some (.int x0), some (.int x1), none] := rfl
theorem en_iia_3 {E : jE} {x0 : Int32} {x1 : Int32} {x2 : Nat} : jEnt [.int x0, .int x1, jRF E x2] 3 = [some (.int x0), some (.int x1), some (jRF E x2)] := rfl
theorem en_iii_3 {E : jE} {x0 : Int32} {x1 : Int32} {x2 : Int32} : jEnt [.int x0, .int x1, .int x2] 3 = [some (.int x0), some (.int x1), some (.int x2)] := rfl
theorem en_iii_6 {E : jE} {x0 : Int32} {x1 : Int32} {x2 : Int32} : jEnt [.int x0, .int x1, .int x2] 6 = [some (.int x0), some (.int x1), some (.int x2), none, none, none] := rfl
theorem en_iiia_4 {E : jE} {x0 : Int32} {x1 : Int32} {x2 : Int32} {x3 : Nat} : jEnt [.int x0, .int x1, .int x2, jRF E x3] 4 = [some (.int x0), some (.int x1), some (.int x2), some (jRF E x3)] := rfl
theorem en_ll_11 {E : jE} {x0 : Int64} {x1 : Int64} : jEnt [.long x0, .long x1] 11 = [some (.long x0), none, some (.long x1), none, none, none, none, none, none, none, none] := rfl
theorem en_lli_11 {E : jE} {x0 : Int64} {x1 : Int64} {x2 : Int32} : jEnt [.long x0, .long x1, .int x2] 11 = [some (.long x0), none, some (.long x1), none, some (.int x2), none, none, none, none, none, none] := rfl
theorem en_lll_6 {E : jE} {x0 : Int64} {x1 : Int64} {x2 : Int64} : jEnt [.long x0, .long x1, .long x2] 6 = [some (.long x0), none, some (.long x1), none, some (.long x2), none] := rfl
theorem jOk.ofe {E : jE} {me : jM} {vs : List Value} {H : jH} {Q : Option Value → jH → Prop} {lv : List (Option Value)} (hy : plainName me.1.cls = true) (hl : (lg_sl vs).length ≤ me.2.2.1) (he : jEnt vs me.2.2.1 = lv) (k : jWP E me Q 0 lv [] H) : jOk E me vs H Q := jOk.of hy hl (he ▸ k)
end
