section
-- ===== PART A: goes FIRST, ahead of the names: the tables' words, and 'selects' of the private methods out of them =====
/-- a private method of a class that the tables say can be made, by its rows of tables_1 -/
def lw_okq (q : MethodName × Nat) : Prop := (q.1.cls ≠ "java/lang/invoke/MethodHandle" ∧ q.1.cls ≠ "java/lang/invoke/VarHandle") ∧ Cond.instantiable q.1.cls q.2 ∈ tables_1 ∧ Cond.privateMethod q.1 ∈ tables_1 ∧ Cond.instanceMethod q.1 ∈ tables_1
theorem lw_p0 : lw_okq (⟨"RedSkies$LampReader", "takeColour", "(I)Z"⟩, 6) := ⟨⟨by decide +kernel, by decide +kernel⟩, List.mem_of_getElem? (i := 41) (by decide +kernel), List.mem_of_getElem? (i := 338) (by decide +kernel), List.mem_of_getElem? (i := 339) (by decide +kernel)⟩
theorem lw_p1 : lw_okq (⟨"RedSkies$LampReader", "takeSign", "(I)Z"⟩, 6) := ⟨⟨by decide +kernel, by decide +kernel⟩, List.mem_of_getElem? (i := 41) (by decide +kernel), List.mem_of_getElem? (i := 346) (by decide +kernel), List.mem_of_getElem? (i := 347) (by decide +kernel)⟩
theorem lw_p2 : lw_okq (⟨"RedSkies$LampReader", "takeDigit", "(II)Z"⟩, 6) := ⟨⟨by decide +kernel, by decide +kernel⟩, List.mem_of_getElem? (i := 41) (by decide +kernel), List.mem_of_getElem? (i := 354) (by decide +kernel), List.mem_of_getElem? (i := 355) (by decide +kernel)⟩
theorem lw_p3 : lw_okq (⟨"RedSkies$LampReader", "takeBehindDigit", "(I)Z"⟩, 6) := ⟨⟨by decide +kernel, by decide +kernel⟩, List.mem_of_getElem? (i := 41) (by decide +kernel), List.mem_of_getElem? (i := 358) (by decide +kernel), List.mem_of_getElem? (i := 359) (by decide +kernel)⟩
theorem lw_p4 : lw_okq (⟨"RedSkies$LawReader", "takeOfGive", "(I)Z"⟩, 5) := ⟨⟨by decide +kernel, by decide +kernel⟩, List.mem_of_getElem? (i := 97) (by decide +kernel), List.mem_of_getElem? (i := 367) (by decide +kernel), List.mem_of_getElem? (i := 368) (by decide +kernel)⟩
theorem lw_p5 : lw_okq (⟨"RedSkies$LawReader", "grow", "(I)V"⟩, 5) := ⟨⟨by decide +kernel, by decide +kernel⟩, List.mem_of_getElem? (i := 97) (by decide +kernel), List.mem_of_getElem? (i := 371) (by decide +kernel), List.mem_of_getElem? (i := 372) (by decide +kernel)⟩
theorem lw_p6 : lw_okq (⟨"RedSkies$LawReader", "takeOfBound", "(I)Z"⟩, 5) := ⟨⟨by decide +kernel, by decide +kernel⟩, List.mem_of_getElem? (i := 97) (by decide +kernel), List.mem_of_getElem? (i := 375) (by decide +kernel), List.mem_of_getElem? (i := 376) (by decide +kernel)⟩
theorem lw_p7 : lw_okq (⟨"RedSkies$LawReader", "boundAhead", "()I"⟩, 5) := ⟨⟨by decide +kernel, by decide +kernel⟩, List.mem_of_getElem? (i := 97) (by decide +kernel), List.mem_of_getElem? (i := 379) (by decide +kernel), List.mem_of_getElem? (i := 380) (by decide +kernel)⟩
theorem lw_p8 : lw_okq (⟨"RedSkies$LawReader", "endBound", "()Z"⟩, 5) := ⟨⟨by decide +kernel, by decide +kernel⟩, List.mem_of_getElem? (i := 97) (by decide +kernel), List.mem_of_getElem? (i := 383) (by decide +kernel), List.mem_of_getElem? (i := 384) (by decide +kernel)⟩
theorem lw_p9 : lw_okq (⟨"RedSkies$MeasureReader", "takeColour", "(I)Z"⟩, 6) := ⟨⟨by decide +kernel, by decide +kernel⟩, List.mem_of_getElem? (i := 71) (by decide +kernel), List.mem_of_getElem? (i := 390) (by decide +kernel), List.mem_of_getElem? (i := 391) (by decide +kernel)⟩
theorem lw_p10 : lw_okq (⟨"RedSkies$MeasureReader", "takePart", "(I)Z"⟩, 6) := ⟨⟨by decide +kernel, by decide +kernel⟩, List.mem_of_getElem? (i := 71) (by decide +kernel), List.mem_of_getElem? (i := 398) (by decide +kernel), List.mem_of_getElem? (i := 399) (by decide +kernel)⟩
theorem lw_p11 : lw_okq (⟨"RedSkies$MeasureReader", "takeBetween", "(I)Z"⟩, 6) := ⟨⟨by decide +kernel, by decide +kernel⟩, List.mem_of_getElem? (i := 71) (by decide +kernel), List.mem_of_getElem? (i := 402) (by decide +kernel), List.mem_of_getElem? (i := 403) (by decide +kernel)⟩
theorem lw_p12 : lw_okq (⟨"RedSkies", "isLamp", "(I)Z"⟩, 18) := ⟨⟨by decide +kernel, by decide +kernel⟩, List.mem_of_getElem? (i := 17) (by decide +kernel), List.mem_of_getElem? (i := 454) (by decide +kernel), List.mem_of_getElem? (i := 455) (by decide +kernel)⟩
theorem lw_p13 : lw_okq (⟨"RedSkies", "isPigment", "(I)Z"⟩, 18) := ⟨⟨by decide +kernel, by decide +kernel⟩, List.mem_of_getElem? (i := 17) (by decide +kernel), List.mem_of_getElem? (i := 458) (by decide +kernel), List.mem_of_getElem? (i := 459) (by decide +kernel)⟩
theorem lw_p14 : lw_okq (⟨"RedSkies", "putRight", "(II)I"⟩, 18) := ⟨⟨by decide +kernel, by decide +kernel⟩, List.mem_of_getElem? (i := 17) (by decide +kernel), List.mem_of_getElem? (i := 486) (by decide +kernel), List.mem_of_getElem? (i := 487) (by decide +kernel)⟩
theorem lw_p15 : lw_okq (⟨"RedSkies", "isMeasure", "(I)Z"⟩, 18) := ⟨⟨by decide +kernel, by decide +kernel⟩, List.mem_of_getElem? (i := 17) (by decide +kernel), List.mem_of_getElem? (i := 500) (by decide +kernel), List.mem_of_getElem? (i := 501) (by decide +kernel)⟩
def lw_privs_1 : List (MethodName × Nat) := [(⟨"RedSkies$LampReader", "takeColour", "(I)Z"⟩, 6), (⟨"RedSkies$LampReader", "takeSign", "(I)Z"⟩, 6), (⟨"RedSkies$LampReader", "takeDigit", "(II)Z"⟩, 6), (⟨"RedSkies$LampReader", "takeBehindDigit", "(I)Z"⟩, 6), (⟨"RedSkies$LawReader", "takeOfGive", "(I)Z"⟩, 5), (⟨"RedSkies$LawReader", "grow", "(I)V"⟩, 5), (⟨"RedSkies$LawReader", "takeOfBound", "(I)Z"⟩, 5), (⟨"RedSkies$LawReader", "boundAhead", "()I"⟩, 5), (⟨"RedSkies$LawReader", "endBound", "()Z"⟩, 5), (⟨"RedSkies$MeasureReader", "takeColour", "(I)Z"⟩, 6), (⟨"RedSkies$MeasureReader", "takePart", "(I)Z"⟩, 6), (⟨"RedSkies$MeasureReader", "takeBetween", "(I)Z"⟩, 6), (⟨"RedSkies", "isLamp", "(I)Z"⟩, 18), (⟨"RedSkies", "isPigment", "(I)Z"⟩, 18), (⟨"RedSkies", "putRight", "(II)I"⟩, 18), (⟨"RedSkies", "isMeasure", "(I)Z"⟩, 18)]
theorem lw_r1 : ∀ q ∈ lw_privs_1, lw_okq q := List.forall_mem_cons.mpr ⟨lw_p0, List.forall_mem_cons.mpr ⟨lw_p1, List.forall_mem_cons.mpr ⟨lw_p2, List.forall_mem_cons.mpr ⟨lw_p3, List.forall_mem_cons.mpr ⟨lw_p4, List.forall_mem_cons.mpr ⟨lw_p5, List.forall_mem_cons.mpr ⟨lw_p6, List.forall_mem_cons.mpr ⟨lw_p7, List.forall_mem_cons.mpr ⟨lw_p8, List.forall_mem_cons.mpr ⟨lw_p9, List.forall_mem_cons.mpr ⟨lw_p10, List.forall_mem_cons.mpr ⟨lw_p11, List.forall_mem_cons.mpr ⟨lw_p12, List.forall_mem_cons.mpr ⟨lw_p13, List.forall_mem_cons.mpr ⟨lw_p14, List.forall_mem_cons.mpr ⟨lw_p15, fun _ h => absurd h List.not_mem_nil⟩⟩⟩⟩⟩⟩⟩⟩⟩⟩⟩⟩⟩⟩⟩⟩
theorem lw_p16 : lw_okq (⟨"RedSkies", "valueOf", "(II)I"⟩, 18) := ⟨⟨by decide +kernel, by decide +kernel⟩, List.mem_of_getElem? (i := 17) (by decide +kernel), List.mem_of_getElem? (i := 504) (by decide +kernel), List.mem_of_getElem? (i := 505) (by decide +kernel)⟩
theorem lw_p17 : lw_okq (⟨"RedSkies", "nearness", "(II)I"⟩, 18) := ⟨⟨by decide +kernel, by decide +kernel⟩, List.mem_of_getElem? (i := 17) (by decide +kernel), List.mem_of_getElem? (i := 516) (by decide +kernel), List.mem_of_getElem? (i := 517) (by decide +kernel)⟩
theorem lw_p18 : lw_okq (⟨"RedSkies$Painter", "draw", "(I)I"⟩, 1) := ⟨⟨by decide +kernel, by decide +kernel⟩, List.mem_of_getElem? (i := 227) (by decide +kernel), List.mem_of_getElem? (i := 536) (by decide +kernel), List.mem_of_getElem? (i := 537) (by decide +kernel)⟩
theorem lw_p19 : lw_okq (⟨"RedSkies", "layOut", "(I)V"⟩, 18) := ⟨⟨by decide +kernel, by decide +kernel⟩, List.mem_of_getElem? (i := 17) (by decide +kernel), List.mem_of_getElem? (i := 551) (by decide +kernel), List.mem_of_getElem? (i := 552) (by decide +kernel)⟩
theorem lw_p20 : lw_okq (⟨"RedSkies$Dealing", "against", "(II)I"⟩, 9) := ⟨⟨by decide +kernel, by decide +kernel⟩, List.mem_of_getElem? (i := 185) (by decide +kernel), List.mem_of_getElem? (i := 572) (by decide +kernel), List.mem_of_getElem? (i := 573) (by decide +kernel)⟩
theorem lw_p21 : lw_okq (⟨"RedSkies$Dealing", "ofHand", "(II)I"⟩, 9) := ⟨⟨by decide +kernel, by decide +kernel⟩, List.mem_of_getElem? (i := 185) (by decide +kernel), List.mem_of_getElem? (i := 588) (by decide +kernel), List.mem_of_getElem? (i := 589) (by decide +kernel)⟩
theorem lw_p22 : lw_okq (⟨"RedSkies$Dealing", "dealHand", "(II)V"⟩, 9) := ⟨⟨by decide +kernel, by decide +kernel⟩, List.mem_of_getElem? (i := 185) (by decide +kernel), List.mem_of_getElem? (i := 592) (by decide +kernel), List.mem_of_getElem? (i := 593) (by decide +kernel)⟩
theorem lw_p23 : lw_okq (⟨"RedSkies$Dealing", "addToChoices", "(II)V"⟩, 9) := ⟨⟨by decide +kernel, by decide +kernel⟩, List.mem_of_getElem? (i := 185) (by decide +kernel), List.mem_of_getElem? (i := 603) (by decide +kernel), List.mem_of_getElem? (i := 604) (by decide +kernel)⟩
theorem lw_p24 : lw_okq (⟨"RedSkies", "dealByWindows", "(II)V"⟩, 18) := ⟨⟨by decide +kernel, by decide +kernel⟩, List.mem_of_getElem? (i := 17) (by decide +kernel), List.mem_of_getElem? (i := 620) (by decide +kernel), List.mem_of_getElem? (i := 621) (by decide +kernel)⟩
theorem lw_p25 : lw_okq (⟨"RedSkies", "refusalToLook", "(II)I"⟩, 18) := ⟨⟨by decide +kernel, by decide +kernel⟩, List.mem_of_getElem? (i := 17) (by decide +kernel), List.mem_of_getElem? (i := 632) (by decide +kernel), List.mem_of_getElem? (i := 633) (by decide +kernel)⟩
theorem lw_p26 : lw_okq (⟨"RedSkies$Dealing", "aboveWith", "(IIII)J"⟩, 9) := ⟨⟨by decide +kernel, by decide +kernel⟩, List.mem_of_getElem? (i := 185) (by decide +kernel), List.mem_of_getElem? (i := 650) (by decide +kernel), List.mem_of_getElem? (i := 651) (by decide +kernel)⟩
theorem lw_p27 : lw_okq (⟨"RedSkies$Law", "classOf", "(I)I"⟩, 3) := ⟨⟨by decide +kernel, by decide +kernel⟩, List.mem_of_getElem? (i := 124) (by decide +kernel), List.mem_of_getElem? (i := 678) (by decide +kernel), List.mem_of_getElem? (i := 679) (by decide +kernel)⟩
theorem lw_p28 : lw_okq (⟨"RedSkies", "datesOf", "(III)I"⟩, 18) := ⟨⟨by decide +kernel, by decide +kernel⟩, List.mem_of_getElem? (i := 17) (by decide +kernel), List.mem_of_getElem? (i := 698) (by decide +kernel), List.mem_of_getElem? (i := 699) (by decide +kernel)⟩
theorem lw_p29 : lw_okq (⟨"RedSkies", "dateless", "(I)I"⟩, 18) := ⟨⟨by decide +kernel, by decide +kernel⟩, List.mem_of_getElem? (i := 17) (by decide +kernel), List.mem_of_getElem? (i := 710) (by decide +kernel), List.mem_of_getElem? (i := 711) (by decide +kernel)⟩
theorem lw_p30 : lw_okq (⟨"RedSkies", "howMany", "(I)I"⟩, 18) := ⟨⟨by decide +kernel, by decide +kernel⟩, List.mem_of_getElem? (i := 17) (by decide +kernel), List.mem_of_getElem? (i := 731) (by decide +kernel), List.mem_of_getElem? (i := 732) (by decide +kernel)⟩
theorem lw_p31 : lw_okq (⟨"RedSkies", "withPictures", "(J)J"⟩, 18) := ⟨⟨by decide +kernel, by decide +kernel⟩, List.mem_of_getElem? (i := 17) (by decide +kernel), List.mem_of_getElem? (i := 744) (by decide +kernel), List.mem_of_getElem? (i := 745) (by decide +kernel)⟩
def lw_privs_2 : List (MethodName × Nat) := [(⟨"RedSkies", "valueOf", "(II)I"⟩, 18), (⟨"RedSkies", "nearness", "(II)I"⟩, 18), (⟨"RedSkies$Painter", "draw", "(I)I"⟩, 1), (⟨"RedSkies", "layOut", "(I)V"⟩, 18), (⟨"RedSkies$Dealing", "against", "(II)I"⟩, 9), (⟨"RedSkies$Dealing", "ofHand", "(II)I"⟩, 9), (⟨"RedSkies$Dealing", "dealHand", "(II)V"⟩, 9), (⟨"RedSkies$Dealing", "addToChoices", "(II)V"⟩, 9), (⟨"RedSkies", "dealByWindows", "(II)V"⟩, 18), (⟨"RedSkies", "refusalToLook", "(II)I"⟩, 18), (⟨"RedSkies$Dealing", "aboveWith", "(IIII)J"⟩, 9), (⟨"RedSkies$Law", "classOf", "(I)I"⟩, 3), (⟨"RedSkies", "datesOf", "(III)I"⟩, 18), (⟨"RedSkies", "dateless", "(I)I"⟩, 18), (⟨"RedSkies", "howMany", "(I)I"⟩, 18), (⟨"RedSkies", "withPictures", "(J)J"⟩, 18)]
theorem lw_r2 : ∀ q ∈ lw_privs_2, lw_okq q := List.forall_mem_cons.mpr ⟨lw_p16, List.forall_mem_cons.mpr ⟨lw_p17, List.forall_mem_cons.mpr ⟨lw_p18, List.forall_mem_cons.mpr ⟨lw_p19, List.forall_mem_cons.mpr ⟨lw_p20, List.forall_mem_cons.mpr ⟨lw_p21, List.forall_mem_cons.mpr ⟨lw_p22, List.forall_mem_cons.mpr ⟨lw_p23, List.forall_mem_cons.mpr ⟨lw_p24, List.forall_mem_cons.mpr ⟨lw_p25, List.forall_mem_cons.mpr ⟨lw_p26, List.forall_mem_cons.mpr ⟨lw_p27, List.forall_mem_cons.mpr ⟨lw_p28, List.forall_mem_cons.mpr ⟨lw_p29, List.forall_mem_cons.mpr ⟨lw_p30, List.forall_mem_cons.mpr ⟨lw_p31, fun _ h => absurd h List.not_mem_nil⟩⟩⟩⟩⟩⟩⟩⟩⟩⟩⟩⟩⟩⟩⟩⟩
theorem lw_p32 : lw_okq (⟨"RedSkies", "withMeasures", "(J)J"⟩, 18) := ⟨⟨by decide +kernel, by decide +kernel⟩, List.mem_of_getElem? (i := 17) (by decide +kernel), List.mem_of_getElem? (i := 748) (by decide +kernel), List.mem_of_getElem? (i := 749) (by decide +kernel)⟩
theorem lw_p33 : lw_okq (⟨"RedSkies", "withIce", "(J)J"⟩, 18) := ⟨⟨by decide +kernel, by decide +kernel⟩, List.mem_of_getElem? (i := 17) (by decide +kernel), List.mem_of_getElem? (i := 752) (by decide +kernel), List.mem_of_getElem? (i := 753) (by decide +kernel)⟩
theorem lw_p34 : lw_okq (⟨"RedSkiesModel", "faultOf", "(I)I"⟩, 55) := ⟨⟨by decide +kernel, by decide +kernel⟩, List.mem_of_getElem? (i := 756) (by decide +kernel), List.mem_of_getElem? (i := 946) (by decide +kernel), List.mem_of_getElem? (i := 947) (by decide +kernel)⟩
theorem lw_p35 : lw_okq (⟨"RedSkiesModel", "goLamp", "(I)Z"⟩, 55) := ⟨⟨by decide +kernel, by decide +kernel⟩, List.mem_of_getElem? (i := 756) (by decide +kernel), List.mem_of_getElem? (i := 950) (by decide +kernel), List.mem_of_getElem? (i := 951) (by decide +kernel)⟩
theorem lw_p36 : lw_okq (⟨"RedSkiesModel", "goMeasure", "(I)Z"⟩, 55) := ⟨⟨by decide +kernel, by decide +kernel⟩, List.mem_of_getElem? (i := 756) (by decide +kernel), List.mem_of_getElem? (i := 962) (by decide +kernel), List.mem_of_getElem? (i := 963) (by decide +kernel)⟩
theorem lw_p37 : lw_okq (⟨"RedSkiesModel", "goLaw", "(I)Z"⟩, 55) := ⟨⟨by decide +kernel, by decide +kernel⟩, List.mem_of_getElem? (i := 756) (by decide +kernel), List.mem_of_getElem? (i := 967) (by decide +kernel), List.mem_of_getElem? (i := 968) (by decide +kernel)⟩
theorem lw_p38 : lw_okq (⟨"RedSkiesModel", "reach", "()I"⟩, 55) := ⟨⟨by decide +kernel, by decide +kernel⟩, List.mem_of_getElem? (i := 756) (by decide +kernel), List.mem_of_getElem? (i := 971) (by decide +kernel), List.mem_of_getElem? (i := 972) (by decide +kernel)⟩
theorem lw_p39 : lw_okq (⟨"RedSkiesModel", "add", "(IIIIII)V"⟩, 55) := ⟨⟨by decide +kernel, by decide +kernel⟩, List.mem_of_getElem? (i := 756) (by decide +kernel), List.mem_of_getElem? (i := 1000) (by decide +kernel), List.mem_of_getElem? (i := 1001) (by decide +kernel)⟩
theorem lw_p40 : lw_okq (⟨"RedSkiesModel", "isPicture", "(I)Z"⟩, 55) := ⟨⟨by decide +kernel, by decide +kernel⟩, List.mem_of_getElem? (i := 756) (by decide +kernel), List.mem_of_getElem? (i := 1008) (by decide +kernel), List.mem_of_getElem? (i := 1009) (by decide +kernel)⟩
theorem lw_p41 : lw_okq (⟨"RedSkiesModel", "rightOf", "(II)I"⟩, 55) := ⟨⟨by decide +kernel, by decide +kernel⟩, List.mem_of_getElem? (i := 756) (by decide +kernel), List.mem_of_getElem? (i := 1025) (by decide +kernel), List.mem_of_getElem? (i := 1026) (by decide +kernel)⟩
theorem lw_p42 : lw_okq (⟨"RedSkiesModel", "isMeasure", "(I)Z"⟩, 55) := ⟨⟨by decide +kernel, by decide +kernel⟩, List.mem_of_getElem? (i := 756) (by decide +kernel), List.mem_of_getElem? (i := 1036) (by decide +kernel), List.mem_of_getElem? (i := 1037) (by decide +kernel)⟩
theorem lw_p43 : lw_okq (⟨"RedSkiesModel", "valueOf", "(II)I"⟩, 55) := ⟨⟨by decide +kernel, by decide +kernel⟩, List.mem_of_getElem? (i := 756) (by decide +kernel), List.mem_of_getElem? (i := 1040) (by decide +kernel), List.mem_of_getElem? (i := 1041) (by decide +kernel)⟩
theorem lw_p44 : lw_okq (⟨"RedSkiesModel", "sumOf", "(III)I"⟩, 55) := ⟨⟨by decide +kernel, by decide +kernel⟩, List.mem_of_getElem? (i := 756) (by decide +kernel), List.mem_of_getElem? (i := 1044) (by decide +kernel), List.mem_of_getElem? (i := 1045) (by decide +kernel)⟩
theorem lw_p45 : lw_okq (⟨"RedSkiesModel", "nearOf", "(II)I"⟩, 55) := ⟨⟨by decide +kernel, by decide +kernel⟩, List.mem_of_getElem? (i := 756) (by decide +kernel), List.mem_of_getElem? (i := 1059) (by decide +kernel), List.mem_of_getElem? (i := 1060) (by decide +kernel)⟩
theorem lw_p46 : lw_okq (⟨"RedSkiesModel", "isCounted", "(I)Z"⟩, 55) := ⟨⟨by decide +kernel, by decide +kernel⟩, List.mem_of_getElem? (i := 756) (by decide +kernel), List.mem_of_getElem? (i := 1063) (by decide +kernel), List.mem_of_getElem? (i := 1064) (by decide +kernel)⟩
theorem lw_p47 : lw_okq (⟨"RedSkiesModel", "isNearPicture", "(II)Z"⟩, 55) := ⟨⟨by decide +kernel, by decide +kernel⟩, List.mem_of_getElem? (i := 756) (by decide +kernel), List.mem_of_getElem? (i := 1067) (by decide +kernel), List.mem_of_getElem? (i := 1068) (by decide +kernel)⟩
def lw_privs_3 : List (MethodName × Nat) := [(⟨"RedSkies", "withMeasures", "(J)J"⟩, 18), (⟨"RedSkies", "withIce", "(J)J"⟩, 18), (⟨"RedSkiesModel", "faultOf", "(I)I"⟩, 55), (⟨"RedSkiesModel", "goLamp", "(I)Z"⟩, 55), (⟨"RedSkiesModel", "goMeasure", "(I)Z"⟩, 55), (⟨"RedSkiesModel", "goLaw", "(I)Z"⟩, 55), (⟨"RedSkiesModel", "reach", "()I"⟩, 55), (⟨"RedSkiesModel", "add", "(IIIIII)V"⟩, 55), (⟨"RedSkiesModel", "isPicture", "(I)Z"⟩, 55), (⟨"RedSkiesModel", "rightOf", "(II)I"⟩, 55), (⟨"RedSkiesModel", "isMeasure", "(I)Z"⟩, 55), (⟨"RedSkiesModel", "valueOf", "(II)I"⟩, 55), (⟨"RedSkiesModel", "sumOf", "(III)I"⟩, 55), (⟨"RedSkiesModel", "nearOf", "(II)I"⟩, 55), (⟨"RedSkiesModel", "isCounted", "(I)Z"⟩, 55), (⟨"RedSkiesModel", "isNearPicture", "(II)Z"⟩, 55)]
theorem lw_r3 : ∀ q ∈ lw_privs_3, lw_okq q := List.forall_mem_cons.mpr ⟨lw_p32, List.forall_mem_cons.mpr ⟨lw_p33, List.forall_mem_cons.mpr ⟨lw_p34, List.forall_mem_cons.mpr ⟨lw_p35, List.forall_mem_cons.mpr ⟨lw_p36, List.forall_mem_cons.mpr ⟨lw_p37, List.forall_mem_cons.mpr ⟨lw_p38, List.forall_mem_cons.mpr ⟨lw_p39, List.forall_mem_cons.mpr ⟨lw_p40, List.forall_mem_cons.mpr ⟨lw_p41, List.forall_mem_cons.mpr ⟨lw_p42, List.forall_mem_cons.mpr ⟨lw_p43, List.forall_mem_cons.mpr ⟨lw_p44, List.forall_mem_cons.mpr ⟨lw_p45, List.forall_mem_cons.mpr ⟨lw_p46, List.forall_mem_cons.mpr ⟨lw_p47, fun _ h => absurd h List.not_mem_nil⟩⟩⟩⟩⟩⟩⟩⟩⟩⟩⟩⟩⟩⟩⟩⟩
theorem lw_p48 : lw_okq (⟨"RedSkiesModel", "isNear", "(III)Z"⟩, 55) := ⟨⟨by decide +kernel, by decide +kernel⟩, List.mem_of_getElem? (i := 756) (by decide +kernel), List.mem_of_getElem? (i := 1071) (by decide +kernel), List.mem_of_getElem? (i := 1072) (by decide +kernel)⟩
theorem lw_p49 : lw_okq (⟨"RedSkiesModel", "draw", "(I)I"⟩, 55) := ⟨⟨by decide +kernel, by decide +kernel⟩, List.mem_of_getElem? (i := 756) (by decide +kernel), List.mem_of_getElem? (i := 1080) (by decide +kernel), List.mem_of_getElem? (i := 1081) (by decide +kernel)⟩
theorem lw_p50 : lw_okq (⟨"RedSkiesModel", "look", "(III)V"⟩, 55) := ⟨⟨by decide +kernel, by decide +kernel⟩, List.mem_of_getElem? (i := 756) (by decide +kernel), List.mem_of_getElem? (i := 1092) (by decide +kernel), List.mem_of_getElem? (i := 1093) (by decide +kernel)⟩
theorem lw_p51 : lw_okq (⟨"RedSkiesModel", "statNow", "()I"⟩, 55) := ⟨⟨by decide +kernel, by decide +kernel⟩, List.mem_of_getElem? (i := 756) (by decide +kernel), List.mem_of_getElem? (i := 1096) (by decide +kernel), List.mem_of_getElem? (i := 1097) (by decide +kernel)⟩
theorem lw_p52 : lw_okq (⟨"RedSkiesModel", "standing", "(I)I"⟩, 55) := ⟨⟨by decide +kernel, by decide +kernel⟩, List.mem_of_getElem? (i := 756) (by decide +kernel), List.mem_of_getElem? (i := 1100) (by decide +kernel), List.mem_of_getElem? (i := 1101) (by decide +kernel)⟩
theorem lw_p53 : lw_okq (⟨"RedSkiesModel", "layOdds", "()V"⟩, 55) := ⟨⟨by decide +kernel, by decide +kernel⟩, List.mem_of_getElem? (i := 756) (by decide +kernel), List.mem_of_getElem? (i := 1113) (by decide +kernel), List.mem_of_getElem? (i := 1114) (by decide +kernel)⟩
theorem lw_p54 : lw_okq (⟨"RedSkiesModel", "layTotal", "()V"⟩, 55) := ⟨⟨by decide +kernel, by decide +kernel⟩, List.mem_of_getElem? (i := 756) (by decide +kernel), List.mem_of_getElem? (i := 1117) (by decide +kernel), List.mem_of_getElem? (i := 1118) (by decide +kernel)⟩
theorem lw_p55 : lw_okq (⟨"RedSkiesModel", "layHand", "(I)I"⟩, 55) := ⟨⟨by decide +kernel, by decide +kernel⟩, List.mem_of_getElem? (i := 756) (by decide +kernel), List.mem_of_getElem? (i := 1121) (by decide +kernel), List.mem_of_getElem? (i := 1122) (by decide +kernel)⟩
theorem lw_p56 : lw_okq (⟨"RedSkiesModel", "lowClass", "(II)I"⟩, 55) := ⟨⟨by decide +kernel, by decide +kernel⟩, List.mem_of_getElem? (i := 756) (by decide +kernel), List.mem_of_getElem? (i := 1153) (by decide +kernel), List.mem_of_getElem? (i := 1154) (by decide +kernel)⟩
theorem lw_p57 : lw_okq (⟨"RedSkiesModel", "classOf", "(I)I"⟩, 55) := ⟨⟨by decide +kernel, by decide +kernel⟩, List.mem_of_getElem? (i := 756) (by decide +kernel), List.mem_of_getElem? (i := 1157) (by decide +kernel), List.mem_of_getElem? (i := 1158) (by decide +kernel)⟩
theorem lw_p58 : lw_okq (⟨"RedSkiesModel", "highClass", "(II)I"⟩, 55) := ⟨⟨by decide +kernel, by decide +kernel⟩, List.mem_of_getElem? (i := 756) (by decide +kernel), List.mem_of_getElem? (i := 1161) (by decide +kernel), List.mem_of_getElem? (i := 1162) (by decide +kernel)⟩
theorem lw_p59 : lw_okq (⟨"RedSkiesModel", "layDates", "(II)V"⟩, 55) := ⟨⟨by decide +kernel, by decide +kernel⟩, List.mem_of_getElem? (i := 756) (by decide +kernel), List.mem_of_getElem? (i := 1173) (by decide +kernel), List.mem_of_getElem? (i := 1174) (by decide +kernel)⟩
theorem lw_p60 : lw_okq (⟨"RedSkiesModel", "isDate", "(III)Z"⟩, 55) := ⟨⟨by decide +kernel, by decide +kernel⟩, List.mem_of_getElem? (i := 756) (by decide +kernel), List.mem_of_getElem? (i := 1177) (by decide +kernel), List.mem_of_getElem? (i := 1178) (by decide +kernel)⟩
theorem lw_p61 : lw_okq (⟨"RedSkiesModel", "wrongOf", "(I)I"⟩, 55) := ⟨⟨by decide +kernel, by decide +kernel⟩, List.mem_of_getElem? (i := 756) (by decide +kernel), List.mem_of_getElem? (i := 1185) (by decide +kernel), List.mem_of_getElem? (i := 1186) (by decide +kernel)⟩
theorem lw_p62 : lw_okq (⟨"RedSkiesModel", "countOf", "(I)I"⟩, 55) := ⟨⟨by decide +kernel, by decide +kernel⟩, List.mem_of_getElem? (i := 756) (by decide +kernel), List.mem_of_getElem? (i := 1201) (by decide +kernel), List.mem_of_getElem? (i := 1202) (by decide +kernel)⟩
theorem lw_p63 : lw_okq (⟨"RedSkiesModel", "say", "(J)V"⟩, 55) := ⟨⟨by decide +kernel, by decide +kernel⟩, List.mem_of_getElem? (i := 756) (by decide +kernel), List.mem_of_getElem? (i := 1210) (by decide +kernel), List.mem_of_getElem? (i := 1211) (by decide +kernel)⟩
def lw_privs_4 : List (MethodName × Nat) := [(⟨"RedSkiesModel", "isNear", "(III)Z"⟩, 55), (⟨"RedSkiesModel", "draw", "(I)I"⟩, 55), (⟨"RedSkiesModel", "look", "(III)V"⟩, 55), (⟨"RedSkiesModel", "statNow", "()I"⟩, 55), (⟨"RedSkiesModel", "standing", "(I)I"⟩, 55), (⟨"RedSkiesModel", "layOdds", "()V"⟩, 55), (⟨"RedSkiesModel", "layTotal", "()V"⟩, 55), (⟨"RedSkiesModel", "layHand", "(I)I"⟩, 55), (⟨"RedSkiesModel", "lowClass", "(II)I"⟩, 55), (⟨"RedSkiesModel", "classOf", "(I)I"⟩, 55), (⟨"RedSkiesModel", "highClass", "(II)I"⟩, 55), (⟨"RedSkiesModel", "layDates", "(II)V"⟩, 55), (⟨"RedSkiesModel", "isDate", "(III)Z"⟩, 55), (⟨"RedSkiesModel", "wrongOf", "(I)I"⟩, 55), (⟨"RedSkiesModel", "countOf", "(I)I"⟩, 55), (⟨"RedSkiesModel", "say", "(J)V"⟩, 55)]
theorem lw_r4 : ∀ q ∈ lw_privs_4, lw_okq q := List.forall_mem_cons.mpr ⟨lw_p48, List.forall_mem_cons.mpr ⟨lw_p49, List.forall_mem_cons.mpr ⟨lw_p50, List.forall_mem_cons.mpr ⟨lw_p51, List.forall_mem_cons.mpr ⟨lw_p52, List.forall_mem_cons.mpr ⟨lw_p53, List.forall_mem_cons.mpr ⟨lw_p54, List.forall_mem_cons.mpr ⟨lw_p55, List.forall_mem_cons.mpr ⟨lw_p56, List.forall_mem_cons.mpr ⟨lw_p57, List.forall_mem_cons.mpr ⟨lw_p58, List.forall_mem_cons.mpr ⟨lw_p59, List.forall_mem_cons.mpr ⟨lw_p60, List.forall_mem_cons.mpr ⟨lw_p61, List.forall_mem_cons.mpr ⟨lw_p62, List.forall_mem_cons.mpr ⟨lw_p63, fun _ h => absurd h List.not_mem_nil⟩⟩⟩⟩⟩⟩⟩⟩⟩⟩⟩⟩⟩⟩⟩⟩
theorem lw_p64 : lw_okq (⟨"RedSkiesModel", "sayPicture", "(I)V"⟩, 55) := ⟨⟨by decide +kernel, by decide +kernel⟩, List.mem_of_getElem? (i := 756) (by decide +kernel), List.mem_of_getElem? (i := 1215) (by decide +kernel), List.mem_of_getElem? (i := 1216) (by decide +kernel)⟩
theorem lw_p65 : lw_okq (⟨"RedSkiesModel", "sayMeasure", "(I)V"⟩, 55) := ⟨⟨by decide +kernel, by decide +kernel⟩, List.mem_of_getElem? (i := 756) (by decide +kernel), List.mem_of_getElem? (i := 1219) (by decide +kernel), List.mem_of_getElem? (i := 1220) (by decide +kernel)⟩
def lw_privs_5 : List (MethodName × Nat) := [(⟨"RedSkiesModel", "sayPicture", "(I)V"⟩, 55), (⟨"RedSkiesModel", "sayMeasure", "(I)V"⟩, 55)]
theorem lw_r5 : ∀ q ∈ lw_privs_5, lw_okq q := List.forall_mem_cons.mpr ⟨lw_p64, List.forall_mem_cons.mpr ⟨lw_p65, fun _ h => absurd h List.not_mem_nil⟩⟩
def lw_privs : List (MethodName × Nat) := lw_privs_1 ++ (lw_privs_2 ++ (lw_privs_3 ++ (lw_privs_4 ++ (lw_privs_5))))
def lw_tbl : List Cond := k2_sels lw_privs ++ tables_1
theorem lw_privs_ok : ∀ q ∈ lw_privs, lw_okq q := by
  show ∀ q ∈ lw_privs_1 ++ (lw_privs_2 ++ (lw_privs_3 ++ (lw_privs_4 ++ (lw_privs_5)))), lw_okq q
  exact List.forall_mem_append.mpr ⟨lw_r1, List.forall_mem_append.mpr ⟨lw_r2, List.forall_mem_append.mpr ⟨lw_r3, List.forall_mem_append.mpr ⟨lw_r4, lw_r5⟩⟩⟩⟩
def RX0 : String := "RedSkies$Dealing"
def TX0 : u_T := fun k => match k with
  | 0 => ("RedSkies$Dealing", "hands", "[I", true)
  | 1 => ("RedSkies$Dealing", "values", "[I", true)
  | 2 => ("RedSkies$Dealing", "observed", "I", false)
  | 3 => ("RedSkies$Dealing", "above", "J", false)
  | 4 => ("RedSkies$Dealing", "below", "J", false)
  | 5 => ("RedSkies$Dealing", "leastAbove", "J", false)
  | 6 => ("RedSkies$Dealing", "leastBelow", "J", false)
  | 7 => ("RedSkies$Dealing", "ways", "[[I", true)
  | _ => ("RedSkies$Dealing", "reach", "I", false)
def tyX0 : Nat → FieldType := fun k => match k with
  | 0 => .array .int
  | 1 => .array .int
  | 2 => .int
  | 3 => .long
  | 4 => .long
  | 5 => .long
  | 6 => .long
  | 7 => .array (.array .int)
  | _ => .int
abbrev wsX00 : List Cond := u_ws RX0 TX0 9
theorem nmX0 : ∀ a, a < 9 → ∀ b, b < 9 → a ≠ b → (TX0 a).2.1 ≠ (TX0 b).2.1 := by decide +kernel
theorem tyX0_ok : ∀ k, k < 9 → parseFieldDescriptor (TX0 k).2.2.1 = some (tyX0 k) := by decide +kernel
abbrev cX0_init : ByteArray := prog_2_method_1_code
def yX0_init : MethodName := ⟨RX0, "<init>", "()V"⟩
abbrev cX0_pairs : ByteArray := prog_2_method_2_code
def yX0_pairs : MethodName := ⟨RX0, "pairs", "(II)I"⟩
abbrev cX0_deal : ByteArray := prog_2_method_3_code
def yX0_deal : MethodName := ⟨RX0, "deal", "(II)V"⟩
abbrev cX0_forgetLeast : ByteArray := prog_2_method_4_code
def yX0_forgetLeast : MethodName := ⟨RX0, "forgetLeast", "()V"⟩
abbrev cX0_keepLeast : ByteArray := prog_2_method_5_code
def yX0_keepLeast : MethodName := ⟨RX0, "keepLeast", "()V"⟩
abbrev cX0_heaviest : ByteArray := prog_2_method_6_code
def yX0_heaviest : MethodName := ⟨RX0, "heaviest", "(II)I"⟩
abbrev cX0_mostOpen : ByteArray := prog_2_method_7_code
def yX0_mostOpen : MethodName := ⟨RX0, "mostOpen", "(II)I"⟩
abbrev cX0_aboveWith : ByteArray := prog_2_method_8_code
def yX0_aboveWith : MethodName := ⟨RX0, "aboveWith", "(IIII)J"⟩
abbrev cX0_holds : ByteArray := prog_2_method_9_code
def yX0_holds : MethodName := ⟨RX0, "holds", "(II)Z"⟩
abbrev cX0_ofHand : ByteArray := prog_2_method_10_code
def yX0_ofHand : MethodName := ⟨RX0, "ofHand", "(II)I"⟩
abbrev cX0_against : ByteArray := prog_2_method_11_code
def yX0_against : MethodName := ⟨RX0, "against", "(II)I"⟩
abbrev cX0_dealHand : ByteArray := prog_2_method_12_code
def yX0_dealHand : MethodName := ⟨RX0, "dealHand", "(II)V"⟩
abbrev cX0_addToChoices : ByteArray := prog_2_method_13_code
def yX0_addToChoices : MethodName := ⟨RX0, "addToChoices", "(II)V"⟩
def RX1 : String := "RedSkies$LampReader"
def TX1 : u_T := fun k => match k with
  | 0 => ("RedSkies$LampReader", "more", "[I", true)
  | 1 => ("RedSkies$LampReader", "isTold", "[Z", true)
  | 2 => ("RedSkies$LampReader", "place", "I", false)
  | 3 => ("RedSkies$LampReader", "colour", "I", false)
  | 4 => ("RedSkies$LampReader", "sign", "I", false)
  | _ => ("RedSkies$LampReader", "number", "I", false)
def tyX1 : Nat → FieldType := fun k => match k with
  | 0 => .array .int
  | 1 => .array .boolean
  | 2 => .int
  | 3 => .int
  | 4 => .int
  | _ => .int
abbrev wsX10 : List Cond := u_ws RX1 TX1 6
theorem nmX1 : ∀ a, a < 6 → ∀ b, b < 6 → a ≠ b → (TX1 a).2.1 ≠ (TX1 b).2.1 := by decide +kernel
theorem tyX1_ok : ∀ k, k < 6 → parseFieldDescriptor (TX1 k).2.2.1 = some (tyX1 k) := by decide +kernel
abbrev cX1_init : ByteArray := prog_3_method_1_code
def yX1_init : MethodName := ⟨RX1, "<init>", "()V"⟩
abbrev cX1_begin : ByteArray := prog_3_method_2_code
def yX1_begin : MethodName := ⟨RX1, "begin", "()V"⟩
abbrev cX1_take : ByteArray := prog_3_method_3_code
def yX1_take : MethodName := ⟨RX1, "take", "(I)Z"⟩
abbrev cX1_isDone : ByteArray := prog_3_method_4_code
def yX1_isDone : MethodName := ⟨RX1, "isDone", "()Z"⟩
abbrev cX1_takeColour : ByteArray := prog_3_method_5_code
def yX1_takeColour : MethodName := ⟨RX1, "takeColour", "(I)Z"⟩
abbrev cX1_takeSign : ByteArray := prog_3_method_6_code
def yX1_takeSign : MethodName := ⟨RX1, "takeSign", "(I)Z"⟩
abbrev cX1_takeDigit : ByteArray := prog_3_method_7_code
def yX1_takeDigit : MethodName := ⟨RX1, "takeDigit", "(II)Z"⟩
abbrev cX1_takeBehindDigit : ByteArray := prog_3_method_8_code
def yX1_takeBehindDigit : MethodName := ⟨RX1, "takeBehindDigit", "(I)Z"⟩
def RX2 : String := "RedSkies$Law"
def TX2 : u_T := fun k => match k with
  | 0 => ("RedSkies$Law", "bounds", "[I", true)
  | 1 => ("RedSkies$Law", "size", "I", false)
  | _ => ("RedSkies$Law", "give", "I", false)
def tyX2 : Nat → FieldType := fun k => match k with
  | 0 => .array .int
  | 1 => .int
  | _ => .int
abbrev wsX20 : List Cond := u_ws RX2 TX2 3
theorem nmX2 : ∀ a, a < 3 → ∀ b, b < 3 → a ≠ b → (TX2 a).2.1 ≠ (TX2 b).2.1 := by decide +kernel
theorem tyX2_ok : ∀ k, k < 3 → parseFieldDescriptor (TX2 k).2.2.1 = some (tyX2 k) := by decide +kernel
abbrev cX2_init : ByteArray := prog_4_method_1_code
def yX2_init : MethodName := ⟨RX2, "<init>", "()V"⟩
abbrev cX2_takeFrom : ByteArray := prog_4_method_2_code
def yX2_takeFrom : MethodName := ⟨RX2, "takeFrom", "(LRedSkies$LawReader;)V"⟩
abbrev cX2_lowest : ByteArray := prog_4_method_3_code
def yX2_lowest : MethodName := ⟨RX2, "lowest", "(I)I"⟩
abbrev cX2_highest : ByteArray := prog_4_method_4_code
def yX2_highest : MethodName := ⟨RX2, "highest", "(I)I"⟩
abbrev cX2_classOf : ByteArray := prog_4_method_5_code
def yX2_classOf : MethodName := ⟨RX2, "classOf", "(I)I"⟩
def RX3 : String := "RedSkies$LawReader"
def TX3 : u_T := fun k => match k with
  | 0 => ("RedSkies$LawReader", "bounds", "[I", true)
  | 1 => ("RedSkies$LawReader", "size", "I", false)
  | 2 => ("RedSkies$LawReader", "number", "I", false)
  | 3 => ("RedSkies$LawReader", "digits", "I", false)
  | _ => ("RedSkies$LawReader", "isAtGive", "Z", false)
def tyX3 : Nat → FieldType := fun k => match k with
  | 0 => .array .int
  | 1 => .int
  | 2 => .int
  | 3 => .int
  | _ => .boolean
abbrev wsX30 : List Cond := u_ws RX3 TX3 5
theorem nmX3 : ∀ a, a < 5 → ∀ b, b < 5 → a ≠ b → (TX3 a).2.1 ≠ (TX3 b).2.1 := by decide +kernel
theorem tyX3_ok : ∀ k, k < 5 → parseFieldDescriptor (TX3 k).2.2.1 = some (tyX3 k) := by decide +kernel
abbrev cX3_init : ByteArray := prog_5_method_1_code
def yX3_init : MethodName := ⟨RX3, "<init>", "()V"⟩
abbrev cX3_begin : ByteArray := prog_5_method_2_code
def yX3_begin : MethodName := ⟨RX3, "begin", "()V"⟩
abbrev cX3_take : ByteArray := prog_5_method_3_code
def yX3_take : MethodName := ⟨RX3, "take", "(I)Z"⟩
abbrev cX3_isDone : ByteArray := prog_5_method_4_code
def yX3_isDone : MethodName := ⟨RX3, "isDone", "()Z"⟩
abbrev cX3_boundAhead : ByteArray := prog_5_method_5_code
def yX3_boundAhead : MethodName := ⟨RX3, "boundAhead", "()I"⟩
abbrev cX3_takeOfGive : ByteArray := prog_5_method_6_code
def yX3_takeOfGive : MethodName := ⟨RX3, "takeOfGive", "(I)Z"⟩
abbrev cX3_takeOfBound : ByteArray := prog_5_method_7_code
def yX3_takeOfBound : MethodName := ⟨RX3, "takeOfBound", "(I)Z"⟩
abbrev cX3_grow : ByteArray := prog_5_method_8_code
def yX3_grow : MethodName := ⟨RX3, "grow", "(I)V"⟩
abbrev cX3_endBound : ByteArray := prog_5_method_9_code
def yX3_endBound : MethodName := ⟨RX3, "endBound", "()Z"⟩
def RX4 : String := "RedSkies$MeasureReader"
def TX4 : u_T := fun k => match k with
  | 0 => ("RedSkies$MeasureReader", "times", "[I", true)
  | 1 => ("RedSkies$MeasureReader", "place", "I", false)
  | 2 => ("RedSkies$MeasureReader", "sum", "I", false)
  | 3 => ("RedSkies$MeasureReader", "terms", "I", false)
  | 4 => ("RedSkies$MeasureReader", "colour", "I", false)
  | _ => ("RedSkies$MeasureReader", "part", "I", false)
def tyX4 : Nat → FieldType := fun k => match k with
  | 0 => .array .int
  | 1 => .int
  | 2 => .int
  | 3 => .int
  | 4 => .int
  | _ => .int
abbrev wsX40 : List Cond := u_ws RX4 TX4 6
theorem nmX4 : ∀ a, a < 6 → ∀ b, b < 6 → a ≠ b → (TX4 a).2.1 ≠ (TX4 b).2.1 := by decide +kernel
theorem tyX4_ok : ∀ k, k < 6 → parseFieldDescriptor (TX4 k).2.2.1 = some (tyX4 k) := by decide +kernel
abbrev cX4_init : ByteArray := prog_6_method_1_code
def yX4_init : MethodName := ⟨RX4, "<init>", "()V"⟩
abbrev cX4_begin : ByteArray := prog_6_method_2_code
def yX4_begin : MethodName := ⟨RX4, "begin", "()V"⟩
abbrev cX4_take : ByteArray := prog_6_method_3_code
def yX4_take : MethodName := ⟨RX4, "take", "(I)Z"⟩
abbrev cX4_isDone : ByteArray := prog_6_method_4_code
def yX4_isDone : MethodName := ⟨RX4, "isDone", "()Z"⟩
abbrev cX4_takeColour : ByteArray := prog_6_method_5_code
def yX4_takeColour : MethodName := ⟨RX4, "takeColour", "(I)Z"⟩
abbrev cX4_takePart : ByteArray := prog_6_method_6_code
def yX4_takePart : MethodName := ⟨RX4, "takePart", "(I)Z"⟩
abbrev cX4_takeBetween : ByteArray := prog_6_method_7_code
def yX4_takeBetween : MethodName := ⟨RX4, "takeBetween", "(I)Z"⟩
def RX5 : String := "RedSkies$Page"
def TX5 : u_T := fun k => match k with
  | 0 => ("RedSkies$Page", "codes", "[I", true)
  | _ => ("RedSkies$Page", "size", "I", false)
def tyX5 : Nat → FieldType := fun k => match k with
  | 0 => .array .int
  | _ => .int
abbrev wsX50 : List Cond := u_ws RX5 TX5 2
theorem nmX5 : ∀ a, a < 2 → ∀ b, b < 2 → a ≠ b → (TX5 a).2.1 ≠ (TX5 b).2.1 := by decide +kernel
theorem tyX5_ok : ∀ k, k < 2 → parseFieldDescriptor (TX5 k).2.2.1 = some (tyX5 k) := by decide +kernel
abbrev cX5_init : ByteArray := prog_7_method_1_code
def yX5_init : MethodName := ⟨RX5, "<init>", "()V"⟩
abbrev cX5_lettersIn : ByteArray := prog_7_method_2_code
def yX5_lettersIn : MethodName := ⟨RX5, "lettersIn", "(J)I"⟩
abbrev cX5_codeIn : ByteArray := prog_7_method_3_code
def yX5_codeIn : MethodName := ⟨RX5, "codeIn", "(JI)I"⟩
abbrev cX5_append : ByteArray := prog_7_method_4_code
def yX5_append : MethodName := ⟨RX5, "append", "(JI)V"⟩
abbrev cX5_standing : ByteArray := prog_7_method_5_code
def yX5_standing : MethodName := ⟨RX5, "standing", "(LRedSkies$Reader;)I"⟩
abbrev cX5_isWhole : ByteArray := prog_7_method_6_code
def yX5_isWhole : MethodName := ⟨RX5, "isWhole", "(LRedSkies$Reader;)Z"⟩
def RX6 : String := "RedSkies$Painter"
def TX6 : u_T := fun k => match k with
  | _ => ("RedSkies$Painter", "seed", "J", false)
def tyX6 : Nat → FieldType := fun k => match k with
  | _ => .long
abbrev wsX60 : List Cond := u_ws RX6 TX6 1
theorem nmX6 : ∀ a, a < 1 → ∀ b, b < 1 → a ≠ b → (TX6 a).2.1 ≠ (TX6 b).2.1 := by decide +kernel
theorem tyX6_ok : ∀ k, k < 1 → parseFieldDescriptor (TX6 k).2.2.1 = some (tyX6 k) := by decide +kernel
abbrev cX6_init : ByteArray := prog_8_method_1_code
def yX6_init : MethodName := ⟨RX6, "<init>", "()V"⟩
abbrev cX6_draw : ByteArray := prog_8_method_2_code
def yX6_draw : MethodName := ⟨RX6, "draw", "(I)I"⟩
abbrev cX6_paintOne : ByteArray := prog_8_method_3_code
def yX6_paintOne : MethodName := ⟨RX6, "paintOne", "(LRedSkies$Show;I)V"⟩
def RX7 : String := "RedSkies$Reader"
def TX7 : u_T := fun k => match k with
  | _ => ("", "", "", false)
def tyX7 : Nat → FieldType := fun k => match k with
  | _ => .int
abbrev wsX70 : List Cond := u_ws RX7 TX7 0
theorem nmX7 : ∀ a, a < 0 → ∀ b, b < 0 → a ≠ b → (TX7 a).2.1 ≠ (TX7 b).2.1 := by decide +kernel
theorem tyX7_ok : ∀ k, k < 0 → parseFieldDescriptor (TX7 k).2.2.1 = some (tyX7 k) := by decide +kernel
abbrev cX7_init : ByteArray := prog_9_method_1_code
def yX7_init : MethodName := ⟨RX7, "<init>", "()V"⟩
abbrev cX7_colourOf : ByteArray := prog_9_method_5_code
def yX7_colourOf : MethodName := ⟨RX7, "colourOf", "(I)I"⟩
abbrev cX7_digitOf : ByteArray := prog_9_method_6_code
def yX7_digitOf : MethodName := ⟨RX7, "digitOf", "(I)I"⟩
def RX8 : String := "RedSkies$Show"
def TX8 : u_T := fun k => match k with
  | 0 => ("RedSkies$Show", "facts", "[[I", true)
  | 1 => ("RedSkies$Show", "seen", "[[I", true)
  | 2 => ("RedSkies$Show", "eruptions", "[I", true)
  | 3 => ("RedSkies$Show", "lows", "[I", true)
  | 4 => ("RedSkies$Show", "highs", "[I", true)
  | 5 => ("RedSkies$Show", "pictures", "I", false)
  | 6 => ("RedSkies$Show", "mountains", "I", false)
  | _ => ("RedSkies$Show", "told", "I", false)
def tyX8 : Nat → FieldType := fun k => match k with
  | 0 => .array (.array .int)
  | 1 => .array (.array .int)
  | 2 => .array .int
  | 3 => .array .int
  | 4 => .array .int
  | 5 => .int
  | 6 => .int
  | _ => .int
abbrev wsX80 : List Cond := u_ws RX8 TX8 8
theorem nmX8 : ∀ a, a < 8 → ∀ b, b < 8 → a ≠ b → (TX8 a).2.1 ≠ (TX8 b).2.1 := by decide +kernel
theorem tyX8_ok : ∀ k, k < 8 → parseFieldDescriptor (TX8 k).2.2.1 = some (tyX8 k) := by decide +kernel
abbrev cX8_init : ByteArray := prog_10_method_1_code
def yX8_init : MethodName := ⟨RX8, "<init>", "()V"⟩
abbrev cX8_takeFrom : ByteArray := prog_10_method_2_code
def yX8_takeFrom : MethodName := ⟨RX8, "takeFrom", "(LRedSkies$Show;)V"⟩
abbrev cX8_has : ByteArray := prog_10_method_3_code
def yX8_has : MethodName := ⟨RX8, "has", "(I)Z"⟩
abbrev cX8_hang : ByteArray := prog_10_method_4_code
def yX8_hang : MethodName := ⟨RX8, "hang", "(IIIIII)I"⟩
abbrev cX8_isCounted : ByteArray := prog_10_method_5_code
def yX8_isCounted : MethodName := ⟨RX8, "isCounted", "(I)Z"⟩
abbrev cX8_isNear : ByteArray := prog_10_method_6_code
def yX8_isNear : MethodName := ⟨RX8, "isNear", "(II)Z"⟩
abbrev cX8_counted : ByteArray := prog_10_method_7_code
def yX8_counted : MethodName := ⟨RX8, "counted", "()I"⟩
abbrev cX8_nearOnes : ByteArray := prog_10_method_8_code
def yX8_nearOnes : MethodName := ⟨RX8, "nearOnes", "(I)I"⟩
abbrev cX8_isOfJust : ByteArray := prog_10_method_9_code
def yX8_isOfJust : MethodName := ⟨RX8, "isOfJust", "(II)Z"⟩
abbrev cX8_tellIce : ByteArray := prog_10_method_10_code
def yX8_tellIce : MethodName := ⟨RX8, "tellIce", "(III)V"⟩
abbrev cX8_forgetIce : ByteArray := prog_10_method_11_code
def yX8_forgetIce : MethodName := ⟨RX8, "forgetIce", "(I)V"⟩
abbrev cX8_iceAllows : ByteArray := prog_10_method_12_code
def yX8_iceAllows : MethodName := ⟨RX8, "iceAllows", "(III)Z"⟩
def RX9 : String := "RedSkies"
def TX9 : u_T := fun k => match k with
  | 0 => ("RedSkies", "page", "LRedSkies$Page;", true)
  | 1 => ("RedSkies", "lampReader", "LRedSkies$LampReader;", true)
  | 2 => ("RedSkies", "measureReader", "LRedSkies$MeasureReader;", true)
  | 3 => ("RedSkies", "lawReader", "LRedSkies$LawReader;", true)
  | 4 => ("RedSkies", "lamps", "[[I", true)
  | 5 => ("RedSkies", "sinces", "[I", true)
  | 6 => ("RedSkies", "fades", "[I", true)
  | 7 => ("RedSkies", "measures", "[[I", true)
  | 8 => ("RedSkies", "law", "LRedSkies$Law;", true)
  | 9 => ("RedSkies", "show", "LRedSkies$Show;", true)
  | 10 => ("RedSkies", "kept", "LRedSkies$Show;", true)
  | 11 => ("RedSkies", "dealing", "LRedSkies$Dealing;", true)
  | 12 => ("RedSkies", "painter", "LRedSkies$Painter;", true)
  | 13 => ("RedSkies", "lampCount", "I", false)
  | 14 => ("RedSkies", "pigmentCount", "I", false)
  | 15 => ("RedSkies", "measureCount", "I", false)
  | 16 => ("RedSkies", "looks", "I", false)
  | _ => ("RedSkies", "hasKept", "Z", false)
def tyX9 : Nat → FieldType := fun k => match k with
  | 0 => .object "RedSkies$Page"
  | 1 => .object "RedSkies$LampReader"
  | 2 => .object "RedSkies$MeasureReader"
  | 3 => .object "RedSkies$LawReader"
  | 4 => .array (.array .int)
  | 5 => .array .int
  | 6 => .array .int
  | 7 => .array (.array .int)
  | 8 => .object "RedSkies$Law"
  | 9 => .object "RedSkies$Show"
  | 10 => .object "RedSkies$Show"
  | 11 => .object "RedSkies$Dealing"
  | 12 => .object "RedSkies$Painter"
  | 13 => .int
  | 14 => .int
  | 15 => .int
  | 16 => .int
  | _ => .boolean
abbrev wsX90 : List Cond := u_ws RX9 TX9 18
theorem nmX9 : ∀ a, a < 18 → ∀ b, b < 18 → a ≠ b → (TX9 a).2.1 ≠ (TX9 b).2.1 := by decide +kernel
theorem tyX9_ok : ∀ k, k < 18 → parseFieldDescriptor (TX9 k).2.2.1 = some (tyX9 k) := by decide +kernel
abbrev cX9_init : ByteArray := prog_1_method_1_code
def yX9_init : MethodName := ⟨RX9, "<init>", "()V"⟩
abbrev cX9_letters : ByteArray := prog_1_method_2_code
def yX9_letters : MethodName := ⟨RX9, "letters", "(J)I"⟩
abbrev cX9_blank : ByteArray := prog_1_method_3_code
def yX9_blank : MethodName := ⟨RX9, "blank", "()I"⟩
abbrev cX9_fault : ByteArray := prog_1_method_4_code
def yX9_fault : MethodName := ⟨RX9, "fault", "(I)I"⟩
abbrev cX9_lamp : ByteArray := prog_1_method_5_code
def yX9_lamp : MethodName := ⟨RX9, "lamp", "()I"⟩
abbrev cX9_measure : ByteArray := prog_1_method_6_code
def yX9_measure : MethodName := ⟨RX9, "measure", "()I"⟩
abbrev cX9_law : ByteArray := prog_1_method_7_code
def yX9_law : MethodName := ⟨RX9, "law", "()I"⟩
abbrev cX9_pigment : ByteArray := prog_1_method_8_code
def yX9_pigment : MethodName := ⟨RX9, "pigment", "(II)I"⟩
abbrev cX9_picture : ByteArray := prog_1_method_9_code
def yX9_picture : MethodName := ⟨RX9, "picture", "(IIIIII)I"⟩
abbrev cX9_colour : ByteArray := prog_1_method_10_code
def yX9_colour : MethodName := ⟨RX9, "colour", "(IIII)I"⟩
abbrev cX9_as : ByteArray := prog_1_method_11_code
def yX9_as : MethodName := ⟨RX9, "as", "(II)I"⟩
abbrev cX9_about : ByteArray := prog_1_method_12_code
def yX9_about : MethodName := ⟨RX9, "about", "(II)I"⟩
abbrev cX9_value : ByteArray := prog_1_method_13_code
def yX9_value : MethodName := ⟨RX9, "value", "(II)I"⟩
abbrev cX9_mountain : ByteArray := prog_1_method_14_code
def yX9_mountain : MethodName := ⟨RX9, "mountain", "(I)I"⟩
abbrev cX9_near : ByteArray := prog_1_method_15_code
def yX9_near : MethodName := ⟨RX9, "near", "(II)I"⟩
abbrev cX9_paint : ByteArray := prog_1_method_16_code
def yX9_paint : MethodName := ⟨RX9, "paint", "(III)I"⟩
abbrev cX9_stat : ByteArray := prog_1_method_17_code
def yX9_stat : MethodName := ⟨RX9, "stat", "(II)I"⟩
abbrev cX9_odds : ByteArray := prog_1_method_18_code
def yX9_odds : MethodName := ⟨RX9, "odds", "(III)J"⟩
abbrev cX9_paid : ByteArray := prog_1_method_19_code
def yX9_paid : MethodName := ⟨RX9, "paid", "(II)J"⟩
abbrev cX9_hangs : ByteArray := prog_1_method_20_code
def yX9_hangs : MethodName := ⟨RX9, "hangs", "(II)I"⟩
abbrev cX9_next : ByteArray := prog_1_method_21_code
def yX9_next : MethodName := ⟨RX9, "next", "(II)I"⟩
abbrev cX9_ice : ByteArray := prog_1_method_22_code
def yX9_ice : MethodName := ⟨RX9, "ice", "(III)I"⟩
abbrev cX9_classes : ByteArray := prog_1_method_23_code
def yX9_classes : MethodName := ⟨RX9, "classes", "(III)I"⟩
abbrev cX9_back : ByteArray := prog_1_method_24_code
def yX9_back : MethodName := ⟨RX9, "back", "(III)I"⟩
abbrev cX9_dates : ByteArray := prog_1_method_25_code
def yX9_dates : MethodName := ⟨RX9, "dates", "(III)I"⟩
abbrev cX9_wrong : ByteArray := prog_1_method_26_code
def yX9_wrong : MethodName := ⟨RX9, "wrong", "(I)I"⟩
abbrev cX9_image : ByteArray := prog_1_method_27_code
def yX9_image : MethodName := ⟨RX9, "image", "()I"⟩
abbrev cX9_restore : ByteArray := prog_1_method_28_code
def yX9_restore : MethodName := ⟨RX9, "restore", "()I"⟩
abbrev cX9_count : ByteArray := prog_1_method_29_code
def yX9_count : MethodName := ⟨RX9, "count", "(I)I"⟩
abbrev cX9_digest : ByteArray := prog_1_method_30_code
def yX9_digest : MethodName := ⟨RX9, "digest", "()J"⟩
abbrev cX9_isWithin : ByteArray := prog_1_method_31_code
def yX9_isWithin : MethodName := ⟨RX9, "isWithin", "(II)Z"⟩
abbrev cX9_isLamp : ByteArray := prog_1_method_32_code
def yX9_isLamp : MethodName := ⟨RX9, "isLamp", "(I)Z"⟩
abbrev cX9_isPigment : ByteArray := prog_1_method_33_code
def yX9_isPigment : MethodName := ⟨RX9, "isPigment", "(I)Z"⟩
abbrev cX9_isMeasure : ByteArray := prog_1_method_34_code
def yX9_isMeasure : MethodName := ⟨RX9, "isMeasure", "(I)Z"⟩
abbrev cX9_isOfKind : ByteArray := prog_1_method_35_code
def yX9_isOfKind : MethodName := ⟨RX9, "isOfKind", "(II)Z"⟩
abbrev cX9_putRight : ByteArray := prog_1_method_36_code
def yX9_putRight : MethodName := ⟨RX9, "putRight", "(II)I"⟩
abbrev cX9_valueOf : ByteArray := prog_1_method_37_code
def yX9_valueOf : MethodName := ⟨RX9, "valueOf", "(II)I"⟩
abbrev cX9_nearness : ByteArray := prog_1_method_38_code
def yX9_nearness : MethodName := ⟨RX9, "nearness", "(II)I"⟩
abbrev cX9_layOut : ByteArray := prog_1_method_39_code
def yX9_layOut : MethodName := ⟨RX9, "layOut", "(I)V"⟩
abbrev cX9_dealByWindows : ByteArray := prog_1_method_40_code
def yX9_dealByWindows : MethodName := ⟨RX9, "dealByWindows", "(II)V"⟩
abbrev cX9_refusalToLook : ByteArray := prog_1_method_41_code
def yX9_refusalToLook : MethodName := ⟨RX9, "refusalToLook", "(II)I"⟩
abbrev cX9_inLowestTerms : ByteArray := prog_1_method_42_code
def yX9_inLowestTerms : MethodName := ⟨RX9, "inLowestTerms", "(JJI)J"⟩
abbrev cX9_datesOf : ByteArray := prog_1_method_43_code
def yX9_datesOf : MethodName := ⟨RX9, "datesOf", "(III)I"⟩
abbrev cX9_dateless : ByteArray := prog_1_method_44_code
def yX9_dateless : MethodName := ⟨RX9, "dateless", "(I)I"⟩
abbrev cX9_howMany : ByteArray := prog_1_method_45_code
def yX9_howMany : MethodName := ⟨RX9, "howMany", "(I)I"⟩
abbrev cX9_mixed : ByteArray := prog_1_method_46_code
def yX9_mixed : MethodName := ⟨RX9, "mixed", "(JJ)J"⟩
abbrev cX9_withPictures : ByteArray := prog_1_method_47_code
def yX9_withPictures : MethodName := ⟨RX9, "withPictures", "(J)J"⟩
abbrev cX9_withMeasures : ByteArray := prog_1_method_48_code
def yX9_withMeasures : MethodName := ⟨RX9, "withMeasures", "(J)J"⟩
abbrev cX9_withIce : ByteArray := prog_1_method_49_code
def yX9_withIce : MethodName := ⟨RX9, "withIce", "(J)J"⟩
def RX10 : String := "RedSkiesModel"
def TX10 : u_T := fun k => match k with
  | 0 => ("RedSkiesModel", "page", "[I", true)
  | 1 => ("RedSkiesModel", "pageMany", "I", false)
  | 2 => ("RedSkiesModel", "state", "I", false)
  | 3 => ("RedSkiesModel", "value", "I", false)
  | 4 => ("RedSkiesModel", "now", "I", false)
  | 5 => ("RedSkiesModel", "sign", "I", false)
  | 6 => ("RedSkiesModel", "side", "I", false)
  | 7 => ("RedSkiesModel", "many", "I", false)
  | 8 => ("RedSkiesModel", "last", "I", false)
  | 9 => ("RedSkiesModel", "readLamp", "[I", true)
  | 10 => ("RedSkiesModel", "readSeen", "I", false)
  | 11 => ("RedSkiesModel", "readSums", "[I", true)
  | 12 => ("RedSkiesModel", "readBounds", "[I", true)
  | 13 => ("RedSkiesModel", "lamps", "I", false)
  | 14 => ("RedSkiesModel", "lampRows", "[I", true)
  | 15 => ("RedSkiesModel", "measures", "I", false)
  | 16 => ("RedSkiesModel", "sumRows", "[I", true)
  | 17 => ("RedSkiesModel", "bounds", "I", false)
  | 18 => ("RedSkiesModel", "boundRow", "[I", true)
  | 19 => ("RedSkiesModel", "give", "I", false)
  | 20 => ("RedSkiesModel", "pigments", "I", false)
  | 21 => ("RedSkiesModel", "sinces", "[I", true)
  | 22 => ("RedSkiesModel", "fades", "[I", true)
  | 23 => ("RedSkiesModel", "pictures", "I", false)
  | 24 => ("RedSkiesModel", "rows", "[I", true)
  | 25 => ("RedSkiesModel", "colours", "[I", true)
  | 26 => ("RedSkiesModel", "mountains", "I", false)
  | 27 => ("RedSkiesModel", "mountainAt", "[I", true)
  | 28 => ("RedSkiesModel", "seedNow", "I", false)
  | 29 => ("RedSkiesModel", "looked", "I", false)
  | 30 => ("RedSkiesModel", "whose", "[I", true)
  | 31 => ("RedSkiesModel", "values", "[I", true)
  | 32 => ("RedSkiesModel", "isNearNow", "[Z", true)
  | 33 => ("RedSkiesModel", "which", "[I", true)
  | 34 => ("RedSkiesModel", "ways", "[J", true)
  | 35 => ("RedSkiesModel", "total", "[J", true)
  | 36 => ("RedSkiesModel", "before", "[J", true)
  | 37 => ("RedSkiesModel", "upNow", "J", false)
  | 38 => ("RedSkiesModel", "lowNow", "J", false)
  | 39 => ("RedSkiesModel", "done", "I", false)
  | 40 => ("RedSkiesModel", "iceYears", "I", false)
  | 41 => ("RedSkiesModel", "iceLow", "[I", true)
  | 42 => ("RedSkiesModel", "iceHigh", "[I", true)
  | 43 => ("RedSkiesModel", "dateMany", "I", false)
  | 44 => ("RedSkiesModel", "firstDate", "I", false)
  | 45 => ("RedSkiesModel", "lastDate", "I", false)
  | 46 => ("RedSkiesModel", "kept", "I", false)
  | 47 => ("RedSkiesModel", "keptMountains", "I", false)
  | 48 => ("RedSkiesModel", "keptYears", "I", false)
  | 49 => ("RedSkiesModel", "keptRows", "[I", true)
  | 50 => ("RedSkiesModel", "keptColours", "[I", true)
  | 51 => ("RedSkiesModel", "keptAt", "[I", true)
  | 52 => ("RedSkiesModel", "keptLow", "[I", true)
  | 53 => ("RedSkiesModel", "keptHigh", "[I", true)
  | _ => ("RedSkiesModel", "hash", "J", false)
def tyX10 : Nat → FieldType := fun k => match k with
  | 0 => .array .int
  | 1 => .int
  | 2 => .int
  | 3 => .int
  | 4 => .int
  | 5 => .int
  | 6 => .int
  | 7 => .int
  | 8 => .int
  | 9 => .array .int
  | 10 => .int
  | 11 => .array .int
  | 12 => .array .int
  | 13 => .int
  | 14 => .array .int
  | 15 => .int
  | 16 => .array .int
  | 17 => .int
  | 18 => .array .int
  | 19 => .int
  | 20 => .int
  | 21 => .array .int
  | 22 => .array .int
  | 23 => .int
  | 24 => .array .int
  | 25 => .array .int
  | 26 => .int
  | 27 => .array .int
  | 28 => .int
  | 29 => .int
  | 30 => .array .int
  | 31 => .array .int
  | 32 => .array .boolean
  | 33 => .array .int
  | 34 => .array .long
  | 35 => .array .long
  | 36 => .array .long
  | 37 => .long
  | 38 => .long
  | 39 => .int
  | 40 => .int
  | 41 => .array .int
  | 42 => .array .int
  | 43 => .int
  | 44 => .int
  | 45 => .int
  | 46 => .int
  | 47 => .int
  | 48 => .int
  | 49 => .array .int
  | 50 => .array .int
  | 51 => .array .int
  | 52 => .array .int
  | 53 => .array .int
  | _ => .long
abbrev wsX100 : List Cond := u_ws RX10 TX10 55
theorem nmX10 : ∀ a, a < 55 → ∀ b, b < 55 → a ≠ b → (TX10 a).2.1 ≠ (TX10 b).2.1 := by decide +kernel
theorem tyX10_ok : ∀ k, k < 55 → parseFieldDescriptor (TX10 k).2.2.1 = some (tyX10 k) := by decide +kernel
abbrev cX10_init : ByteArray := prog_12_method_1_code
def yX10_init : MethodName := ⟨RX10, "<init>", "()V"⟩
abbrev cX10_in : ByteArray := prog_12_method_2_code
def yX10_in : MethodName := ⟨RX10, "in", "(JJJ)Z"⟩
abbrev cX10_isDigit : ByteArray := prog_12_method_3_code
def yX10_isDigit : MethodName := ⟨RX10, "isDigit", "(I)Z"⟩
abbrev cX10_letters : ByteArray := prog_12_method_4_code
def yX10_letters : MethodName := ⟨RX10, "letters", "(J)I"⟩
abbrev cX10_blank : ByteArray := prog_12_method_5_code
def yX10_blank : MethodName := ⟨RX10, "blank", "()I"⟩
abbrev cX10_colourOf : ByteArray := prog_12_method_6_code
def yX10_colourOf : MethodName := ⟨RX10, "colourOf", "(I)I"⟩
abbrev cX10_goLamp : ByteArray := prog_12_method_7_code
def yX10_goLamp : MethodName := ⟨RX10, "goLamp", "(I)Z"⟩
abbrev cX10_goMeasure : ByteArray := prog_12_method_8_code
def yX10_goMeasure : MethodName := ⟨RX10, "goMeasure", "(I)Z"⟩
abbrev cX10_reach : ByteArray := prog_12_method_9_code
def yX10_reach : MethodName := ⟨RX10, "reach", "()I"⟩
abbrev cX10_goLaw : ByteArray := prog_12_method_10_code
def yX10_goLaw : MethodName := ⟨RX10, "goLaw", "(I)Z"⟩
abbrev cX10_faultOf : ByteArray := prog_12_method_11_code
def yX10_faultOf : MethodName := ⟨RX10, "faultOf", "(I)I"⟩
abbrev cX10_fault : ByteArray := prog_12_method_12_code
def yX10_fault : MethodName := ⟨RX10, "fault", "(I)I"⟩
abbrev cX10_lamp : ByteArray := prog_12_method_13_code
def yX10_lamp : MethodName := ⟨RX10, "lamp", "()I"⟩
abbrev cX10_measure : ByteArray := prog_12_method_14_code
def yX10_measure : MethodName := ⟨RX10, "measure", "()I"⟩
abbrev cX10_law : ByteArray := prog_12_method_15_code
def yX10_law : MethodName := ⟨RX10, "law", "()I"⟩
abbrev cX10_pigment : ByteArray := prog_12_method_16_code
def yX10_pigment : MethodName := ⟨RX10, "pigment", "(II)I"⟩
abbrev cX10_isMeasure : ByteArray := prog_12_method_17_code
def yX10_isMeasure : MethodName := ⟨RX10, "isMeasure", "(I)Z"⟩
abbrev cX10_isPicture : ByteArray := prog_12_method_18_code
def yX10_isPicture : MethodName := ⟨RX10, "isPicture", "(I)Z"⟩
abbrev cX10_add : ByteArray := prog_12_method_19_code
def yX10_add : MethodName := ⟨RX10, "add", "(IIIIII)V"⟩
abbrev cX10_picture : ByteArray := prog_12_method_20_code
def yX10_picture : MethodName := ⟨RX10, "picture", "(IIIIII)I"⟩
abbrev cX10_colour : ByteArray := prog_12_method_21_code
def yX10_colour : MethodName := ⟨RX10, "colour", "(IIII)I"⟩
abbrev cX10_as : ByteArray := prog_12_method_22_code
def yX10_as : MethodName := ⟨RX10, "as", "(II)I"⟩
abbrev cX10_between : ByteArray := prog_12_method_23_code
def yX10_between : MethodName := ⟨RX10, "between", "(I)I"⟩
abbrev cX10_rightOf : ByteArray := prog_12_method_24_code
def yX10_rightOf : MethodName := ⟨RX10, "rightOf", "(II)I"⟩
abbrev cX10_about : ByteArray := prog_12_method_25_code
def yX10_about : MethodName := ⟨RX10, "about", "(II)I"⟩
abbrev cX10_sumOf : ByteArray := prog_12_method_26_code
def yX10_sumOf : MethodName := ⟨RX10, "sumOf", "(III)I"⟩
abbrev cX10_valueOf : ByteArray := prog_12_method_27_code
def yX10_valueOf : MethodName := ⟨RX10, "valueOf", "(II)I"⟩
abbrev cX10_value : ByteArray := prog_12_method_28_code
def yX10_value : MethodName := ⟨RX10, "value", "(II)I"⟩
abbrev cX10_mountain : ByteArray := prog_12_method_29_code
def yX10_mountain : MethodName := ⟨RX10, "mountain", "(I)I"⟩
abbrev cX10_isCounted : ByteArray := prog_12_method_30_code
def yX10_isCounted : MethodName := ⟨RX10, "isCounted", "(I)Z"⟩
abbrev cX10_isNear : ByteArray := prog_12_method_31_code
def yX10_isNear : MethodName := ⟨RX10, "isNear", "(III)Z"⟩
abbrev cX10_isNearPicture : ByteArray := prog_12_method_32_code
def yX10_isNearPicture : MethodName := ⟨RX10, "isNearPicture", "(II)Z"⟩
abbrev cX10_isWindow : ByteArray := prog_12_method_33_code
def yX10_isWindow : MethodName := ⟨RX10, "isWindow", "(I)Z"⟩
abbrev cX10_nearOf : ByteArray := prog_12_method_34_code
def yX10_nearOf : MethodName := ⟨RX10, "nearOf", "(II)I"⟩
abbrev cX10_near : ByteArray := prog_12_method_35_code
def yX10_near : MethodName := ⟨RX10, "near", "(II)I"⟩
abbrev cX10_draw : ByteArray := prog_12_method_36_code
def yX10_draw : MethodName := ⟨RX10, "draw", "(I)I"⟩
abbrev cX10_paint : ByteArray := prog_12_method_37_code
def yX10_paint : MethodName := ⟨RX10, "paint", "(III)I"⟩
abbrev cX10_look : ByteArray := prog_12_method_38_code
def yX10_look : MethodName := ⟨RX10, "look", "(III)V"⟩
abbrev cX10_standing : ByteArray := prog_12_method_39_code
def yX10_standing : MethodName := ⟨RX10, "standing", "(I)I"⟩
abbrev cX10_statNow : ByteArray := prog_12_method_40_code
def yX10_statNow : MethodName := ⟨RX10, "statNow", "()I"⟩
abbrev cX10_stat : ByteArray := prog_12_method_41_code
def yX10_stat : MethodName := ⟨RX10, "stat", "(II)I"⟩
abbrev cX10_layHand : ByteArray := prog_12_method_42_code
def yX10_layHand : MethodName := ⟨RX10, "layHand", "(I)I"⟩
abbrev cX10_layTotal : ByteArray := prog_12_method_43_code
def yX10_layTotal : MethodName := ⟨RX10, "layTotal", "()V"⟩
abbrev cX10_layOdds : ByteArray := prog_12_method_44_code
def yX10_layOdds : MethodName := ⟨RX10, "layOdds", "()V"⟩
abbrev cX10_common : ByteArray := prog_12_method_45_code
def yX10_common : MethodName := ⟨RX10, "common", "(JJ)J"⟩
abbrev cX10_term : ByteArray := prog_12_method_46_code
def yX10_term : MethodName := ⟨RX10, "term", "(JJI)J"⟩
abbrev cX10_isPart : ByteArray := prog_12_method_47_code
def yX10_isPart : MethodName := ⟨RX10, "isPart", "(I)Z"⟩
abbrev cX10_odds : ByteArray := prog_12_method_48_code
def yX10_odds : MethodName := ⟨RX10, "odds", "(III)J"⟩
abbrev cX10_paid : ByteArray := prog_12_method_49_code
def yX10_paid : MethodName := ⟨RX10, "paid", "(II)J"⟩
abbrev cX10_hangs : ByteArray := prog_12_method_50_code
def yX10_hangs : MethodName := ⟨RX10, "hangs", "(II)I"⟩
abbrev cX10_next : ByteArray := prog_12_method_51_code
def yX10_next : MethodName := ⟨RX10, "next", "(II)I"⟩
abbrev cX10_ice : ByteArray := prog_12_method_52_code
def yX10_ice : MethodName := ⟨RX10, "ice", "(III)I"⟩
abbrev cX10_classOf : ByteArray := prog_12_method_53_code
def yX10_classOf : MethodName := ⟨RX10, "classOf", "(I)I"⟩
abbrev cX10_lowClass : ByteArray := prog_12_method_54_code
def yX10_lowClass : MethodName := ⟨RX10, "lowClass", "(II)I"⟩
abbrev cX10_highClass : ByteArray := prog_12_method_55_code
def yX10_highClass : MethodName := ⟨RX10, "highClass", "(II)I"⟩
abbrev cX10_classes : ByteArray := prog_12_method_56_code
def yX10_classes : MethodName := ⟨RX10, "classes", "(III)I"⟩
abbrev cX10_back : ByteArray := prog_12_method_57_code
def yX10_back : MethodName := ⟨RX10, "back", "(III)I"⟩
abbrev cX10_isDate : ByteArray := prog_12_method_58_code
def yX10_isDate : MethodName := ⟨RX10, "isDate", "(III)Z"⟩
abbrev cX10_layDates : ByteArray := prog_12_method_59_code
def yX10_layDates : MethodName := ⟨RX10, "layDates", "(II)V"⟩
abbrev cX10_dates : ByteArray := prog_12_method_60_code
def yX10_dates : MethodName := ⟨RX10, "dates", "(III)I"⟩
abbrev cX10_wrongOf : ByteArray := prog_12_method_61_code
def yX10_wrongOf : MethodName := ⟨RX10, "wrongOf", "(I)I"⟩
abbrev cX10_wrong : ByteArray := prog_12_method_62_code
def yX10_wrong : MethodName := ⟨RX10, "wrong", "(I)I"⟩
abbrev cX10_image : ByteArray := prog_12_method_63_code
def yX10_image : MethodName := ⟨RX10, "image", "()I"⟩
abbrev cX10_restore : ByteArray := prog_12_method_64_code
def yX10_restore : MethodName := ⟨RX10, "restore", "()I"⟩
abbrev cX10_countOf : ByteArray := prog_12_method_65_code
def yX10_countOf : MethodName := ⟨RX10, "countOf", "(I)I"⟩
abbrev cX10_count : ByteArray := prog_12_method_66_code
def yX10_count : MethodName := ⟨RX10, "count", "(I)I"⟩
abbrev cX10_say : ByteArray := prog_12_method_67_code
def yX10_say : MethodName := ⟨RX10, "say", "(J)V"⟩
abbrev cX10_sayPicture : ByteArray := prog_12_method_68_code
def yX10_sayPicture : MethodName := ⟨RX10, "sayPicture", "(I)V"⟩
abbrev cX10_sayMeasure : ByteArray := prog_12_method_69_code
def yX10_sayMeasure : MethodName := ⟨RX10, "sayMeasure", "(I)V"⟩
abbrev cX10_digest : ByteArray := prog_12_method_70_code
def yX10_digest : MethodName := ⟨RX10, "digest", "()J"⟩
def RJ6 : String := "java/lang/Integer"
abbrev cJ6_bitCount_0f7a4 : ByteArray := prog_13_method_49_code
def yJ6_bitCount_0f7a4 : MethodName := ⟨RJ6, "bitCount", "(I)I"⟩
def RJ9 : String := "java/lang/Math"
abbrev cJ9_abs_067f4 : ByteArray := prog_14_method_61_code
def yJ9_abs_067f4 : MethodName := ⟨RJ9, "abs", "(J)J"⟩
abbrev cJ9_max_7cf53 : ByteArray := prog_14_method_65_code
def yJ9_max_7cf53 : MethodName := ⟨RJ9, "max", "(II)I"⟩
abbrev cJ9_min_7cf53 : ByteArray := prog_14_method_69_code
def yJ9_min_7cf53 : MethodName := ⟨RJ9, "min", "(II)I"⟩
def RJ10 : String := "java/lang/System"
def RJ7 : String := "java/util/Arrays"
abbrev cJ7_fill_53178 : ByteArray := prog_16_method_103_code
def yJ7_fill_53178 : MethodName := ⟨RJ7, "fill", "([II)V"⟩
def RL : String := "RedSkiesLaw"
abbrev cL_law : ByteArray := code
def yL_law : MethodName := ⟨RL, "law", "([I)Z"⟩
abbrev vwCl : List vw_C := [(RX0, TX0, 9), (RX1, TX1, 6), (RX2, TX2, 3), (RX3, TX3, 5), (RX4, TX4, 6), (RX5, TX5, 2), (RX6, TX6, 1), (RX8, TX8, 8), (RX9, TX9, 18), (RX10, TX10, 55)]
/-- the words that stay: a method carries all of them -/
def tb : List Cond := lw_tbl.filter goodWord
theorem tb_in (i : Nat) {w : Cond} (h : lw_tbl[i]? = some w) (g : goodWord w = true) : w ∈ tb := List.mem_filter.mpr ⟨List.mem_of_getElem? h, g⟩
theorem wd_0 : (Cond.selects "RedSkies$LampReader" yX1_takeColour yX1_takeColour) ∈ tb := tb_in 0 (by decide +kernel) (by decide +kernel)
theorem wd_1 : (Cond.selects "RedSkies$LampReader" yX1_takeSign yX1_takeSign) ∈ tb := tb_in 1 (by decide +kernel) (by decide +kernel)
theorem wd_2 : (Cond.selects "RedSkies$LampReader" yX1_takeDigit yX1_takeDigit) ∈ tb := tb_in 2 (by decide +kernel) (by decide +kernel)
theorem wd_3 : (Cond.selects "RedSkies$LampReader" yX1_takeBehindDigit yX1_takeBehindDigit) ∈ tb := tb_in 3 (by decide +kernel) (by decide +kernel)
theorem wd_4 : (Cond.selects "RedSkies$LawReader" yX3_takeOfGive yX3_takeOfGive) ∈ tb := tb_in 4 (by decide +kernel) (by decide +kernel)
theorem wd_5 : (Cond.selects "RedSkies$LawReader" yX3_grow yX3_grow) ∈ tb := tb_in 5 (by decide +kernel) (by decide +kernel)
theorem wd_6 : (Cond.selects "RedSkies$LawReader" yX3_takeOfBound yX3_takeOfBound) ∈ tb := tb_in 6 (by decide +kernel) (by decide +kernel)
theorem wd_7 : (Cond.selects "RedSkies$LawReader" yX3_boundAhead yX3_boundAhead) ∈ tb := tb_in 7 (by decide +kernel) (by decide +kernel)
theorem wd_8 : (Cond.selects "RedSkies$LawReader" yX3_endBound yX3_endBound) ∈ tb := tb_in 8 (by decide +kernel) (by decide +kernel)
theorem wd_9 : (Cond.selects "RedSkies$MeasureReader" yX4_takeColour yX4_takeColour) ∈ tb := tb_in 9 (by decide +kernel) (by decide +kernel)
theorem wd_10 : (Cond.selects "RedSkies$MeasureReader" yX4_takePart yX4_takePart) ∈ tb := tb_in 10 (by decide +kernel) (by decide +kernel)
theorem wd_11 : (Cond.selects "RedSkies$MeasureReader" yX4_takeBetween yX4_takeBetween) ∈ tb := tb_in 11 (by decide +kernel) (by decide +kernel)
theorem wd_12 : (Cond.selects "RedSkies" yX9_isLamp yX9_isLamp) ∈ tb := tb_in 12 (by decide +kernel) (by decide +kernel)
theorem wd_13 : (Cond.selects "RedSkies" yX9_isPigment yX9_isPigment) ∈ tb := tb_in 13 (by decide +kernel) (by decide +kernel)
theorem wd_14 : (Cond.selects "RedSkies" yX9_putRight yX9_putRight) ∈ tb := tb_in 14 (by decide +kernel) (by decide +kernel)
theorem wd_15 : (Cond.selects "RedSkies" yX9_isMeasure yX9_isMeasure) ∈ tb := tb_in 15 (by decide +kernel) (by decide +kernel)
theorem wd_16 : (Cond.selects "RedSkies" yX9_valueOf yX9_valueOf) ∈ tb := tb_in 16 (by decide +kernel) (by decide +kernel)
theorem wd_17 : (Cond.selects "RedSkies" yX9_nearness yX9_nearness) ∈ tb := tb_in 17 (by decide +kernel) (by decide +kernel)
theorem wd_18 : (Cond.selects "RedSkies$Painter" yX6_draw yX6_draw) ∈ tb := tb_in 18 (by decide +kernel) (by decide +kernel)
theorem wd_19 : (Cond.selects "RedSkies" yX9_layOut yX9_layOut) ∈ tb := tb_in 19 (by decide +kernel) (by decide +kernel)
theorem wd_20 : (Cond.selects "RedSkies$Dealing" yX0_against yX0_against) ∈ tb := tb_in 20 (by decide +kernel) (by decide +kernel)
theorem wd_21 : (Cond.selects "RedSkies$Dealing" yX0_ofHand yX0_ofHand) ∈ tb := tb_in 21 (by decide +kernel) (by decide +kernel)
theorem wd_22 : (Cond.selects "RedSkies$Dealing" yX0_dealHand yX0_dealHand) ∈ tb := tb_in 22 (by decide +kernel) (by decide +kernel)
theorem wd_23 : (Cond.selects "RedSkies$Dealing" yX0_addToChoices yX0_addToChoices) ∈ tb := tb_in 23 (by decide +kernel) (by decide +kernel)
theorem wd_24 : (Cond.selects "RedSkies" yX9_dealByWindows yX9_dealByWindows) ∈ tb := tb_in 24 (by decide +kernel) (by decide +kernel)
theorem wd_25 : (Cond.selects "RedSkies" yX9_refusalToLook yX9_refusalToLook) ∈ tb := tb_in 25 (by decide +kernel) (by decide +kernel)
theorem wd_26 : (Cond.selects "RedSkies$Dealing" yX0_aboveWith yX0_aboveWith) ∈ tb := tb_in 26 (by decide +kernel) (by decide +kernel)
theorem wd_27 : (Cond.selects "RedSkies$Law" yX2_classOf yX2_classOf) ∈ tb := tb_in 27 (by decide +kernel) (by decide +kernel)
theorem wd_28 : (Cond.selects "RedSkies" yX9_datesOf yX9_datesOf) ∈ tb := tb_in 28 (by decide +kernel) (by decide +kernel)
theorem wd_29 : (Cond.selects "RedSkies" yX9_dateless yX9_dateless) ∈ tb := tb_in 29 (by decide +kernel) (by decide +kernel)
theorem wd_30 : (Cond.selects "RedSkies" yX9_howMany yX9_howMany) ∈ tb := tb_in 30 (by decide +kernel) (by decide +kernel)
theorem wd_31 : (Cond.selects "RedSkies" yX9_withPictures yX9_withPictures) ∈ tb := tb_in 31 (by decide +kernel) (by decide +kernel)
theorem wd_32 : (Cond.selects "RedSkies" yX9_withMeasures yX9_withMeasures) ∈ tb := tb_in 32 (by decide +kernel) (by decide +kernel)
theorem wd_33 : (Cond.selects "RedSkies" yX9_withIce yX9_withIce) ∈ tb := tb_in 33 (by decide +kernel) (by decide +kernel)
theorem wd_34 : (Cond.selects "RedSkiesModel" yX10_faultOf yX10_faultOf) ∈ tb := tb_in 34 (by decide +kernel) (by decide +kernel)
theorem wd_35 : (Cond.selects "RedSkiesModel" yX10_goLamp yX10_goLamp) ∈ tb := tb_in 35 (by decide +kernel) (by decide +kernel)
theorem wd_36 : (Cond.selects "RedSkiesModel" yX10_goMeasure yX10_goMeasure) ∈ tb := tb_in 36 (by decide +kernel) (by decide +kernel)
theorem wd_37 : (Cond.selects "RedSkiesModel" yX10_goLaw yX10_goLaw) ∈ tb := tb_in 37 (by decide +kernel) (by decide +kernel)
theorem wd_38 : (Cond.selects "RedSkiesModel" yX10_reach yX10_reach) ∈ tb := tb_in 38 (by decide +kernel) (by decide +kernel)
theorem wd_39 : (Cond.selects "RedSkiesModel" yX10_add yX10_add) ∈ tb := tb_in 39 (by decide +kernel) (by decide +kernel)
theorem wd_40 : (Cond.selects "RedSkiesModel" yX10_isPicture yX10_isPicture) ∈ tb := tb_in 40 (by decide +kernel) (by decide +kernel)
theorem wd_41 : (Cond.selects "RedSkiesModel" yX10_rightOf yX10_rightOf) ∈ tb := tb_in 41 (by decide +kernel) (by decide +kernel)
theorem wd_42 : (Cond.selects "RedSkiesModel" yX10_isMeasure yX10_isMeasure) ∈ tb := tb_in 42 (by decide +kernel) (by decide +kernel)
theorem wd_43 : (Cond.selects "RedSkiesModel" yX10_valueOf yX10_valueOf) ∈ tb := tb_in 43 (by decide +kernel) (by decide +kernel)
theorem wd_44 : (Cond.selects "RedSkiesModel" yX10_sumOf yX10_sumOf) ∈ tb := tb_in 44 (by decide +kernel) (by decide +kernel)
theorem wd_45 : (Cond.selects "RedSkiesModel" yX10_nearOf yX10_nearOf) ∈ tb := tb_in 45 (by decide +kernel) (by decide +kernel)
theorem wd_46 : (Cond.selects "RedSkiesModel" yX10_isCounted yX10_isCounted) ∈ tb := tb_in 46 (by decide +kernel) (by decide +kernel)
theorem wd_47 : (Cond.selects "RedSkiesModel" yX10_isNearPicture yX10_isNearPicture) ∈ tb := tb_in 47 (by decide +kernel) (by decide +kernel)
theorem wd_48 : (Cond.selects "RedSkiesModel" yX10_isNear yX10_isNear) ∈ tb := tb_in 48 (by decide +kernel) (by decide +kernel)
theorem wd_49 : (Cond.selects "RedSkiesModel" yX10_draw yX10_draw) ∈ tb := tb_in 49 (by decide +kernel) (by decide +kernel)
theorem wd_50 : (Cond.selects "RedSkiesModel" yX10_look yX10_look) ∈ tb := tb_in 50 (by decide +kernel) (by decide +kernel)
theorem wd_51 : (Cond.selects "RedSkiesModel" yX10_statNow yX10_statNow) ∈ tb := tb_in 51 (by decide +kernel) (by decide +kernel)
theorem wd_52 : (Cond.selects "RedSkiesModel" yX10_standing yX10_standing) ∈ tb := tb_in 52 (by decide +kernel) (by decide +kernel)
theorem wd_53 : (Cond.selects "RedSkiesModel" yX10_layOdds yX10_layOdds) ∈ tb := tb_in 53 (by decide +kernel) (by decide +kernel)
theorem wd_54 : (Cond.selects "RedSkiesModel" yX10_layTotal yX10_layTotal) ∈ tb := tb_in 54 (by decide +kernel) (by decide +kernel)
theorem wd_55 : (Cond.selects "RedSkiesModel" yX10_layHand yX10_layHand) ∈ tb := tb_in 55 (by decide +kernel) (by decide +kernel)
theorem wd_56 : (Cond.selects "RedSkiesModel" yX10_lowClass yX10_lowClass) ∈ tb := tb_in 56 (by decide +kernel) (by decide +kernel)
theorem wd_57 : (Cond.selects "RedSkiesModel" yX10_classOf yX10_classOf) ∈ tb := tb_in 57 (by decide +kernel) (by decide +kernel)
theorem wd_58 : (Cond.selects "RedSkiesModel" yX10_highClass yX10_highClass) ∈ tb := tb_in 58 (by decide +kernel) (by decide +kernel)
theorem wd_59 : (Cond.selects "RedSkiesModel" yX10_layDates yX10_layDates) ∈ tb := tb_in 59 (by decide +kernel) (by decide +kernel)
theorem wd_60 : (Cond.selects "RedSkiesModel" yX10_isDate yX10_isDate) ∈ tb := tb_in 60 (by decide +kernel) (by decide +kernel)
theorem wd_61 : (Cond.selects "RedSkiesModel" yX10_wrongOf yX10_wrongOf) ∈ tb := tb_in 61 (by decide +kernel) (by decide +kernel)
theorem wd_62 : (Cond.selects "RedSkiesModel" yX10_countOf yX10_countOf) ∈ tb := tb_in 62 (by decide +kernel) (by decide +kernel)
theorem wd_63 : (Cond.selects "RedSkiesModel" yX10_say yX10_say) ∈ tb := tb_in 63 (by decide +kernel) (by decide +kernel)
theorem wd_64 : (Cond.selects "RedSkiesModel" yX10_sayPicture yX10_sayPicture) ∈ tb := tb_in 64 (by decide +kernel) (by decide +kernel)
theorem wd_65 : (Cond.selects "RedSkiesModel" yX10_sayMeasure yX10_sayMeasure) ∈ tb := tb_in 65 (by decide +kernel) (by decide +kernel)
theorem wd_66 : (Cond.initialized "RedSkiesLaw") ∈ tb := tb_in 66 (by decide +kernel) (by decide +kernel)
theorem wd_67 : (Cond.initialized "RedSkies") ∈ tb := tb_in 67 (by decide +kernel) (by decide +kernel)
theorem wd_68 : (Cond.initialized "RedSkies$Page") ∈ tb := tb_in 68 (by decide +kernel) (by decide +kernel)
theorem wd_69 : (Cond.initialized "RedSkies$Reader") ∈ tb := tb_in 69 (by decide +kernel) (by decide +kernel)
theorem wd_70 : (Cond.initialized "RedSkies$LampReader") ∈ tb := tb_in 70 (by decide +kernel) (by decide +kernel)
theorem wd_71 : (Cond.initialized "RedSkies$MeasureReader") ∈ tb := tb_in 71 (by decide +kernel) (by decide +kernel)
theorem wd_72 : (Cond.initialized "RedSkies$LawReader") ∈ tb := tb_in 72 (by decide +kernel) (by decide +kernel)
theorem wd_73 : (Cond.initialized "RedSkies$Law") ∈ tb := tb_in 73 (by decide +kernel) (by decide +kernel)
theorem wd_74 : (Cond.initialized "RedSkies$Show") ∈ tb := tb_in 74 (by decide +kernel) (by decide +kernel)
theorem wd_75 : (Cond.initialized "java/util/Arrays") ∈ tb := tb_in 75 (by decide +kernel) (by decide +kernel)
theorem wd_76 : (Cond.initialized "RedSkies$Dealing") ∈ tb := tb_in 76 (by decide +kernel) (by decide +kernel)
theorem wd_77 : (Cond.initialized "RedSkies$Painter") ∈ tb := tb_in 77 (by decide +kernel) (by decide +kernel)
theorem wd_78 : (Cond.initialized "RedSkiesModel") ∈ tb := tb_in 78 (by decide +kernel) (by decide +kernel)
theorem wd_79 : (Cond.initialized "java/lang/System") ∈ tb := tb_in 79 (by decide +kernel) (by decide +kernel)
theorem wd_80 : (Cond.initialized "java/lang/Math") ∈ tb := tb_in 80 (by decide +kernel) (by decide +kernel)
theorem wd_81 : (Cond.initialized "java/lang/Integer") ∈ tb := tb_in 81 (by decide +kernel) (by decide +kernel)
theorem wd_82 : (Cond.classLink "RedSkiesLaw" 7 "RedSkies") ∈ tb := tb_in 82 (by decide +kernel) (by decide +kernel)
theorem wd_83 : (Cond.instantiable "RedSkies" 18) ∈ tb := tb_in 83 (by decide +kernel) (by decide +kernel)
theorem wd_84 : (Cond.methodLink "RedSkiesLaw" 9 yX9_init) ∈ tb := tb_in 84 (by decide +kernel) (by decide +kernel)
theorem wd_85 : (Cond.instanceMethod yX9_init) ∈ tb := tb_in 85 (by decide +kernel) (by decide +kernel)
theorem wd_86 : (Cond.code yX9_init prog_1_method_1_code 1 none) ∈ tb := tb_in 86 (by decide +kernel) (by decide +kernel)
theorem wd_87 : (Cond.methodLink "RedSkies" 3 objectInit) ∈ tb := tb_in 87 (by decide +kernel) (by decide +kernel)
theorem wd_88 : (Cond.instanceMethod objectInit) ∈ tb := tb_in 88 (by decide +kernel) (by decide +kernel)
theorem wd_89 : (Cond.code objectInit object_method_1_code 1 none) ∈ tb := tb_in 89 (by decide +kernel) (by decide +kernel)
theorem wd_90 : (Cond.classLink "RedSkies" 9 "RedSkies$Page") ∈ tb := tb_in 90 (by decide +kernel) (by decide +kernel)
theorem wd_91 : (Cond.instantiable "RedSkies$Page" 2) ∈ tb := tb_in 91 (by decide +kernel) (by decide +kernel)
theorem wd_93 : (Cond.instanceMethod yX5_init) ∈ tb := tb_in 93 (by decide +kernel) (by decide +kernel)
theorem wd_94 : (Cond.code yX5_init prog_7_method_1_code 1 none) ∈ tb := tb_in 94 (by decide +kernel) (by decide +kernel)
theorem wd_95 : (Cond.methodLink "RedSkies$Page" 3 objectInit) ∈ tb := tb_in 95 (by decide +kernel) (by decide +kernel)
theorem wd_96 : (Cond.fieldLink "RedSkies$Page" 9 "RedSkies$Page" "codes" "[I") ∈ tb := tb_in 96 (by decide +kernel) (by decide +kernel)
theorem wd_97 : (Cond.fieldLink "RedSkies" 311 "RedSkies$Page" "codes" "[I") ∈ tb := tb_in 97 (by decide +kernel) (by decide +kernel)
theorem wd_98 : (Cond.fieldLink "RedSkies" 87 "RedSkies$Page" "size" "I") ∈ tb := tb_in 98 (by decide +kernel) (by decide +kernel)
theorem wd_99 : (Cond.fieldLink "RedSkies$Page" 19 "RedSkies$Page" "size" "I") ∈ tb := tb_in 99 (by decide +kernel) (by decide +kernel)
theorem wd_105 : (Cond.arrayClass FieldType.int) ∈ tb := tb_in 105 (by decide +kernel) (by decide +kernel)
theorem wd_106 : (Cond.classLink "RedSkies" 16 "RedSkies$LampReader") ∈ tb := tb_in 106 (by decide +kernel) (by decide +kernel)
theorem wd_107 : (Cond.instantiable "RedSkies$LampReader" 6) ∈ tb := tb_in 107 (by decide +kernel) (by decide +kernel)
theorem wd_109 : (Cond.instanceMethod yX1_init) ∈ tb := tb_in 109 (by decide +kernel) (by decide +kernel)
theorem wd_110 : (Cond.code yX1_init prog_3_method_1_code 1 none) ∈ tb := tb_in 110 (by decide +kernel) (by decide +kernel)
theorem wd_112 : (Cond.instanceMethod yX7_init) ∈ tb := tb_in 112 (by decide +kernel) (by decide +kernel)
theorem wd_113 : (Cond.code yX7_init prog_9_method_1_code 1 none) ∈ tb := tb_in 113 (by decide +kernel) (by decide +kernel)
theorem wd_114 : (Cond.methodLink "RedSkies$Reader" 3 objectInit) ∈ tb := tb_in 114 (by decide +kernel) (by decide +kernel)
theorem wd_115 : (Cond.fieldLink "RedSkies$LampReader" 9 "RedSkies$LampReader" "more" "[I") ∈ tb := tb_in 115 (by decide +kernel) (by decide +kernel)
theorem wd_116 : (Cond.fieldLink "RedSkies" 106 "RedSkies$LampReader" "more" "[I") ∈ tb := tb_in 116 (by decide +kernel) (by decide +kernel)
theorem wd_117 : (Cond.fieldLink "RedSkies$LampReader" 15 "RedSkies$LampReader" "isTold" "[Z") ∈ tb := tb_in 117 (by decide +kernel) (by decide +kernel)
theorem wd_118 : (Cond.fieldLink "RedSkies$LampReader" 19 "RedSkies$LampReader" "place" "I") ∈ tb := tb_in 118 (by decide +kernel) (by decide +kernel)
theorem wd_119 : (Cond.fieldLink "RedSkies$LampReader" 44 "RedSkies$LampReader" "colour" "I") ∈ tb := tb_in 119 (by decide +kernel) (by decide +kernel)
theorem wd_120 : (Cond.fieldLink "RedSkies$LampReader" 47 "RedSkies$LampReader" "sign" "I") ∈ tb := tb_in 120 (by decide +kernel) (by decide +kernel)
theorem wd_121 : (Cond.fieldLink "RedSkies$LampReader" 50 "RedSkies$LampReader" "number" "I") ∈ tb := tb_in 121 (by decide +kernel) (by decide +kernel)
theorem wd_135 : (Cond.arrayClass FieldType.boolean) ∈ tb := tb_in 135 (by decide +kernel) (by decide +kernel)
theorem wd_136 : (Cond.classLink "RedSkies" 23 "RedSkies$MeasureReader") ∈ tb := tb_in 136 (by decide +kernel) (by decide +kernel)
theorem wd_137 : (Cond.instantiable "RedSkies$MeasureReader" 6) ∈ tb := tb_in 137 (by decide +kernel) (by decide +kernel)
theorem wd_139 : (Cond.instanceMethod yX4_init) ∈ tb := tb_in 139 (by decide +kernel) (by decide +kernel)
theorem wd_140 : (Cond.code yX4_init prog_6_method_1_code 1 none) ∈ tb := tb_in 140 (by decide +kernel) (by decide +kernel)
theorem wd_142 : (Cond.fieldLink "RedSkies$MeasureReader" 9 "RedSkies$MeasureReader" "times" "[I") ∈ tb := tb_in 142 (by decide +kernel) (by decide +kernel)
theorem wd_143 : (Cond.fieldLink "RedSkies" 118 "RedSkies$MeasureReader" "times" "[I") ∈ tb := tb_in 143 (by decide +kernel) (by decide +kernel)
theorem wd_144 : (Cond.fieldLink "RedSkies$MeasureReader" 21 "RedSkies$MeasureReader" "place" "I") ∈ tb := tb_in 144 (by decide +kernel) (by decide +kernel)
theorem wd_145 : (Cond.fieldLink "RedSkies$MeasureReader" 25 "RedSkies$MeasureReader" "sum" "I") ∈ tb := tb_in 145 (by decide +kernel) (by decide +kernel)
theorem wd_146 : (Cond.fieldLink "RedSkies$MeasureReader" 28 "RedSkies$MeasureReader" "terms" "I") ∈ tb := tb_in 146 (by decide +kernel) (by decide +kernel)
theorem wd_147 : (Cond.fieldLink "RedSkies$MeasureReader" 48 "RedSkies$MeasureReader" "colour" "I") ∈ tb := tb_in 147 (by decide +kernel) (by decide +kernel)
theorem wd_148 : (Cond.fieldLink "RedSkies$MeasureReader" 51 "RedSkies$MeasureReader" "part" "I") ∈ tb := tb_in 148 (by decide +kernel) (by decide +kernel)
theorem wd_162 : (Cond.classLink "RedSkies" 30 "RedSkies$LawReader") ∈ tb := tb_in 162 (by decide +kernel) (by decide +kernel)
theorem wd_163 : (Cond.instantiable "RedSkies$LawReader" 5) ∈ tb := tb_in 163 (by decide +kernel) (by decide +kernel)
theorem wd_165 : (Cond.instanceMethod yX3_init) ∈ tb := tb_in 165 (by decide +kernel) (by decide +kernel)
theorem wd_166 : (Cond.code yX3_init prog_5_method_1_code 1 none) ∈ tb := tb_in 166 (by decide +kernel) (by decide +kernel)
theorem wd_168 : (Cond.fieldLink "RedSkies$LawReader" 9 "RedSkies$LawReader" "bounds" "[I") ∈ tb := tb_in 168 (by decide +kernel) (by decide +kernel)
theorem wd_169 : (Cond.fieldLink "RedSkies$Law" 15 "RedSkies$LawReader" "bounds" "[I") ∈ tb := tb_in 169 (by decide +kernel) (by decide +kernel)
theorem wd_170 : (Cond.fieldLink "RedSkies$LawReader" 15 "RedSkies$LawReader" "size" "I") ∈ tb := tb_in 170 (by decide +kernel) (by decide +kernel)
theorem wd_171 : (Cond.fieldLink "RedSkies$Law" 24 "RedSkies$LawReader" "size" "I") ∈ tb := tb_in 171 (by decide +kernel) (by decide +kernel)
theorem wd_172 : (Cond.fieldLink "RedSkies$LawReader" 19 "RedSkies$LawReader" "number" "I") ∈ tb := tb_in 172 (by decide +kernel) (by decide +kernel)
theorem wd_173 : (Cond.fieldLink "RedSkies$Law" 29 "RedSkies$LawReader" "number" "I") ∈ tb := tb_in 173 (by decide +kernel) (by decide +kernel)
theorem wd_174 : (Cond.fieldLink "RedSkies$LawReader" 22 "RedSkies$LawReader" "digits" "I") ∈ tb := tb_in 174 (by decide +kernel) (by decide +kernel)
theorem wd_175 : (Cond.fieldLink "RedSkies$LawReader" 25 "RedSkies$LawReader" "isAtGive" "Z") ∈ tb := tb_in 175 (by decide +kernel) (by decide +kernel)
theorem wd_187 : (Cond.classLink "RedSkies" 37 "[[I") ∈ tb := tb_in 187 (by decide +kernel) (by decide +kernel)
theorem wd_189 : (Cond.classLink "RedSkies" 52 "RedSkies$Law") ∈ tb := tb_in 189 (by decide +kernel) (by decide +kernel)
theorem wd_190 : (Cond.instantiable "RedSkies$Law" 3) ∈ tb := tb_in 190 (by decide +kernel) (by decide +kernel)
theorem wd_192 : (Cond.instanceMethod yX2_init) ∈ tb := tb_in 192 (by decide +kernel) (by decide +kernel)
theorem wd_193 : (Cond.code yX2_init prog_4_method_1_code 1 none) ∈ tb := tb_in 193 (by decide +kernel) (by decide +kernel)
theorem wd_194 : (Cond.methodLink "RedSkies$Law" 3 objectInit) ∈ tb := tb_in 194 (by decide +kernel) (by decide +kernel)
theorem wd_195 : (Cond.fieldLink "RedSkies$Law" 9 "RedSkies$Law" "bounds" "[I") ∈ tb := tb_in 195 (by decide +kernel) (by decide +kernel)
theorem wd_196 : (Cond.fieldLink "RedSkies$Law" 28 "RedSkies$Law" "size" "I") ∈ tb := tb_in 196 (by decide +kernel) (by decide +kernel)
theorem wd_197 : (Cond.fieldLink "RedSkies" 125 "RedSkies$Law" "size" "I") ∈ tb := tb_in 197 (by decide +kernel) (by decide +kernel)
theorem wd_198 : (Cond.fieldLink "RedSkies$Law" 32 "RedSkies$Law" "give" "I") ∈ tb := tb_in 198 (by decide +kernel) (by decide +kernel)
theorem wd_206 : (Cond.classLink "RedSkies" 59 "RedSkies$Show") ∈ tb := tb_in 206 (by decide +kernel) (by decide +kernel)
theorem wd_207 : (Cond.instantiable "RedSkies$Show" 8) ∈ tb := tb_in 207 (by decide +kernel) (by decide +kernel)
theorem wd_208 : (Cond.methodLink "RedSkies" 61 yX8_init) ∈ tb := tb_in 208 (by decide +kernel) (by decide +kernel)
theorem wd_209 : (Cond.instanceMethod yX8_init) ∈ tb := tb_in 209 (by decide +kernel) (by decide +kernel)
theorem wd_210 : (Cond.code yX8_init prog_10_method_1_code 1 none) ∈ tb := tb_in 210 (by decide +kernel) (by decide +kernel)
theorem wd_211 : (Cond.methodLink "RedSkies$Show" 3 objectInit) ∈ tb := tb_in 211 (by decide +kernel) (by decide +kernel)
theorem wd_212 : (Cond.classLink "RedSkies$Show" 9 "[[I") ∈ tb := tb_in 212 (by decide +kernel) (by decide +kernel)
theorem wd_213 : (Cond.methodLink "RedSkies$Show" 29 yJ7_fill_53178) ∈ tb := tb_in 213 (by decide +kernel) (by decide +kernel)
theorem wd_214 : (Cond.static yJ7_fill_53178) ∈ tb := tb_in 214 (by decide +kernel) (by decide +kernel)
theorem wd_215 : (Cond.code yJ7_fill_53178 prog_16_method_103_code 4 none) ∈ tb := tb_in 215 (by decide +kernel) (by decide +kernel)
theorem wd_216 : (Cond.fieldLink "RedSkies$Show" 11 "RedSkies$Show" "facts" "[[I") ∈ tb := tb_in 216 (by decide +kernel) (by decide +kernel)
theorem wd_217 : (Cond.fieldLink "RedSkies" 150 "RedSkies$Show" "facts" "[[I") ∈ tb := tb_in 217 (by decide +kernel) (by decide +kernel)
theorem wd_218 : (Cond.fieldLink "RedSkies$Show" 16 "RedSkies$Show" "seen" "[[I") ∈ tb := tb_in 218 (by decide +kernel) (by decide +kernel)
theorem wd_219 : (Cond.fieldLink "RedSkies$Painter" 41 "RedSkies$Show" "seen" "[[I") ∈ tb := tb_in 219 (by decide +kernel) (by decide +kernel)
theorem wd_220 : (Cond.fieldLink "RedSkies" 147 "RedSkies$Show" "seen" "[[I") ∈ tb := tb_in 220 (by decide +kernel) (by decide +kernel)
theorem wd_221 : (Cond.fieldLink "RedSkies$Show" 19 "RedSkies$Show" "eruptions" "[I") ∈ tb := tb_in 221 (by decide +kernel) (by decide +kernel)
theorem wd_222 : (Cond.fieldLink "RedSkies" 169 "RedSkies$Show" "eruptions" "[I") ∈ tb := tb_in 222 (by decide +kernel) (by decide +kernel)
theorem wd_223 : (Cond.fieldLink "RedSkies$Show" 23 "RedSkies$Show" "lows" "[I") ∈ tb := tb_in 223 (by decide +kernel) (by decide +kernel)
theorem wd_224 : (Cond.fieldLink "RedSkies" 251 "RedSkies$Show" "lows" "[I") ∈ tb := tb_in 224 (by decide +kernel) (by decide +kernel)
theorem wd_225 : (Cond.fieldLink "RedSkies$Show" 26 "RedSkies$Show" "highs" "[I") ∈ tb := tb_in 225 (by decide +kernel) (by decide +kernel)
theorem wd_226 : (Cond.fieldLink "RedSkies" 269 "RedSkies$Show" "highs" "[I") ∈ tb := tb_in 226 (by decide +kernel) (by decide +kernel)
theorem wd_227 : (Cond.fieldLink "RedSkies$Show" 35 "RedSkies$Show" "pictures" "I") ∈ tb := tb_in 227 (by decide +kernel) (by decide +kernel)
theorem wd_228 : (Cond.fieldLink "RedSkies" 183 "RedSkies$Show" "pictures" "I") ∈ tb := tb_in 228 (by decide +kernel) (by decide +kernel)
theorem wd_229 : (Cond.fieldLink "RedSkies$Show" 45 "RedSkies$Show" "mountains" "I") ∈ tb := tb_in 229 (by decide +kernel) (by decide +kernel)
theorem wd_230 : (Cond.fieldLink "RedSkies" 166 "RedSkies$Show" "mountains" "I") ∈ tb := tb_in 230 (by decide +kernel) (by decide +kernel)
theorem wd_231 : (Cond.fieldLink "RedSkies$Show" 48 "RedSkies$Show" "told" "I") ∈ tb := tb_in 231 (by decide +kernel) (by decide +kernel)
theorem wd_232 : (Cond.fieldLink "RedSkies" 248 "RedSkies$Show" "told" "I") ∈ tb := tb_in 232 (by decide +kernel) (by decide +kernel)
theorem wd_250 : (Cond.classLink "RedSkies" 69 "RedSkies$Dealing") ∈ tb := tb_in 250 (by decide +kernel) (by decide +kernel)
theorem wd_251 : (Cond.instantiable "RedSkies$Dealing" 9) ∈ tb := tb_in 251 (by decide +kernel) (by decide +kernel)
theorem wd_253 : (Cond.instanceMethod yX0_init) ∈ tb := tb_in 253 (by decide +kernel) (by decide +kernel)
theorem wd_254 : (Cond.code yX0_init prog_2_method_1_code 1 none) ∈ tb := tb_in 254 (by decide +kernel) (by decide +kernel)
theorem wd_255 : (Cond.methodLink "RedSkies$Dealing" 3 objectInit) ∈ tb := tb_in 255 (by decide +kernel) (by decide +kernel)
theorem wd_256 : (Cond.classLink "RedSkies$Dealing" 18 "[[I") ∈ tb := tb_in 256 (by decide +kernel) (by decide +kernel)
theorem wd_257 : (Cond.fieldLink "RedSkies$Dealing" 9 "RedSkies$Dealing" "hands" "[I") ∈ tb := tb_in 257 (by decide +kernel) (by decide +kernel)
theorem wd_258 : (Cond.fieldLink "RedSkies" 320 "RedSkies$Dealing" "hands" "[I") ∈ tb := tb_in 258 (by decide +kernel) (by decide +kernel)
theorem wd_259 : (Cond.fieldLink "RedSkies$Dealing" 15 "RedSkies$Dealing" "values" "[I") ∈ tb := tb_in 259 (by decide +kernel) (by decide +kernel)
theorem wd_260 : (Cond.fieldLink "RedSkies" 323 "RedSkies$Dealing" "values" "[I") ∈ tb := tb_in 260 (by decide +kernel) (by decide +kernel)
theorem wd_261 : (Cond.fieldLink "RedSkies$Dealing" 44 "RedSkies$Dealing" "observed" "I") ∈ tb := tb_in 261 (by decide +kernel) (by decide +kernel)
theorem wd_262 : (Cond.fieldLink "RedSkies" 335 "RedSkies$Dealing" "observed" "I") ∈ tb := tb_in 262 (by decide +kernel) (by decide +kernel)
theorem wd_263 : (Cond.fieldLink "RedSkies$Dealing" 54 "RedSkies$Dealing" "above" "J") ∈ tb := tb_in 263 (by decide +kernel) (by decide +kernel)
theorem wd_264 : (Cond.fieldLink "RedSkies" 209 "RedSkies$Dealing" "above" "J") ∈ tb := tb_in 264 (by decide +kernel) (by decide +kernel)
theorem wd_265 : (Cond.fieldLink "RedSkies$Dealing" 58 "RedSkies$Dealing" "below" "J") ∈ tb := tb_in 265 (by decide +kernel) (by decide +kernel)
theorem wd_266 : (Cond.fieldLink "RedSkies" 212 "RedSkies$Dealing" "below" "J") ∈ tb := tb_in 266 (by decide +kernel) (by decide +kernel)
theorem wd_267 : (Cond.fieldLink "RedSkies$Dealing" 61 "RedSkies$Dealing" "leastAbove" "J") ∈ tb := tb_in 267 (by decide +kernel) (by decide +kernel)
theorem wd_268 : (Cond.fieldLink "RedSkies" 227 "RedSkies$Dealing" "leastAbove" "J") ∈ tb := tb_in 268 (by decide +kernel) (by decide +kernel)
theorem wd_269 : (Cond.fieldLink "RedSkies$Dealing" 64 "RedSkies$Dealing" "leastBelow" "J") ∈ tb := tb_in 269 (by decide +kernel) (by decide +kernel)
theorem wd_270 : (Cond.fieldLink "RedSkies" 230 "RedSkies$Dealing" "leastBelow" "J") ∈ tb := tb_in 270 (by decide +kernel) (by decide +kernel)
theorem wd_271 : (Cond.fieldLink "RedSkies$Dealing" 20 "RedSkies$Dealing" "ways" "[[I") ∈ tb := tb_in 271 (by decide +kernel) (by decide +kernel)
theorem wd_272 : (Cond.fieldLink "RedSkies$Dealing" 37 "RedSkies$Dealing" "reach" "I") ∈ tb := tb_in 272 (by decide +kernel) (by decide +kernel)
theorem wd_292 : (Cond.classLink "RedSkies" 76 "RedSkies$Painter") ∈ tb := tb_in 292 (by decide +kernel) (by decide +kernel)
theorem wd_293 : (Cond.instantiable "RedSkies$Painter" 1) ∈ tb := tb_in 293 (by decide +kernel) (by decide +kernel)
theorem wd_295 : (Cond.instanceMethod yX6_init) ∈ tb := tb_in 295 (by decide +kernel) (by decide +kernel)
theorem wd_296 : (Cond.code yX6_init prog_8_method_1_code 1 none) ∈ tb := tb_in 296 (by decide +kernel) (by decide +kernel)
theorem wd_297 : (Cond.methodLink "RedSkies$Painter" 3 objectInit) ∈ tb := tb_in 297 (by decide +kernel) (by decide +kernel)
theorem wd_298 : (Cond.fieldLink "RedSkies$Painter" 13 "RedSkies$Painter" "seed" "J") ∈ tb := tb_in 298 (by decide +kernel) (by decide +kernel)
theorem wd_299 : (Cond.fieldLink "RedSkies" 175 "RedSkies$Painter" "seed" "J") ∈ tb := tb_in 299 (by decide +kernel) (by decide +kernel)
theorem wd_303 : (Cond.fieldLink "RedSkies" 12 "RedSkies" "page" "LRedSkies$Page;") ∈ tb := tb_in 303 (by decide +kernel) (by decide +kernel)
theorem wd_304 : (Cond.fieldLink "RedSkies" 19 "RedSkies" "lampReader" "LRedSkies$LampReader;") ∈ tb := tb_in 304 (by decide +kernel) (by decide +kernel)
theorem wd_305 : (Cond.fieldLink "RedSkies" 26 "RedSkies" "measureReader" "LRedSkies$MeasureReader;") ∈ tb := tb_in 305 (by decide +kernel) (by decide +kernel)
theorem wd_306 : (Cond.fieldLink "RedSkies" 33 "RedSkies" "lawReader" "LRedSkies$LawReader;") ∈ tb := tb_in 306 (by decide +kernel) (by decide +kernel)
theorem wd_307 : (Cond.fieldLink "RedSkies" 39 "RedSkies" "lamps" "[[I") ∈ tb := tb_in 307 (by decide +kernel) (by decide +kernel)
theorem wd_308 : (Cond.fieldLink "RedSkies" 42 "RedSkies" "sinces" "[I") ∈ tb := tb_in 308 (by decide +kernel) (by decide +kernel)
theorem wd_309 : (Cond.fieldLink "RedSkies" 46 "RedSkies" "fades" "[I") ∈ tb := tb_in 309 (by decide +kernel) (by decide +kernel)
theorem wd_310 : (Cond.fieldLink "RedSkies" 49 "RedSkies" "measures" "[[I") ∈ tb := tb_in 310 (by decide +kernel) (by decide +kernel)
theorem wd_311 : (Cond.fieldLink "RedSkies" 55 "RedSkies" "law" "LRedSkies$Law;") ∈ tb := tb_in 311 (by decide +kernel) (by decide +kernel)
theorem wd_312 : (Cond.fieldLink "RedSkies" 62 "RedSkies" "show" "LRedSkies$Show;") ∈ tb := tb_in 312 (by decide +kernel) (by decide +kernel)
theorem wd_313 : (Cond.fieldLink "RedSkies" 66 "RedSkies" "kept" "LRedSkies$Show;") ∈ tb := tb_in 313 (by decide +kernel) (by decide +kernel)
theorem wd_314 : (Cond.fieldLink "RedSkies" 72 "RedSkies" "dealing" "LRedSkies$Dealing;") ∈ tb := tb_in 314 (by decide +kernel) (by decide +kernel)
theorem wd_315 : (Cond.fieldLink "RedSkies" 79 "RedSkies" "painter" "LRedSkies$Painter;") ∈ tb := tb_in 315 (by decide +kernel) (by decide +kernel)
theorem wd_316 : (Cond.fieldLink "RedSkies" 103 "RedSkies" "lampCount" "I") ∈ tb := tb_in 316 (by decide +kernel) (by decide +kernel)
theorem wd_317 : (Cond.fieldLink "RedSkies" 130 "RedSkies" "pigmentCount" "I") ∈ tb := tb_in 317 (by decide +kernel) (by decide +kernel)
theorem wd_318 : (Cond.fieldLink "RedSkies" 115 "RedSkies" "measureCount" "I") ∈ tb := tb_in 318 (by decide +kernel) (by decide +kernel)
theorem wd_319 : (Cond.fieldLink "RedSkies" 236 "RedSkies" "looks" "I") ∈ tb := tb_in 319 (by decide +kernel) (by decide +kernel)
theorem wd_320 : (Cond.fieldLink "RedSkies" 288 "RedSkies" "hasKept" "Z") ∈ tb := tb_in 320 (by decide +kernel) (by decide +kernel)
theorem wd_358 : (Cond.methodLink "RedSkiesLaw" 15 yX9_letters) ∈ tb := tb_in 358 (by decide +kernel) (by decide +kernel)
theorem wd_359 : (Cond.instanceMethod yX9_letters) ∈ tb := tb_in 359 (by decide +kernel) (by decide +kernel)
theorem wd_360 : (Cond.selects "RedSkies" yX9_letters yX9_letters) ∈ tb := tb_in 360 (by decide +kernel) (by decide +kernel)
theorem wd_361 : (Cond.code yX9_letters prog_1_method_2_code 4 (some FieldType.int)) ∈ tb := tb_in 361 (by decide +kernel) (by decide +kernel)
theorem wd_362 : (Cond.methodLink "RedSkies" 83 yX5_lettersIn) ∈ tb := tb_in 362 (by decide +kernel) (by decide +kernel)
theorem wd_363 : (Cond.static yX5_lettersIn) ∈ tb := tb_in 363 (by decide +kernel) (by decide +kernel)
theorem wd_364 : (Cond.code yX5_lettersIn prog_7_method_2_code 5 (some FieldType.int)) ∈ tb := tb_in 364 (by decide +kernel) (by decide +kernel)
theorem wd_365 : (Cond.methodLink "RedSkies$Page" 15 yX5_codeIn) ∈ tb := tb_in 365 (by decide +kernel) (by decide +kernel)
theorem wd_366 : (Cond.static yX5_codeIn) ∈ tb := tb_in 366 (by decide +kernel) (by decide +kernel)
theorem wd_367 : (Cond.code yX5_codeIn prog_7_method_3_code 3 (some FieldType.int)) ∈ tb := tb_in 367 (by decide +kernel) (by decide +kernel)
theorem wd_368 : (Cond.methodLink "RedSkies" 91 yX5_append) ∈ tb := tb_in 368 (by decide +kernel) (by decide +kernel)
theorem wd_369 : (Cond.instanceMethod yX5_append) ∈ tb := tb_in 369 (by decide +kernel) (by decide +kernel)
theorem wd_370 : (Cond.selects "RedSkies$Page" yX5_append yX5_append) ∈ tb := tb_in 370 (by decide +kernel) (by decide +kernel)
theorem wd_371 : (Cond.code yX5_append prog_7_method_4_code 5 none) ∈ tb := tb_in 371 (by decide +kernel) (by decide +kernel)
theorem wd_372 : (Cond.methodLink "RedSkiesLaw" 20 yX9_blank) ∈ tb := tb_in 372 (by decide +kernel) (by decide +kernel)
theorem wd_373 : (Cond.instanceMethod yX9_blank) ∈ tb := tb_in 373 (by decide +kernel) (by decide +kernel)
theorem wd_374 : (Cond.selects "RedSkies" yX9_blank yX9_blank) ∈ tb := tb_in 374 (by decide +kernel) (by decide +kernel)
theorem wd_375 : (Cond.code yX9_blank prog_1_method_3_code 2 (some FieldType.int)) ∈ tb := tb_in 375 (by decide +kernel) (by decide +kernel)
theorem wd_376 : (Cond.methodLink "RedSkiesLaw" 25 yX9_fault) ∈ tb := tb_in 376 (by decide +kernel) (by decide +kernel)
theorem wd_377 : (Cond.instanceMethod yX9_fault) ∈ tb := tb_in 377 (by decide +kernel) (by decide +kernel)
theorem wd_378 : (Cond.selects "RedSkies" yX9_fault yX9_fault) ∈ tb := tb_in 378 (by decide +kernel) (by decide +kernel)
theorem wd_379 : (Cond.code yX9_fault prog_1_method_4_code 2 (some FieldType.int)) ∈ tb := tb_in 379 (by decide +kernel) (by decide +kernel)
theorem wd_380 : (Cond.methodLink "RedSkies" 95 yX5_standing) ∈ tb := tb_in 380 (by decide +kernel) (by decide +kernel)
theorem wd_381 : (Cond.instanceMethod yX5_standing) ∈ tb := tb_in 381 (by decide +kernel) (by decide +kernel)
theorem wd_382 : (Cond.selects "RedSkies$Page" yX5_standing yX5_standing) ∈ tb := tb_in 382 (by decide +kernel) (by decide +kernel)
theorem wd_383 : (Cond.code yX5_standing prog_7_method_5_code 3 (some FieldType.int)) ∈ tb := tb_in 383 (by decide +kernel) (by decide +kernel)
theorem wd_384 : (Cond.methodLink "RedSkies$Page" 23 ⟨"RedSkies$Reader", "begin", "()V"⟩) ∈ tb := tb_in 384 (by decide +kernel) (by decide +kernel)
theorem wd_386 : (Cond.sameMethod "RedSkies$Reader" "RedSkies$Reader" "begin" "()V") ∈ tb := tb_in 386 (by decide +kernel) (by decide +kernel)
theorem wd_387 : (Cond.selects "RedSkies$LampReader" ⟨"RedSkies$Reader", "begin", "()V"⟩ yX1_begin) ∈ tb := tb_in 387 (by decide +kernel) (by decide +kernel)
theorem wd_388 : (Cond.instanceMethod yX1_begin) ∈ tb := tb_in 388 (by decide +kernel) (by decide +kernel)
theorem wd_389 : (Cond.code yX1_begin prog_3_method_2_code 2 none) ∈ tb := tb_in 389 (by decide +kernel) (by decide +kernel)
theorem wd_390 : (Cond.selects "RedSkies$LawReader" ⟨"RedSkies$Reader", "begin", "()V"⟩ yX3_begin) ∈ tb := tb_in 390 (by decide +kernel) (by decide +kernel)
theorem wd_391 : (Cond.instanceMethod yX3_begin) ∈ tb := tb_in 391 (by decide +kernel) (by decide +kernel)
theorem wd_392 : (Cond.code yX3_begin prog_5_method_2_code 1 none) ∈ tb := tb_in 392 (by decide +kernel) (by decide +kernel)
theorem wd_393 : (Cond.selects "RedSkies$MeasureReader" ⟨"RedSkies$Reader", "begin", "()V"⟩ yX4_begin) ∈ tb := tb_in 393 (by decide +kernel) (by decide +kernel)
theorem wd_394 : (Cond.instanceMethod yX4_begin) ∈ tb := tb_in 394 (by decide +kernel) (by decide +kernel)
theorem wd_395 : (Cond.code yX4_begin prog_6_method_2_code 1 none) ∈ tb := tb_in 395 (by decide +kernel) (by decide +kernel)
theorem wd_396 : (Cond.methodLink "RedSkies$MeasureReader" 15 yJ7_fill_53178) ∈ tb := tb_in 396 (by decide +kernel) (by decide +kernel)
theorem wd_397 : (Cond.methodLink "RedSkies$Page" 28 ⟨"RedSkies$Reader", "take", "(I)Z"⟩) ∈ tb := tb_in 397 (by decide +kernel) (by decide +kernel)
theorem wd_399 : (Cond.sameMethod "RedSkies$Reader" "RedSkies$Reader" "take" "(I)Z") ∈ tb := tb_in 399 (by decide +kernel) (by decide +kernel)
theorem wd_400 : (Cond.selects "RedSkies$LampReader" ⟨"RedSkies$Reader", "take", "(I)Z"⟩ yX1_take) ∈ tb := tb_in 400 (by decide +kernel) (by decide +kernel)
theorem wd_401 : (Cond.instanceMethod yX1_take) ∈ tb := tb_in 401 (by decide +kernel) (by decide +kernel)
theorem wd_402 : (Cond.code yX1_take prog_3_method_3_code 2 (some FieldType.boolean)) ∈ tb := tb_in 402 (by decide +kernel) (by decide +kernel)
theorem wd_403 : (Cond.methodLink "RedSkies$LampReader" 23 yX1_takeColour) ∈ tb := tb_in 403 (by decide +kernel) (by decide +kernel)
theorem wd_405 : (Cond.instanceMethod yX1_takeColour) ∈ tb := tb_in 405 (by decide +kernel) (by decide +kernel)
theorem wd_406 : (Cond.code yX1_takeColour prog_3_method_5_code 3 (some FieldType.boolean)) ∈ tb := tb_in 406 (by decide +kernel) (by decide +kernel)
theorem wd_407 : (Cond.methodLink "RedSkies$LampReader" 41 ⟨"RedSkies$LampReader", "colourOf", "(I)I"⟩) ∈ tb := tb_in 407 (by decide +kernel) (by decide +kernel)
theorem wd_408 : (Cond.sameMethod "RedSkies$LampReader" "RedSkies$Reader" "colourOf" "(I)I") ∈ tb := tb_in 408 (by decide +kernel) (by decide +kernel)
theorem wd_409 : (Cond.static yX7_colourOf) ∈ tb := tb_in 409 (by decide +kernel) (by decide +kernel)
theorem wd_410 : (Cond.code yX7_colourOf prog_9_method_5_code 1 (some FieldType.int)) ∈ tb := tb_in 410 (by decide +kernel) (by decide +kernel)
theorem wd_411 : (Cond.methodLink "RedSkies$LampReader" 27 yX1_takeSign) ∈ tb := tb_in 411 (by decide +kernel) (by decide +kernel)
theorem wd_413 : (Cond.instanceMethod yX1_takeSign) ∈ tb := tb_in 413 (by decide +kernel) (by decide +kernel)
theorem wd_414 : (Cond.code yX1_takeSign prog_3_method_6_code 2 (some FieldType.boolean)) ∈ tb := tb_in 414 (by decide +kernel) (by decide +kernel)
theorem wd_415 : (Cond.methodLink "RedSkies$LampReader" 30 ⟨"RedSkies$LampReader", "digitOf", "(I)I"⟩) ∈ tb := tb_in 415 (by decide +kernel) (by decide +kernel)
theorem wd_416 : (Cond.sameMethod "RedSkies$LampReader" "RedSkies$Reader" "digitOf" "(I)I") ∈ tb := tb_in 416 (by decide +kernel) (by decide +kernel)
theorem wd_417 : (Cond.static yX7_digitOf) ∈ tb := tb_in 417 (by decide +kernel) (by decide +kernel)
theorem wd_418 : (Cond.code yX7_digitOf prog_9_method_6_code 1 (some FieldType.int)) ∈ tb := tb_in 418 (by decide +kernel) (by decide +kernel)
theorem wd_419 : (Cond.methodLink "RedSkies$LampReader" 34 yX1_takeDigit) ∈ tb := tb_in 419 (by decide +kernel) (by decide +kernel)
theorem wd_421 : (Cond.instanceMethod yX1_takeDigit) ∈ tb := tb_in 421 (by decide +kernel) (by decide +kernel)
theorem wd_422 : (Cond.code yX1_takeDigit prog_3_method_7_code 4 (some FieldType.boolean)) ∈ tb := tb_in 422 (by decide +kernel) (by decide +kernel)
theorem wd_423 : (Cond.methodLink "RedSkies$LampReader" 38 yX1_takeBehindDigit) ∈ tb := tb_in 423 (by decide +kernel) (by decide +kernel)
theorem wd_425 : (Cond.instanceMethod yX1_takeBehindDigit) ∈ tb := tb_in 425 (by decide +kernel) (by decide +kernel)
theorem wd_426 : (Cond.code yX1_takeBehindDigit prog_3_method_8_code 3 (some FieldType.boolean)) ∈ tb := tb_in 426 (by decide +kernel) (by decide +kernel)
theorem wd_427 : (Cond.selects "RedSkies$LawReader" ⟨"RedSkies$Reader", "take", "(I)Z"⟩ yX3_take) ∈ tb := tb_in 427 (by decide +kernel) (by decide +kernel)
theorem wd_428 : (Cond.instanceMethod yX3_take) ∈ tb := tb_in 428 (by decide +kernel) (by decide +kernel)
theorem wd_429 : (Cond.code yX3_take prog_5_method_3_code 3 (some FieldType.boolean)) ∈ tb := tb_in 429 (by decide +kernel) (by decide +kernel)
theorem wd_430 : (Cond.methodLink "RedSkies$LawReader" 29 ⟨"RedSkies$LawReader", "digitOf", "(I)I"⟩) ∈ tb := tb_in 430 (by decide +kernel) (by decide +kernel)
theorem wd_431 : (Cond.sameMethod "RedSkies$LawReader" "RedSkies$Reader" "digitOf" "(I)I") ∈ tb := tb_in 431 (by decide +kernel) (by decide +kernel)
theorem wd_432 : (Cond.methodLink "RedSkies$LawReader" 33 yX3_takeOfGive) ∈ tb := tb_in 432 (by decide +kernel) (by decide +kernel)
theorem wd_434 : (Cond.instanceMethod yX3_takeOfGive) ∈ tb := tb_in 434 (by decide +kernel) (by decide +kernel)
theorem wd_435 : (Cond.code yX3_takeOfGive prog_5_method_6_code 2 (some FieldType.boolean)) ∈ tb := tb_in 435 (by decide +kernel) (by decide +kernel)
theorem wd_436 : (Cond.methodLink "RedSkies$LawReader" 48 yX3_grow) ∈ tb := tb_in 436 (by decide +kernel) (by decide +kernel)
theorem wd_438 : (Cond.instanceMethod yX3_grow) ∈ tb := tb_in 438 (by decide +kernel) (by decide +kernel)
theorem wd_439 : (Cond.code yX3_grow prog_5_method_8_code 2 none) ∈ tb := tb_in 439 (by decide +kernel) (by decide +kernel)
theorem wd_440 : (Cond.methodLink "RedSkies$LawReader" 37 yX3_takeOfBound) ∈ tb := tb_in 440 (by decide +kernel) (by decide +kernel)
theorem wd_442 : (Cond.instanceMethod yX3_takeOfBound) ∈ tb := tb_in 442 (by decide +kernel) (by decide +kernel)
theorem wd_443 : (Cond.code yX3_takeOfBound prog_5_method_7_code 4 (some FieldType.boolean)) ∈ tb := tb_in 443 (by decide +kernel) (by decide +kernel)
theorem wd_444 : (Cond.methodLink "RedSkies$LawReader" 40 yX3_boundAhead) ∈ tb := tb_in 444 (by decide +kernel) (by decide +kernel)
theorem wd_446 : (Cond.instanceMethod yX3_boundAhead) ∈ tb := tb_in 446 (by decide +kernel) (by decide +kernel)
theorem wd_447 : (Cond.code yX3_boundAhead prog_5_method_5_code 1 (some FieldType.int)) ∈ tb := tb_in 447 (by decide +kernel) (by decide +kernel)
theorem wd_448 : (Cond.methodLink "RedSkies$LawReader" 44 yX3_endBound) ∈ tb := tb_in 448 (by decide +kernel) (by decide +kernel)
theorem wd_450 : (Cond.instanceMethod yX3_endBound) ∈ tb := tb_in 450 (by decide +kernel) (by decide +kernel)
theorem wd_451 : (Cond.code yX3_endBound prog_5_method_9_code 1 (some FieldType.boolean)) ∈ tb := tb_in 451 (by decide +kernel) (by decide +kernel)
theorem wd_452 : (Cond.selects "RedSkies$MeasureReader" ⟨"RedSkies$Reader", "take", "(I)Z"⟩ yX4_take) ∈ tb := tb_in 452 (by decide +kernel) (by decide +kernel)
theorem wd_453 : (Cond.instanceMethod yX4_take) ∈ tb := tb_in 453 (by decide +kernel) (by decide +kernel)
theorem wd_454 : (Cond.code yX4_take prog_6_method_3_code 3 (some FieldType.boolean)) ∈ tb := tb_in 454 (by decide +kernel) (by decide +kernel)
theorem wd_455 : (Cond.methodLink "RedSkies$MeasureReader" 31 yX4_takeColour) ∈ tb := tb_in 455 (by decide +kernel) (by decide +kernel)
theorem wd_457 : (Cond.instanceMethod yX4_takeColour) ∈ tb := tb_in 457 (by decide +kernel) (by decide +kernel)
theorem wd_458 : (Cond.code yX4_takeColour prog_6_method_5_code 3 (some FieldType.boolean)) ∈ tb := tb_in 458 (by decide +kernel) (by decide +kernel)
theorem wd_459 : (Cond.methodLink "RedSkies$MeasureReader" 45 ⟨"RedSkies$MeasureReader", "colourOf", "(I)I"⟩) ∈ tb := tb_in 459 (by decide +kernel) (by decide +kernel)
theorem wd_460 : (Cond.sameMethod "RedSkies$MeasureReader" "RedSkies$Reader" "colourOf" "(I)I") ∈ tb := tb_in 460 (by decide +kernel) (by decide +kernel)
theorem wd_461 : (Cond.methodLink "RedSkies$MeasureReader" 35 ⟨"RedSkies$MeasureReader", "digitOf", "(I)I"⟩) ∈ tb := tb_in 461 (by decide +kernel) (by decide +kernel)
theorem wd_462 : (Cond.sameMethod "RedSkies$MeasureReader" "RedSkies$Reader" "digitOf" "(I)I") ∈ tb := tb_in 462 (by decide +kernel) (by decide +kernel)
theorem wd_463 : (Cond.methodLink "RedSkies$MeasureReader" 39 yX4_takePart) ∈ tb := tb_in 463 (by decide +kernel) (by decide +kernel)
theorem wd_465 : (Cond.instanceMethod yX4_takePart) ∈ tb := tb_in 465 (by decide +kernel) (by decide +kernel)
theorem wd_466 : (Cond.code yX4_takePart prog_6_method_6_code 2 (some FieldType.boolean)) ∈ tb := tb_in 466 (by decide +kernel) (by decide +kernel)
theorem wd_467 : (Cond.methodLink "RedSkies$MeasureReader" 42 yX4_takeBetween) ∈ tb := tb_in 467 (by decide +kernel) (by decide +kernel)
theorem wd_469 : (Cond.instanceMethod yX4_takeBetween) ∈ tb := tb_in 469 (by decide +kernel) (by decide +kernel)
theorem wd_470 : (Cond.code yX4_takeBetween prog_6_method_7_code 2 (some FieldType.boolean)) ∈ tb := tb_in 470 (by decide +kernel) (by decide +kernel)
theorem wd_471 : (Cond.methodLink "RedSkiesLaw" 30 yX9_lamp) ∈ tb := tb_in 471 (by decide +kernel) (by decide +kernel)
theorem wd_472 : (Cond.instanceMethod yX9_lamp) ∈ tb := tb_in 472 (by decide +kernel) (by decide +kernel)
theorem wd_473 : (Cond.selects "RedSkies" yX9_lamp yX9_lamp) ∈ tb := tb_in 473 (by decide +kernel) (by decide +kernel)
theorem wd_474 : (Cond.code yX9_lamp prog_1_method_5_code 1 (some FieldType.int)) ∈ tb := tb_in 474 (by decide +kernel) (by decide +kernel)
theorem wd_475 : (Cond.methodLink "RedSkies" 99 yX5_isWhole) ∈ tb := tb_in 475 (by decide +kernel) (by decide +kernel)
theorem wd_476 : (Cond.instanceMethod yX5_isWhole) ∈ tb := tb_in 476 (by decide +kernel) (by decide +kernel)
theorem wd_477 : (Cond.selects "RedSkies$Page" yX5_isWhole yX5_isWhole) ∈ tb := tb_in 477 (by decide +kernel) (by decide +kernel)
theorem wd_478 : (Cond.code yX5_isWhole prog_7_method_6_code 2 (some FieldType.boolean)) ∈ tb := tb_in 478 (by decide +kernel) (by decide +kernel)
theorem wd_479 : (Cond.methodLink "RedSkies$Page" 32 yX5_standing) ∈ tb := tb_in 479 (by decide +kernel) (by decide +kernel)
theorem wd_480 : (Cond.methodLink "RedSkies$Page" 36 ⟨"RedSkies$Reader", "isDone", "()Z"⟩) ∈ tb := tb_in 480 (by decide +kernel) (by decide +kernel)
theorem wd_482 : (Cond.sameMethod "RedSkies$Reader" "RedSkies$Reader" "isDone" "()Z") ∈ tb := tb_in 482 (by decide +kernel) (by decide +kernel)
theorem wd_483 : (Cond.selects "RedSkies$LampReader" ⟨"RedSkies$Reader", "isDone", "()Z"⟩ yX1_isDone) ∈ tb := tb_in 483 (by decide +kernel) (by decide +kernel)
theorem wd_484 : (Cond.instanceMethod yX1_isDone) ∈ tb := tb_in 484 (by decide +kernel) (by decide +kernel)
theorem wd_485 : (Cond.code yX1_isDone prog_3_method_4_code 1 (some FieldType.boolean)) ∈ tb := tb_in 485 (by decide +kernel) (by decide +kernel)
theorem wd_486 : (Cond.selects "RedSkies$LawReader" ⟨"RedSkies$Reader", "isDone", "()Z"⟩ yX3_isDone) ∈ tb := tb_in 486 (by decide +kernel) (by decide +kernel)
theorem wd_487 : (Cond.instanceMethod yX3_isDone) ∈ tb := tb_in 487 (by decide +kernel) (by decide +kernel)
theorem wd_488 : (Cond.code yX3_isDone prog_5_method_4_code 1 (some FieldType.boolean)) ∈ tb := tb_in 488 (by decide +kernel) (by decide +kernel)
theorem wd_489 : (Cond.selects "RedSkies$MeasureReader" ⟨"RedSkies$Reader", "isDone", "()Z"⟩ yX4_isDone) ∈ tb := tb_in 489 (by decide +kernel) (by decide +kernel)
theorem wd_490 : (Cond.instanceMethod yX4_isDone) ∈ tb := tb_in 490 (by decide +kernel) (by decide +kernel)
theorem wd_491 : (Cond.code yX4_isDone prog_6_method_4_code 1 (some FieldType.boolean)) ∈ tb := tb_in 491 (by decide +kernel) (by decide +kernel)
theorem wd_492 : (Cond.methodLink "RedSkies" 109 ⟨"java/lang/System", "arraycopy", "(Ljava/lang/Object;ILjava/lang/Object;II)V"⟩) ∈ tb := tb_in 492 (by decide +kernel) (by decide +kernel)
theorem wd_493 : (Cond.static ⟨"java/lang/System", "arraycopy", "(Ljava/lang/Object;ILjava/lang/Object;II)V"⟩) ∈ tb := tb_in 493 (by decide +kernel) (by decide +kernel)
theorem wd_494 : (Cond.native ⟨"java/lang/System", "arraycopy", "(Ljava/lang/Object;ILjava/lang/Object;II)V"⟩) ∈ tb := tb_in 494 (by decide +kernel) (by decide +kernel)
theorem wd_495 : (Cond.methodLink "RedSkiesLaw" 34 yX9_measure) ∈ tb := tb_in 495 (by decide +kernel) (by decide +kernel)
theorem wd_496 : (Cond.instanceMethod yX9_measure) ∈ tb := tb_in 496 (by decide +kernel) (by decide +kernel)
theorem wd_497 : (Cond.selects "RedSkies" yX9_measure yX9_measure) ∈ tb := tb_in 497 (by decide +kernel) (by decide +kernel)
theorem wd_498 : (Cond.code yX9_measure prog_1_method_6_code 1 (some FieldType.int)) ∈ tb := tb_in 498 (by decide +kernel) (by decide +kernel)
theorem wd_499 : (Cond.methodLink "RedSkiesLaw" 38 yX9_law) ∈ tb := tb_in 499 (by decide +kernel) (by decide +kernel)
theorem wd_500 : (Cond.instanceMethod yX9_law) ∈ tb := tb_in 500 (by decide +kernel) (by decide +kernel)
theorem wd_501 : (Cond.selects "RedSkies" yX9_law yX9_law) ∈ tb := tb_in 501 (by decide +kernel) (by decide +kernel)
theorem wd_502 : (Cond.code yX9_law prog_1_method_7_code 1 (some FieldType.int)) ∈ tb := tb_in 502 (by decide +kernel) (by decide +kernel)
theorem wd_503 : (Cond.methodLink "RedSkies" 121 yX2_takeFrom) ∈ tb := tb_in 503 (by decide +kernel) (by decide +kernel)
theorem wd_504 : (Cond.instanceMethod yX2_takeFrom) ∈ tb := tb_in 504 (by decide +kernel) (by decide +kernel)
theorem wd_505 : (Cond.selects "RedSkies$Law" yX2_takeFrom yX2_takeFrom) ∈ tb := tb_in 505 (by decide +kernel) (by decide +kernel)
theorem wd_506 : (Cond.code yX2_takeFrom prog_4_method_2_code 2 none) ∈ tb := tb_in 506 (by decide +kernel) (by decide +kernel)
theorem wd_507 : (Cond.methodLink "RedSkies$Law" 18 ⟨"java/lang/System", "arraycopy", "(Ljava/lang/Object;ILjava/lang/Object;II)V"⟩) ∈ tb := tb_in 507 (by decide +kernel) (by decide +kernel)
theorem wd_508 : (Cond.methodLink "RedSkiesLaw" 42 yX9_pigment) ∈ tb := tb_in 508 (by decide +kernel) (by decide +kernel)
theorem wd_509 : (Cond.instanceMethod yX9_pigment) ∈ tb := tb_in 509 (by decide +kernel) (by decide +kernel)
theorem wd_510 : (Cond.selects "RedSkies" yX9_pigment yX9_pigment) ∈ tb := tb_in 510 (by decide +kernel) (by decide +kernel)
theorem wd_511 : (Cond.code yX9_pigment prog_1_method_8_code 3 (some FieldType.int)) ∈ tb := tb_in 511 (by decide +kernel) (by decide +kernel)
theorem wd_512 : (Cond.methodLink "RedSkies" 126 yX9_isWithin) ∈ tb := tb_in 512 (by decide +kernel) (by decide +kernel)
theorem wd_513 : (Cond.static yX9_isWithin) ∈ tb := tb_in 513 (by decide +kernel) (by decide +kernel)
theorem wd_514 : (Cond.code yX9_isWithin prog_1_method_31_code 2 (some FieldType.boolean)) ∈ tb := tb_in 514 (by decide +kernel) (by decide +kernel)
theorem wd_515 : (Cond.methodLink "RedSkiesLaw" 47 yX9_picture) ∈ tb := tb_in 515 (by decide +kernel) (by decide +kernel)
theorem wd_516 : (Cond.instanceMethod yX9_picture) ∈ tb := tb_in 516 (by decide +kernel) (by decide +kernel)
theorem wd_517 : (Cond.selects "RedSkies" yX9_picture yX9_picture) ∈ tb := tb_in 517 (by decide +kernel) (by decide +kernel)
theorem wd_518 : (Cond.code yX9_picture prog_1_method_9_code 7 (some FieldType.int)) ∈ tb := tb_in 518 (by decide +kernel) (by decide +kernel)
theorem wd_519 : (Cond.methodLink "RedSkies" 133 yX9_isLamp) ∈ tb := tb_in 519 (by decide +kernel) (by decide +kernel)
theorem wd_521 : (Cond.instanceMethod yX9_isLamp) ∈ tb := tb_in 521 (by decide +kernel) (by decide +kernel)
theorem wd_522 : (Cond.code yX9_isLamp prog_1_method_32_code 2 (some FieldType.boolean)) ∈ tb := tb_in 522 (by decide +kernel) (by decide +kernel)
theorem wd_523 : (Cond.methodLink "RedSkies" 137 yX9_isPigment) ∈ tb := tb_in 523 (by decide +kernel) (by decide +kernel)
theorem wd_525 : (Cond.instanceMethod yX9_isPigment) ∈ tb := tb_in 525 (by decide +kernel) (by decide +kernel)
theorem wd_526 : (Cond.code yX9_isPigment prog_1_method_33_code 2 (some FieldType.boolean)) ∈ tb := tb_in 526 (by decide +kernel) (by decide +kernel)
theorem wd_527 : (Cond.methodLink "RedSkies" 140 yX8_hang) ∈ tb := tb_in 527 (by decide +kernel) (by decide +kernel)
theorem wd_528 : (Cond.instanceMethod yX8_hang) ∈ tb := tb_in 528 (by decide +kernel) (by decide +kernel)
theorem wd_529 : (Cond.selects "RedSkies$Show" yX8_hang yX8_hang) ∈ tb := tb_in 529 (by decide +kernel) (by decide +kernel)
theorem wd_530 : (Cond.code yX8_hang prog_10_method_4_code 8 (some FieldType.int)) ∈ tb := tb_in 530 (by decide +kernel) (by decide +kernel)
theorem wd_532 : (Cond.static yX9_isOfKind) ∈ tb := tb_in 532 (by decide +kernel) (by decide +kernel)
theorem wd_533 : (Cond.code yX9_isOfKind prog_1_method_35_code 2 (some FieldType.boolean)) ∈ tb := tb_in 533 (by decide +kernel) (by decide +kernel)
theorem wd_534 : (Cond.methodLink "RedSkiesLaw" 52 yX9_colour) ∈ tb := tb_in 534 (by decide +kernel) (by decide +kernel)
theorem wd_535 : (Cond.instanceMethod yX9_colour) ∈ tb := tb_in 535 (by decide +kernel) (by decide +kernel)
theorem wd_536 : (Cond.selects "RedSkies" yX9_colour yX9_colour) ∈ tb := tb_in 536 (by decide +kernel) (by decide +kernel)
theorem wd_537 : (Cond.code yX9_colour prog_1_method_10_code 7 (some FieldType.int)) ∈ tb := tb_in 537 (by decide +kernel) (by decide +kernel)
theorem wd_538 : (Cond.methodLink "RedSkies" 144 yX8_has) ∈ tb := tb_in 538 (by decide +kernel) (by decide +kernel)
theorem wd_539 : (Cond.instanceMethod yX8_has) ∈ tb := tb_in 539 (by decide +kernel) (by decide +kernel)
theorem wd_540 : (Cond.selects "RedSkies$Show" yX8_has yX8_has) ∈ tb := tb_in 540 (by decide +kernel) (by decide +kernel)
theorem wd_541 : (Cond.code yX8_has prog_10_method_3_code 2 (some FieldType.boolean)) ∈ tb := tb_in 541 (by decide +kernel) (by decide +kernel)
theorem wd_542 : (Cond.methodLink "RedSkiesLaw" 57 yX9_as) ∈ tb := tb_in 542 (by decide +kernel) (by decide +kernel)
theorem wd_543 : (Cond.instanceMethod yX9_as) ∈ tb := tb_in 543 (by decide +kernel) (by decide +kernel)
theorem wd_544 : (Cond.selects "RedSkies" yX9_as yX9_as) ∈ tb := tb_in 544 (by decide +kernel) (by decide +kernel)
theorem wd_545 : (Cond.code yX9_as prog_1_method_11_code 3 (some FieldType.int)) ∈ tb := tb_in 545 (by decide +kernel) (by decide +kernel)
theorem wd_546 : (Cond.methodLink "RedSkies" 153 yX9_isOfKind) ∈ tb := tb_in 546 (by decide +kernel) (by decide +kernel)
theorem wd_547 : (Cond.methodLink "RedSkiesLaw" 61 yX9_about) ∈ tb := tb_in 547 (by decide +kernel) (by decide +kernel)
theorem wd_548 : (Cond.instanceMethod yX9_about) ∈ tb := tb_in 548 (by decide +kernel) (by decide +kernel)
theorem wd_549 : (Cond.selects "RedSkies" yX9_about yX9_about) ∈ tb := tb_in 549 (by decide +kernel) (by decide +kernel)
theorem wd_550 : (Cond.code yX9_about prog_1_method_12_code 3 (some FieldType.int)) ∈ tb := tb_in 550 (by decide +kernel) (by decide +kernel)
theorem wd_551 : (Cond.methodLink "RedSkies" 156 yX9_putRight) ∈ tb := tb_in 551 (by decide +kernel) (by decide +kernel)
theorem wd_553 : (Cond.instanceMethod yX9_putRight) ∈ tb := tb_in 553 (by decide +kernel) (by decide +kernel)
theorem wd_554 : (Cond.code yX9_putRight prog_1_method_36_code 8 (some FieldType.int)) ∈ tb := tb_in 554 (by decide +kernel) (by decide +kernel)
theorem wd_555 : (Cond.methodLink "RedSkies" 272 yJ9_min_7cf53) ∈ tb := tb_in 555 (by decide +kernel) (by decide +kernel)
theorem wd_556 : (Cond.static yJ9_min_7cf53) ∈ tb := tb_in 556 (by decide +kernel) (by decide +kernel)
theorem wd_557 : (Cond.code yJ9_min_7cf53 prog_14_method_69_code 2 (some FieldType.int)) ∈ tb := tb_in 557 (by decide +kernel) (by decide +kernel)
theorem wd_558 : (Cond.methodLink "RedSkies" 264 yJ9_max_7cf53) ∈ tb := tb_in 558 (by decide +kernel) (by decide +kernel)
theorem wd_559 : (Cond.static yJ9_max_7cf53) ∈ tb := tb_in 559 (by decide +kernel) (by decide +kernel)
theorem wd_560 : (Cond.code yJ9_max_7cf53 prog_14_method_65_code 2 (some FieldType.int)) ∈ tb := tb_in 560 (by decide +kernel) (by decide +kernel)
theorem wd_561 : (Cond.methodLink "RedSkiesLaw" 65 yX9_value) ∈ tb := tb_in 561 (by decide +kernel) (by decide +kernel)
theorem wd_562 : (Cond.instanceMethod yX9_value) ∈ tb := tb_in 562 (by decide +kernel) (by decide +kernel)
theorem wd_563 : (Cond.selects "RedSkies" yX9_value yX9_value) ∈ tb := tb_in 563 (by decide +kernel) (by decide +kernel)
theorem wd_564 : (Cond.code yX9_value prog_1_method_13_code 3 (some FieldType.int)) ∈ tb := tb_in 564 (by decide +kernel) (by decide +kernel)
theorem wd_565 : (Cond.methodLink "RedSkies" 160 yX9_isMeasure) ∈ tb := tb_in 565 (by decide +kernel) (by decide +kernel)
theorem wd_567 : (Cond.instanceMethod yX9_isMeasure) ∈ tb := tb_in 567 (by decide +kernel) (by decide +kernel)
theorem wd_568 : (Cond.code yX9_isMeasure prog_1_method_34_code 2 (some FieldType.boolean)) ∈ tb := tb_in 568 (by decide +kernel) (by decide +kernel)
theorem wd_569 : (Cond.methodLink "RedSkies" 163 yX9_valueOf) ∈ tb := tb_in 569 (by decide +kernel) (by decide +kernel)
theorem wd_571 : (Cond.instanceMethod yX9_valueOf) ∈ tb := tb_in 571 (by decide +kernel) (by decide +kernel)
theorem wd_572 : (Cond.code yX9_valueOf prog_1_method_37_code 8 (some FieldType.int)) ∈ tb := tb_in 572 (by decide +kernel) (by decide +kernel)
theorem wd_573 : (Cond.methodLink "RedSkiesLaw" 69 yX9_mountain) ∈ tb := tb_in 573 (by decide +kernel) (by decide +kernel)
theorem wd_574 : (Cond.instanceMethod yX9_mountain) ∈ tb := tb_in 574 (by decide +kernel) (by decide +kernel)
theorem wd_575 : (Cond.selects "RedSkies" yX9_mountain yX9_mountain) ∈ tb := tb_in 575 (by decide +kernel) (by decide +kernel)
theorem wd_576 : (Cond.code yX9_mountain prog_1_method_14_code 2 (some FieldType.int)) ∈ tb := tb_in 576 (by decide +kernel) (by decide +kernel)
theorem wd_577 : (Cond.methodLink "RedSkiesLaw" 73 yX9_near) ∈ tb := tb_in 577 (by decide +kernel) (by decide +kernel)
theorem wd_578 : (Cond.instanceMethod yX9_near) ∈ tb := tb_in 578 (by decide +kernel) (by decide +kernel)
theorem wd_579 : (Cond.selects "RedSkies" yX9_near yX9_near) ∈ tb := tb_in 579 (by decide +kernel) (by decide +kernel)
theorem wd_580 : (Cond.code yX9_near prog_1_method_15_code 3 (some FieldType.int)) ∈ tb := tb_in 580 (by decide +kernel) (by decide +kernel)
theorem wd_581 : (Cond.methodLink "RedSkies" 172 yX9_nearness) ∈ tb := tb_in 581 (by decide +kernel) (by decide +kernel)
theorem wd_583 : (Cond.instanceMethod yX9_nearness) ∈ tb := tb_in 583 (by decide +kernel) (by decide +kernel)
theorem wd_584 : (Cond.code yX9_nearness prog_1_method_38_code 3 (some FieldType.int)) ∈ tb := tb_in 584 (by decide +kernel) (by decide +kernel)
theorem wd_585 : (Cond.methodLink "RedSkies" 314 yX8_isCounted) ∈ tb := tb_in 585 (by decide +kernel) (by decide +kernel)
theorem wd_586 : (Cond.instanceMethod yX8_isCounted) ∈ tb := tb_in 586 (by decide +kernel) (by decide +kernel)
theorem wd_587 : (Cond.selects "RedSkies$Show" yX8_isCounted yX8_isCounted) ∈ tb := tb_in 587 (by decide +kernel) (by decide +kernel)
theorem wd_588 : (Cond.code yX8_isCounted prog_10_method_5_code 2 (some FieldType.boolean)) ∈ tb := tb_in 588 (by decide +kernel) (by decide +kernel)
theorem wd_589 : (Cond.methodLink "RedSkies" 317 yX8_isNear) ∈ tb := tb_in 589 (by decide +kernel) (by decide +kernel)
theorem wd_590 : (Cond.instanceMethod yX8_isNear) ∈ tb := tb_in 590 (by decide +kernel) (by decide +kernel)
theorem wd_591 : (Cond.selects "RedSkies$Show" yX8_isNear yX8_isNear) ∈ tb := tb_in 591 (by decide +kernel) (by decide +kernel)
theorem wd_592 : (Cond.code yX8_isNear prog_10_method_6_code 6 (some FieldType.boolean)) ∈ tb := tb_in 592 (by decide +kernel) (by decide +kernel)
theorem wd_593 : (Cond.methodLink "RedSkiesLaw" 77 yX9_paint) ∈ tb := tb_in 593 (by decide +kernel) (by decide +kernel)
theorem wd_594 : (Cond.instanceMethod yX9_paint) ∈ tb := tb_in 594 (by decide +kernel) (by decide +kernel)
theorem wd_595 : (Cond.selects "RedSkies" yX9_paint yX9_paint) ∈ tb := tb_in 595 (by decide +kernel) (by decide +kernel)
theorem wd_596 : (Cond.code yX9_paint prog_1_method_16_code 5 (some FieldType.int)) ∈ tb := tb_in 596 (by decide +kernel) (by decide +kernel)
theorem wd_597 : (Cond.methodLink "RedSkies" 179 yX6_paintOne) ∈ tb := tb_in 597 (by decide +kernel) (by decide +kernel)
theorem wd_598 : (Cond.instanceMethod yX6_paintOne) ∈ tb := tb_in 598 (by decide +kernel) (by decide +kernel)
theorem wd_599 : (Cond.selects "RedSkies$Painter" yX6_paintOne yX6_paintOne) ∈ tb := tb_in 599 (by decide +kernel) (by decide +kernel)
theorem wd_600 : (Cond.code yX6_paintOne prog_8_method_3_code 9 none) ∈ tb := tb_in 600 (by decide +kernel) (by decide +kernel)
theorem wd_601 : (Cond.methodLink "RedSkies$Painter" 23 yX6_draw) ∈ tb := tb_in 601 (by decide +kernel) (by decide +kernel)
theorem wd_603 : (Cond.instanceMethod yX6_draw) ∈ tb := tb_in 603 (by decide +kernel) (by decide +kernel)
theorem wd_604 : (Cond.code yX6_draw prog_8_method_2_code 2 (some FieldType.int)) ∈ tb := tb_in 604 (by decide +kernel) (by decide +kernel)
theorem wd_605 : (Cond.constantLong "RedSkies$Painter" 11 (1103515245 : Int64)) ∈ tb := tb_in 605 (by decide +kernel) (by decide +kernel)
theorem wd_606 : (Cond.constantLong "RedSkies$Painter" 17 (12345 : Int64)) ∈ tb := tb_in 606 (by decide +kernel) (by decide +kernel)
theorem wd_607 : (Cond.constantLong "RedSkies$Painter" 19 (2147483648 : Int64)) ∈ tb := tb_in 607 (by decide +kernel) (by decide +kernel)
theorem wd_608 : (Cond.constantLong "RedSkies$Painter" 21 (65536 : Int64)) ∈ tb := tb_in 608 (by decide +kernel) (by decide +kernel)
theorem wd_609 : (Cond.methodLink "RedSkies$Painter" 27 yX8_hang) ∈ tb := tb_in 609 (by decide +kernel) (by decide +kernel)
theorem wd_610 : (Cond.methodLink "RedSkies$Painter" 33 yX8_has) ∈ tb := tb_in 610 (by decide +kernel) (by decide +kernel)
theorem wd_611 : (Cond.methodLink "RedSkies$Painter" 37 yX8_isNear) ∈ tb := tb_in 611 (by decide +kernel) (by decide +kernel)
theorem wd_612 : (Cond.methodLink "RedSkiesLaw" 82 yX9_stat) ∈ tb := tb_in 612 (by decide +kernel) (by decide +kernel)
theorem wd_613 : (Cond.instanceMethod yX9_stat) ∈ tb := tb_in 613 (by decide +kernel) (by decide +kernel)
theorem wd_614 : (Cond.selects "RedSkies" yX9_stat yX9_stat) ∈ tb := tb_in 614 (by decide +kernel) (by decide +kernel)
theorem wd_615 : (Cond.code yX9_stat prog_1_method_17_code 3 (some FieldType.int)) ∈ tb := tb_in 615 (by decide +kernel) (by decide +kernel)
theorem wd_616 : (Cond.methodLink "RedSkies" 186 yX9_layOut) ∈ tb := tb_in 616 (by decide +kernel) (by decide +kernel)
theorem wd_618 : (Cond.instanceMethod yX9_layOut) ∈ tb := tb_in 618 (by decide +kernel) (by decide +kernel)
theorem wd_619 : (Cond.code yX9_layOut prog_1_method_39_code 3 none) ∈ tb := tb_in 619 (by decide +kernel) (by decide +kernel)
theorem wd_620 : (Cond.methodLink "RedSkies" 190 yX8_counted) ∈ tb := tb_in 620 (by decide +kernel) (by decide +kernel)
theorem wd_621 : (Cond.instanceMethod yX8_counted) ∈ tb := tb_in 621 (by decide +kernel) (by decide +kernel)
theorem wd_622 : (Cond.selects "RedSkies$Show" yX8_counted yX8_counted) ∈ tb := tb_in 622 (by decide +kernel) (by decide +kernel)
theorem wd_623 : (Cond.code yX8_counted prog_10_method_7_code 3 (some FieldType.int)) ∈ tb := tb_in 623 (by decide +kernel) (by decide +kernel)
theorem wd_624 : (Cond.methodLink "RedSkies$Show" 55 yX8_isCounted) ∈ tb := tb_in 624 (by decide +kernel) (by decide +kernel)
theorem wd_625 : (Cond.methodLink "RedSkies" 194 yX8_nearOnes) ∈ tb := tb_in 625 (by decide +kernel) (by decide +kernel)
theorem wd_626 : (Cond.instanceMethod yX8_nearOnes) ∈ tb := tb_in 626 (by decide +kernel) (by decide +kernel)
theorem wd_627 : (Cond.selects "RedSkies$Show" yX8_nearOnes yX8_nearOnes) ∈ tb := tb_in 627 (by decide +kernel) (by decide +kernel)
theorem wd_628 : (Cond.code yX8_nearOnes prog_10_method_8_code 4 (some FieldType.int)) ∈ tb := tb_in 628 (by decide +kernel) (by decide +kernel)
theorem wd_629 : (Cond.methodLink "RedSkies$Show" 59 yX8_isNear) ∈ tb := tb_in 629 (by decide +kernel) (by decide +kernel)
theorem wd_630 : (Cond.methodLink "RedSkies" 198 yX0_pairs) ∈ tb := tb_in 630 (by decide +kernel) (by decide +kernel)
theorem wd_631 : (Cond.instanceMethod yX0_pairs) ∈ tb := tb_in 631 (by decide +kernel) (by decide +kernel)
theorem wd_632 : (Cond.selects "RedSkies$Dealing" yX0_pairs yX0_pairs) ∈ tb := tb_in 632 (by decide +kernel) (by decide +kernel)
theorem wd_633 : (Cond.code yX0_pairs prog_2_method_2_code 5 (some FieldType.int)) ∈ tb := tb_in 633 (by decide +kernel) (by decide +kernel)
theorem wd_634 : (Cond.methodLink "RedSkies$Dealing" 23 yX0_holds) ∈ tb := tb_in 634 (by decide +kernel) (by decide +kernel)
theorem wd_635 : (Cond.static yX0_holds) ∈ tb := tb_in 635 (by decide +kernel) (by decide +kernel)
theorem wd_636 : (Cond.code yX0_holds prog_2_method_9_code 2 (some FieldType.boolean)) ∈ tb := tb_in 636 (by decide +kernel) (by decide +kernel)
theorem wd_637 : (Cond.methodLink "RedSkies$Dealing" 27 yX0_against) ∈ tb := tb_in 637 (by decide +kernel) (by decide +kernel)
theorem wd_639 : (Cond.instanceMethod yX0_against) ∈ tb := tb_in 639 (by decide +kernel) (by decide +kernel)
theorem wd_640 : (Cond.code yX0_against prog_2_method_11_code 5 (some FieldType.int)) ∈ tb := tb_in 640 (by decide +kernel) (by decide +kernel)
theorem wd_641 : (Cond.methodLink "RedSkiesLaw" 86 yX9_odds) ∈ tb := tb_in 641 (by decide +kernel) (by decide +kernel)
theorem wd_642 : (Cond.instanceMethod yX9_odds) ∈ tb := tb_in 642 (by decide +kernel) (by decide +kernel)
theorem wd_643 : (Cond.selects "RedSkies" yX9_odds yX9_odds) ∈ tb := tb_in 643 (by decide +kernel) (by decide +kernel)
theorem wd_644 : (Cond.code yX9_odds prog_1_method_18_code 4 (some FieldType.long)) ∈ tb := tb_in 644 (by decide +kernel) (by decide +kernel)
theorem wd_645 : (Cond.constantLong "RedSkies" 201 (-101 : Int64)) ∈ tb := tb_in 645 (by decide +kernel) (by decide +kernel)
theorem wd_646 : (Cond.constantLong "RedSkies" 203 (-102 : Int64)) ∈ tb := tb_in 646 (by decide +kernel) (by decide +kernel)
theorem wd_647 : (Cond.methodLink "RedSkies" 205 yX0_deal) ∈ tb := tb_in 647 (by decide +kernel) (by decide +kernel)
theorem wd_648 : (Cond.instanceMethod yX0_deal) ∈ tb := tb_in 648 (by decide +kernel) (by decide +kernel)
theorem wd_649 : (Cond.selects "RedSkies$Dealing" yX0_deal yX0_deal) ∈ tb := tb_in 649 (by decide +kernel) (by decide +kernel)
theorem wd_650 : (Cond.code yX0_deal prog_2_method_3_code 4 none) ∈ tb := tb_in 650 (by decide +kernel) (by decide +kernel)
theorem wd_651 : (Cond.methodLink "RedSkies$Dealing" 31 yJ7_fill_53178) ∈ tb := tb_in 651 (by decide +kernel) (by decide +kernel)
theorem wd_652 : (Cond.methodLink "RedSkies$Dealing" 41 yX0_pairs) ∈ tb := tb_in 652 (by decide +kernel) (by decide +kernel)
theorem wd_653 : (Cond.methodLink "RedSkies$Dealing" 47 yX0_ofHand) ∈ tb := tb_in 653 (by decide +kernel) (by decide +kernel)
theorem wd_655 : (Cond.instanceMethod yX0_ofHand) ∈ tb := tb_in 655 (by decide +kernel) (by decide +kernel)
theorem wd_656 : (Cond.code yX0_ofHand prog_2_method_10_code 5 (some FieldType.int)) ∈ tb := tb_in 656 (by decide +kernel) (by decide +kernel)
theorem wd_657 : (Cond.methodLink "RedSkies$Dealing" 50 yX0_dealHand) ∈ tb := tb_in 657 (by decide +kernel) (by decide +kernel)
theorem wd_659 : (Cond.instanceMethod yX0_dealHand) ∈ tb := tb_in 659 (by decide +kernel) (by decide +kernel)
theorem wd_660 : (Cond.code yX0_dealHand prog_2_method_12_code 8 none) ∈ tb := tb_in 660 (by decide +kernel) (by decide +kernel)
theorem wd_661 : (Cond.methodLink "RedSkies$Dealing" 83 yJ6_bitCount_0f7a4) ∈ tb := tb_in 661 (by decide +kernel) (by decide +kernel)
theorem wd_662 : (Cond.static yJ6_bitCount_0f7a4) ∈ tb := tb_in 662 (by decide +kernel) (by decide +kernel)
theorem wd_663 : (Cond.code yJ6_bitCount_0f7a4 prog_13_method_49_code 1 (some FieldType.int)) ∈ tb := tb_in 663 (by decide +kernel) (by decide +kernel)
theorem wd_664 : (Cond.constant "java/lang/Integer" 265 (1431655765 : Int32)) ∈ tb := tb_in 664 (by decide +kernel) (by decide +kernel)
theorem wd_665 : (Cond.constant "java/lang/Integer" 266 (858993459 : Int32)) ∈ tb := tb_in 665 (by decide +kernel) (by decide +kernel)
theorem wd_666 : (Cond.constant "java/lang/Integer" 267 (252645135 : Int32)) ∈ tb := tb_in 666 (by decide +kernel) (by decide +kernel)
theorem wd_667 : (Cond.methodLink "RedSkies$Dealing" 89 yJ9_min_7cf53) ∈ tb := tb_in 667 (by decide +kernel) (by decide +kernel)
theorem wd_668 : (Cond.methodLink "RedSkies$Dealing" 92 yX0_addToChoices) ∈ tb := tb_in 668 (by decide +kernel) (by decide +kernel)
theorem wd_670 : (Cond.instanceMethod yX0_addToChoices) ∈ tb := tb_in 670 (by decide +kernel) (by decide +kernel)
theorem wd_671 : (Cond.code yX0_addToChoices prog_2_method_13_code 8 none) ∈ tb := tb_in 671 (by decide +kernel) (by decide +kernel)
theorem wd_672 : (Cond.methodLink "RedSkies$Dealing" 95 ⟨"java/lang/System", "arraycopy", "(Ljava/lang/Object;ILjava/lang/Object;II)V"⟩) ∈ tb := tb_in 672 (by decide +kernel) (by decide +kernel)
theorem wd_673 : (Cond.methodLink "RedSkies" 215 yX9_inLowestTerms) ∈ tb := tb_in 673 (by decide +kernel) (by decide +kernel)
theorem wd_674 : (Cond.static yX9_inLowestTerms) ∈ tb := tb_in 674 (by decide +kernel) (by decide +kernel)
theorem wd_675 : (Cond.code yX9_inLowestTerms prog_1_method_42_code 12 (some FieldType.long)) ∈ tb := tb_in 675 (by decide +kernel) (by decide +kernel)
theorem wd_676 : (Cond.methodLink "RedSkiesLaw" 91 yX9_paid) ∈ tb := tb_in 676 (by decide +kernel) (by decide +kernel)
theorem wd_677 : (Cond.instanceMethod yX9_paid) ∈ tb := tb_in 677 (by decide +kernel) (by decide +kernel)
theorem wd_678 : (Cond.selects "RedSkies" yX9_paid yX9_paid) ∈ tb := tb_in 678 (by decide +kernel) (by decide +kernel)
theorem wd_679 : (Cond.code yX9_paid prog_1_method_19_code 5 (some FieldType.long)) ∈ tb := tb_in 679 (by decide +kernel) (by decide +kernel)
theorem wd_680 : (Cond.constantLong "RedSkies" 219 (-103 : Int64)) ∈ tb := tb_in 680 (by decide +kernel) (by decide +kernel)
theorem wd_681 : (Cond.methodLink "RedSkies" 221 yX0_forgetLeast) ∈ tb := tb_in 681 (by decide +kernel) (by decide +kernel)
theorem wd_682 : (Cond.instanceMethod yX0_forgetLeast) ∈ tb := tb_in 682 (by decide +kernel) (by decide +kernel)
theorem wd_683 : (Cond.selects "RedSkies$Dealing" yX0_forgetLeast yX0_forgetLeast) ∈ tb := tb_in 683 (by decide +kernel) (by decide +kernel)
theorem wd_684 : (Cond.code yX0_forgetLeast prog_2_method_4_code 1 none) ∈ tb := tb_in 684 (by decide +kernel) (by decide +kernel)
theorem wd_685 : (Cond.methodLink "RedSkies" 224 yX9_dealByWindows) ∈ tb := tb_in 685 (by decide +kernel) (by decide +kernel)
theorem wd_687 : (Cond.instanceMethod yX9_dealByWindows) ∈ tb := tb_in 687 (by decide +kernel) (by decide +kernel)
theorem wd_688 : (Cond.code yX9_dealByWindows prog_1_method_40_code 7 none) ∈ tb := tb_in 688 (by decide +kernel) (by decide +kernel)
theorem wd_689 : (Cond.methodLink "RedSkies" 326 yX0_keepLeast) ∈ tb := tb_in 689 (by decide +kernel) (by decide +kernel)
theorem wd_690 : (Cond.instanceMethod yX0_keepLeast) ∈ tb := tb_in 690 (by decide +kernel) (by decide +kernel)
theorem wd_691 : (Cond.selects "RedSkies$Dealing" yX0_keepLeast yX0_keepLeast) ∈ tb := tb_in 691 (by decide +kernel) (by decide +kernel)
theorem wd_692 : (Cond.code yX0_keepLeast prog_2_method_5_code 1 none) ∈ tb := tb_in 692 (by decide +kernel) (by decide +kernel)
theorem wd_693 : (Cond.methodLink "RedSkiesLaw" 96 yX9_hangs) ∈ tb := tb_in 693 (by decide +kernel) (by decide +kernel)
theorem wd_694 : (Cond.instanceMethod yX9_hangs) ∈ tb := tb_in 694 (by decide +kernel) (by decide +kernel)
theorem wd_695 : (Cond.selects "RedSkies" yX9_hangs yX9_hangs) ∈ tb := tb_in 695 (by decide +kernel) (by decide +kernel)
theorem wd_696 : (Cond.code yX9_hangs prog_1_method_20_code 4 (some FieldType.int)) ∈ tb := tb_in 696 (by decide +kernel) (by decide +kernel)
theorem wd_697 : (Cond.methodLink "RedSkies" 233 yX9_refusalToLook) ∈ tb := tb_in 697 (by decide +kernel) (by decide +kernel)
theorem wd_699 : (Cond.instanceMethod yX9_refusalToLook) ∈ tb := tb_in 699 (by decide +kernel) (by decide +kernel)
theorem wd_700 : (Cond.code yX9_refusalToLook prog_1_method_41_code 3 (some FieldType.int)) ∈ tb := tb_in 700 (by decide +kernel) (by decide +kernel)
theorem wd_701 : (Cond.methodLink "RedSkies" 239 yX0_heaviest) ∈ tb := tb_in 701 (by decide +kernel) (by decide +kernel)
theorem wd_702 : (Cond.instanceMethod yX0_heaviest) ∈ tb := tb_in 702 (by decide +kernel) (by decide +kernel)
theorem wd_703 : (Cond.selects "RedSkies$Dealing" yX0_heaviest yX0_heaviest) ∈ tb := tb_in 703 (by decide +kernel) (by decide +kernel)
theorem wd_704 : (Cond.code yX0_heaviest prog_2_method_6_code 10 (some FieldType.int)) ∈ tb := tb_in 704 (by decide +kernel) (by decide +kernel)
theorem wd_705 : (Cond.methodLink "RedSkies$Dealing" 67 yX0_deal) ∈ tb := tb_in 705 (by decide +kernel) (by decide +kernel)
theorem wd_706 : (Cond.methodLink "RedSkiesLaw" 100 yX9_next) ∈ tb := tb_in 706 (by decide +kernel) (by decide +kernel)
theorem wd_707 : (Cond.instanceMethod yX9_next) ∈ tb := tb_in 707 (by decide +kernel) (by decide +kernel)
theorem wd_708 : (Cond.selects "RedSkies" yX9_next yX9_next) ∈ tb := tb_in 708 (by decide +kernel) (by decide +kernel)
theorem wd_709 : (Cond.code yX9_next prog_1_method_21_code 4 (some FieldType.int)) ∈ tb := tb_in 709 (by decide +kernel) (by decide +kernel)
theorem wd_710 : (Cond.methodLink "RedSkies" 242 yX0_mostOpen) ∈ tb := tb_in 710 (by decide +kernel) (by decide +kernel)
theorem wd_711 : (Cond.instanceMethod yX0_mostOpen) ∈ tb := tb_in 711 (by decide +kernel) (by decide +kernel)
theorem wd_712 : (Cond.selects "RedSkies$Dealing" yX0_mostOpen yX0_mostOpen) ∈ tb := tb_in 712 (by decide +kernel) (by decide +kernel)
theorem wd_713 : (Cond.code yX0_mostOpen prog_2_method_7_code 9 (some FieldType.int)) ∈ tb := tb_in 713 (by decide +kernel) (by decide +kernel)
theorem wd_714 : (Cond.constantLong "RedSkies$Dealing" 70 (-1 : Int64)) ∈ tb := tb_in 714 (by decide +kernel) (by decide +kernel)
theorem wd_715 : (Cond.methodLink "RedSkies$Dealing" 72 yX0_aboveWith) ∈ tb := tb_in 715 (by decide +kernel) (by decide +kernel)
theorem wd_717 : (Cond.instanceMethod yX0_aboveWith) ∈ tb := tb_in 717 (by decide +kernel) (by decide +kernel)
theorem wd_718 : (Cond.code yX0_aboveWith prog_2_method_8_code 6 (some FieldType.long)) ∈ tb := tb_in 718 (by decide +kernel) (by decide +kernel)
theorem wd_719 : (Cond.constant "RedSkies$Dealing" 76 (1000000 : Int32)) ∈ tb := tb_in 719 (by decide +kernel) (by decide +kernel)
theorem wd_720 : (Cond.methodLink "RedSkies$Dealing" 77 yJ9_abs_067f4) ∈ tb := tb_in 720 (by decide +kernel) (by decide +kernel)
theorem wd_721 : (Cond.static yJ9_abs_067f4) ∈ tb := tb_in 721 (by decide +kernel) (by decide +kernel)
theorem wd_722 : (Cond.code yJ9_abs_067f4 prog_14_method_61_code 2 (some FieldType.long)) ∈ tb := tb_in 722 (by decide +kernel) (by decide +kernel)
theorem wd_723 : (Cond.methodLink "RedSkiesLaw" 104 yX9_ice) ∈ tb := tb_in 723 (by decide +kernel) (by decide +kernel)
theorem wd_724 : (Cond.instanceMethod yX9_ice) ∈ tb := tb_in 724 (by decide +kernel) (by decide +kernel)
theorem wd_725 : (Cond.selects "RedSkies" yX9_ice yX9_ice) ∈ tb := tb_in 725 (by decide +kernel) (by decide +kernel)
theorem wd_726 : (Cond.code yX9_ice prog_1_method_22_code 4 (some FieldType.int)) ∈ tb := tb_in 726 (by decide +kernel) (by decide +kernel)
theorem wd_727 : (Cond.methodLink "RedSkies" 245 yX8_forgetIce) ∈ tb := tb_in 727 (by decide +kernel) (by decide +kernel)
theorem wd_728 : (Cond.instanceMethod yX8_forgetIce) ∈ tb := tb_in 728 (by decide +kernel) (by decide +kernel)
theorem wd_729 : (Cond.selects "RedSkies$Show" yX8_forgetIce yX8_forgetIce) ∈ tb := tb_in 729 (by decide +kernel) (by decide +kernel)
theorem wd_730 : (Cond.code yX8_forgetIce prog_10_method_11_code 2 none) ∈ tb := tb_in 730 (by decide +kernel) (by decide +kernel)
theorem wd_731 : (Cond.methodLink "RedSkies" 254 yX8_tellIce) ∈ tb := tb_in 731 (by decide +kernel) (by decide +kernel)
theorem wd_732 : (Cond.instanceMethod yX8_tellIce) ∈ tb := tb_in 732 (by decide +kernel) (by decide +kernel)
theorem wd_733 : (Cond.selects "RedSkies$Show" yX8_tellIce yX8_tellIce) ∈ tb := tb_in 733 (by decide +kernel) (by decide +kernel)
theorem wd_734 : (Cond.code yX8_tellIce prog_10_method_10_code 4 none) ∈ tb := tb_in 734 (by decide +kernel) (by decide +kernel)
theorem wd_735 : (Cond.methodLink "RedSkiesLaw" 108 yX9_classes) ∈ tb := tb_in 735 (by decide +kernel) (by decide +kernel)
theorem wd_736 : (Cond.instanceMethod yX9_classes) ∈ tb := tb_in 736 (by decide +kernel) (by decide +kernel)
theorem wd_737 : (Cond.selects "RedSkies" yX9_classes yX9_classes) ∈ tb := tb_in 737 (by decide +kernel) (by decide +kernel)
theorem wd_738 : (Cond.code yX9_classes prog_1_method_23_code 5 (some FieldType.int)) ∈ tb := tb_in 738 (by decide +kernel) (by decide +kernel)
theorem wd_739 : (Cond.methodLink "RedSkies" 258 yX2_lowest) ∈ tb := tb_in 739 (by decide +kernel) (by decide +kernel)
theorem wd_740 : (Cond.instanceMethod yX2_lowest) ∈ tb := tb_in 740 (by decide +kernel) (by decide +kernel)
theorem wd_741 : (Cond.selects "RedSkies$Law" yX2_lowest yX2_lowest) ∈ tb := tb_in 741 (by decide +kernel) (by decide +kernel)
theorem wd_742 : (Cond.code yX2_lowest prog_4_method_3_code 2 (some FieldType.int)) ∈ tb := tb_in 742 (by decide +kernel) (by decide +kernel)
theorem wd_743 : (Cond.methodLink "RedSkies$Law" 35 yX2_classOf) ∈ tb := tb_in 743 (by decide +kernel) (by decide +kernel)
theorem wd_745 : (Cond.instanceMethod yX2_classOf) ∈ tb := tb_in 745 (by decide +kernel) (by decide +kernel)
theorem wd_746 : (Cond.code yX2_classOf prog_4_method_5_code 4 (some FieldType.int)) ∈ tb := tb_in 746 (by decide +kernel) (by decide +kernel)
theorem wd_747 : (Cond.methodLink "RedSkies" 261 yX2_highest) ∈ tb := tb_in 747 (by decide +kernel) (by decide +kernel)
theorem wd_748 : (Cond.instanceMethod yX2_highest) ∈ tb := tb_in 748 (by decide +kernel) (by decide +kernel)
theorem wd_749 : (Cond.selects "RedSkies$Law" yX2_highest yX2_highest) ∈ tb := tb_in 749 (by decide +kernel) (by decide +kernel)
theorem wd_750 : (Cond.code yX2_highest prog_4_method_4_code 2 (some FieldType.int)) ∈ tb := tb_in 750 (by decide +kernel) (by decide +kernel)
theorem wd_751 : (Cond.methodLink "RedSkiesLaw" 112 yX9_back) ∈ tb := tb_in 751 (by decide +kernel) (by decide +kernel)
theorem wd_752 : (Cond.instanceMethod yX9_back) ∈ tb := tb_in 752 (by decide +kernel) (by decide +kernel)
theorem wd_753 : (Cond.selects "RedSkies" yX9_back yX9_back) ∈ tb := tb_in 753 (by decide +kernel) (by decide +kernel)
theorem wd_754 : (Cond.code yX9_back prog_1_method_24_code 8 (some FieldType.int)) ∈ tb := tb_in 754 (by decide +kernel) (by decide +kernel)
theorem wd_755 : (Cond.methodLink "RedSkies" 275 yX8_isOfJust) ∈ tb := tb_in 755 (by decide +kernel) (by decide +kernel)
theorem wd_756 : (Cond.instanceMethod yX8_isOfJust) ∈ tb := tb_in 756 (by decide +kernel) (by decide +kernel)
theorem wd_757 : (Cond.selects "RedSkies$Show" yX8_isOfJust yX8_isOfJust) ∈ tb := tb_in 757 (by decide +kernel) (by decide +kernel)
theorem wd_758 : (Cond.code yX8_isOfJust prog_10_method_9_code 3 (some FieldType.boolean)) ∈ tb := tb_in 758 (by decide +kernel) (by decide +kernel)
theorem wd_759 : (Cond.methodLink "RedSkiesLaw" 116 yX9_dates) ∈ tb := tb_in 759 (by decide +kernel) (by decide +kernel)
theorem wd_760 : (Cond.instanceMethod yX9_dates) ∈ tb := tb_in 760 (by decide +kernel) (by decide +kernel)
theorem wd_761 : (Cond.selects "RedSkies" yX9_dates yX9_dates) ∈ tb := tb_in 761 (by decide +kernel) (by decide +kernel)
theorem wd_762 : (Cond.code yX9_dates prog_1_method_25_code 4 (some FieldType.int)) ∈ tb := tb_in 762 (by decide +kernel) (by decide +kernel)
theorem wd_763 : (Cond.methodLink "RedSkies" 278 yX9_datesOf) ∈ tb := tb_in 763 (by decide +kernel) (by decide +kernel)
theorem wd_765 : (Cond.instanceMethod yX9_datesOf) ∈ tb := tb_in 765 (by decide +kernel) (by decide +kernel)
theorem wd_766 : (Cond.code yX9_datesOf prog_1_method_43_code 14 (some FieldType.int)) ∈ tb := tb_in 766 (by decide +kernel) (by decide +kernel)
theorem wd_767 : (Cond.methodLink "RedSkies" 329 yX8_iceAllows) ∈ tb := tb_in 767 (by decide +kernel) (by decide +kernel)
theorem wd_768 : (Cond.instanceMethod yX8_iceAllows) ∈ tb := tb_in 768 (by decide +kernel) (by decide +kernel)
theorem wd_769 : (Cond.selects "RedSkies$Show" yX8_iceAllows yX8_iceAllows) ∈ tb := tb_in 769 (by decide +kernel) (by decide +kernel)
theorem wd_770 : (Cond.code yX8_iceAllows prog_10_method_12_code 4 (some FieldType.boolean)) ∈ tb := tb_in 770 (by decide +kernel) (by decide +kernel)
theorem wd_771 : (Cond.methodLink "RedSkiesLaw" 120 yX9_wrong) ∈ tb := tb_in 771 (by decide +kernel) (by decide +kernel)
theorem wd_772 : (Cond.instanceMethod yX9_wrong) ∈ tb := tb_in 772 (by decide +kernel) (by decide +kernel)
theorem wd_773 : (Cond.selects "RedSkies" yX9_wrong yX9_wrong) ∈ tb := tb_in 773 (by decide +kernel) (by decide +kernel)
theorem wd_774 : (Cond.code yX9_wrong prog_1_method_26_code 2 (some FieldType.int)) ∈ tb := tb_in 774 (by decide +kernel) (by decide +kernel)
theorem wd_775 : (Cond.methodLink "RedSkies" 282 yX9_dateless) ∈ tb := tb_in 775 (by decide +kernel) (by decide +kernel)
theorem wd_777 : (Cond.instanceMethod yX9_dateless) ∈ tb := tb_in 777 (by decide +kernel) (by decide +kernel)
theorem wd_778 : (Cond.code yX9_dateless prog_1_method_44_code 4 (some FieldType.int)) ∈ tb := tb_in 778 (by decide +kernel) (by decide +kernel)
theorem wd_779 : (Cond.methodLink "RedSkiesLaw" 124 yX9_image) ∈ tb := tb_in 779 (by decide +kernel) (by decide +kernel)
theorem wd_780 : (Cond.instanceMethod yX9_image) ∈ tb := tb_in 780 (by decide +kernel) (by decide +kernel)
theorem wd_781 : (Cond.selects "RedSkies" yX9_image yX9_image) ∈ tb := tb_in 781 (by decide +kernel) (by decide +kernel)
theorem wd_782 : (Cond.code yX9_image prog_1_method_27_code 1 (some FieldType.int)) ∈ tb := tb_in 782 (by decide +kernel) (by decide +kernel)
theorem wd_783 : (Cond.methodLink "RedSkies" 285 yX8_takeFrom) ∈ tb := tb_in 783 (by decide +kernel) (by decide +kernel)
theorem wd_784 : (Cond.instanceMethod yX8_takeFrom) ∈ tb := tb_in 784 (by decide +kernel) (by decide +kernel)
theorem wd_785 : (Cond.selects "RedSkies$Show" yX8_takeFrom yX8_takeFrom) ∈ tb := tb_in 785 (by decide +kernel) (by decide +kernel)
theorem wd_786 : (Cond.code yX8_takeFrom prog_10_method_2_code 3 none) ∈ tb := tb_in 786 (by decide +kernel) (by decide +kernel)
theorem wd_787 : (Cond.methodLink "RedSkies$Show" 39 ⟨"java/lang/System", "arraycopy", "(Ljava/lang/Object;ILjava/lang/Object;II)V"⟩) ∈ tb := tb_in 787 (by decide +kernel) (by decide +kernel)
theorem wd_788 : (Cond.methodLink "RedSkiesLaw" 128 yX9_restore) ∈ tb := tb_in 788 (by decide +kernel) (by decide +kernel)
theorem wd_789 : (Cond.instanceMethod yX9_restore) ∈ tb := tb_in 789 (by decide +kernel) (by decide +kernel)
theorem wd_790 : (Cond.selects "RedSkies" yX9_restore yX9_restore) ∈ tb := tb_in 790 (by decide +kernel) (by decide +kernel)
theorem wd_791 : (Cond.code yX9_restore prog_1_method_28_code 1 (some FieldType.int)) ∈ tb := tb_in 791 (by decide +kernel) (by decide +kernel)
theorem wd_792 : (Cond.methodLink "RedSkiesLaw" 132 yX9_count) ∈ tb := tb_in 792 (by decide +kernel) (by decide +kernel)
theorem wd_793 : (Cond.instanceMethod yX9_count) ∈ tb := tb_in 793 (by decide +kernel) (by decide +kernel)
theorem wd_794 : (Cond.selects "RedSkies" yX9_count yX9_count) ∈ tb := tb_in 794 (by decide +kernel) (by decide +kernel)
theorem wd_795 : (Cond.code yX9_count prog_1_method_29_code 2 (some FieldType.int)) ∈ tb := tb_in 795 (by decide +kernel) (by decide +kernel)
theorem wd_796 : (Cond.methodLink "RedSkies" 292 yX9_howMany) ∈ tb := tb_in 796 (by decide +kernel) (by decide +kernel)
theorem wd_798 : (Cond.instanceMethod yX9_howMany) ∈ tb := tb_in 798 (by decide +kernel) (by decide +kernel)
theorem wd_799 : (Cond.code yX9_howMany prog_1_method_45_code 2 (some FieldType.int)) ∈ tb := tb_in 799 (by decide +kernel) (by decide +kernel)
theorem wd_800 : (Cond.methodLink "RedSkiesLaw" 136 yX9_digest) ∈ tb := tb_in 800 (by decide +kernel) (by decide +kernel)
theorem wd_801 : (Cond.instanceMethod yX9_digest) ∈ tb := tb_in 801 (by decide +kernel) (by decide +kernel)
theorem wd_802 : (Cond.selects "RedSkies" yX9_digest yX9_digest) ∈ tb := tb_in 802 (by decide +kernel) (by decide +kernel)
theorem wd_803 : (Cond.code yX9_digest prog_1_method_30_code 4 (some FieldType.long)) ∈ tb := tb_in 803 (by decide +kernel) (by decide +kernel)
theorem wd_804 : (Cond.constantLong "RedSkies" 295 (421 : Int64)) ∈ tb := tb_in 804 (by decide +kernel) (by decide +kernel)
theorem wd_805 : (Cond.methodLink "RedSkies" 297 yX9_mixed) ∈ tb := tb_in 805 (by decide +kernel) (by decide +kernel)
theorem wd_806 : (Cond.static yX9_mixed) ∈ tb := tb_in 806 (by decide +kernel) (by decide +kernel)
theorem wd_807 : (Cond.code yX9_mixed prog_1_method_46_code 4 (some FieldType.long)) ∈ tb := tb_in 807 (by decide +kernel) (by decide +kernel)
theorem wd_808 : (Cond.constantLong "RedSkies" 333 (31 : Int64)) ∈ tb := tb_in 808 (by decide +kernel) (by decide +kernel)
theorem wd_809 : (Cond.methodLink "RedSkies" 301 yX9_withPictures) ∈ tb := tb_in 809 (by decide +kernel) (by decide +kernel)
theorem wd_811 : (Cond.instanceMethod yX9_withPictures) ∈ tb := tb_in 811 (by decide +kernel) (by decide +kernel)
theorem wd_812 : (Cond.code yX9_withPictures prog_1_method_47_code 7 (some FieldType.long)) ∈ tb := tb_in 812 (by decide +kernel) (by decide +kernel)
theorem wd_813 : (Cond.methodLink "RedSkies" 305 yX9_withMeasures) ∈ tb := tb_in 813 (by decide +kernel) (by decide +kernel)
theorem wd_815 : (Cond.instanceMethod yX9_withMeasures) ∈ tb := tb_in 815 (by decide +kernel) (by decide +kernel)
theorem wd_816 : (Cond.code yX9_withMeasures prog_1_method_48_code 8 (some FieldType.long)) ∈ tb := tb_in 816 (by decide +kernel) (by decide +kernel)
theorem wd_817 : (Cond.methodLink "RedSkies" 308 yX9_withIce) ∈ tb := tb_in 817 (by decide +kernel) (by decide +kernel)
theorem wd_819 : (Cond.instanceMethod yX9_withIce) ∈ tb := tb_in 819 (by decide +kernel) (by decide +kernel)
theorem wd_820 : (Cond.code yX9_withIce prog_1_method_49_code 6 (some FieldType.long)) ∈ tb := tb_in 820 (by decide +kernel) (by decide +kernel)
theorem wd_821 : (Cond.classLink "RedSkiesLaw" 10 "RedSkiesModel") ∈ tb := tb_in 821 (by decide +kernel) (by decide +kernel)
theorem wd_822 : (Cond.instantiable "RedSkiesModel" 55) ∈ tb := tb_in 822 (by decide +kernel) (by decide +kernel)
theorem wd_823 : (Cond.methodLink "RedSkiesLaw" 12 yX10_init) ∈ tb := tb_in 823 (by decide +kernel) (by decide +kernel)
theorem wd_824 : (Cond.instanceMethod yX10_init) ∈ tb := tb_in 824 (by decide +kernel) (by decide +kernel)
theorem wd_825 : (Cond.code yX10_init prog_12_method_1_code 2 none) ∈ tb := tb_in 825 (by decide +kernel) (by decide +kernel)
theorem wd_826 : (Cond.methodLink "RedSkiesModel" 1 objectInit) ∈ tb := tb_in 826 (by decide +kernel) (by decide +kernel)
theorem wd_827 : (Cond.fieldLink "RedSkiesModel" 7 "RedSkiesModel" "page" "[I") ∈ tb := tb_in 827 (by decide +kernel) (by decide +kernel)
theorem wd_828 : (Cond.fieldLink "RedSkiesModel" 104 "RedSkiesModel" "pageMany" "I") ∈ tb := tb_in 828 (by decide +kernel) (by decide +kernel)
theorem wd_829 : (Cond.fieldLink "RedSkiesModel" 107 "RedSkiesModel" "state" "I") ∈ tb := tb_in 829 (by decide +kernel) (by decide +kernel)
theorem wd_830 : (Cond.fieldLink "RedSkiesModel" 114 "RedSkiesModel" "value" "I") ∈ tb := tb_in 830 (by decide +kernel) (by decide +kernel)
theorem wd_831 : (Cond.fieldLink "RedSkiesModel" 117 "RedSkiesModel" "now" "I") ∈ tb := tb_in 831 (by decide +kernel) (by decide +kernel)
theorem wd_832 : (Cond.fieldLink "RedSkiesModel" 120 "RedSkiesModel" "sign" "I") ∈ tb := tb_in 832 (by decide +kernel) (by decide +kernel)
theorem wd_833 : (Cond.fieldLink "RedSkiesModel" 138 "RedSkiesModel" "side" "I") ∈ tb := tb_in 833 (by decide +kernel) (by decide +kernel)
theorem wd_834 : (Cond.fieldLink "RedSkiesModel" 133 "RedSkiesModel" "many" "I") ∈ tb := tb_in 834 (by decide +kernel) (by decide +kernel)
theorem wd_835 : (Cond.fieldLink "RedSkiesModel" 130 "RedSkiesModel" "last" "I") ∈ tb := tb_in 835 (by decide +kernel) (by decide +kernel)
theorem wd_836 : (Cond.fieldLink "RedSkiesModel" 13 "RedSkiesModel" "readLamp" "[I") ∈ tb := tb_in 836 (by decide +kernel) (by decide +kernel)
theorem wd_837 : (Cond.fieldLink "RedSkiesModel" 127 "RedSkiesModel" "readSeen" "I") ∈ tb := tb_in 837 (by decide +kernel) (by decide +kernel)
theorem wd_838 : (Cond.fieldLink "RedSkiesModel" 16 "RedSkiesModel" "readSums" "[I") ∈ tb := tb_in 838 (by decide +kernel) (by decide +kernel)
theorem wd_839 : (Cond.fieldLink "RedSkiesModel" 19 "RedSkiesModel" "readBounds" "[I") ∈ tb := tb_in 839 (by decide +kernel) (by decide +kernel)
theorem wd_840 : (Cond.fieldLink "RedSkiesModel" 159 "RedSkiesModel" "lamps" "I") ∈ tb := tb_in 840 (by decide +kernel) (by decide +kernel)
theorem wd_841 : (Cond.fieldLink "RedSkiesModel" 22 "RedSkiesModel" "lampRows" "[I") ∈ tb := tb_in 841 (by decide +kernel) (by decide +kernel)
theorem wd_842 : (Cond.fieldLink "RedSkiesModel" 162 "RedSkiesModel" "measures" "I") ∈ tb := tb_in 842 (by decide +kernel) (by decide +kernel)
theorem wd_843 : (Cond.fieldLink "RedSkiesModel" 25 "RedSkiesModel" "sumRows" "[I") ∈ tb := tb_in 843 (by decide +kernel) (by decide +kernel)
theorem wd_844 : (Cond.fieldLink "RedSkiesModel" 165 "RedSkiesModel" "bounds" "I") ∈ tb := tb_in 844 (by decide +kernel) (by decide +kernel)
theorem wd_845 : (Cond.fieldLink "RedSkiesModel" 28 "RedSkiesModel" "boundRow" "[I") ∈ tb := tb_in 845 (by decide +kernel) (by decide +kernel)
theorem wd_846 : (Cond.fieldLink "RedSkiesModel" 168 "RedSkiesModel" "give" "I") ∈ tb := tb_in 846 (by decide +kernel) (by decide +kernel)
theorem wd_847 : (Cond.fieldLink "RedSkiesModel" 175 "RedSkiesModel" "pigments" "I") ∈ tb := tb_in 847 (by decide +kernel) (by decide +kernel)
theorem wd_848 : (Cond.fieldLink "RedSkiesModel" 31 "RedSkiesModel" "sinces" "[I") ∈ tb := tb_in 848 (by decide +kernel) (by decide +kernel)
theorem wd_849 : (Cond.fieldLink "RedSkiesModel" 34 "RedSkiesModel" "fades" "[I") ∈ tb := tb_in 849 (by decide +kernel) (by decide +kernel)
theorem wd_850 : (Cond.fieldLink "RedSkiesModel" 178 "RedSkiesModel" "pictures" "I") ∈ tb := tb_in 850 (by decide +kernel) (by decide +kernel)
theorem wd_851 : (Cond.fieldLink "RedSkiesModel" 37 "RedSkiesModel" "rows" "[I") ∈ tb := tb_in 851 (by decide +kernel) (by decide +kernel)
theorem wd_852 : (Cond.fieldLink "RedSkiesModel" 40 "RedSkiesModel" "colours" "[I") ∈ tb := tb_in 852 (by decide +kernel) (by decide +kernel)
theorem wd_853 : (Cond.fieldLink "RedSkiesModel" 221 "RedSkiesModel" "mountains" "I") ∈ tb := tb_in 853 (by decide +kernel) (by decide +kernel)
theorem wd_854 : (Cond.fieldLink "RedSkiesModel" 43 "RedSkiesModel" "mountainAt" "[I") ∈ tb := tb_in 854 (by decide +kernel) (by decide +kernel)
theorem wd_855 : (Cond.fieldLink "RedSkiesModel" 243 "RedSkiesModel" "seedNow" "I") ∈ tb := tb_in 855 (by decide +kernel) (by decide +kernel)
theorem wd_856 : (Cond.fieldLink "RedSkiesModel" 256 "RedSkiesModel" "looked" "I") ∈ tb := tb_in 856 (by decide +kernel) (by decide +kernel)
theorem wd_857 : (Cond.fieldLink "RedSkiesModel" 46 "RedSkiesModel" "whose" "[I") ∈ tb := tb_in 857 (by decide +kernel) (by decide +kernel)
theorem wd_858 : (Cond.fieldLink "RedSkiesModel" 49 "RedSkiesModel" "values" "[I") ∈ tb := tb_in 858 (by decide +kernel) (by decide +kernel)
theorem wd_859 : (Cond.fieldLink "RedSkiesModel" 52 "RedSkiesModel" "isNearNow" "[Z") ∈ tb := tb_in 859 (by decide +kernel) (by decide +kernel)
theorem wd_860 : (Cond.fieldLink "RedSkiesModel" 56 "RedSkiesModel" "which" "[I") ∈ tb := tb_in 860 (by decide +kernel) (by decide +kernel)
theorem wd_861 : (Cond.fieldLink "RedSkiesModel" 59 "RedSkiesModel" "ways" "[J") ∈ tb := tb_in 861 (by decide +kernel) (by decide +kernel)
theorem wd_862 : (Cond.fieldLink "RedSkiesModel" 63 "RedSkiesModel" "total" "[J") ∈ tb := tb_in 862 (by decide +kernel) (by decide +kernel)
theorem wd_863 : (Cond.fieldLink "RedSkiesModel" 66 "RedSkiesModel" "before" "[J") ∈ tb := tb_in 863 (by decide +kernel) (by decide +kernel)
theorem wd_864 : (Cond.fieldLink "RedSkiesModel" 275 "RedSkiesModel" "upNow" "J") ∈ tb := tb_in 864 (by decide +kernel) (by decide +kernel)
theorem wd_865 : (Cond.fieldLink "RedSkiesModel" 279 "RedSkiesModel" "lowNow" "J") ∈ tb := tb_in 865 (by decide +kernel) (by decide +kernel)
theorem wd_866 : (Cond.fieldLink "RedSkiesModel" 302 "RedSkiesModel" "done" "I") ∈ tb := tb_in 866 (by decide +kernel) (by decide +kernel)
theorem wd_867 : (Cond.fieldLink "RedSkiesModel" 306 "RedSkiesModel" "iceYears" "I") ∈ tb := tb_in 867 (by decide +kernel) (by decide +kernel)
theorem wd_868 : (Cond.fieldLink "RedSkiesModel" 69 "RedSkiesModel" "iceLow" "[I") ∈ tb := tb_in 868 (by decide +kernel) (by decide +kernel)
theorem wd_869 : (Cond.fieldLink "RedSkiesModel" 72 "RedSkiesModel" "iceHigh" "[I") ∈ tb := tb_in 869 (by decide +kernel) (by decide +kernel)
theorem wd_870 : (Cond.fieldLink "RedSkiesModel" 318 "RedSkiesModel" "dateMany" "I") ∈ tb := tb_in 870 (by decide +kernel) (by decide +kernel)
theorem wd_871 : (Cond.fieldLink "RedSkiesModel" 321 "RedSkiesModel" "firstDate" "I") ∈ tb := tb_in 871 (by decide +kernel) (by decide +kernel)
theorem wd_872 : (Cond.fieldLink "RedSkiesModel" 324 "RedSkiesModel" "lastDate" "I") ∈ tb := tb_in 872 (by decide +kernel) (by decide +kernel)
theorem wd_873 : (Cond.fieldLink "RedSkiesModel" 90 "RedSkiesModel" "kept" "I") ∈ tb := tb_in 873 (by decide +kernel) (by decide +kernel)
theorem wd_874 : (Cond.fieldLink "RedSkiesModel" 337 "RedSkiesModel" "keptMountains" "I") ∈ tb := tb_in 874 (by decide +kernel) (by decide +kernel)
theorem wd_875 : (Cond.fieldLink "RedSkiesModel" 340 "RedSkiesModel" "keptYears" "I") ∈ tb := tb_in 875 (by decide +kernel) (by decide +kernel)
theorem wd_876 : (Cond.fieldLink "RedSkiesModel" 75 "RedSkiesModel" "keptRows" "[I") ∈ tb := tb_in 876 (by decide +kernel) (by decide +kernel)
theorem wd_877 : (Cond.fieldLink "RedSkiesModel" 78 "RedSkiesModel" "keptColours" "[I") ∈ tb := tb_in 877 (by decide +kernel) (by decide +kernel)
theorem wd_878 : (Cond.fieldLink "RedSkiesModel" 81 "RedSkiesModel" "keptAt" "[I") ∈ tb := tb_in 878 (by decide +kernel) (by decide +kernel)
theorem wd_879 : (Cond.fieldLink "RedSkiesModel" 84 "RedSkiesModel" "keptLow" "[I") ∈ tb := tb_in 879 (by decide +kernel) (by decide +kernel)
theorem wd_880 : (Cond.fieldLink "RedSkiesModel" 87 "RedSkiesModel" "keptHigh" "[I") ∈ tb := tb_in 880 (by decide +kernel) (by decide +kernel)
theorem wd_881 : (Cond.fieldLink "RedSkiesModel" 348 "RedSkiesModel" "hash" "J") ∈ tb := tb_in 881 (by decide +kernel) (by decide +kernel)
theorem wd_993 : (Cond.arrayClass FieldType.long) ∈ tb := tb_in 993 (by decide +kernel) (by decide +kernel)
theorem wd_994 : (Cond.methodLink "RedSkiesLaw" 19 yX10_letters) ∈ tb := tb_in 994 (by decide +kernel) (by decide +kernel)
theorem wd_995 : (Cond.instanceMethod yX10_letters) ∈ tb := tb_in 995 (by decide +kernel) (by decide +kernel)
theorem wd_996 : (Cond.selects "RedSkiesModel" yX10_letters yX10_letters) ∈ tb := tb_in 996 (by decide +kernel) (by decide +kernel)
theorem wd_997 : (Cond.code yX10_letters prog_12_method_4_code 9 (some FieldType.int)) ∈ tb := tb_in 997 (by decide +kernel) (by decide +kernel)
theorem wd_998 : (Cond.constantLong "RedSkiesModel" 102 (255 : Int64)) ∈ tb := tb_in 998 (by decide +kernel) (by decide +kernel)
theorem wd_999 : (Cond.methodLink "RedSkiesLaw" 24 yX10_blank) ∈ tb := tb_in 999 (by decide +kernel) (by decide +kernel)
theorem wd_1000 : (Cond.instanceMethod yX10_blank) ∈ tb := tb_in 1000 (by decide +kernel) (by decide +kernel)
theorem wd_1001 : (Cond.selects "RedSkiesModel" yX10_blank yX10_blank) ∈ tb := tb_in 1001 (by decide +kernel) (by decide +kernel)
theorem wd_1002 : (Cond.code yX10_blank prog_12_method_5_code 2 (some FieldType.int)) ∈ tb := tb_in 1002 (by decide +kernel) (by decide +kernel)
theorem wd_1003 : (Cond.methodLink "RedSkiesLaw" 29 yX10_fault) ∈ tb := tb_in 1003 (by decide +kernel) (by decide +kernel)
theorem wd_1004 : (Cond.instanceMethod yX10_fault) ∈ tb := tb_in 1004 (by decide +kernel) (by decide +kernel)
theorem wd_1005 : (Cond.selects "RedSkiesModel" yX10_fault yX10_fault) ∈ tb := tb_in 1005 (by decide +kernel) (by decide +kernel)
theorem wd_1006 : (Cond.code yX10_fault prog_12_method_12_code 2 (some FieldType.int)) ∈ tb := tb_in 1006 (by decide +kernel) (by decide +kernel)
theorem wd_1007 : (Cond.constantLong "RedSkiesModel" 154 (2 : Int64)) ∈ tb := tb_in 1007 (by decide +kernel) (by decide +kernel)
theorem wd_1008 : (Cond.methodLink "RedSkiesModel" 98 yX10_in) ∈ tb := tb_in 1008 (by decide +kernel) (by decide +kernel)
theorem wd_1009 : (Cond.static yX10_in) ∈ tb := tb_in 1009 (by decide +kernel) (by decide +kernel)
theorem wd_1010 : (Cond.code yX10_in prog_12_method_2_code 6 (some FieldType.boolean)) ∈ tb := tb_in 1010 (by decide +kernel) (by decide +kernel)
theorem wd_1011 : (Cond.methodLink "RedSkiesModel" 156 yX10_faultOf) ∈ tb := tb_in 1011 (by decide +kernel) (by decide +kernel)
theorem wd_1013 : (Cond.instanceMethod yX10_faultOf) ∈ tb := tb_in 1013 (by decide +kernel) (by decide +kernel)
theorem wd_1014 : (Cond.code yX10_faultOf prog_12_method_11_code 3 (some FieldType.int)) ∈ tb := tb_in 1014 (by decide +kernel) (by decide +kernel)
theorem wd_1015 : (Cond.methodLink "RedSkiesModel" 145 yX10_goLamp) ∈ tb := tb_in 1015 (by decide +kernel) (by decide +kernel)
theorem wd_1017 : (Cond.instanceMethod yX10_goLamp) ∈ tb := tb_in 1017 (by decide +kernel) (by decide +kernel)
theorem wd_1018 : (Cond.code yX10_goLamp prog_12_method_7_code 3 (some FieldType.boolean)) ∈ tb := tb_in 1018 (by decide +kernel) (by decide +kernel)
theorem wd_1019 : (Cond.methodLink "RedSkiesModel" 110 yX10_isDigit) ∈ tb := tb_in 1019 (by decide +kernel) (by decide +kernel)
theorem wd_1020 : (Cond.static yX10_isDigit) ∈ tb := tb_in 1020 (by decide +kernel) (by decide +kernel)
theorem wd_1021 : (Cond.code yX10_isDigit prog_12_method_3_code 1 (some FieldType.boolean)) ∈ tb := tb_in 1021 (by decide +kernel) (by decide +kernel)
theorem wd_1022 : (Cond.constantLong "RedSkiesModel" 94 (48 : Int64)) ∈ tb := tb_in 1022 (by decide +kernel) (by decide +kernel)
theorem wd_1023 : (Cond.constantLong "RedSkiesModel" 96 (57 : Int64)) ∈ tb := tb_in 1023 (by decide +kernel) (by decide +kernel)
theorem wd_1024 : (Cond.methodLink "RedSkiesModel" 123 yX10_colourOf) ∈ tb := tb_in 1024 (by decide +kernel) (by decide +kernel)
theorem wd_1025 : (Cond.static yX10_colourOf) ∈ tb := tb_in 1025 (by decide +kernel) (by decide +kernel)
theorem wd_1026 : (Cond.code yX10_colourOf prog_12_method_6_code 1 (some FieldType.int)) ∈ tb := tb_in 1026 (by decide +kernel) (by decide +kernel)
theorem wd_1027 : (Cond.methodLink "RedSkiesModel" 148 yX10_goMeasure) ∈ tb := tb_in 1027 (by decide +kernel) (by decide +kernel)
theorem wd_1029 : (Cond.instanceMethod yX10_goMeasure) ∈ tb := tb_in 1029 (by decide +kernel) (by decide +kernel)
theorem wd_1030 : (Cond.code yX10_goMeasure prog_12_method_8_code 5 (some FieldType.boolean)) ∈ tb := tb_in 1030 (by decide +kernel) (by decide +kernel)
theorem wd_1031 : (Cond.constantLong "RedSkiesModel" 136 (51 : Int64)) ∈ tb := tb_in 1031 (by decide +kernel) (by decide +kernel)
theorem wd_1032 : (Cond.methodLink "RedSkiesModel" 151 yX10_goLaw) ∈ tb := tb_in 1032 (by decide +kernel) (by decide +kernel)
theorem wd_1034 : (Cond.instanceMethod yX10_goLaw) ∈ tb := tb_in 1034 (by decide +kernel) (by decide +kernel)
theorem wd_1035 : (Cond.code yX10_goLaw prog_12_method_10_code 5 (some FieldType.boolean)) ∈ tb := tb_in 1035 (by decide +kernel) (by decide +kernel)
theorem wd_1036 : (Cond.methodLink "RedSkiesModel" 141 yX10_reach) ∈ tb := tb_in 1036 (by decide +kernel) (by decide +kernel)
theorem wd_1038 : (Cond.instanceMethod yX10_reach) ∈ tb := tb_in 1038 (by decide +kernel) (by decide +kernel)
theorem wd_1039 : (Cond.code yX10_reach prog_12_method_9_code 1 (some FieldType.int)) ∈ tb := tb_in 1039 (by decide +kernel) (by decide +kernel)
theorem wd_1040 : (Cond.methodLink "RedSkiesLaw" 33 yX10_lamp) ∈ tb := tb_in 1040 (by decide +kernel) (by decide +kernel)
theorem wd_1041 : (Cond.instanceMethod yX10_lamp) ∈ tb := tb_in 1041 (by decide +kernel) (by decide +kernel)
theorem wd_1042 : (Cond.selects "RedSkiesModel" yX10_lamp yX10_lamp) ∈ tb := tb_in 1042 (by decide +kernel) (by decide +kernel)
theorem wd_1043 : (Cond.code yX10_lamp prog_12_method_13_code 2 (some FieldType.int)) ∈ tb := tb_in 1043 (by decide +kernel) (by decide +kernel)
theorem wd_1044 : (Cond.methodLink "RedSkiesLaw" 37 yX10_measure) ∈ tb := tb_in 1044 (by decide +kernel) (by decide +kernel)
theorem wd_1045 : (Cond.instanceMethod yX10_measure) ∈ tb := tb_in 1045 (by decide +kernel) (by decide +kernel)
theorem wd_1046 : (Cond.selects "RedSkiesModel" yX10_measure yX10_measure) ∈ tb := tb_in 1046 (by decide +kernel) (by decide +kernel)
theorem wd_1047 : (Cond.code yX10_measure prog_12_method_14_code 2 (some FieldType.int)) ∈ tb := tb_in 1047 (by decide +kernel) (by decide +kernel)
theorem wd_1048 : (Cond.methodLink "RedSkiesLaw" 41 yX10_law) ∈ tb := tb_in 1048 (by decide +kernel) (by decide +kernel)
theorem wd_1049 : (Cond.instanceMethod yX10_law) ∈ tb := tb_in 1049 (by decide +kernel) (by decide +kernel)
theorem wd_1050 : (Cond.selects "RedSkiesModel" yX10_law yX10_law) ∈ tb := tb_in 1050 (by decide +kernel) (by decide +kernel)
theorem wd_1051 : (Cond.code yX10_law prog_12_method_15_code 2 (some FieldType.int)) ∈ tb := tb_in 1051 (by decide +kernel) (by decide +kernel)
theorem wd_1052 : (Cond.methodLink "RedSkiesLaw" 46 yX10_pigment) ∈ tb := tb_in 1052 (by decide +kernel) (by decide +kernel)
theorem wd_1053 : (Cond.instanceMethod yX10_pigment) ∈ tb := tb_in 1053 (by decide +kernel) (by decide +kernel)
theorem wd_1054 : (Cond.selects "RedSkiesModel" yX10_pigment yX10_pigment) ∈ tb := tb_in 1054 (by decide +kernel) (by decide +kernel)
theorem wd_1055 : (Cond.code yX10_pigment prog_12_method_16_code 3 (some FieldType.int)) ∈ tb := tb_in 1055 (by decide +kernel) (by decide +kernel)
theorem wd_1056 : (Cond.constantLong "RedSkiesModel" 171 (400 : Int64)) ∈ tb := tb_in 1056 (by decide +kernel) (by decide +kernel)
theorem wd_1057 : (Cond.constantLong "RedSkiesModel" 173 (9 : Int64)) ∈ tb := tb_in 1057 (by decide +kernel) (by decide +kernel)
theorem wd_1058 : (Cond.methodLink "RedSkiesLaw" 51 yX10_picture) ∈ tb := tb_in 1058 (by decide +kernel) (by decide +kernel)
theorem wd_1059 : (Cond.instanceMethod yX10_picture) ∈ tb := tb_in 1059 (by decide +kernel) (by decide +kernel)
theorem wd_1060 : (Cond.selects "RedSkiesModel" yX10_picture yX10_picture) ∈ tb := tb_in 1060 (by decide +kernel) (by decide +kernel)
theorem wd_1061 : (Cond.code yX10_picture prog_12_method_20_code 7 (some FieldType.int)) ∈ tb := tb_in 1061 (by decide +kernel) (by decide +kernel)
theorem wd_1062 : (Cond.constantLong "RedSkiesModel" 181 (4 : Int64)) ∈ tb := tb_in 1062 (by decide +kernel) (by decide +kernel)
theorem wd_1063 : (Cond.constantLong "RedSkiesModel" 183 (20 : Int64)) ∈ tb := tb_in 1063 (by decide +kernel) (by decide +kernel)
theorem wd_1064 : (Cond.constantLong "RedSkiesModel" 185 (-1 : Int64)) ∈ tb := tb_in 1064 (by decide +kernel) (by decide +kernel)
theorem wd_1065 : (Cond.methodLink "RedSkiesModel" 187 yX10_add) ∈ tb := tb_in 1065 (by decide +kernel) (by decide +kernel)
theorem wd_1067 : (Cond.instanceMethod yX10_add) ∈ tb := tb_in 1067 (by decide +kernel) (by decide +kernel)
theorem wd_1068 : (Cond.code yX10_add prog_12_method_19_code 9 none) ∈ tb := tb_in 1068 (by decide +kernel) (by decide +kernel)
theorem wd_1069 : (Cond.methodLink "RedSkiesLaw" 56 yX10_colour) ∈ tb := tb_in 1069 (by decide +kernel) (by decide +kernel)
theorem wd_1070 : (Cond.instanceMethod yX10_colour) ∈ tb := tb_in 1070 (by decide +kernel) (by decide +kernel)
theorem wd_1071 : (Cond.selects "RedSkiesModel" yX10_colour yX10_colour) ∈ tb := tb_in 1071 (by decide +kernel) (by decide +kernel)
theorem wd_1072 : (Cond.code yX10_colour prog_12_method_21_code 7 (some FieldType.int)) ∈ tb := tb_in 1072 (by decide +kernel) (by decide +kernel)
theorem wd_1073 : (Cond.methodLink "RedSkiesModel" 191 yX10_isPicture) ∈ tb := tb_in 1073 (by decide +kernel) (by decide +kernel)
theorem wd_1075 : (Cond.instanceMethod yX10_isPicture) ∈ tb := tb_in 1075 (by decide +kernel) (by decide +kernel)
theorem wd_1076 : (Cond.code yX10_isPicture prog_12_method_18_code 2 (some FieldType.boolean)) ∈ tb := tb_in 1076 (by decide +kernel) (by decide +kernel)
theorem wd_1077 : (Cond.constantLong "RedSkiesModel" 194 (3 : Int64)) ∈ tb := tb_in 1077 (by decide +kernel) (by decide +kernel)
theorem wd_1078 : (Cond.constantLong "RedSkiesModel" 196 (99 : Int64)) ∈ tb := tb_in 1078 (by decide +kernel) (by decide +kernel)
theorem wd_1079 : (Cond.methodLink "RedSkiesLaw" 60 yX10_as) ∈ tb := tb_in 1079 (by decide +kernel) (by decide +kernel)
theorem wd_1080 : (Cond.instanceMethod yX10_as) ∈ tb := tb_in 1080 (by decide +kernel) (by decide +kernel)
theorem wd_1081 : (Cond.selects "RedSkiesModel" yX10_as yX10_as) ∈ tb := tb_in 1081 (by decide +kernel) (by decide +kernel)
theorem wd_1082 : (Cond.code yX10_as prog_12_method_22_code 5 (some FieldType.int)) ∈ tb := tb_in 1082 (by decide +kernel) (by decide +kernel)
theorem wd_1083 : (Cond.methodLink "RedSkiesLaw" 64 yX10_about) ∈ tb := tb_in 1083 (by decide +kernel) (by decide +kernel)
theorem wd_1084 : (Cond.instanceMethod yX10_about) ∈ tb := tb_in 1084 (by decide +kernel) (by decide +kernel)
theorem wd_1085 : (Cond.selects "RedSkiesModel" yX10_about yX10_about) ∈ tb := tb_in 1085 (by decide +kernel) (by decide +kernel)
theorem wd_1086 : (Cond.code yX10_about prog_12_method_25_code 3 (some FieldType.int)) ∈ tb := tb_in 1086 (by decide +kernel) (by decide +kernel)
theorem wd_1087 : (Cond.constantLong "RedSkiesModel" 201 (5 : Int64)) ∈ tb := tb_in 1087 (by decide +kernel) (by decide +kernel)
theorem wd_1088 : (Cond.constantLong "RedSkiesModel" 203 (10 : Int64)) ∈ tb := tb_in 1088 (by decide +kernel) (by decide +kernel)
theorem wd_1089 : (Cond.constantLong "RedSkiesModel" 205 (21 : Int64)) ∈ tb := tb_in 1089 (by decide +kernel) (by decide +kernel)
theorem wd_1090 : (Cond.methodLink "RedSkiesModel" 207 yX10_rightOf) ∈ tb := tb_in 1090 (by decide +kernel) (by decide +kernel)
theorem wd_1092 : (Cond.instanceMethod yX10_rightOf) ∈ tb := tb_in 1092 (by decide +kernel) (by decide +kernel)
theorem wd_1093 : (Cond.code yX10_rightOf prog_12_method_24_code 6 (some FieldType.int)) ∈ tb := tb_in 1093 (by decide +kernel) (by decide +kernel)
theorem wd_1094 : (Cond.methodLink "RedSkiesModel" 198 yX10_between) ∈ tb := tb_in 1094 (by decide +kernel) (by decide +kernel)
theorem wd_1095 : (Cond.static yX10_between) ∈ tb := tb_in 1095 (by decide +kernel) (by decide +kernel)
theorem wd_1096 : (Cond.code yX10_between prog_12_method_23_code 1 (some FieldType.int)) ∈ tb := tb_in 1096 (by decide +kernel) (by decide +kernel)
theorem wd_1097 : (Cond.methodLink "RedSkiesLaw" 68 yX10_value) ∈ tb := tb_in 1097 (by decide +kernel) (by decide +kernel)
theorem wd_1098 : (Cond.instanceMethod yX10_value) ∈ tb := tb_in 1098 (by decide +kernel) (by decide +kernel)
theorem wd_1099 : (Cond.selects "RedSkiesModel" yX10_value yX10_value) ∈ tb := tb_in 1099 (by decide +kernel) (by decide +kernel)
theorem wd_1100 : (Cond.code yX10_value prog_12_method_28_code 3 (some FieldType.int)) ∈ tb := tb_in 1100 (by decide +kernel) (by decide +kernel)
theorem wd_1101 : (Cond.methodLink "RedSkiesModel" 215 yX10_isMeasure) ∈ tb := tb_in 1101 (by decide +kernel) (by decide +kernel)
theorem wd_1103 : (Cond.instanceMethod yX10_isMeasure) ∈ tb := tb_in 1103 (by decide +kernel) (by decide +kernel)
theorem wd_1104 : (Cond.code yX10_isMeasure prog_12_method_17_code 2 (some FieldType.boolean)) ∈ tb := tb_in 1104 (by decide +kernel) (by decide +kernel)
theorem wd_1105 : (Cond.methodLink "RedSkiesModel" 218 yX10_valueOf) ∈ tb := tb_in 1105 (by decide +kernel) (by decide +kernel)
theorem wd_1107 : (Cond.instanceMethod yX10_valueOf) ∈ tb := tb_in 1107 (by decide +kernel) (by decide +kernel)
theorem wd_1108 : (Cond.code yX10_valueOf prog_12_method_27_code 4 (some FieldType.int)) ∈ tb := tb_in 1108 (by decide +kernel) (by decide +kernel)
theorem wd_1109 : (Cond.methodLink "RedSkiesModel" 211 yX10_sumOf) ∈ tb := tb_in 1109 (by decide +kernel) (by decide +kernel)
theorem wd_1111 : (Cond.instanceMethod yX10_sumOf) ∈ tb := tb_in 1111 (by decide +kernel) (by decide +kernel)
theorem wd_1112 : (Cond.code yX10_sumOf prog_12_method_26_code 6 (some FieldType.int)) ∈ tb := tb_in 1112 (by decide +kernel) (by decide +kernel)
theorem wd_1113 : (Cond.methodLink "RedSkiesLaw" 72 yX10_mountain) ∈ tb := tb_in 1113 (by decide +kernel) (by decide +kernel)
theorem wd_1114 : (Cond.instanceMethod yX10_mountain) ∈ tb := tb_in 1114 (by decide +kernel) (by decide +kernel)
theorem wd_1115 : (Cond.selects "RedSkiesModel" yX10_mountain yX10_mountain) ∈ tb := tb_in 1115 (by decide +kernel) (by decide +kernel)
theorem wd_1116 : (Cond.code yX10_mountain prog_12_method_29_code 2 (some FieldType.int)) ∈ tb := tb_in 1116 (by decide +kernel) (by decide +kernel)
theorem wd_1117 : (Cond.methodLink "RedSkiesLaw" 76 yX10_near) ∈ tb := tb_in 1117 (by decide +kernel) (by decide +kernel)
theorem wd_1118 : (Cond.instanceMethod yX10_near) ∈ tb := tb_in 1118 (by decide +kernel) (by decide +kernel)
theorem wd_1119 : (Cond.selects "RedSkiesModel" yX10_near yX10_near) ∈ tb := tb_in 1119 (by decide +kernel) (by decide +kernel)
theorem wd_1120 : (Cond.code yX10_near prog_12_method_35_code 3 (some FieldType.int)) ∈ tb := tb_in 1120 (by decide +kernel) (by decide +kernel)
theorem wd_1121 : (Cond.methodLink "RedSkiesModel" 235 yX10_isWindow) ∈ tb := tb_in 1121 (by decide +kernel) (by decide +kernel)
theorem wd_1122 : (Cond.static yX10_isWindow) ∈ tb := tb_in 1122 (by decide +kernel) (by decide +kernel)
theorem wd_1123 : (Cond.code yX10_isWindow prog_12_method_33_code 1 (some FieldType.boolean)) ∈ tb := tb_in 1123 (by decide +kernel) (by decide +kernel)
theorem wd_1124 : (Cond.methodLink "RedSkiesModel" 238 yX10_nearOf) ∈ tb := tb_in 1124 (by decide +kernel) (by decide +kernel)
theorem wd_1126 : (Cond.instanceMethod yX10_nearOf) ∈ tb := tb_in 1126 (by decide +kernel) (by decide +kernel)
theorem wd_1127 : (Cond.code yX10_nearOf prog_12_method_34_code 3 (some FieldType.int)) ∈ tb := tb_in 1127 (by decide +kernel) (by decide +kernel)
theorem wd_1128 : (Cond.methodLink "RedSkiesModel" 228 yX10_isCounted) ∈ tb := tb_in 1128 (by decide +kernel) (by decide +kernel)
theorem wd_1130 : (Cond.instanceMethod yX10_isCounted) ∈ tb := tb_in 1130 (by decide +kernel) (by decide +kernel)
theorem wd_1131 : (Cond.code yX10_isCounted prog_12_method_30_code 2 (some FieldType.boolean)) ∈ tb := tb_in 1131 (by decide +kernel) (by decide +kernel)
theorem wd_1132 : (Cond.methodLink "RedSkiesModel" 231 yX10_isNearPicture) ∈ tb := tb_in 1132 (by decide +kernel) (by decide +kernel)
theorem wd_1134 : (Cond.instanceMethod yX10_isNearPicture) ∈ tb := tb_in 1134 (by decide +kernel) (by decide +kernel)
theorem wd_1135 : (Cond.code yX10_isNearPicture prog_12_method_32_code 3 (some FieldType.boolean)) ∈ tb := tb_in 1135 (by decide +kernel) (by decide +kernel)
theorem wd_1136 : (Cond.methodLink "RedSkiesModel" 224 yX10_isNear) ∈ tb := tb_in 1136 (by decide +kernel) (by decide +kernel)
theorem wd_1138 : (Cond.instanceMethod yX10_isNear) ∈ tb := tb_in 1138 (by decide +kernel) (by decide +kernel)
theorem wd_1139 : (Cond.code yX10_isNear prog_12_method_31_code 6 (some FieldType.boolean)) ∈ tb := tb_in 1139 (by decide +kernel) (by decide +kernel)
theorem wd_1140 : (Cond.methodLink "RedSkiesLaw" 81 yX10_paint) ∈ tb := tb_in 1140 (by decide +kernel) (by decide +kernel)
theorem wd_1141 : (Cond.instanceMethod yX10_paint) ∈ tb := tb_in 1141 (by decide +kernel) (by decide +kernel)
theorem wd_1142 : (Cond.selects "RedSkiesModel" yX10_paint yX10_paint) ∈ tb := tb_in 1142 (by decide +kernel) (by decide +kernel)
theorem wd_1143 : (Cond.code yX10_paint prog_12_method_37_code 10 (some FieldType.int)) ∈ tb := tb_in 1143 (by decide +kernel) (by decide +kernel)
theorem wd_1144 : (Cond.constantLong "RedSkiesModel" 251 (8 : Int64)) ∈ tb := tb_in 1144 (by decide +kernel) (by decide +kernel)
theorem wd_1145 : (Cond.methodLink "RedSkiesModel" 253 yX10_draw) ∈ tb := tb_in 1145 (by decide +kernel) (by decide +kernel)
theorem wd_1147 : (Cond.instanceMethod yX10_draw) ∈ tb := tb_in 1147 (by decide +kernel) (by decide +kernel)
theorem wd_1148 : (Cond.code yX10_draw prog_12_method_36_code 2 (some FieldType.int)) ∈ tb := tb_in 1148 (by decide +kernel) (by decide +kernel)
theorem wd_1149 : (Cond.constantLong "RedSkiesModel" 241 (1103515245 : Int64)) ∈ tb := tb_in 1149 (by decide +kernel) (by decide +kernel)
theorem wd_1150 : (Cond.constantLong "RedSkiesModel" 246 (12345 : Int64)) ∈ tb := tb_in 1150 (by decide +kernel) (by decide +kernel)
theorem wd_1151 : (Cond.constantLong "RedSkiesModel" 248 (2147483647 : Int64)) ∈ tb := tb_in 1151 (by decide +kernel) (by decide +kernel)
theorem wd_1152 : (Cond.constant "RedSkiesModel" 250 (65536 : Int32)) ∈ tb := tb_in 1152 (by decide +kernel) (by decide +kernel)
theorem wd_1153 : (Cond.methodLink "RedSkiesLaw" 85 yX10_stat) ∈ tb := tb_in 1153 (by decide +kernel) (by decide +kernel)
theorem wd_1154 : (Cond.instanceMethod yX10_stat) ∈ tb := tb_in 1154 (by decide +kernel) (by decide +kernel)
theorem wd_1155 : (Cond.selects "RedSkiesModel" yX10_stat yX10_stat) ∈ tb := tb_in 1155 (by decide +kernel) (by decide +kernel)
theorem wd_1156 : (Cond.code yX10_stat prog_12_method_41_code 3 (some FieldType.int)) ∈ tb := tb_in 1156 (by decide +kernel) (by decide +kernel)
theorem wd_1157 : (Cond.methodLink "RedSkiesModel" 262 yX10_look) ∈ tb := tb_in 1157 (by decide +kernel) (by decide +kernel)
theorem wd_1159 : (Cond.instanceMethod yX10_look) ∈ tb := tb_in 1159 (by decide +kernel) (by decide +kernel)
theorem wd_1160 : (Cond.code yX10_look prog_12_method_38_code 5 none) ∈ tb := tb_in 1160 (by decide +kernel) (by decide +kernel)
theorem wd_1161 : (Cond.methodLink "RedSkiesModel" 266 yX10_statNow) ∈ tb := tb_in 1161 (by decide +kernel) (by decide +kernel)
theorem wd_1163 : (Cond.instanceMethod yX10_statNow) ∈ tb := tb_in 1163 (by decide +kernel) (by decide +kernel)
theorem wd_1164 : (Cond.code yX10_statNow prog_12_method_40_code 3 (some FieldType.int)) ∈ tb := tb_in 1164 (by decide +kernel) (by decide +kernel)
theorem wd_1165 : (Cond.methodLink "RedSkiesModel" 259 yX10_standing) ∈ tb := tb_in 1165 (by decide +kernel) (by decide +kernel)
theorem wd_1167 : (Cond.instanceMethod yX10_standing) ∈ tb := tb_in 1167 (by decide +kernel) (by decide +kernel)
theorem wd_1168 : (Cond.code yX10_standing prog_12_method_39_code 5 (some FieldType.int)) ∈ tb := tb_in 1168 (by decide +kernel) (by decide +kernel)
theorem wd_1169 : (Cond.methodLink "RedSkiesLaw" 90 yX10_odds) ∈ tb := tb_in 1169 (by decide +kernel) (by decide +kernel)
theorem wd_1170 : (Cond.instanceMethod yX10_odds) ∈ tb := tb_in 1170 (by decide +kernel) (by decide +kernel)
theorem wd_1171 : (Cond.selects "RedSkiesModel" yX10_odds yX10_odds) ∈ tb := tb_in 1171 (by decide +kernel) (by decide +kernel)
theorem wd_1172 : (Cond.code yX10_odds prog_12_method_48_code 4 (some FieldType.long)) ∈ tb := tb_in 1172 (by decide +kernel) (by decide +kernel)
theorem wd_1173 : (Cond.constantLong "RedSkiesModel" 286 (-101 : Int64)) ∈ tb := tb_in 1173 (by decide +kernel) (by decide +kernel)
theorem wd_1174 : (Cond.methodLink "RedSkiesModel" 288 yX10_isPart) ∈ tb := tb_in 1174 (by decide +kernel) (by decide +kernel)
theorem wd_1175 : (Cond.static yX10_isPart) ∈ tb := tb_in 1175 (by decide +kernel) (by decide +kernel)
theorem wd_1176 : (Cond.code yX10_isPart prog_12_method_47_code 1 (some FieldType.boolean)) ∈ tb := tb_in 1176 (by decide +kernel) (by decide +kernel)
theorem wd_1177 : (Cond.constantLong "RedSkiesModel" 291 (-102 : Int64)) ∈ tb := tb_in 1177 (by decide +kernel) (by decide +kernel)
theorem wd_1178 : (Cond.methodLink "RedSkiesModel" 293 yX10_layOdds) ∈ tb := tb_in 1178 (by decide +kernel) (by decide +kernel)
theorem wd_1180 : (Cond.instanceMethod yX10_layOdds) ∈ tb := tb_in 1180 (by decide +kernel) (by decide +kernel)
theorem wd_1181 : (Cond.code yX10_layOdds prog_12_method_44_code 3 none) ∈ tb := tb_in 1181 (by decide +kernel) (by decide +kernel)
theorem wd_1182 : (Cond.methodLink "RedSkiesModel" 272 yX10_layTotal) ∈ tb := tb_in 1182 (by decide +kernel) (by decide +kernel)
theorem wd_1184 : (Cond.instanceMethod yX10_layTotal) ∈ tb := tb_in 1184 (by decide +kernel) (by decide +kernel)
theorem wd_1185 : (Cond.code yX10_layTotal prog_12_method_43_code 7 none) ∈ tb := tb_in 1185 (by decide +kernel) (by decide +kernel)
theorem wd_1186 : (Cond.methodLink "RedSkiesModel" 269 yX10_layHand) ∈ tb := tb_in 1186 (by decide +kernel) (by decide +kernel)
theorem wd_1188 : (Cond.instanceMethod yX10_layHand) ∈ tb := tb_in 1188 (by decide +kernel) (by decide +kernel)
theorem wd_1189 : (Cond.code yX10_layHand prog_12_method_42_code 8 (some FieldType.int)) ∈ tb := tb_in 1189 (by decide +kernel) (by decide +kernel)
theorem wd_1190 : (Cond.methodLink "RedSkiesModel" 296 yX10_term) ∈ tb := tb_in 1190 (by decide +kernel) (by decide +kernel)
theorem wd_1191 : (Cond.static yX10_term) ∈ tb := tb_in 1191 (by decide +kernel) (by decide +kernel)
theorem wd_1192 : (Cond.code yX10_term prog_12_method_46_code 7 (some FieldType.long)) ∈ tb := tb_in 1192 (by decide +kernel) (by decide +kernel)
theorem wd_1193 : (Cond.methodLink "RedSkiesModel" 282 yX10_common) ∈ tb := tb_in 1193 (by decide +kernel) (by decide +kernel)
theorem wd_1194 : (Cond.static yX10_common) ∈ tb := tb_in 1194 (by decide +kernel) (by decide +kernel)
theorem wd_1195 : (Cond.code yX10_common prog_12_method_45_code 10 (some FieldType.long)) ∈ tb := tb_in 1195 (by decide +kernel) (by decide +kernel)
theorem wd_1196 : (Cond.methodLink "RedSkiesLaw" 95 yX10_paid) ∈ tb := tb_in 1196 (by decide +kernel) (by decide +kernel)
theorem wd_1197 : (Cond.instanceMethod yX10_paid) ∈ tb := tb_in 1197 (by decide +kernel) (by decide +kernel)
theorem wd_1198 : (Cond.selects "RedSkiesModel" yX10_paid yX10_paid) ∈ tb := tb_in 1198 (by decide +kernel) (by decide +kernel)
theorem wd_1199 : (Cond.code yX10_paid prog_12_method_49_code 10 (some FieldType.long)) ∈ tb := tb_in 1199 (by decide +kernel) (by decide +kernel)
theorem wd_1200 : (Cond.constantLong "RedSkiesModel" 300 (-103 : Int64)) ∈ tb := tb_in 1200 (by decide +kernel) (by decide +kernel)
theorem wd_1201 : (Cond.methodLink "RedSkiesLaw" 99 yX10_hangs) ∈ tb := tb_in 1201 (by decide +kernel) (by decide +kernel)
theorem wd_1202 : (Cond.instanceMethod yX10_hangs) ∈ tb := tb_in 1202 (by decide +kernel) (by decide +kernel)
theorem wd_1203 : (Cond.selects "RedSkiesModel" yX10_hangs yX10_hangs) ∈ tb := tb_in 1203 (by decide +kernel) (by decide +kernel)
theorem wd_1204 : (Cond.code yX10_hangs prog_12_method_50_code 10 (some FieldType.int)) ∈ tb := tb_in 1204 (by decide +kernel) (by decide +kernel)
theorem wd_1205 : (Cond.methodLink "RedSkiesLaw" 103 yX10_next) ∈ tb := tb_in 1205 (by decide +kernel) (by decide +kernel)
theorem wd_1206 : (Cond.instanceMethod yX10_next) ∈ tb := tb_in 1206 (by decide +kernel) (by decide +kernel)
theorem wd_1207 : (Cond.selects "RedSkiesModel" yX10_next yX10_next) ∈ tb := tb_in 1207 (by decide +kernel) (by decide +kernel)
theorem wd_1208 : (Cond.code yX10_next prog_12_method_51_code 12 (some FieldType.int)) ∈ tb := tb_in 1208 (by decide +kernel) (by decide +kernel)
theorem wd_1209 : (Cond.constant "RedSkiesModel" 305 (1000000 : Int32)) ∈ tb := tb_in 1209 (by decide +kernel) (by decide +kernel)
theorem wd_1210 : (Cond.methodLink "RedSkiesLaw" 107 yX10_ice) ∈ tb := tb_in 1210 (by decide +kernel) (by decide +kernel)
theorem wd_1211 : (Cond.instanceMethod yX10_ice) ∈ tb := tb_in 1211 (by decide +kernel) (by decide +kernel)
theorem wd_1212 : (Cond.selects "RedSkiesModel" yX10_ice yX10_ice) ∈ tb := tb_in 1212 (by decide +kernel) (by decide +kernel)
theorem wd_1213 : (Cond.code yX10_ice prog_12_method_52_code 4 (some FieldType.int)) ∈ tb := tb_in 1213 (by decide +kernel) (by decide +kernel)
theorem wd_1214 : (Cond.methodLink "RedSkiesLaw" 111 yX10_classes) ∈ tb := tb_in 1214 (by decide +kernel) (by decide +kernel)
theorem wd_1215 : (Cond.instanceMethod yX10_classes) ∈ tb := tb_in 1215 (by decide +kernel) (by decide +kernel)
theorem wd_1216 : (Cond.selects "RedSkiesModel" yX10_classes yX10_classes) ∈ tb := tb_in 1216 (by decide +kernel) (by decide +kernel)
theorem wd_1217 : (Cond.code yX10_classes prog_12_method_56_code 4 (some FieldType.int)) ∈ tb := tb_in 1217 (by decide +kernel) (by decide +kernel)
theorem wd_1218 : (Cond.methodLink "RedSkiesModel" 312 yX10_lowClass) ∈ tb := tb_in 1218 (by decide +kernel) (by decide +kernel)
theorem wd_1220 : (Cond.instanceMethod yX10_lowClass) ∈ tb := tb_in 1220 (by decide +kernel) (by decide +kernel)
theorem wd_1221 : (Cond.code yX10_lowClass prog_12_method_54_code 3 (some FieldType.int)) ∈ tb := tb_in 1221 (by decide +kernel) (by decide +kernel)
theorem wd_1222 : (Cond.methodLink "RedSkiesModel" 309 yX10_classOf) ∈ tb := tb_in 1222 (by decide +kernel) (by decide +kernel)
theorem wd_1224 : (Cond.instanceMethod yX10_classOf) ∈ tb := tb_in 1224 (by decide +kernel) (by decide +kernel)
theorem wd_1225 : (Cond.code yX10_classOf prog_12_method_53_code 4 (some FieldType.int)) ∈ tb := tb_in 1225 (by decide +kernel) (by decide +kernel)
theorem wd_1226 : (Cond.methodLink "RedSkiesModel" 315 yX10_highClass) ∈ tb := tb_in 1226 (by decide +kernel) (by decide +kernel)
theorem wd_1228 : (Cond.instanceMethod yX10_highClass) ∈ tb := tb_in 1228 (by decide +kernel) (by decide +kernel)
theorem wd_1229 : (Cond.code yX10_highClass prog_12_method_55_code 3 (some FieldType.int)) ∈ tb := tb_in 1229 (by decide +kernel) (by decide +kernel)
theorem wd_1230 : (Cond.methodLink "RedSkiesLaw" 115 yX10_back) ∈ tb := tb_in 1230 (by decide +kernel) (by decide +kernel)
theorem wd_1231 : (Cond.instanceMethod yX10_back) ∈ tb := tb_in 1231 (by decide +kernel) (by decide +kernel)
theorem wd_1232 : (Cond.selects "RedSkiesModel" yX10_back yX10_back) ∈ tb := tb_in 1232 (by decide +kernel) (by decide +kernel)
theorem wd_1233 : (Cond.code yX10_back prog_12_method_57_code 7 (some FieldType.int)) ∈ tb := tb_in 1233 (by decide +kernel) (by decide +kernel)
theorem wd_1234 : (Cond.methodLink "RedSkiesLaw" 119 yX10_dates) ∈ tb := tb_in 1234 (by decide +kernel) (by decide +kernel)
theorem wd_1235 : (Cond.instanceMethod yX10_dates) ∈ tb := tb_in 1235 (by decide +kernel) (by decide +kernel)
theorem wd_1236 : (Cond.selects "RedSkiesModel" yX10_dates yX10_dates) ∈ tb := tb_in 1236 (by decide +kernel) (by decide +kernel)
theorem wd_1237 : (Cond.code yX10_dates prog_12_method_60_code 4 (some FieldType.int)) ∈ tb := tb_in 1237 (by decide +kernel) (by decide +kernel)
theorem wd_1238 : (Cond.methodLink "RedSkiesModel" 330 yX10_layDates) ∈ tb := tb_in 1238 (by decide +kernel) (by decide +kernel)
theorem wd_1240 : (Cond.instanceMethod yX10_layDates) ∈ tb := tb_in 1240 (by decide +kernel) (by decide +kernel)
theorem wd_1241 : (Cond.code yX10_layDates prog_12_method_59_code 4 none) ∈ tb := tb_in 1241 (by decide +kernel) (by decide +kernel)
theorem wd_1242 : (Cond.methodLink "RedSkiesModel" 327 yX10_isDate) ∈ tb := tb_in 1242 (by decide +kernel) (by decide +kernel)
theorem wd_1244 : (Cond.instanceMethod yX10_isDate) ∈ tb := tb_in 1244 (by decide +kernel) (by decide +kernel)
theorem wd_1245 : (Cond.code yX10_isDate prog_12_method_58_code 6 (some FieldType.boolean)) ∈ tb := tb_in 1245 (by decide +kernel) (by decide +kernel)
theorem wd_1246 : (Cond.methodLink "RedSkiesLaw" 123 yX10_wrong) ∈ tb := tb_in 1246 (by decide +kernel) (by decide +kernel)
theorem wd_1247 : (Cond.instanceMethod yX10_wrong) ∈ tb := tb_in 1247 (by decide +kernel) (by decide +kernel)
theorem wd_1248 : (Cond.selects "RedSkiesModel" yX10_wrong yX10_wrong) ∈ tb := tb_in 1248 (by decide +kernel) (by decide +kernel)
theorem wd_1249 : (Cond.code yX10_wrong prog_12_method_62_code 2 (some FieldType.int)) ∈ tb := tb_in 1249 (by decide +kernel) (by decide +kernel)
theorem wd_1250 : (Cond.methodLink "RedSkiesModel" 334 yX10_wrongOf) ∈ tb := tb_in 1250 (by decide +kernel) (by decide +kernel)
theorem wd_1252 : (Cond.instanceMethod yX10_wrongOf) ∈ tb := tb_in 1252 (by decide +kernel) (by decide +kernel)
theorem wd_1253 : (Cond.code yX10_wrongOf prog_12_method_61_code 4 (some FieldType.int)) ∈ tb := tb_in 1253 (by decide +kernel) (by decide +kernel)
theorem wd_1254 : (Cond.methodLink "RedSkiesLaw" 127 yX10_image) ∈ tb := tb_in 1254 (by decide +kernel) (by decide +kernel)
theorem wd_1255 : (Cond.instanceMethod yX10_image) ∈ tb := tb_in 1255 (by decide +kernel) (by decide +kernel)
theorem wd_1256 : (Cond.selects "RedSkiesModel" yX10_image yX10_image) ∈ tb := tb_in 1256 (by decide +kernel) (by decide +kernel)
theorem wd_1257 : (Cond.code yX10_image prog_12_method_63_code 2 (some FieldType.int)) ∈ tb := tb_in 1257 (by decide +kernel) (by decide +kernel)
theorem wd_1258 : (Cond.methodLink "RedSkiesLaw" 131 yX10_restore) ∈ tb := tb_in 1258 (by decide +kernel) (by decide +kernel)
theorem wd_1259 : (Cond.instanceMethod yX10_restore) ∈ tb := tb_in 1259 (by decide +kernel) (by decide +kernel)
theorem wd_1260 : (Cond.selects "RedSkiesModel" yX10_restore yX10_restore) ∈ tb := tb_in 1260 (by decide +kernel) (by decide +kernel)
theorem wd_1261 : (Cond.code yX10_restore prog_12_method_64_code 2 (some FieldType.int)) ∈ tb := tb_in 1261 (by decide +kernel) (by decide +kernel)
theorem wd_1262 : (Cond.methodLink "RedSkiesLaw" 135 yX10_count) ∈ tb := tb_in 1262 (by decide +kernel) (by decide +kernel)
theorem wd_1263 : (Cond.instanceMethod yX10_count) ∈ tb := tb_in 1263 (by decide +kernel) (by decide +kernel)
theorem wd_1264 : (Cond.selects "RedSkiesModel" yX10_count yX10_count) ∈ tb := tb_in 1264 (by decide +kernel) (by decide +kernel)
theorem wd_1265 : (Cond.code yX10_count prog_12_method_66_code 2 (some FieldType.int)) ∈ tb := tb_in 1265 (by decide +kernel) (by decide +kernel)
theorem wd_1266 : (Cond.methodLink "RedSkiesModel" 343 yX10_countOf) ∈ tb := tb_in 1266 (by decide +kernel) (by decide +kernel)
theorem wd_1268 : (Cond.instanceMethod yX10_countOf) ∈ tb := tb_in 1268 (by decide +kernel) (by decide +kernel)
theorem wd_1269 : (Cond.code yX10_countOf prog_12_method_65_code 2 (some FieldType.int)) ∈ tb := tb_in 1269 (by decide +kernel) (by decide +kernel)
theorem wd_1270 : (Cond.methodLink "RedSkiesLaw" 140 yX10_digest) ∈ tb := tb_in 1270 (by decide +kernel) (by decide +kernel)
theorem wd_1271 : (Cond.instanceMethod yX10_digest) ∈ tb := tb_in 1271 (by decide +kernel) (by decide +kernel)
theorem wd_1272 : (Cond.selects "RedSkiesModel" yX10_digest yX10_digest) ∈ tb := tb_in 1272 (by decide +kernel) (by decide +kernel)
theorem wd_1273 : (Cond.code yX10_digest prog_12_method_70_code 2 (some FieldType.long)) ∈ tb := tb_in 1273 (by decide +kernel) (by decide +kernel)
theorem wd_1274 : (Cond.constantLong "RedSkiesModel" 355 (421 : Int64)) ∈ tb := tb_in 1274 (by decide +kernel) (by decide +kernel)
theorem wd_1275 : (Cond.methodLink "RedSkiesModel" 351 yX10_say) ∈ tb := tb_in 1275 (by decide +kernel) (by decide +kernel)
theorem wd_1277 : (Cond.instanceMethod yX10_say) ∈ tb := tb_in 1277 (by decide +kernel) (by decide +kernel)
theorem wd_1278 : (Cond.code yX10_say prog_12_method_67_code 3 none) ∈ tb := tb_in 1278 (by decide +kernel) (by decide +kernel)
theorem wd_1279 : (Cond.constantLong "RedSkiesModel" 346 (31 : Int64)) ∈ tb := tb_in 1279 (by decide +kernel) (by decide +kernel)
theorem wd_1280 : (Cond.methodLink "RedSkiesModel" 357 yX10_sayPicture) ∈ tb := tb_in 1280 (by decide +kernel) (by decide +kernel)
theorem wd_1282 : (Cond.instanceMethod yX10_sayPicture) ∈ tb := tb_in 1282 (by decide +kernel) (by decide +kernel)
theorem wd_1283 : (Cond.code yX10_sayPicture prog_12_method_68_code 3 none) ∈ tb := tb_in 1283 (by decide +kernel) (by decide +kernel)
theorem wd_1284 : (Cond.methodLink "RedSkiesModel" 361 yX10_sayMeasure) ∈ tb := tb_in 1284 (by decide +kernel) (by decide +kernel)
theorem wd_1286 : (Cond.instanceMethod yX10_sayMeasure) ∈ tb := tb_in 1286 (by decide +kernel) (by decide +kernel)
theorem wd_1287 : (Cond.code yX10_sayMeasure prog_12_method_69_code 2 none) ∈ tb := tb_in 1287 (by decide +kernel) (by decide +kernel)
theorem wd_1288 : (Cond.constantLong "RedSkiesLaw" 13 (4294967295 : Int64)) ∈ tb := tb_in 1288 (by decide +kernel) (by decide +kernel)
def nw : List Cond := [Cond.methodLinkNest "RedSkies" 11 yX5_init "RedSkies", Cond.methodLinkNest "RedSkies" 18 yX1_init "RedSkies", Cond.methodLinkNest "RedSkies$LampReader" 3 yX7_init "RedSkies", Cond.methodLinkNest "RedSkies" 25 yX4_init "RedSkies", Cond.methodLinkNest "RedSkies$MeasureReader" 3 yX7_init "RedSkies", Cond.methodLinkNest "RedSkies" 32 yX3_init "RedSkies", Cond.methodLinkNest "RedSkies$LawReader" 3 yX7_init "RedSkies", Cond.methodLinkNest "RedSkies" 54 yX2_init "RedSkies", Cond.methodLinkNest "RedSkies" 71 yX0_init "RedSkies", Cond.methodLinkNest "RedSkies" 78 yX6_init "RedSkies", Cond.declares ⟨"RedSkies$Reader", "begin", "()V"⟩, Cond.declares ⟨"RedSkies$Reader", "take", "(I)Z"⟩, Cond.declares ⟨"RedSkies$Reader", "isDone", "()Z"⟩, Cond.methodLinkNest "RedSkies$Show" 51 yX9_isOfKind "RedSkies"]
theorem nw_tbl : ∀ w ∈ nw, w ∈ lw_tbl := by decide +kernel
theorem nw_on : ∀ w ∈ nw, w.onTables = true := by decide +kernel
theorem nwd_0 : (Cond.methodLinkNest "RedSkies" 11 yX5_init "RedSkies") ∈ nw := List.mem_of_getElem? (i := 0) rfl
theorem nwd_1 : (Cond.methodLinkNest "RedSkies" 18 yX1_init "RedSkies") ∈ nw := List.mem_of_getElem? (i := 1) rfl
theorem nwd_2 : (Cond.methodLinkNest "RedSkies$LampReader" 3 yX7_init "RedSkies") ∈ nw := List.mem_of_getElem? (i := 2) rfl
theorem nwd_3 : (Cond.methodLinkNest "RedSkies" 25 yX4_init "RedSkies") ∈ nw := List.mem_of_getElem? (i := 3) rfl
theorem nwd_4 : (Cond.methodLinkNest "RedSkies$MeasureReader" 3 yX7_init "RedSkies") ∈ nw := List.mem_of_getElem? (i := 4) rfl
theorem nwd_5 : (Cond.methodLinkNest "RedSkies" 32 yX3_init "RedSkies") ∈ nw := List.mem_of_getElem? (i := 5) rfl
theorem nwd_6 : (Cond.methodLinkNest "RedSkies$LawReader" 3 yX7_init "RedSkies") ∈ nw := List.mem_of_getElem? (i := 6) rfl
theorem nwd_7 : (Cond.methodLinkNest "RedSkies" 54 yX2_init "RedSkies") ∈ nw := List.mem_of_getElem? (i := 7) rfl
theorem nwd_8 : (Cond.methodLinkNest "RedSkies" 71 yX0_init "RedSkies") ∈ nw := List.mem_of_getElem? (i := 8) rfl
theorem nwd_9 : (Cond.methodLinkNest "RedSkies" 78 yX6_init "RedSkies") ∈ nw := List.mem_of_getElem? (i := 9) rfl
theorem nwd_10 : (Cond.declares ⟨"RedSkies$Reader", "begin", "()V"⟩) ∈ nw := List.mem_of_getElem? (i := 10) rfl
theorem nwd_11 : (Cond.declares ⟨"RedSkies$Reader", "take", "(I)Z"⟩) ∈ nw := List.mem_of_getElem? (i := 11) rfl
theorem nwd_12 : (Cond.declares ⟨"RedSkies$Reader", "isDone", "()Z"⟩) ∈ nw := List.mem_of_getElem? (i := 12) rfl
theorem nwd_13 : (Cond.methodLinkNest "RedSkies$Show" 51 yX9_isOfKind "RedSkies") ∈ nw := List.mem_of_getElem? (i := 13) rfl
theorem inRX0 : ∀ w ∈ u_ws RX0 TX0 9, w ∈ tb := by decide +kernel
theorem inRX1 : ∀ w ∈ u_ws RX1 TX1 6, w ∈ tb := by decide +kernel
theorem inRX2 : ∀ w ∈ u_ws RX2 TX2 3, w ∈ tb := by decide +kernel
theorem inRX3 : ∀ w ∈ u_ws RX3 TX3 5, w ∈ tb := by decide +kernel
theorem inRX4 : ∀ w ∈ u_ws RX4 TX4 6, w ∈ tb := by decide +kernel
theorem inRX5 : ∀ w ∈ u_ws RX5 TX5 2, w ∈ tb := by decide +kernel
theorem inRX6 : ∀ w ∈ u_ws RX6 TX6 1, w ∈ tb := by decide +kernel
theorem inRX8 : ∀ w ∈ u_ws RX8 TX8 8, w ∈ tb := by decide +kernel
theorem inRX9 : ∀ w ∈ u_ws RX9 TX9 18, w ∈ tb := by decide +kernel
theorem inRX10 : ∀ w ∈ u_ws RX10 TX10 55, w ∈ tb := by decide +kernel
end
section
/-! The layer of walks: a world of fixed objects whose numbers are one function M of (object, place) into the whole numbers; a state of the walk is the place, the locals, the stack, M. -/
abbrev Mem : Type := Int → Int → Int
def iN (a : Int) : Int32 := Int32.ofInt a
def jN (a : Int) : Int64 := Int64.ofInt a
def mu (M : Mem) (o k v : Int) : Mem := fun o' k' => if o' = o ∧ k' = k then v else M o' k'
abbrev Kd : Type := Nat × Nat × List Nat
abbrev TT : Type := ClassId × ClassId × ClassId × ClassId
def tys (t : TT) : List (ClassId × FieldType) := [(t.1, .int), (t.2.1, .long), (t.2.2.1, .boolean), (t.2.2.2, .array .int)]
def fv (al : Int → Nat) (M : Mem) (o : Int) (k t : Nat) : Value := if t = 0 then .int (iN (M o k)) else if t = 1 then .long (jN (M o k)) else if t = 2 then .int (iN (M o k)) else .ref (al ((t - 3 : Nat) : Int))
def vals (al : Int → Nat) (M : Mem) (o : Int) : Nat → List Nat → List Value
  | _, [] => []
  | k, t :: r => fv al M o k t :: vals al M o (k + 1) r
def contK (t : TT) (al : Int → Nat) (M : Mem) (o : Int) (d : Kd) : va_E :=
  if d.1 = 0 then .inr (d.2.1, vals al M o 0 d.2.2) else if d.1 = 1 then .inl (t.1, d.2.1, .inl (fun j => iN (M o j))) else if d.1 = 2 then .inl (t.2.2.1, d.2.1, .inl (fun j => iN (M o j)))
  else if d.1 = 3 then .inl (t.2.1, d.2.1, .inr (.inl (fun j => jN (M o j)))) else .inl (t.2.2.2, d.2.1, .inr (.inr (.inr (.inr (fun j => some (al (((d.2.2.headD 0 : Nat) : Int) + (j : Int))))))))
def KD : List Kd := [(0, 8, [4, 6, 9, 11, 13, 18, 19, 20, 25, 27, 65, 103, 116, 0, 0, 0, 0, 2]), (0, 5, [5, 0]), (1, 40, []), (0, 1, [7, 8, 0, 0, 0, 0]), (1, 3, []), (2, 3, []), (0, 4, [10, 0, 0, 0, 0, 0]), (1, 24, []), (0, 3, [12, 0, 0, 0, 2]), (1, 5, []), (4, 4, [11]), (1, 3, []), (1, 3, []), (1, 3, []), (1, 3, []), (1, 4, []), (1, 4, []), (4, 4, [18]), (1, 24, []), (1, 24, []), (1, 24, []), (1, 24, []), (0, 2, [26, 0, 0]), (1, 5, []), (0, 7, [28, 45, 62, 63, 64, 0, 0, 0]), (4, 16, [26]), (1, 6, []), (1, 6, []), (1, 6, []), (1, 6, []), (1, 6, []), (1, 6, []), (1, 6, []), (1, 6, []), (1, 6, []), (1, 6, []), (1, 6, []), (1, 6, []), (1, 6, []), (1, 6, []), (1, 6, []), (1, 6, []), (4, 16, [43]), (1, 12, []), (1, 12, []), (1, 12, []), (1, 12, []), (1, 12, []), (1, 12, []), (1, 12, []), (1, 12, []), (1, 12, []), (1, 12, []), (1, 12, []), (1, 12, []), (1, 12, []), (1, 12, []), (1, 12, []), (1, 12, []), (1, 6, []), (1, 401, []), (1, 401, []), (0, 7, [66, 83, 100, 101, 102, 0, 0, 0]), (4, 16, [64]), (1, 6, []), (1, 6, []), (1, 6, []), (1, 6, []), (1, 6, []), (1, 6, []), (1, 6, []), (1, 6, []), (1, 6, []), (1, 6, []), (1, 6, []), (1, 6, []), (1, 6, []), (1, 6, []), (1, 6, []), (1, 6, []), (4, 16, [81]), (1, 12, []), (1, 12, []), (1, 12, []), (1, 12, []), (1, 12, []), (1, 12, []), (1, 12, []), (1, 12, []), (1, 12, []), (1, 12, []), (1, 12, []), (1, 12, []), (1, 12, []), (1, 12, []), (1, 12, []), (1, 12, []), (1, 6, []), (1, 401, []), (1, 401, []), (0, 0, [104, 105, 0, 1, 1, 1, 1, 106, 0]), (1, 16, []), (1, 16, []), (4, 9, [104]), (1, 129, []), (1, 129, []), (1, 129, []), (1, 129, []), (1, 129, []), (1, 129, []), (1, 129, []), (1, 129, []), (1, 129, []), (0, 6, [1]), (0, 9, [118, 0, 0, 0, 0, 0, 0, 0, 0, 119, 0, 120, 121, 0, 122, 0, 123, 0, 124, 0, 0, 125, 126, 0, 127, 128, 0, 129, 0, 0, 130, 131, 132, 133, 134, 135, 136, 1, 1, 0, 0, 137, 138, 0, 0, 0, 0, 0, 0, 139, 140, 141, 142, 143, 1]), (1, 40, []), (1, 3, []), (1, 24, []), (1, 5, []), (1, 12, []), (1, 96, []), (1, 5, []), (1, 4, []), (1, 4, []), (1, 96, []), (1, 192, []), (1, 6, []), (1, 16, []), (1, 16, []), (2, 16, []), (1, 16, []), (3, 8721, []), (3, 513, []), (3, 513, []), (1, 401, []), (1, 401, []), (1, 96, []), (1, 192, []), (1, 6, []), (1, 401, []), (1, 401, [])]
def NO : Nat := 141
theorem KD_len : KD.length = NO := by decide +kernel
def kd (o : Int) : Kd := if o < 0 then (9, 0, []) else KD.getD o.toNat (9, 0, [])
theorem kd_in {o : Int} {d : Kd} (h : kd o = d) (hd : d.1 < 9) : 0 ≤ o ∧ o < (NO : Int) := by
  unfold kd at h
  by_cases h0 : o < 0
  · rw [if_pos h0] at h; subst h; exact absurd hd (by decide)
  · rw [if_neg h0] at h
    by_cases h1 : o.toNat < KD.length
    · rw [KD_len] at h1; omega
    · rw [List.getD_eq_getElem?_getD, List.getElem?_eq_none (by omega)] at h; subst h; exact absurd hd (by decide)
theorem kd_nat {b n : Nat} {d : Kd} (h : ∀ j, j < n → KD[b + j]? = some d) {i : Int} (h0 : 0 ≤ i) (h1 : i < n) : kd ((b : Int) + i) = d := by
  have e : ((b : Int) + i).toNat = b + i.toNat := by omega
  unfold kd
  rw [if_neg (by omega), e, List.getD_eq_getElem?_getD, h _ (by omega)]
  rfl
def cont (t : TT) (al : Int → Nat) (M : Mem) (o : Int) : va_E := contK t al M o (kd o)
def ws (t : TT) (al : Int → Nat) (M : Mem) : va_W := (List.range NO).map (fun (o : Nat) => (al (o : Int), cont t al M (o : Int)))
theorem ws_at (t : TT) (al : Int → Nat) (M : Mem) {o : Int} (h0 : 0 ≤ o) (h1 : o < (NO : Int)) : (ws t al M)[o.toNat]? = some (al o, cont t al M o) := by
  unfold ws
  rw [List.getElem?_map, List.getElem?_range (by omega)]
  have e : ((o.toNat : Nat) : Int) = o := by omega
  simp [e]
theorem ws_len (t : TT) (al : Int → Nat) (M : Mem) : (ws t al M).length = NO := by simp [ws]
theorem mu_same (M : Mem) (o k v : Int) : mu M o k v o k = v := by simp [mu]
theorem mu_o (M : Mem) {o o' : Int} (k v : Int) (h : o' ≠ o) : mu M o k v o' = M o' := by funext k'; simp [mu, h]
theorem mu_k (M : Mem) (o : Int) {k k' : Int} (v : Int) (h : k' ≠ k) : mu M o k v o k' = M o k' := by simp [mu, h]
theorem vals_get (al : Int → Nat) (M : Mem) (o : Int) : ∀ (fts : List Nat) (b k : Nat), (vals al M o b fts)[k]? = (fts[k]?).map (fv al M o (b + k))
  | [], b, k => by simp [vals]
  | t :: r, b, 0 => by simp [vals]
  | t :: r, b, k + 1 => by
    rw [vals, List.getElem?_cons_succ, List.getElem?_cons_succ, vals_get al M o r (b + 1) k]
    congr 2; omega
theorem vals_len (al : Int → Nat) (M : Mem) (o : Int) : ∀ (fts : List Nat) (b : Nat), (vals al M o b fts).length = fts.length
  | [], _ => rfl
  | t :: r, b => by rw [vals, List.length_cons, vals_len al M o r, List.length_cons]
theorem vals_off (al : Int → Nat) (M : Mem) {o o' : Int} (k v : Int) (h : o' ≠ o) : ∀ (fts : List Nat) (b : Nat), vals al (mu M o k v) o' b fts = vals al M o' b fts
  | [], _ => rfl
  | t :: r, b => by rw [vals, vals, vals_off al M k v h r]; simp [fv, mu_o M k v h]
theorem vals_lo (al : Int → Nat) (M : Mem) (o : Int) (k v : Int) : ∀ (fts : List Nat) (b : Nat), k < b → vals al (mu M o k v) o b fts = vals al M o b fts
  | [], _, _ => rfl
  | t :: r, b, h => by
    rw [vals, vals, vals_lo al M o k v r (b + 1) (by omega)]
    have e : (b : Int) ≠ k := by omega
    simp [fv, mu_k M o v e]
theorem vals_set (al : Int → Nat) (M : Mem) (o v : Int) : ∀ (fts : List Nat) (b j : Nat) (x : Value), (∀ t, fts[j]? = some t → x = fv al (mu M o ((b + j : Nat) : Int) v) o (b + j) t) → (vals al M o b fts).set j x = vals al (mu M o ((b + j : Nat) : Int) v) o b fts
  | [], b, j, x, h => rfl
  | t :: r, b, 0, x, h => by
    rw [vals, vals, List.set_cons_zero, vals_lo al M o _ v r (b + 1) (by omega), h t rfl]
    rfl
  | t :: r, b, j + 1, x, h => by
    have e : b + (j + 1) = b + 1 + j := by omega
    rw [vals, vals, List.set_cons_succ, vals_set al M o v r (b + 1) j x (fun t ht => by rw [← e]; exact h t (by simpa using ht)), ← e]
    have e2 : (b : Int) ≠ ((b + (j + 1) : Nat) : Int) := by omega
    simp only [fv, mu_k M o v e2]
/-- one cell changes: the world with the number changed -/
theorem ws_set (t : TT) (al : Int → Nat) (M : Mem) {o k v : Int} {x : va_E} (h0 : 0 ≤ o) (hx : cont t al (mu M o k v) o = x) : (ws t al M).set o.toNat (al o, x) = ws t al (mu M o k v) := by
  apply List.ext_getElem?
  intro j
  by_cases hj : j < NO
  · by_cases e : j = o.toNat
    · subst e
      rw [List.getElem?_set_self (by rw [ws_len]; exact hj), ws_at t al _ h0 (by omega), hx]
    · rw [List.getElem?_set_ne (fun q => e q.symm)]
      have h1 := ws_at t al M (o := (j : Int)) (by omega) (by omega)
      have h2 := ws_at t al (mu M o k v) (o := (j : Int)) (by omega) (by omega)
      rw [Int.toNat_natCast] at h1 h2
      rw [h1, h2]
      have e2 : (j : Int) ≠ o := by omega
      simp [cont, contK, mu_o M k v e2, vals_off al M k v e2]
  · have a : ((ws t al M).set o.toNat (al o, x)).length ≤ j := by rw [List.length_set, ws_len]; omega
    have b : (ws t al (mu M o k v)).length ≤ j := by rw [ws_len]; omega
    rw [List.getElem?_eq_none a, List.getElem?_eq_none b]
/-- which addresses a method may write: the world's -/
def fA (al : Int → Nat) : Nat → Prop := fun q => ∃ o : Int, 0 ≤ o ∧ o < (NO : Int) ∧ q = al o
theorem ws_D {t : TT} {al : Int → Nat} {A : Nat → Prop} {M : Mem} (h : va_D A (ws t al M)) (M' : Mem) : va_D A (ws t al M') := by
  have key : ∀ (i : Nat) (q : Nat × va_E), (ws t al M')[i]? = some q → ∃ q', (ws t al M)[i]? = some q' ∧ q'.1 = q.1 := by
    intro i q hi
    have hl := (List.getElem?_eq_some_iff.mp hi).1
    rw [ws_len] at hl
    have h1 := ws_at t al M (o := (i : Int)) (by omega) (by omega)
    have h2 := ws_at t al M' (o := (i : Int)) (by omega) (by omega)
    rw [Int.toNat_natCast] at h1 h2
    rw [h2] at hi
    cases hi
    exact ⟨_, h1, rfl⟩
  refine ⟨fun i j p q hi hj e => ?_, fun k q hk => ?_⟩
  · obtain ⟨p', a1, a2⟩ := key i p hi
    obtain ⟨q', b1, b2⟩ := key j q hj
    exact h.1 i j p' q' a1 b1 (a2.trans (e.trans b2.symm))
  · obtain ⟨q', a1, a2⟩ := key k q hk
    rw [← a2]; exact h.2 k q' a1
theorem ws_fA {t : TT} {al : Int → Nat} {A : Nat → Prop} {M : Mem} (h : va_D A (ws t al M)) : va_D (fA al) (ws t al M) := by
  refine ⟨h.1, fun k q hk => ?_⟩
  have hl := (List.getElem?_eq_some_iff.mp hk).1
  rw [ws_len] at hl
  have h1 := ws_at t al M (o := (k : Int)) (by omega) (by omega)
  rw [Int.toNat_natCast] at h1
  rw [h1] at hk
  cases hk
  exact ⟨(k : Int), by omega, by omega, rfl⟩
theorem fA_A {t : TT} {al : Int → Nat} {A : Nat → Prop} {M : Mem} (h : va_D A (ws t al M)) {q : Nat} (hq : fA al q) : A q := by
  obtain ⟨o, h0, h1, rfl⟩ := hq
  exact h.2 _ _ (ws_at t al M h0 h1)
/-- the world of a contract -/
def RepS (t : TT) (D : va_G) (al : Int → Nat) (M : Mem) (U : State) : Prop := va_P D vwCl (ws t al M) U.heap ∧ va_K D vwCl (tys t) U ∧ va_D (fA al) (ws t al M) ∧ ∀ w ∈ nw, va_Nw w U
theorem nw_warm {s U : State} (hW : s.WarmedH U.vm) (h : ∀ w ∈ nw, va_Nw w s) : ∀ w ∈ nw, va_Nw w U := by
  intro w hw
  have hz := h w hw
  simp only [nw, List.mem_cons, List.not_mem_nil, or_false] at hw
  rcases hw with rfl | rfl | rfl | rfl | rfl | rfl | rfl | rfl | rfl | rfl | rfl | rfl | rfl | rfl
  all_goals first | exact va_Nw.warmM hW hz | exact va_Nw.warmD hW hz
theorem nw_same {s U : State} (e : s.vm = U.vm) (h : ∀ w ∈ nw, va_Nw w s) : ∀ w ∈ nw, va_Nw w U := fun w hw => va_Nw.same (nw_on w hw) e (h w hw)
theorem repS_blind {t : TT} {D : va_G} {al : Int → Nat} {M : Mem} {av : List Value} : FrameBlind (va_Pc av (RepS t D al M)) := by
  intro a U g mk h
  obtain ⟨h0, hP, hK, hD, hN⟩ := h
  exact ⟨h0, hP, va_K.moved (u := U) (U := U.calling g mk a) (Vm.Alike.refl U.vm) hK, hD, nw_same (s := U) (U := U.calling g mk a) rfl hN⟩
def QI (t : TT) (D : va_G) (al : Int → Nat) (post : Int → Mem → Prop) : Array Value → State → Outcome → State → Prop := va_Qi (S := Int × Mem) (fun r u => r = iN u.1 ∧ post u.1 u.2) (fun u U => RepS t D al u.2 U) (fA al)
def QJ (t : TT) (D : va_G) (al : Int → Nat) (post : Int → Mem → Prop) : Array Value → State → Outcome → State → Prop := va_Ql (S := Int × Mem) (fun r u => r = jN u.1 ∧ post u.1 u.2) (fun u U => RepS t D al u.2 U) (fA al)
def QV (t : TT) (D : va_G) (al : Int → Nat) (post : Mem → Prop) : Array Value → State → Outcome → State → Prop := va_Qv (S := Mem) post (fun u U => RepS t D al u U) (fA al)
abbrev rmN (fr lo : Nat) : Room := { frames := fr, cells := 0, slots := 0, locals := lo }
abbrev CI (l : Launch) (y : MethodName) (cc : ByteArray) (nL : Nat) (rt : FieldType) (fr lo : Nat) (t : TT) (D : va_G) (al : Int → Nat) (av : List Value) (M : Mem) (post : Int → Mem → Prop) : Prop := Met l y (Cond.code y cc nL (some rt) :: tb) (rmN fr lo) (va_Pc av (RepS t D al M)) (QI t D al post) 0 0 (fA al)
abbrev CJ (l : Launch) (y : MethodName) (cc : ByteArray) (nL fr lo : Nat) (t : TT) (D : va_G) (al : Int → Nat) (av : List Value) (M : Mem) (post : Int → Mem → Prop) : Prop := Met l y (Cond.code y cc nL (some .long) :: tb) (rmN fr lo) (va_Pc av (RepS t D al M)) (QJ t D al post) 0 0 (fA al)
abbrev CV (l : Launch) (y : MethodName) (cc : ByteArray) (nL fr lo : Nat) (t : TT) (D : va_G) (al : Int → Nat) (av : List Value) (M : Mem) (post : Mem → Prop) : Prop := Met l y (Cond.code y cc nL none :: tb) (rmN fr lo) (va_Pc av (RepS t D al M)) (QV t D al post) 0 0 (fA al)
/-- the locals: as a list by places; none: dead, or the second half of a long -/
def lvp (la : Array Slot) (ls : List (Option Value)) : Prop := la.size = ls.length ∧ lv_wf la ∧ ∀ (i : Nat) (v : Value), ls[i]? = some (some v) → la[i]? = some (.val v)
def al_of : Nat → List (Option Value) → List (Nat × Value)
  | _, [] => []
  | k, none :: r => al_of (k + 1) r
  | k, some v :: r => (k, v) :: al_of (k + 1) r
theorem al_mem : ∀ (ls : List (Option Value)) (k : Nat) (q : Nat × Value), q ∈ al_of k ls ↔ ∃ i, q.1 = k + i ∧ ls[i]? = some (some q.2)
  | [], k, q => by simp [al_of]
  | none :: r, k, q => by
    rw [al_of, al_mem r]
    constructor
    · rintro ⟨i, h1, h2⟩; exact ⟨i + 1, by omega, by simpa using h2⟩
    · rintro ⟨i, h1, h2⟩
      cases i with
      | zero => simp at h2
      | succ i => exact ⟨i, by omega, by simpa using h2⟩
  | some v :: r, k, q => by
    rw [al_of, List.mem_cons, al_mem r]
    constructor
    · rintro (rfl | ⟨i, h1, h2⟩)
      · exact ⟨0, rfl, rfl⟩
      · exact ⟨i + 1, by omega, by simpa using h2⟩
    · rintro ⟨i, h1, h2⟩
      cases i with
      | zero => left; obtain ⟨a, b⟩ := q; simp at h1 h2; simp [h1, h2]
      | succ i => right; exact ⟨i, by omega, by simpa using h2⟩
theorem lvp_has {la : Array Slot} {ls : List (Option Value)} : lvp la ls ↔ lv_has la ls.length (al_of 0 ls) := by
  constructor
  · rintro ⟨h1, h2, h3⟩
    refine ⟨h1, h2, fun q hq => ?_⟩
    obtain ⟨i, e, h⟩ := (al_mem ls 0 q).mp hq
    rw [Nat.zero_add] at e
    rw [e]; exact h3 i q.2 h
  · rintro ⟨h1, h2, h3⟩
    exact ⟨h1, h2, fun i v h => h3 (i, v) ((al_mem ls 0 (i, v)).mpr ⟨i, (Nat.zero_add i).symm, h⟩)⟩
/-- a word into a place: what it lies behind must not be a long's first half -/
def lok (ls : List (Option Value)) (i : Nat) : Prop := match i with
  | 0 => True
  | j + 1 => match ls[j]? with
    | some (some v) => v.category = 1
    | _ => True
theorem lok_ne {ls : List (Option Value)} {i k : Nat} {v : Value} (h : lok ls i) (hk : ls[k]? = some (some v)) (e : k + 1 = i) : v.category ≠ 2 := by
  subst e
  simp only [lok, hk] at h
  omega
theorem lvp_set1 {la : Array Slot} {ls : List (Option Value)} {i : Nat} {v : Value} (h : lvp la ls) (hi : i < ls.length) (hc : v.category = 1) (ho : lok ls i) : ∃ la', storeLocals la i v = some la' ∧ lvp la' (ls.set i (some v)) := by
  obtain ⟨la', h1, h2, h3, h4⟩ := lv_store1 (v := v) (lvp_has.mp h) hi hc
  refine ⟨la', h1, by rw [h2, List.length_set], h3, fun k w hk => ?_⟩
  by_cases e : k = i
  · subst e
    rw [List.getElem?_set_self hi] at hk
    obtain rfl : v = w := Option.some.inj (Option.some.inj hk)
    exact h4 (k, v) List.mem_cons_self
  · rw [List.getElem?_set_ne (fun q => e q.symm)] at hk
    refine h4 (k, w) (List.mem_cons_of_mem _ (List.mem_filter.mpr ⟨(al_mem ls 0 (k, w)).mpr ⟨k, (Nat.zero_add k).symm, hk⟩, ?_⟩))
    have hw : ¬ (k + 1 = i ∧ w.category = 2) := fun q => lok_ne ho hk q.1 q.2
    have e2 : (k == i) = false := by simpa using e
    simp only [e2, Bool.not_false, Bool.true_and, Bool.not_eq_true', Bool.and_eq_false_iff, beq_eq_false_iff_ne]
    by_cases e3 : k + 1 = i
    · exact Or.inr (fun q => hw ⟨e3, q⟩)
    · exact Or.inl e3
theorem lvp_set2 {la : Array Slot} {ls : List (Option Value)} {i : Nat} {v : Value} (h : lvp la ls) (hi : i + 1 < ls.length) (hc : v.category = 2) (ho : lok ls i) : ∃ la', storeLocals la i v = some la' ∧ lvp la' ((ls.set i (some v)).set (i + 1) none) := by
  obtain ⟨la', h1, h2, h3, h4⟩ := lv_store2 (v := v) (lvp_has.mp h) hi hc
  refine ⟨la', h1, by rw [h2, List.length_set, List.length_set], h3, fun k w hk => ?_⟩
  by_cases e1 : k = i + 1
  · subst e1
    rw [List.getElem?_set_self (by rw [List.length_set]; exact hi)] at hk
    cases hk
  · rw [List.getElem?_set_ne (fun q => e1 q.symm)] at hk
    by_cases e : k = i
    · subst e
      rw [List.getElem?_set_self (by omega)] at hk
      obtain rfl : v = w := Option.some.inj (Option.some.inj hk)
      exact h4 (k, v) List.mem_cons_self
    · rw [List.getElem?_set_ne (fun q => e q.symm)] at hk
      refine h4 (k, w) (List.mem_cons_of_mem _ (List.mem_filter.mpr ⟨(al_mem ls 0 (k, w)).mpr ⟨k, (Nat.zero_add k).symm, hk⟩, ?_⟩))
      have hw : ¬ (k + 1 = i ∧ w.category = 2) := fun q => lok_ne ho hk q.1 q.2
      have e2 : (k == i) = false := by simpa using e
      have e4 : (k == i + 1) = false := by simpa using e1
      simp only [e2, e4, Bool.not_false, Bool.true_and, Bool.not_eq_true', Bool.and_eq_false_iff, beq_eq_false_iff_ne]
      by_cases e3 : k + 1 = i
      · exact Or.inr (fun q => hw ⟨e3, q⟩)
      · exact Or.inl e3
def lsub : List (Option Value) → List (Option Value) → Prop
  | [], [] => True
  | none :: a, _ :: b => lsub a b
  | some v :: a, some w :: b => v = w ∧ lsub a b
  | _, _ => False
theorem lsub_get : ∀ {a b : List (Option Value)}, lsub a b → a.length = b.length ∧ ∀ (i : Nat) (v : Value), a[i]? = some (some v) → b[i]? = some (some v)
  | [], [], _ => ⟨rfl, fun i v h => by simp at h⟩
  | none :: a, x :: b, h => by
    obtain ⟨h1, h2⟩ := lsub_get (a := a) (b := b) (by simpa [lsub] using h)
    refine ⟨by simp [h1], fun i v hi => ?_⟩
    cases i with
    | zero => simp at hi
    | succ i => simpa using h2 i v (by simpa using hi)
  | some v :: a, some w :: b, h => by
    have h' : v = w ∧ lsub a b := by simpa [lsub] using h
    obtain ⟨rfl, h'⟩ := h'
    obtain ⟨h1, h2⟩ := lsub_get h'
    refine ⟨by simp [h1], fun i u hi => ?_⟩
    cases i with
    | zero => exact hi
    | succ i => simpa using h2 i u (by simpa using hi)
  | [], _ :: _, h => by simp [lsub] at h
  | some _ :: _, [], h => by simp [lsub] at h
  | none :: _, [], h => by simp [lsub] at h
  | some _ :: _, none :: _, h => by simp [lsub] at h
def ent : List Value → List (Option Value)
  | [] => []
  | v :: r => if v.category = 2 then some v :: none :: ent r else some v :: ent r
def entry (vs : List Value) (n : Nat) : List (Option Value) := ent vs ++ List.replicate (n - (lg_sl vs).length) none
theorem ent_len : ∀ vs : List Value, (ent vs).length = (lg_sl vs).length
  | [] => rfl
  | v :: r => by
    by_cases h : v.category = 2 <;> simp [ent, lg_sl, h]
    · have := ent_len r; simp [lg_sl] at this; omega
    · have := ent_len r; simp [lg_sl] at this; omega
theorem ent_args : ∀ (vs : List Value) (k i : Nat) (v : Value), (ent vs)[i]? = some (some v) → (k + i, v) ∈ lv_args k vs
  | [], k, i, v, h => by simp [ent] at h
  | w :: r, k, i, v, h => by
    by_cases hc : w.category = 2
    · rw [ent, if_pos hc] at h
      match i, h with
      | 0, h => simp at h; subst h; simp [lv_args]
      | 1, h => simp at h
      | i + 2, h =>
        have h2 := ent_args r (k + 2) i v (by simpa using h)
        have e : k + (i + 2) = k + 2 + i := by omega
        rw [e]
        simp [lv_args, hc]
        exact Or.inr h2
    · rw [ent, if_neg hc] at h
      match i, h with
      | 0, h => simp at h; subst h; simp [lv_args]
      | i + 1, h =>
        have h2 := ent_args r (k + 1) i v (by simpa using h)
        have e : k + (i + 1) = k + 1 + i := by omega
        rw [e]
        have hc1 : w.category = 1 := by rcases lv_cat w with q | q <;> omega
        simp [lv_args, hc1]
        exact Or.inr h2
theorem entry_lvp (vs : List Value) {n : Nat} (h : (lg_sl vs).length ≤ n) : lvp ((lg_sl vs ++ List.replicate (n - (lg_sl vs).length) Slot.unset).toArray) (entry vs n) := by
  obtain ⟨h1, h2, h3⟩ := lv_entry vs h
  refine ⟨by rw [h1]; simp [entry, ent_len]; omega, h2, fun i v hi => ?_⟩
  have hm : (ent vs)[i]? = some (some v) := by
    unfold entry at hi
    by_cases hl : i < (ent vs).length
    · rwa [List.getElem?_append_left hl] at hi
    · rw [List.getElem?_append_right (by omega), List.getElem?_replicate] at hi
      split at hi <;> cases hi
  have := h3 _ (ent_args vs 0 i v hm)
  simpa using this
end
section
abbrev i32 (a : Int) : Prop := -2147483648 ≤ a ∧ a ≤ 2147483647
abbrev i64 (a : Int) : Prop := -9223372036854775808 ≤ a ∧ a ≤ 9223372036854775807
theorem iN_toInt {a : Int} (h : i32 a) : (iN a).toInt = a := Int32.toInt_ofInt_of_le (by omega) (by omega)
theorem jN_toInt {a : Int} (h : i64 a) : (jN a).toInt = a := Int64.toInt_ofInt_of_le (by omega) (by omega)
theorem iN_lt {a b : Int} (ha : i32 a) (hb : i32 b) : iN a < iN b ↔ a < b := by rw [Int32.lt_iff_toInt_lt, iN_toInt ha, iN_toInt hb]
theorem iN_le {a b : Int} (ha : i32 a) (hb : i32 b) : iN a ≤ iN b ↔ a ≤ b := by rw [Int32.le_iff_toInt_le, iN_toInt ha, iN_toInt hb]
theorem iN_eq {a b : Int} (ha : i32 a) (hb : i32 b) : iN a = iN b ↔ a = b := by rw [← Int32.toInt_inj, iN_toInt ha, iN_toInt hb]
theorem jN_lt {a b : Int} (ha : i64 a) (hb : i64 b) : jN a < jN b ↔ a < b := by rw [Int64.lt_iff_toInt_lt, jN_toInt ha, jN_toInt hb]
theorem jN_eq {a b : Int} (ha : i64 a) (hb : i64 b) : jN a = jN b ↔ a = b := by rw [← Int64.toInt_inj, jN_toInt ha, jN_toInt hb]
theorem iN_0 : iN 0 = 0 := rfl
theorem jN_0 : jN 0 = 0 := rfl
theorem iN_add (a b : Int) : iN (a + b) = iN a + iN b := Int32.ofInt_add a b
theorem iN_sub (a b : Int) : iN (a - b) = iN a - iN b := Int32.ofInt_sub a b
theorem iN_mul (a b : Int) : iN (a * b) = iN a * iN b := Int32.ofInt_mul a b
theorem jN_add (a b : Int) : jN (a + b) = jN a + jN b := Int64.ofInt_add a b
theorem jN_sub (a b : Int) : jN (a - b) = jN a - jN b := Int64.ofInt_sub a b
theorem jN_mul (a b : Int) : jN (a * b) = jN a * jN b := Int64.ofInt_mul a b
theorem iN_of (x : Int32) : iN x.toInt = x := Int32.ofInt_toInt x
theorem jN_of (x : Int64) : jN x.toInt = x := Int64.ofInt_toInt x
theorem i32_of (x : Int32) : i32 x.toInt := by
  have h1 := Int32.le_toInt x
  have h2 := Int32.toInt_lt x
  constructor <;> omega
theorem iN_div {a b : Int} (ha : 0 ≤ a ∧ a ≤ 2147483647) (hb : 0 < b ∧ b ≤ 2147483647) : iN (a / b) = iN a / iN b := by
  apply Int32.toInt_inj.mp
  have h1 : a / b ≤ a := Int.ediv_le_self b ha.1
  have h0 : 0 ≤ a / b := Int.ediv_nonneg ha.1 (by omega)
  rw [Int32.toInt_div, iN_toInt (a := a / b) (by constructor <;> omega), iN_toInt (a := a) (by constructor <;> omega), iN_toInt (a := b) (by constructor <;> omega), Int.tdiv_eq_ediv_of_nonneg ha.1]
  exact (Int.bmod_eq_of_le (by omega) (by omega)).symm
theorem jN_div {a b : Int} (ha : 0 ≤ a ∧ a ≤ 9223372036854775807) (hb : 0 < b ∧ b ≤ 9223372036854775807) : jN (a / b) = jN a / jN b := by
  apply Int64.toInt_inj.mp
  have h1 : a / b ≤ a := Int.ediv_le_self b ha.1
  have h0 : 0 ≤ a / b := Int.ediv_nonneg ha.1 (by omega)
  rw [Int64.toInt_div, jN_toInt (a := a / b) (by constructor <;> omega), jN_toInt (a := a) (by constructor <;> omega), jN_toInt (a := b) (by constructor <;> omega), Int.tdiv_eq_ediv_of_nonneg ha.1]
  exact (Int.bmod_eq_of_le (by omega) (by omega)).symm
theorem iN_rem {a b : Int} (ha : 0 ≤ a ∧ a ≤ 2147483647) (hb : 0 < b ∧ b ≤ 2147483647) : iN (a % b) = iN a - iN a / iN b * iN b := by
  rw [← iN_div ha hb, ← iN_mul, ← iN_sub]
  congr 1
  have h := Int.emod_def a b
  rw [h, Int.mul_comm]
theorem jN_rem {a b : Int} (ha : 0 ≤ a ∧ a ≤ 9223372036854775807) (hb : 0 < b ∧ b ≤ 9223372036854775807) : jN (a % b) = jN a - jN a / jN b * jN b := by
  rw [← jN_div ha hb, ← jN_mul, ← jN_sub]
  congr 1
  have h := Int.emod_def a b
  rw [h, Int.mul_comm]
theorem iN_i2l {a : Int} (h : i32 a) : (iN a).toInt64 = jN a := by
  apply Int64.toInt_inj.mp
  rw [jN_toInt (by constructor <;> omega)]
  exact (Int32.toInt_toInt64 _).trans (iN_toInt h)
theorem jN_l2i (a : Int) : (jN a).toInt32 = iN a := Int64.toInt32_ofInt
theorem iN_ne0 {b : Int} (h : b ≠ 0) (hb : i32 b) : ¬ iN b = 0 := fun q => h ((iN_eq (b := 0) hb (by decide)).mp q)
theorem jN_ne0 {b : Int} (h : b ≠ 0) (hb : i64 b) : ¬ jN b = 0 := fun q => h ((jN_eq (b := 0) hb (by decide)).mp q)
theorem iN_clamp {a : Int} (h : 0 ≤ a ∧ a ≤ 2147483647) : (iN a).toNatClampNeg = a.toNat := by
  show (iN a).toInt.toNat = _
  rw [iN_toInt (by constructor <;> omega)]
theorem iN_in {a : Int} {n : Nat} (h0 : 0 ≤ a) (h1 : a < n) (hn : n < 2147483648) : vp_in (iN a) n := by
  rw [vp_in_iff, iN_toInt (by constructor <;> omega)]
  exact ⟨h0, h1⟩
/-- what bits give, as numbers: no condition on the operands -/
def and32 (a b : Int) : Int := (iN a &&& iN b).toInt
def or32 (a b : Int) : Int := (iN a ||| iN b).toInt
def xor32 (a b : Int) : Int := (iN a ^^^ iN b).toInt
def shl32 (a b : Int) : Int := (iN a <<< (iN b &&& 31)).toInt
def shr32 (a b : Int) : Int := (iN a >>> (iN b &&& 31)).toInt
def ushr32 (a b : Int) : Int := ((iN a).toUInt32 >>> ((iN b).toUInt32 &&& Int32.toUInt32 31)).toInt32.toInt
def and64 (a b : Int) : Int := (jN a &&& jN b).toInt
def or64 (a b : Int) : Int := (jN a ||| jN b).toInt
def shl64 (a b : Int) : Int := (jN a <<< ((iN b).toInt64 &&& 63)).toInt
def ushr64 (a b : Int) : Int := ((jN a).toUInt64 >>> ((iN b).toInt64.toUInt64 &&& Int64.toUInt64 63)).toInt64.toInt
abbrev Cx (p : Program) (s : State) (m : MethodId) (args : Array Value) (c : Code) (R : Room) (kc ks : Nat) (cc : ByteArray) (own : String) (nL : Nat) (t : TT) (D : va_G) (al : Int → Nat) (A : Nat → Prop) : Prop :=
  p.tables.exec = Jvm.exec ∧ c.code = cc ∧ c.maxLocals = nL ∧ s.vm.findClass own = some m.cls ∧ (∀ w ∈ tb, w.before args s = true) ∧ (∀ w ∈ nw, va_Nw w s) ∧ va_K D vwCl (tys t) s ∧ (∀ M, va_D A (ws t al M)) ∧ kc ≤ R.cells ∧ ks ≤ R.slots
/-- the walk at a place, with these locals, this stack, these numbers -/
def Gd (p : Program) (l : Launch) (e : Env) (R : Room) (s : State) (m : MethodId) (args : Array Value) (below : List Frame) (meth : Method) (c : Code) (kc ks : Nat) (Q : State → Prop) (t : TT) (D : va_G) (al : Int → Nat) (A : Nat → Prop) (pc : Nat) (ls : List (Option Value)) (st : List Value) (M : Mem) : Prop :=
  ∀ (H : Heap) (locs : List Loc) (la : Array Slot), va_P D vwCl (ws t al M) H → va_S A s.heap H locs → lvp la ls → W p l e R s m args below meth c H locs kc ks Q (F0 m pc la st)
section GD
variable {p : Program} {l : Launch} {e : Env} {R : Room} {s : State} {m : MethodId} {args : Array Value} {below : List Frame} {meth : Method} {c : Code} {kc ks : Nat} {Q : State → Prop} {t : TT} {D : va_G} {al : Int → Nat} {A : Nat → Prop}
variable {cc : ByteArray} {own : String} {nL pc : Nat} {ls ls' : List (Option Value)} {st : List Value} {M : Mem}
theorem g_iconst (X : Cx p s m args c R kc ks cc own nL t D al A) {n : Int} (hd : decode cc pc = .ok (.iconst n, 1)) (k : Gd p l e R s m args below meth c kc ks Q t D al A (pc + 1) ls (.int (iN n) :: st) M) : Gd p l e R s m args below meth c kc ks Q t D al A pc ls st M := fun H locs la hP hS hv => lv_iconst X.1 X.2.1 hd rfl (k H locs la hP hS hv)
theorem g_bipush (X : Cx p s m args c R kc ks cc own nL t D al A) {n : Int} (hd : decode cc pc = .ok (.bipush n, 2)) (h : (Int8.ofInt n).toInt32 = iN n) (k : Gd p l e R s m args below meth c kc ks Q t D al A (pc + 2) ls (.int (iN n) :: st) M) : Gd p l e R s m args below meth c kc ks Q t D al A pc ls st M := fun H locs la hP hS hv => lv_bipush X.1 X.2.1 hd h (k H locs la hP hS hv)
theorem g_sipush (X : Cx p s m args c R kc ks cc own nL t D al A) {n : Int} (hd : decode cc pc = .ok (.sipush n, 3)) (h : (Int16.ofInt n).toInt32 = iN n) (k : Gd p l e R s m args below meth c kc ks Q t D al A (pc + 3) ls (.int (iN n) :: st) M) : Gd p l e R s m args below meth c kc ks Q t D al A pc ls st M := fun H locs la hP hS hv => lv_sipush X.1 X.2.1 hd h (k H locs la hP hS hv)
theorem g_lconst (X : Cx p s m args c R kc ks cc own nL t D al A) {n : Fin 2} {v : Int} (hd : decode cc pc = .ok (.lconst n, 1)) (h : Int64.ofNat n = jN v) (k : Gd p l e R s m args below meth c kc ks Q t D al A (pc + 1) ls (.long (jN v) :: st) M) : Gd p l e R s m args below meth c kc ks Q t D al A pc ls st M := fun H locs la hP hS hv => lv_lconst X.1 X.2.1 hd h (k H locs la hP hS hv)
theorem g_ldc (X : Cx p s m args c R kc ks cc own nL t D al A) {index : Nat} {v : Int32} {n : Int} (hw : Cond.constant own index v ∈ tb) (h : v = iN n) (hd : decode cc pc = .ok (.ldc index, 2)) (k : Gd p l e R s m args below meth c kc ks Q t D al A (pc + 2) ls (.int (iN n) :: st) M) : Gd p l e R s m args below meth c kc ks Q t D al A pc ls st M := fun H locs la hP hS hv => lv_ldc X.1 X.2.1 X.2.2.2.1 (h ▸ X.2.2.2.2.1 _ hw) hd (k H locs la hP hS hv)
theorem g_ldcw (X : Cx p s m args c R kc ks cc own nL t D al A) {index : Nat} {v : Int32} {n : Int} (hw : Cond.constant own index v ∈ tb) (h : v = iN n) (hd : decode cc pc = .ok (.ldc_w index, 3)) (k : Gd p l e R s m args below meth c kc ks Q t D al A (pc + 3) ls (.int (iN n) :: st) M) : Gd p l e R s m args below meth c kc ks Q t D al A pc ls st M := fun H locs la hP hS hv => lv_ldcw X.1 X.2.1 X.2.2.2.1 (h ▸ X.2.2.2.2.1 _ hw) hd (k H locs la hP hS hv)
theorem g_ldc2 (X : Cx p s m args c R kc ks cc own nL t D al A) {index : Nat} {v : Int64} {n : Int} (hw : Cond.constantLong own index v ∈ tb) (h : v = jN n) (hd : decode cc pc = .ok (.ldc2_w index, 3)) (k : Gd p l e R s m args below meth c kc ks Q t D al A (pc + 3) ls (.long (jN n) :: st) M) : Gd p l e R s m args below meth c kc ks Q t D al A pc ls st M := fun H locs la hP hS hv => lv_ldc2 X.1 X.2.1 X.2.2.2.1 (h ▸ X.2.2.2.2.1 _ hw) hd (k H locs la hP hS hv)
theorem g_iload_n (X : Cx p s m args c R kc ks cc own nL t D al A) {k : Fin 4} {i : Nat} {x : Int32} (hd : decode cc pc = .ok (.iload_n k, 1)) (hi : (k : Nat) = i) (hl : ls[i]? = some (some (.int x))) (k : Gd p l e R s m args below meth c kc ks Q t D al A (pc + 1) ls (.int x :: st) M) : Gd p l e R s m args below meth c kc ks Q t D al A pc ls st M := fun H locs la hP hS hv => lv_iload_n X.1 X.2.1 hd hi (hv.2.2 i _ hl) (k H locs la hP hS hv)
theorem g_iload (X : Cx p s m args c R kc ks cc own nL t D al A) {i : Nat} {x : Int32} (hd : decode cc pc = .ok (.iload i, 2)) (hl : ls[i]? = some (some (.int x))) (k : Gd p l e R s m args below meth c kc ks Q t D al A (pc + 2) ls (.int x :: st) M) : Gd p l e R s m args below meth c kc ks Q t D al A pc ls st M := fun H locs la hP hS hv => lv_iload X.1 X.2.1 hd (hv.2.2 i _ hl) (k H locs la hP hS hv)
theorem g_lload_n (X : Cx p s m args c R kc ks cc own nL t D al A) {k : Fin 4} {i : Nat} {x : Int64} (hd : decode cc pc = .ok (.lload_n k, 1)) (hi : (k : Nat) = i) (hl : ls[i]? = some (some (.long x))) (k : Gd p l e R s m args below meth c kc ks Q t D al A (pc + 1) ls (.long x :: st) M) : Gd p l e R s m args below meth c kc ks Q t D al A pc ls st M := fun H locs la hP hS hv => lv_lload_n X.1 X.2.1 hd hi (hv.2.2 i _ hl) (k H locs la hP hS hv)
theorem g_lload (X : Cx p s m args c R kc ks cc own nL t D al A) {i : Nat} {x : Int64} (hd : decode cc pc = .ok (.lload i, 2)) (hl : ls[i]? = some (some (.long x))) (k : Gd p l e R s m args below meth c kc ks Q t D al A (pc + 2) ls (.long x :: st) M) : Gd p l e R s m args below meth c kc ks Q t D al A pc ls st M := fun H locs la hP hS hv => lv_lload X.1 X.2.1 hd (hv.2.2 i _ hl) (k H locs la hP hS hv)
theorem g_aload_n (X : Cx p s m args c R kc ks cc own nL t D al A) {k : Fin 4} {i : Nat} {x : Nat} (hd : decode cc pc = .ok (.aload_n k, 1)) (hi : (k : Nat) = i) (hl : ls[i]? = some (some (.ref x))) (k : Gd p l e R s m args below meth c kc ks Q t D al A (pc + 1) ls (.ref x :: st) M) : Gd p l e R s m args below meth c kc ks Q t D al A pc ls st M := fun H locs la hP hS hv => lv_aload_n X.1 X.2.1 hd hi (hv.2.2 i _ hl) (k H locs la hP hS hv)
theorem g_aload (X : Cx p s m args c R kc ks cc own nL t D al A) {i : Nat} {x : Nat} (hd : decode cc pc = .ok (.aload i, 2)) (hl : ls[i]? = some (some (.ref x))) (k : Gd p l e R s m args below meth c kc ks Q t D al A (pc + 2) ls (.ref x :: st) M) : Gd p l e R s m args below meth c kc ks Q t D al A pc ls st M := fun H locs la hP hS hv => lv_aload X.1 X.2.1 hd (hv.2.2 i _ hl) (k H locs la hP hS hv)
theorem g_istore_n0 (X : Cx p s m args c R kc ks cc own nL t D al A) {k : Fin 4} {i : Nat} {x : Int32} (hd : decode cc pc = .ok (.istore_n k, 1)) (hi : (k : Nat) = i) (hn : i < ls.length) (ho : lok ls i) (k : Gd p l e R s m args below meth c kc ks Q t D al A (pc + 1) (ls.set i (some (.int x))) st M) : Gd p l e R s m args below meth c kc ks Q t D al A pc ls (.int x :: st) M := by
  subst hi
  intro H locs la hP hS hv
  obtain ⟨la', e', hv'⟩ := lvp_set1 (v := .int x) hv hn rfl ho
  intro T hT Xs
  obtain ⟨tt, aa, bb⟩ := k H locs la' hP hS hv' T hT Xs
  refine ⟨tt, ?_, bb⟩
  jvm_step Xs.here [Xs.here.top, ↓top_set Xs.here.top, X.1, X.2.1, hd, e']
  exact aa
theorem g_istore0 (X : Cx p s m args c R kc ks cc own nL t D al A) {i : Nat} {x : Int32} (hd : decode cc pc = .ok (.istore i, 2)) (hn : i < ls.length) (ho : lok ls i) (k : Gd p l e R s m args below meth c kc ks Q t D al A (pc + 2) (ls.set i (some (.int x))) st M) : Gd p l e R s m args below meth c kc ks Q t D al A pc ls (.int x :: st) M := by
  intro H locs la hP hS hv
  obtain ⟨la', e', hv'⟩ := lvp_set1 (v := .int x) hv hn rfl ho
  intro T hT Xs
  obtain ⟨tt, aa, bb⟩ := k H locs la' hP hS hv' T hT Xs
  refine ⟨tt, ?_, bb⟩
  jvm_step Xs.here [Xs.here.top, ↓top_set Xs.here.top, X.1, X.2.1, hd, e']
  exact aa
theorem g_astore_n0 (X : Cx p s m args c R kc ks cc own nL t D al A) {k : Fin 4} {i : Nat} {x : Nat} (hd : decode cc pc = .ok (.astore_n k, 1)) (hi : (k : Nat) = i) (hn : i < ls.length) (ho : lok ls i) (k : Gd p l e R s m args below meth c kc ks Q t D al A (pc + 1) (ls.set i (some (.ref x))) st M) : Gd p l e R s m args below meth c kc ks Q t D al A pc ls (.ref x :: st) M := by
  subst hi
  intro H locs la hP hS hv
  obtain ⟨la', e', hv'⟩ := lvp_set1 (v := .ref x) hv hn rfl ho
  intro T hT Xs
  obtain ⟨tt, aa, bb⟩ := k H locs la' hP hS hv' T hT Xs
  refine ⟨tt, ?_, bb⟩
  jvm_step Xs.here [Xs.here.top, ↓top_set Xs.here.top, X.1, X.2.1, hd, e']
  exact ⟨rfl, aa⟩
theorem g_astore0 (X : Cx p s m args c R kc ks cc own nL t D al A) {i : Nat} {x : Nat} (hd : decode cc pc = .ok (.astore i, 2)) (hn : i < ls.length) (ho : lok ls i) (k : Gd p l e R s m args below meth c kc ks Q t D al A (pc + 2) (ls.set i (some (.ref x))) st M) : Gd p l e R s m args below meth c kc ks Q t D al A pc ls (.ref x :: st) M := by
  intro H locs la hP hS hv
  obtain ⟨la', e', hv'⟩ := lvp_set1 (v := .ref x) hv hn rfl ho
  intro T hT Xs
  obtain ⟨tt, aa, bb⟩ := k H locs la' hP hS hv' T hT Xs
  refine ⟨tt, ?_, bb⟩
  jvm_step Xs.here [Xs.here.top, ↓top_set Xs.here.top, X.1, X.2.1, hd, e']
  exact ⟨rfl, aa⟩
theorem g_lstore_n0 (X : Cx p s m args c R kc ks cc own nL t D al A) {k : Fin 4} {i : Nat} {x : Int64} (hd : decode cc pc = .ok (.lstore_n k, 1)) (hi : (k : Nat) = i) (hn : i + 1 < ls.length) (ho : lok ls i) (k : Gd p l e R s m args below meth c kc ks Q t D al A (pc + 1) ((ls.set i (some (.long x))).set (i + 1) none) st M) : Gd p l e R s m args below meth c kc ks Q t D al A pc ls (.long x :: st) M := by
  subst hi
  intro H locs la hP hS hv
  obtain ⟨la', e', hv'⟩ := lvp_set2 (v := .long x) hv hn rfl ho
  intro T hT Xs
  obtain ⟨tt, aa, bb⟩ := k H locs la' hP hS hv' T hT Xs
  refine ⟨tt, ?_, bb⟩
  jvm_step Xs.here [Xs.here.top, ↓top_set Xs.here.top, X.1, X.2.1, hd, e']
  exact aa
theorem g_lstore0 (X : Cx p s m args c R kc ks cc own nL t D al A) {i : Nat} {x : Int64} (hd : decode cc pc = .ok (.lstore i, 2)) (hn : i + 1 < ls.length) (ho : lok ls i) (k : Gd p l e R s m args below meth c kc ks Q t D al A (pc + 2) ((ls.set i (some (.long x))).set (i + 1) none) st M) : Gd p l e R s m args below meth c kc ks Q t D al A pc ls (.long x :: st) M := by
  intro H locs la hP hS hv
  obtain ⟨la', e', hv'⟩ := lvp_set2 (v := .long x) hv hn rfl ho
  intro T hT Xs
  obtain ⟨tt, aa, bb⟩ := k H locs la' hP hS hv' T hT Xs
  refine ⟨tt, ?_, bb⟩
  jvm_step Xs.here [Xs.here.top, ↓top_set Xs.here.top, X.1, X.2.1, hd, e']
  exact aa
theorem g_iinc0 (X : Cx p s m args c R kc ks cc own nL t D al A) {i : Nat} {n x : Int} (hd : decode cc pc = .ok (.iinc i n, 3)) (hl : ls[i]? = some (some (.int (iN x)))) (hn : i < ls.length) (ho : lok ls i) (k : Gd p l e R s m args below meth c kc ks Q t D al A (pc + 3) (ls.set i (some (.int (iN (x + n))))) st M) : Gd p l e R s m args below meth c kc ks Q t D al A pc ls st M := by
  intro H locs la hP hS hv
  have hg := hv.2.2 i _ hl
  obtain ⟨la', e', hv'⟩ := lvp_set1 (v := .int (iN x + Int32.ofInt n)) hv hn rfl ho
  intro T hT Xs
  obtain ⟨tt, aa, bb⟩ := k H locs la' hP hS (by rw [iN_add]; exact hv') T hT Xs
  refine ⟨tt, ?_, bb⟩
  jvm_step Xs.here [Xs.here.top, ↓top_set Xs.here.top, X.1, X.2.1, hd, hg, e']
  exact aa
theorem g_istore_n_0 (X : Cx p s m args c R kc ks cc own nL t D al A) {k : Fin 4}  {y : Option Value} {r : List (Option Value)} {a : Int} (hd : decode cc pc = .ok (.istore_n k, 1)) (hi : (k : Nat) = 0)  (k : ∀ v : Int, v = a → Gd p l e R s m args below meth c kc ks Q t D al A (pc + 1) (some (.int (iN v)) :: r) st M) : Gd p l e R s m args below meth c kc ks Q t D al A pc (y :: r) (.int (iN a) :: st) M := g_istore_n0 X hd hi (by simp) trivial (k a rfl)
theorem g_istore_0 (X : Cx p s m args c R kc ks cc own nL t D al A)  {y : Option Value} {r : List (Option Value)} {a : Int} (hd : decode cc pc = .ok (.istore 0, 2))  (k : ∀ v : Int, v = a → Gd p l e R s m args below meth c kc ks Q t D al A (pc + 2) (some (.int (iN v)) :: r) st M) : Gd p l e R s m args below meth c kc ks Q t D al A pc (y :: r) (.int (iN a) :: st) M := g_istore0 X hd (by simp) trivial (k a rfl)
theorem g_astore_n_0 (X : Cx p s m args c R kc ks cc own nL t D al A) {k : Fin 4}  {y : Option Value} {r : List (Option Value)} {a : Nat} (hd : decode cc pc = .ok (.astore_n k, 1)) (hi : (k : Nat) = 0)  (k : ∀ v : Nat, v = a → Gd p l e R s m args below meth c kc ks Q t D al A (pc + 1) (some (.ref v) :: r) st M) : Gd p l e R s m args below meth c kc ks Q t D al A pc (y :: r) (.ref a :: st) M := g_astore_n0 X hd hi (by simp) trivial (k a rfl)
theorem g_astore_0 (X : Cx p s m args c R kc ks cc own nL t D al A)  {y : Option Value} {r : List (Option Value)} {a : Nat} (hd : decode cc pc = .ok (.astore 0, 2))  (k : ∀ v : Nat, v = a → Gd p l e R s m args below meth c kc ks Q t D al A (pc + 2) (some (.ref v) :: r) st M) : Gd p l e R s m args below meth c kc ks Q t D al A pc (y :: r) (.ref a :: st) M := g_astore0 X hd (by simp) trivial (k a rfl)
theorem g_lstore_n_0 (X : Cx p s m args c R kc ks cc own nL t D al A) {k : Fin 4}  {y z : Option Value} {r : List (Option Value)} {a : Int} (hd : decode cc pc = .ok (.lstore_n k, 1)) (hi : (k : Nat) = 0)  (k : ∀ v : Int, v = a → Gd p l e R s m args below meth c kc ks Q t D al A (pc + 1) (some (.long (jN v)) :: none :: r) st M) : Gd p l e R s m args below meth c kc ks Q t D al A pc (y :: z :: r) (.long (jN a) :: st) M := g_lstore_n0 X hd hi (by simp) trivial (k a rfl)
theorem g_lstore_0 (X : Cx p s m args c R kc ks cc own nL t D al A)  {y z : Option Value} {r : List (Option Value)} {a : Int} (hd : decode cc pc = .ok (.lstore 0, 2))  (k : ∀ v : Int, v = a → Gd p l e R s m args below meth c kc ks Q t D al A (pc + 2) (some (.long (jN v)) :: none :: r) st M) : Gd p l e R s m args below meth c kc ks Q t D al A pc (y :: z :: r) (.long (jN a) :: st) M := g_lstore0 X hd (by simp) trivial (k a rfl)
theorem g_iinc_0 (X : Cx p s m args c R kc ks cc own nL t D al A)  {r : List (Option Value)} {a n : Int} (hd : decode cc pc = .ok (.iinc 0 n, 3)) (k : ∀ v : Int, v = a + n → Gd p l e R s m args below meth c kc ks Q t D al A (pc + 3) (some (.int (iN v)) :: r) st M) : Gd p l e R s m args below meth c kc ks Q t D al A pc (some (.int (iN a)) :: r) st M := g_iinc0 X hd rfl (by simp) trivial (k _ rfl)
theorem g_istore_n_1 (X : Cx p s m args c R kc ks cc own nL t D al A) {k : Fin 4} {x0 : Option Value} {y : Option Value} {r : List (Option Value)} {a : Int} (hd : decode cc pc = .ok (.istore_n k, 1)) (hi : (k : Nat) = 1)  (ho : lok [x0] 1) (k : ∀ v : Int, v = a → Gd p l e R s m args below meth c kc ks Q t D al A (pc + 1) (x0 :: some (.int (iN v)) :: r) st M) : Gd p l e R s m args below meth c kc ks Q t D al A pc (x0 :: y :: r) (.int (iN a) :: st) M := g_istore_n0 X hd hi (by simp) (by simpa [lok] using ho) (k a rfl)
theorem g_istore_1 (X : Cx p s m args c R kc ks cc own nL t D al A) {x0 : Option Value} {y : Option Value} {r : List (Option Value)} {a : Int} (hd : decode cc pc = .ok (.istore 1, 2))  (ho : lok [x0] 1) (k : ∀ v : Int, v = a → Gd p l e R s m args below meth c kc ks Q t D al A (pc + 2) (x0 :: some (.int (iN v)) :: r) st M) : Gd p l e R s m args below meth c kc ks Q t D al A pc (x0 :: y :: r) (.int (iN a) :: st) M := g_istore0 X hd (by simp) (by simpa [lok] using ho) (k a rfl)
theorem g_astore_n_1 (X : Cx p s m args c R kc ks cc own nL t D al A) {k : Fin 4} {x0 : Option Value} {y : Option Value} {r : List (Option Value)} {a : Nat} (hd : decode cc pc = .ok (.astore_n k, 1)) (hi : (k : Nat) = 1)  (ho : lok [x0] 1) (k : ∀ v : Nat, v = a → Gd p l e R s m args below meth c kc ks Q t D al A (pc + 1) (x0 :: some (.ref v) :: r) st M) : Gd p l e R s m args below meth c kc ks Q t D al A pc (x0 :: y :: r) (.ref a :: st) M := g_astore_n0 X hd hi (by simp) (by simpa [lok] using ho) (k a rfl)
theorem g_astore_1 (X : Cx p s m args c R kc ks cc own nL t D al A) {x0 : Option Value} {y : Option Value} {r : List (Option Value)} {a : Nat} (hd : decode cc pc = .ok (.astore 1, 2))  (ho : lok [x0] 1) (k : ∀ v : Nat, v = a → Gd p l e R s m args below meth c kc ks Q t D al A (pc + 2) (x0 :: some (.ref v) :: r) st M) : Gd p l e R s m args below meth c kc ks Q t D al A pc (x0 :: y :: r) (.ref a :: st) M := g_astore0 X hd (by simp) (by simpa [lok] using ho) (k a rfl)
theorem g_lstore_n_1 (X : Cx p s m args c R kc ks cc own nL t D al A) {k : Fin 4} {x0 : Option Value} {y z : Option Value} {r : List (Option Value)} {a : Int} (hd : decode cc pc = .ok (.lstore_n k, 1)) (hi : (k : Nat) = 1)  (ho : lok [x0] 1) (k : ∀ v : Int, v = a → Gd p l e R s m args below meth c kc ks Q t D al A (pc + 1) (x0 :: some (.long (jN v)) :: none :: r) st M) : Gd p l e R s m args below meth c kc ks Q t D al A pc (x0 :: y :: z :: r) (.long (jN a) :: st) M := g_lstore_n0 X hd hi (by simp) (by simpa [lok] using ho) (k a rfl)
theorem g_lstore_1 (X : Cx p s m args c R kc ks cc own nL t D al A) {x0 : Option Value} {y z : Option Value} {r : List (Option Value)} {a : Int} (hd : decode cc pc = .ok (.lstore 1, 2))  (ho : lok [x0] 1) (k : ∀ v : Int, v = a → Gd p l e R s m args below meth c kc ks Q t D al A (pc + 2) (x0 :: some (.long (jN v)) :: none :: r) st M) : Gd p l e R s m args below meth c kc ks Q t D al A pc (x0 :: y :: z :: r) (.long (jN a) :: st) M := g_lstore0 X hd (by simp) (by simpa [lok] using ho) (k a rfl)
theorem g_iinc_1 (X : Cx p s m args c R kc ks cc own nL t D al A) {x0 : Option Value} {r : List (Option Value)} {a n : Int} (hd : decode cc pc = .ok (.iinc 1 n, 3)) (ho : lok [x0] 1) (k : ∀ v : Int, v = a + n → Gd p l e R s m args below meth c kc ks Q t D al A (pc + 3) (x0 :: some (.int (iN v)) :: r) st M) : Gd p l e R s m args below meth c kc ks Q t D al A pc (x0 :: some (.int (iN a)) :: r) st M := g_iinc0 X hd rfl (by simp) (by simpa [lok] using ho) (k _ rfl)
theorem g_istore_n_2 (X : Cx p s m args c R kc ks cc own nL t D al A) {k : Fin 4} {x0 : Option Value} {x1 : Option Value} {y : Option Value} {r : List (Option Value)} {a : Int} (hd : decode cc pc = .ok (.istore_n k, 1)) (hi : (k : Nat) = 2)  (ho : lok [x1] 1) (k : ∀ v : Int, v = a → Gd p l e R s m args below meth c kc ks Q t D al A (pc + 1) (x0 :: x1 :: some (.int (iN v)) :: r) st M) : Gd p l e R s m args below meth c kc ks Q t D al A pc (x0 :: x1 :: y :: r) (.int (iN a) :: st) M := g_istore_n0 X hd hi (by simp) (by simpa [lok] using ho) (k a rfl)
theorem g_istore_2 (X : Cx p s m args c R kc ks cc own nL t D al A) {x0 : Option Value} {x1 : Option Value} {y : Option Value} {r : List (Option Value)} {a : Int} (hd : decode cc pc = .ok (.istore 2, 2))  (ho : lok [x1] 1) (k : ∀ v : Int, v = a → Gd p l e R s m args below meth c kc ks Q t D al A (pc + 2) (x0 :: x1 :: some (.int (iN v)) :: r) st M) : Gd p l e R s m args below meth c kc ks Q t D al A pc (x0 :: x1 :: y :: r) (.int (iN a) :: st) M := g_istore0 X hd (by simp) (by simpa [lok] using ho) (k a rfl)
theorem g_astore_n_2 (X : Cx p s m args c R kc ks cc own nL t D al A) {k : Fin 4} {x0 : Option Value} {x1 : Option Value} {y : Option Value} {r : List (Option Value)} {a : Nat} (hd : decode cc pc = .ok (.astore_n k, 1)) (hi : (k : Nat) = 2)  (ho : lok [x1] 1) (k : ∀ v : Nat, v = a → Gd p l e R s m args below meth c kc ks Q t D al A (pc + 1) (x0 :: x1 :: some (.ref v) :: r) st M) : Gd p l e R s m args below meth c kc ks Q t D al A pc (x0 :: x1 :: y :: r) (.ref a :: st) M := g_astore_n0 X hd hi (by simp) (by simpa [lok] using ho) (k a rfl)
theorem g_astore_2 (X : Cx p s m args c R kc ks cc own nL t D al A) {x0 : Option Value} {x1 : Option Value} {y : Option Value} {r : List (Option Value)} {a : Nat} (hd : decode cc pc = .ok (.astore 2, 2))  (ho : lok [x1] 1) (k : ∀ v : Nat, v = a → Gd p l e R s m args below meth c kc ks Q t D al A (pc + 2) (x0 :: x1 :: some (.ref v) :: r) st M) : Gd p l e R s m args below meth c kc ks Q t D al A pc (x0 :: x1 :: y :: r) (.ref a :: st) M := g_astore0 X hd (by simp) (by simpa [lok] using ho) (k a rfl)
theorem g_lstore_n_2 (X : Cx p s m args c R kc ks cc own nL t D al A) {k : Fin 4} {x0 : Option Value} {x1 : Option Value} {y z : Option Value} {r : List (Option Value)} {a : Int} (hd : decode cc pc = .ok (.lstore_n k, 1)) (hi : (k : Nat) = 2)  (ho : lok [x1] 1) (k : ∀ v : Int, v = a → Gd p l e R s m args below meth c kc ks Q t D al A (pc + 1) (x0 :: x1 :: some (.long (jN v)) :: none :: r) st M) : Gd p l e R s m args below meth c kc ks Q t D al A pc (x0 :: x1 :: y :: z :: r) (.long (jN a) :: st) M := g_lstore_n0 X hd hi (by simp) (by simpa [lok] using ho) (k a rfl)
theorem g_lstore_2 (X : Cx p s m args c R kc ks cc own nL t D al A) {x0 : Option Value} {x1 : Option Value} {y z : Option Value} {r : List (Option Value)} {a : Int} (hd : decode cc pc = .ok (.lstore 2, 2))  (ho : lok [x1] 1) (k : ∀ v : Int, v = a → Gd p l e R s m args below meth c kc ks Q t D al A (pc + 2) (x0 :: x1 :: some (.long (jN v)) :: none :: r) st M) : Gd p l e R s m args below meth c kc ks Q t D al A pc (x0 :: x1 :: y :: z :: r) (.long (jN a) :: st) M := g_lstore0 X hd (by simp) (by simpa [lok] using ho) (k a rfl)
theorem g_iinc_2 (X : Cx p s m args c R kc ks cc own nL t D al A) {x0 : Option Value} {x1 : Option Value} {r : List (Option Value)} {a n : Int} (hd : decode cc pc = .ok (.iinc 2 n, 3)) (ho : lok [x1] 1) (k : ∀ v : Int, v = a + n → Gd p l e R s m args below meth c kc ks Q t D al A (pc + 3) (x0 :: x1 :: some (.int (iN v)) :: r) st M) : Gd p l e R s m args below meth c kc ks Q t D al A pc (x0 :: x1 :: some (.int (iN a)) :: r) st M := g_iinc0 X hd rfl (by simp) (by simpa [lok] using ho) (k _ rfl)
theorem g_istore_n_3 (X : Cx p s m args c R kc ks cc own nL t D al A) {k : Fin 4} {x0 : Option Value} {x1 : Option Value} {x2 : Option Value} {y : Option Value} {r : List (Option Value)} {a : Int} (hd : decode cc pc = .ok (.istore_n k, 1)) (hi : (k : Nat) = 3)  (ho : lok [x2] 1) (k : ∀ v : Int, v = a → Gd p l e R s m args below meth c kc ks Q t D al A (pc + 1) (x0 :: x1 :: x2 :: some (.int (iN v)) :: r) st M) : Gd p l e R s m args below meth c kc ks Q t D al A pc (x0 :: x1 :: x2 :: y :: r) (.int (iN a) :: st) M := g_istore_n0 X hd hi (by simp) (by simpa [lok] using ho) (k a rfl)
theorem g_istore_3 (X : Cx p s m args c R kc ks cc own nL t D al A) {x0 : Option Value} {x1 : Option Value} {x2 : Option Value} {y : Option Value} {r : List (Option Value)} {a : Int} (hd : decode cc pc = .ok (.istore 3, 2))  (ho : lok [x2] 1) (k : ∀ v : Int, v = a → Gd p l e R s m args below meth c kc ks Q t D al A (pc + 2) (x0 :: x1 :: x2 :: some (.int (iN v)) :: r) st M) : Gd p l e R s m args below meth c kc ks Q t D al A pc (x0 :: x1 :: x2 :: y :: r) (.int (iN a) :: st) M := g_istore0 X hd (by simp) (by simpa [lok] using ho) (k a rfl)
theorem g_astore_n_3 (X : Cx p s m args c R kc ks cc own nL t D al A) {k : Fin 4} {x0 : Option Value} {x1 : Option Value} {x2 : Option Value} {y : Option Value} {r : List (Option Value)} {a : Nat} (hd : decode cc pc = .ok (.astore_n k, 1)) (hi : (k : Nat) = 3)  (ho : lok [x2] 1) (k : ∀ v : Nat, v = a → Gd p l e R s m args below meth c kc ks Q t D al A (pc + 1) (x0 :: x1 :: x2 :: some (.ref v) :: r) st M) : Gd p l e R s m args below meth c kc ks Q t D al A pc (x0 :: x1 :: x2 :: y :: r) (.ref a :: st) M := g_astore_n0 X hd hi (by simp) (by simpa [lok] using ho) (k a rfl)
theorem g_astore_3 (X : Cx p s m args c R kc ks cc own nL t D al A) {x0 : Option Value} {x1 : Option Value} {x2 : Option Value} {y : Option Value} {r : List (Option Value)} {a : Nat} (hd : decode cc pc = .ok (.astore 3, 2))  (ho : lok [x2] 1) (k : ∀ v : Nat, v = a → Gd p l e R s m args below meth c kc ks Q t D al A (pc + 2) (x0 :: x1 :: x2 :: some (.ref v) :: r) st M) : Gd p l e R s m args below meth c kc ks Q t D al A pc (x0 :: x1 :: x2 :: y :: r) (.ref a :: st) M := g_astore0 X hd (by simp) (by simpa [lok] using ho) (k a rfl)
theorem g_lstore_n_3 (X : Cx p s m args c R kc ks cc own nL t D al A) {k : Fin 4} {x0 : Option Value} {x1 : Option Value} {x2 : Option Value} {y z : Option Value} {r : List (Option Value)} {a : Int} (hd : decode cc pc = .ok (.lstore_n k, 1)) (hi : (k : Nat) = 3)  (ho : lok [x2] 1) (k : ∀ v : Int, v = a → Gd p l e R s m args below meth c kc ks Q t D al A (pc + 1) (x0 :: x1 :: x2 :: some (.long (jN v)) :: none :: r) st M) : Gd p l e R s m args below meth c kc ks Q t D al A pc (x0 :: x1 :: x2 :: y :: z :: r) (.long (jN a) :: st) M := g_lstore_n0 X hd hi (by simp) (by simpa [lok] using ho) (k a rfl)
theorem g_lstore_3 (X : Cx p s m args c R kc ks cc own nL t D al A) {x0 : Option Value} {x1 : Option Value} {x2 : Option Value} {y z : Option Value} {r : List (Option Value)} {a : Int} (hd : decode cc pc = .ok (.lstore 3, 2))  (ho : lok [x2] 1) (k : ∀ v : Int, v = a → Gd p l e R s m args below meth c kc ks Q t D al A (pc + 2) (x0 :: x1 :: x2 :: some (.long (jN v)) :: none :: r) st M) : Gd p l e R s m args below meth c kc ks Q t D al A pc (x0 :: x1 :: x2 :: y :: z :: r) (.long (jN a) :: st) M := g_lstore0 X hd (by simp) (by simpa [lok] using ho) (k a rfl)
theorem g_iinc_3 (X : Cx p s m args c R kc ks cc own nL t D al A) {x0 : Option Value} {x1 : Option Value} {x2 : Option Value} {r : List (Option Value)} {a n : Int} (hd : decode cc pc = .ok (.iinc 3 n, 3)) (ho : lok [x2] 1) (k : ∀ v : Int, v = a + n → Gd p l e R s m args below meth c kc ks Q t D al A (pc + 3) (x0 :: x1 :: x2 :: some (.int (iN v)) :: r) st M) : Gd p l e R s m args below meth c kc ks Q t D al A pc (x0 :: x1 :: x2 :: some (.int (iN a)) :: r) st M := g_iinc0 X hd rfl (by simp) (by simpa [lok] using ho) (k _ rfl)
theorem g_istore_4 (X : Cx p s m args c R kc ks cc own nL t D al A) {x0 : Option Value} {x1 : Option Value} {x2 : Option Value} {x3 : Option Value} {y : Option Value} {r : List (Option Value)} {a : Int} (hd : decode cc pc = .ok (.istore 4, 2))  (ho : lok [x3] 1) (k : ∀ v : Int, v = a → Gd p l e R s m args below meth c kc ks Q t D al A (pc + 2) (x0 :: x1 :: x2 :: x3 :: some (.int (iN v)) :: r) st M) : Gd p l e R s m args below meth c kc ks Q t D al A pc (x0 :: x1 :: x2 :: x3 :: y :: r) (.int (iN a) :: st) M := g_istore0 X hd (by simp) (by simpa [lok] using ho) (k a rfl)
theorem g_astore_4 (X : Cx p s m args c R kc ks cc own nL t D al A) {x0 : Option Value} {x1 : Option Value} {x2 : Option Value} {x3 : Option Value} {y : Option Value} {r : List (Option Value)} {a : Nat} (hd : decode cc pc = .ok (.astore 4, 2))  (ho : lok [x3] 1) (k : ∀ v : Nat, v = a → Gd p l e R s m args below meth c kc ks Q t D al A (pc + 2) (x0 :: x1 :: x2 :: x3 :: some (.ref v) :: r) st M) : Gd p l e R s m args below meth c kc ks Q t D al A pc (x0 :: x1 :: x2 :: x3 :: y :: r) (.ref a :: st) M := g_astore0 X hd (by simp) (by simpa [lok] using ho) (k a rfl)
theorem g_lstore_4 (X : Cx p s m args c R kc ks cc own nL t D al A) {x0 : Option Value} {x1 : Option Value} {x2 : Option Value} {x3 : Option Value} {y z : Option Value} {r : List (Option Value)} {a : Int} (hd : decode cc pc = .ok (.lstore 4, 2))  (ho : lok [x3] 1) (k : ∀ v : Int, v = a → Gd p l e R s m args below meth c kc ks Q t D al A (pc + 2) (x0 :: x1 :: x2 :: x3 :: some (.long (jN v)) :: none :: r) st M) : Gd p l e R s m args below meth c kc ks Q t D al A pc (x0 :: x1 :: x2 :: x3 :: y :: z :: r) (.long (jN a) :: st) M := g_lstore0 X hd (by simp) (by simpa [lok] using ho) (k a rfl)
theorem g_iinc_4 (X : Cx p s m args c R kc ks cc own nL t D al A) {x0 : Option Value} {x1 : Option Value} {x2 : Option Value} {x3 : Option Value} {r : List (Option Value)} {a n : Int} (hd : decode cc pc = .ok (.iinc 4 n, 3)) (ho : lok [x3] 1) (k : ∀ v : Int, v = a + n → Gd p l e R s m args below meth c kc ks Q t D al A (pc + 3) (x0 :: x1 :: x2 :: x3 :: some (.int (iN v)) :: r) st M) : Gd p l e R s m args below meth c kc ks Q t D al A pc (x0 :: x1 :: x2 :: x3 :: some (.int (iN a)) :: r) st M := g_iinc0 X hd rfl (by simp) (by simpa [lok] using ho) (k _ rfl)
theorem g_istore_5 (X : Cx p s m args c R kc ks cc own nL t D al A) {x0 : Option Value} {x1 : Option Value} {x2 : Option Value} {x3 : Option Value} {x4 : Option Value} {y : Option Value} {r : List (Option Value)} {a : Int} (hd : decode cc pc = .ok (.istore 5, 2))  (ho : lok [x4] 1) (k : ∀ v : Int, v = a → Gd p l e R s m args below meth c kc ks Q t D al A (pc + 2) (x0 :: x1 :: x2 :: x3 :: x4 :: some (.int (iN v)) :: r) st M) : Gd p l e R s m args below meth c kc ks Q t D al A pc (x0 :: x1 :: x2 :: x3 :: x4 :: y :: r) (.int (iN a) :: st) M := g_istore0 X hd (by simp) (by simpa [lok] using ho) (k a rfl)
theorem g_astore_5 (X : Cx p s m args c R kc ks cc own nL t D al A) {x0 : Option Value} {x1 : Option Value} {x2 : Option Value} {x3 : Option Value} {x4 : Option Value} {y : Option Value} {r : List (Option Value)} {a : Nat} (hd : decode cc pc = .ok (.astore 5, 2))  (ho : lok [x4] 1) (k : ∀ v : Nat, v = a → Gd p l e R s m args below meth c kc ks Q t D al A (pc + 2) (x0 :: x1 :: x2 :: x3 :: x4 :: some (.ref v) :: r) st M) : Gd p l e R s m args below meth c kc ks Q t D al A pc (x0 :: x1 :: x2 :: x3 :: x4 :: y :: r) (.ref a :: st) M := g_astore0 X hd (by simp) (by simpa [lok] using ho) (k a rfl)
theorem g_lstore_5 (X : Cx p s m args c R kc ks cc own nL t D al A) {x0 : Option Value} {x1 : Option Value} {x2 : Option Value} {x3 : Option Value} {x4 : Option Value} {y z : Option Value} {r : List (Option Value)} {a : Int} (hd : decode cc pc = .ok (.lstore 5, 2))  (ho : lok [x4] 1) (k : ∀ v : Int, v = a → Gd p l e R s m args below meth c kc ks Q t D al A (pc + 2) (x0 :: x1 :: x2 :: x3 :: x4 :: some (.long (jN v)) :: none :: r) st M) : Gd p l e R s m args below meth c kc ks Q t D al A pc (x0 :: x1 :: x2 :: x3 :: x4 :: y :: z :: r) (.long (jN a) :: st) M := g_lstore0 X hd (by simp) (by simpa [lok] using ho) (k a rfl)
theorem g_iinc_5 (X : Cx p s m args c R kc ks cc own nL t D al A) {x0 : Option Value} {x1 : Option Value} {x2 : Option Value} {x3 : Option Value} {x4 : Option Value} {r : List (Option Value)} {a n : Int} (hd : decode cc pc = .ok (.iinc 5 n, 3)) (ho : lok [x4] 1) (k : ∀ v : Int, v = a + n → Gd p l e R s m args below meth c kc ks Q t D al A (pc + 3) (x0 :: x1 :: x2 :: x3 :: x4 :: some (.int (iN v)) :: r) st M) : Gd p l e R s m args below meth c kc ks Q t D al A pc (x0 :: x1 :: x2 :: x3 :: x4 :: some (.int (iN a)) :: r) st M := g_iinc0 X hd rfl (by simp) (by simpa [lok] using ho) (k _ rfl)
theorem g_istore_6 (X : Cx p s m args c R kc ks cc own nL t D al A) {x0 : Option Value} {x1 : Option Value} {x2 : Option Value} {x3 : Option Value} {x4 : Option Value} {x5 : Option Value} {y : Option Value} {r : List (Option Value)} {a : Int} (hd : decode cc pc = .ok (.istore 6, 2))  (ho : lok [x5] 1) (k : ∀ v : Int, v = a → Gd p l e R s m args below meth c kc ks Q t D al A (pc + 2) (x0 :: x1 :: x2 :: x3 :: x4 :: x5 :: some (.int (iN v)) :: r) st M) : Gd p l e R s m args below meth c kc ks Q t D al A pc (x0 :: x1 :: x2 :: x3 :: x4 :: x5 :: y :: r) (.int (iN a) :: st) M := g_istore0 X hd (by simp) (by simpa [lok] using ho) (k a rfl)
theorem g_astore_6 (X : Cx p s m args c R kc ks cc own nL t D al A) {x0 : Option Value} {x1 : Option Value} {x2 : Option Value} {x3 : Option Value} {x4 : Option Value} {x5 : Option Value} {y : Option Value} {r : List (Option Value)} {a : Nat} (hd : decode cc pc = .ok (.astore 6, 2))  (ho : lok [x5] 1) (k : ∀ v : Nat, v = a → Gd p l e R s m args below meth c kc ks Q t D al A (pc + 2) (x0 :: x1 :: x2 :: x3 :: x4 :: x5 :: some (.ref v) :: r) st M) : Gd p l e R s m args below meth c kc ks Q t D al A pc (x0 :: x1 :: x2 :: x3 :: x4 :: x5 :: y :: r) (.ref a :: st) M := g_astore0 X hd (by simp) (by simpa [lok] using ho) (k a rfl)
theorem g_lstore_6 (X : Cx p s m args c R kc ks cc own nL t D al A) {x0 : Option Value} {x1 : Option Value} {x2 : Option Value} {x3 : Option Value} {x4 : Option Value} {x5 : Option Value} {y z : Option Value} {r : List (Option Value)} {a : Int} (hd : decode cc pc = .ok (.lstore 6, 2))  (ho : lok [x5] 1) (k : ∀ v : Int, v = a → Gd p l e R s m args below meth c kc ks Q t D al A (pc + 2) (x0 :: x1 :: x2 :: x3 :: x4 :: x5 :: some (.long (jN v)) :: none :: r) st M) : Gd p l e R s m args below meth c kc ks Q t D al A pc (x0 :: x1 :: x2 :: x3 :: x4 :: x5 :: y :: z :: r) (.long (jN a) :: st) M := g_lstore0 X hd (by simp) (by simpa [lok] using ho) (k a rfl)
theorem g_iinc_6 (X : Cx p s m args c R kc ks cc own nL t D al A) {x0 : Option Value} {x1 : Option Value} {x2 : Option Value} {x3 : Option Value} {x4 : Option Value} {x5 : Option Value} {r : List (Option Value)} {a n : Int} (hd : decode cc pc = .ok (.iinc 6 n, 3)) (ho : lok [x5] 1) (k : ∀ v : Int, v = a + n → Gd p l e R s m args below meth c kc ks Q t D al A (pc + 3) (x0 :: x1 :: x2 :: x3 :: x4 :: x5 :: some (.int (iN v)) :: r) st M) : Gd p l e R s m args below meth c kc ks Q t D al A pc (x0 :: x1 :: x2 :: x3 :: x4 :: x5 :: some (.int (iN a)) :: r) st M := g_iinc0 X hd rfl (by simp) (by simpa [lok] using ho) (k _ rfl)
theorem g_istore_7 (X : Cx p s m args c R kc ks cc own nL t D al A) {x0 : Option Value} {x1 : Option Value} {x2 : Option Value} {x3 : Option Value} {x4 : Option Value} {x5 : Option Value} {x6 : Option Value} {y : Option Value} {r : List (Option Value)} {a : Int} (hd : decode cc pc = .ok (.istore 7, 2))  (ho : lok [x6] 1) (k : ∀ v : Int, v = a → Gd p l e R s m args below meth c kc ks Q t D al A (pc + 2) (x0 :: x1 :: x2 :: x3 :: x4 :: x5 :: x6 :: some (.int (iN v)) :: r) st M) : Gd p l e R s m args below meth c kc ks Q t D al A pc (x0 :: x1 :: x2 :: x3 :: x4 :: x5 :: x6 :: y :: r) (.int (iN a) :: st) M := g_istore0 X hd (by simp) (by simpa [lok] using ho) (k a rfl)
theorem g_astore_7 (X : Cx p s m args c R kc ks cc own nL t D al A) {x0 : Option Value} {x1 : Option Value} {x2 : Option Value} {x3 : Option Value} {x4 : Option Value} {x5 : Option Value} {x6 : Option Value} {y : Option Value} {r : List (Option Value)} {a : Nat} (hd : decode cc pc = .ok (.astore 7, 2))  (ho : lok [x6] 1) (k : ∀ v : Nat, v = a → Gd p l e R s m args below meth c kc ks Q t D al A (pc + 2) (x0 :: x1 :: x2 :: x3 :: x4 :: x5 :: x6 :: some (.ref v) :: r) st M) : Gd p l e R s m args below meth c kc ks Q t D al A pc (x0 :: x1 :: x2 :: x3 :: x4 :: x5 :: x6 :: y :: r) (.ref a :: st) M := g_astore0 X hd (by simp) (by simpa [lok] using ho) (k a rfl)
theorem g_lstore_7 (X : Cx p s m args c R kc ks cc own nL t D al A) {x0 : Option Value} {x1 : Option Value} {x2 : Option Value} {x3 : Option Value} {x4 : Option Value} {x5 : Option Value} {x6 : Option Value} {y z : Option Value} {r : List (Option Value)} {a : Int} (hd : decode cc pc = .ok (.lstore 7, 2))  (ho : lok [x6] 1) (k : ∀ v : Int, v = a → Gd p l e R s m args below meth c kc ks Q t D al A (pc + 2) (x0 :: x1 :: x2 :: x3 :: x4 :: x5 :: x6 :: some (.long (jN v)) :: none :: r) st M) : Gd p l e R s m args below meth c kc ks Q t D al A pc (x0 :: x1 :: x2 :: x3 :: x4 :: x5 :: x6 :: y :: z :: r) (.long (jN a) :: st) M := g_lstore0 X hd (by simp) (by simpa [lok] using ho) (k a rfl)
theorem g_iinc_7 (X : Cx p s m args c R kc ks cc own nL t D al A) {x0 : Option Value} {x1 : Option Value} {x2 : Option Value} {x3 : Option Value} {x4 : Option Value} {x5 : Option Value} {x6 : Option Value} {r : List (Option Value)} {a n : Int} (hd : decode cc pc = .ok (.iinc 7 n, 3)) (ho : lok [x6] 1) (k : ∀ v : Int, v = a + n → Gd p l e R s m args below meth c kc ks Q t D al A (pc + 3) (x0 :: x1 :: x2 :: x3 :: x4 :: x5 :: x6 :: some (.int (iN v)) :: r) st M) : Gd p l e R s m args below meth c kc ks Q t D al A pc (x0 :: x1 :: x2 :: x3 :: x4 :: x5 :: x6 :: some (.int (iN a)) :: r) st M := g_iinc0 X hd rfl (by simp) (by simpa [lok] using ho) (k _ rfl)
theorem g_istore_8 (X : Cx p s m args c R kc ks cc own nL t D al A) {x0 : Option Value} {x1 : Option Value} {x2 : Option Value} {x3 : Option Value} {x4 : Option Value} {x5 : Option Value} {x6 : Option Value} {x7 : Option Value} {y : Option Value} {r : List (Option Value)} {a : Int} (hd : decode cc pc = .ok (.istore 8, 2))  (ho : lok [x7] 1) (k : ∀ v : Int, v = a → Gd p l e R s m args below meth c kc ks Q t D al A (pc + 2) (x0 :: x1 :: x2 :: x3 :: x4 :: x5 :: x6 :: x7 :: some (.int (iN v)) :: r) st M) : Gd p l e R s m args below meth c kc ks Q t D al A pc (x0 :: x1 :: x2 :: x3 :: x4 :: x5 :: x6 :: x7 :: y :: r) (.int (iN a) :: st) M := g_istore0 X hd (by simp) (by simpa [lok] using ho) (k a rfl)
theorem g_astore_8 (X : Cx p s m args c R kc ks cc own nL t D al A) {x0 : Option Value} {x1 : Option Value} {x2 : Option Value} {x3 : Option Value} {x4 : Option Value} {x5 : Option Value} {x6 : Option Value} {x7 : Option Value} {y : Option Value} {r : List (Option Value)} {a : Nat} (hd : decode cc pc = .ok (.astore 8, 2))  (ho : lok [x7] 1) (k : ∀ v : Nat, v = a → Gd p l e R s m args below meth c kc ks Q t D al A (pc + 2) (x0 :: x1 :: x2 :: x3 :: x4 :: x5 :: x6 :: x7 :: some (.ref v) :: r) st M) : Gd p l e R s m args below meth c kc ks Q t D al A pc (x0 :: x1 :: x2 :: x3 :: x4 :: x5 :: x6 :: x7 :: y :: r) (.ref a :: st) M := g_astore0 X hd (by simp) (by simpa [lok] using ho) (k a rfl)
theorem g_lstore_8 (X : Cx p s m args c R kc ks cc own nL t D al A) {x0 : Option Value} {x1 : Option Value} {x2 : Option Value} {x3 : Option Value} {x4 : Option Value} {x5 : Option Value} {x6 : Option Value} {x7 : Option Value} {y z : Option Value} {r : List (Option Value)} {a : Int} (hd : decode cc pc = .ok (.lstore 8, 2))  (ho : lok [x7] 1) (k : ∀ v : Int, v = a → Gd p l e R s m args below meth c kc ks Q t D al A (pc + 2) (x0 :: x1 :: x2 :: x3 :: x4 :: x5 :: x6 :: x7 :: some (.long (jN v)) :: none :: r) st M) : Gd p l e R s m args below meth c kc ks Q t D al A pc (x0 :: x1 :: x2 :: x3 :: x4 :: x5 :: x6 :: x7 :: y :: z :: r) (.long (jN a) :: st) M := g_lstore0 X hd (by simp) (by simpa [lok] using ho) (k a rfl)
theorem g_iinc_8 (X : Cx p s m args c R kc ks cc own nL t D al A) {x0 : Option Value} {x1 : Option Value} {x2 : Option Value} {x3 : Option Value} {x4 : Option Value} {x5 : Option Value} {x6 : Option Value} {x7 : Option Value} {r : List (Option Value)} {a n : Int} (hd : decode cc pc = .ok (.iinc 8 n, 3)) (ho : lok [x7] 1) (k : ∀ v : Int, v = a + n → Gd p l e R s m args below meth c kc ks Q t D al A (pc + 3) (x0 :: x1 :: x2 :: x3 :: x4 :: x5 :: x6 :: x7 :: some (.int (iN v)) :: r) st M) : Gd p l e R s m args below meth c kc ks Q t D al A pc (x0 :: x1 :: x2 :: x3 :: x4 :: x5 :: x6 :: x7 :: some (.int (iN a)) :: r) st M := g_iinc0 X hd rfl (by simp) (by simpa [lok] using ho) (k _ rfl)
theorem g_istore_9 (X : Cx p s m args c R kc ks cc own nL t D al A) {x0 : Option Value} {x1 : Option Value} {x2 : Option Value} {x3 : Option Value} {x4 : Option Value} {x5 : Option Value} {x6 : Option Value} {x7 : Option Value} {x8 : Option Value} {y : Option Value} {r : List (Option Value)} {a : Int} (hd : decode cc pc = .ok (.istore 9, 2))  (ho : lok [x8] 1) (k : ∀ v : Int, v = a → Gd p l e R s m args below meth c kc ks Q t D al A (pc + 2) (x0 :: x1 :: x2 :: x3 :: x4 :: x5 :: x6 :: x7 :: x8 :: some (.int (iN v)) :: r) st M) : Gd p l e R s m args below meth c kc ks Q t D al A pc (x0 :: x1 :: x2 :: x3 :: x4 :: x5 :: x6 :: x7 :: x8 :: y :: r) (.int (iN a) :: st) M := g_istore0 X hd (by simp) (by simpa [lok] using ho) (k a rfl)
theorem g_astore_9 (X : Cx p s m args c R kc ks cc own nL t D al A) {x0 : Option Value} {x1 : Option Value} {x2 : Option Value} {x3 : Option Value} {x4 : Option Value} {x5 : Option Value} {x6 : Option Value} {x7 : Option Value} {x8 : Option Value} {y : Option Value} {r : List (Option Value)} {a : Nat} (hd : decode cc pc = .ok (.astore 9, 2))  (ho : lok [x8] 1) (k : ∀ v : Nat, v = a → Gd p l e R s m args below meth c kc ks Q t D al A (pc + 2) (x0 :: x1 :: x2 :: x3 :: x4 :: x5 :: x6 :: x7 :: x8 :: some (.ref v) :: r) st M) : Gd p l e R s m args below meth c kc ks Q t D al A pc (x0 :: x1 :: x2 :: x3 :: x4 :: x5 :: x6 :: x7 :: x8 :: y :: r) (.ref a :: st) M := g_astore0 X hd (by simp) (by simpa [lok] using ho) (k a rfl)
theorem g_lstore_9 (X : Cx p s m args c R kc ks cc own nL t D al A) {x0 : Option Value} {x1 : Option Value} {x2 : Option Value} {x3 : Option Value} {x4 : Option Value} {x5 : Option Value} {x6 : Option Value} {x7 : Option Value} {x8 : Option Value} {y z : Option Value} {r : List (Option Value)} {a : Int} (hd : decode cc pc = .ok (.lstore 9, 2))  (ho : lok [x8] 1) (k : ∀ v : Int, v = a → Gd p l e R s m args below meth c kc ks Q t D al A (pc + 2) (x0 :: x1 :: x2 :: x3 :: x4 :: x5 :: x6 :: x7 :: x8 :: some (.long (jN v)) :: none :: r) st M) : Gd p l e R s m args below meth c kc ks Q t D al A pc (x0 :: x1 :: x2 :: x3 :: x4 :: x5 :: x6 :: x7 :: x8 :: y :: z :: r) (.long (jN a) :: st) M := g_lstore0 X hd (by simp) (by simpa [lok] using ho) (k a rfl)
theorem g_iinc_9 (X : Cx p s m args c R kc ks cc own nL t D al A) {x0 : Option Value} {x1 : Option Value} {x2 : Option Value} {x3 : Option Value} {x4 : Option Value} {x5 : Option Value} {x6 : Option Value} {x7 : Option Value} {x8 : Option Value} {r : List (Option Value)} {a n : Int} (hd : decode cc pc = .ok (.iinc 9 n, 3)) (ho : lok [x8] 1) (k : ∀ v : Int, v = a + n → Gd p l e R s m args below meth c kc ks Q t D al A (pc + 3) (x0 :: x1 :: x2 :: x3 :: x4 :: x5 :: x6 :: x7 :: x8 :: some (.int (iN v)) :: r) st M) : Gd p l e R s m args below meth c kc ks Q t D al A pc (x0 :: x1 :: x2 :: x3 :: x4 :: x5 :: x6 :: x7 :: x8 :: some (.int (iN a)) :: r) st M := g_iinc0 X hd rfl (by simp) (by simpa [lok] using ho) (k _ rfl)
theorem g_istore_10 (X : Cx p s m args c R kc ks cc own nL t D al A) {x0 : Option Value} {x1 : Option Value} {x2 : Option Value} {x3 : Option Value} {x4 : Option Value} {x5 : Option Value} {x6 : Option Value} {x7 : Option Value} {x8 : Option Value} {x9 : Option Value} {y : Option Value} {r : List (Option Value)} {a : Int} (hd : decode cc pc = .ok (.istore 10, 2))  (ho : lok [x9] 1) (k : ∀ v : Int, v = a → Gd p l e R s m args below meth c kc ks Q t D al A (pc + 2) (x0 :: x1 :: x2 :: x3 :: x4 :: x5 :: x6 :: x7 :: x8 :: x9 :: some (.int (iN v)) :: r) st M) : Gd p l e R s m args below meth c kc ks Q t D al A pc (x0 :: x1 :: x2 :: x3 :: x4 :: x5 :: x6 :: x7 :: x8 :: x9 :: y :: r) (.int (iN a) :: st) M := g_istore0 X hd (by simp) (by simpa [lok] using ho) (k a rfl)
theorem g_astore_10 (X : Cx p s m args c R kc ks cc own nL t D al A) {x0 : Option Value} {x1 : Option Value} {x2 : Option Value} {x3 : Option Value} {x4 : Option Value} {x5 : Option Value} {x6 : Option Value} {x7 : Option Value} {x8 : Option Value} {x9 : Option Value} {y : Option Value} {r : List (Option Value)} {a : Nat} (hd : decode cc pc = .ok (.astore 10, 2))  (ho : lok [x9] 1) (k : ∀ v : Nat, v = a → Gd p l e R s m args below meth c kc ks Q t D al A (pc + 2) (x0 :: x1 :: x2 :: x3 :: x4 :: x5 :: x6 :: x7 :: x8 :: x9 :: some (.ref v) :: r) st M) : Gd p l e R s m args below meth c kc ks Q t D al A pc (x0 :: x1 :: x2 :: x3 :: x4 :: x5 :: x6 :: x7 :: x8 :: x9 :: y :: r) (.ref a :: st) M := g_astore0 X hd (by simp) (by simpa [lok] using ho) (k a rfl)
theorem g_lstore_10 (X : Cx p s m args c R kc ks cc own nL t D al A) {x0 : Option Value} {x1 : Option Value} {x2 : Option Value} {x3 : Option Value} {x4 : Option Value} {x5 : Option Value} {x6 : Option Value} {x7 : Option Value} {x8 : Option Value} {x9 : Option Value} {y z : Option Value} {r : List (Option Value)} {a : Int} (hd : decode cc pc = .ok (.lstore 10, 2))  (ho : lok [x9] 1) (k : ∀ v : Int, v = a → Gd p l e R s m args below meth c kc ks Q t D al A (pc + 2) (x0 :: x1 :: x2 :: x3 :: x4 :: x5 :: x6 :: x7 :: x8 :: x9 :: some (.long (jN v)) :: none :: r) st M) : Gd p l e R s m args below meth c kc ks Q t D al A pc (x0 :: x1 :: x2 :: x3 :: x4 :: x5 :: x6 :: x7 :: x8 :: x9 :: y :: z :: r) (.long (jN a) :: st) M := g_lstore0 X hd (by simp) (by simpa [lok] using ho) (k a rfl)
theorem g_iinc_10 (X : Cx p s m args c R kc ks cc own nL t D al A) {x0 : Option Value} {x1 : Option Value} {x2 : Option Value} {x3 : Option Value} {x4 : Option Value} {x5 : Option Value} {x6 : Option Value} {x7 : Option Value} {x8 : Option Value} {x9 : Option Value} {r : List (Option Value)} {a n : Int} (hd : decode cc pc = .ok (.iinc 10 n, 3)) (ho : lok [x9] 1) (k : ∀ v : Int, v = a + n → Gd p l e R s m args below meth c kc ks Q t D al A (pc + 3) (x0 :: x1 :: x2 :: x3 :: x4 :: x5 :: x6 :: x7 :: x8 :: x9 :: some (.int (iN v)) :: r) st M) : Gd p l e R s m args below meth c kc ks Q t D al A pc (x0 :: x1 :: x2 :: x3 :: x4 :: x5 :: x6 :: x7 :: x8 :: x9 :: some (.int (iN a)) :: r) st M := g_iinc0 X hd rfl (by simp) (by simpa [lok] using ho) (k _ rfl)
theorem g_istore_11 (X : Cx p s m args c R kc ks cc own nL t D al A) {x0 : Option Value} {x1 : Option Value} {x2 : Option Value} {x3 : Option Value} {x4 : Option Value} {x5 : Option Value} {x6 : Option Value} {x7 : Option Value} {x8 : Option Value} {x9 : Option Value} {x10 : Option Value} {y : Option Value} {r : List (Option Value)} {a : Int} (hd : decode cc pc = .ok (.istore 11, 2))  (ho : lok [x10] 1) (k : ∀ v : Int, v = a → Gd p l e R s m args below meth c kc ks Q t D al A (pc + 2) (x0 :: x1 :: x2 :: x3 :: x4 :: x5 :: x6 :: x7 :: x8 :: x9 :: x10 :: some (.int (iN v)) :: r) st M) : Gd p l e R s m args below meth c kc ks Q t D al A pc (x0 :: x1 :: x2 :: x3 :: x4 :: x5 :: x6 :: x7 :: x8 :: x9 :: x10 :: y :: r) (.int (iN a) :: st) M := g_istore0 X hd (by simp) (by simpa [lok] using ho) (k a rfl)
theorem g_astore_11 (X : Cx p s m args c R kc ks cc own nL t D al A) {x0 : Option Value} {x1 : Option Value} {x2 : Option Value} {x3 : Option Value} {x4 : Option Value} {x5 : Option Value} {x6 : Option Value} {x7 : Option Value} {x8 : Option Value} {x9 : Option Value} {x10 : Option Value} {y : Option Value} {r : List (Option Value)} {a : Nat} (hd : decode cc pc = .ok (.astore 11, 2))  (ho : lok [x10] 1) (k : ∀ v : Nat, v = a → Gd p l e R s m args below meth c kc ks Q t D al A (pc + 2) (x0 :: x1 :: x2 :: x3 :: x4 :: x5 :: x6 :: x7 :: x8 :: x9 :: x10 :: some (.ref v) :: r) st M) : Gd p l e R s m args below meth c kc ks Q t D al A pc (x0 :: x1 :: x2 :: x3 :: x4 :: x5 :: x6 :: x7 :: x8 :: x9 :: x10 :: y :: r) (.ref a :: st) M := g_astore0 X hd (by simp) (by simpa [lok] using ho) (k a rfl)
theorem g_lstore_11 (X : Cx p s m args c R kc ks cc own nL t D al A) {x0 : Option Value} {x1 : Option Value} {x2 : Option Value} {x3 : Option Value} {x4 : Option Value} {x5 : Option Value} {x6 : Option Value} {x7 : Option Value} {x8 : Option Value} {x9 : Option Value} {x10 : Option Value} {y z : Option Value} {r : List (Option Value)} {a : Int} (hd : decode cc pc = .ok (.lstore 11, 2))  (ho : lok [x10] 1) (k : ∀ v : Int, v = a → Gd p l e R s m args below meth c kc ks Q t D al A (pc + 2) (x0 :: x1 :: x2 :: x3 :: x4 :: x5 :: x6 :: x7 :: x8 :: x9 :: x10 :: some (.long (jN v)) :: none :: r) st M) : Gd p l e R s m args below meth c kc ks Q t D al A pc (x0 :: x1 :: x2 :: x3 :: x4 :: x5 :: x6 :: x7 :: x8 :: x9 :: x10 :: y :: z :: r) (.long (jN a) :: st) M := g_lstore0 X hd (by simp) (by simpa [lok] using ho) (k a rfl)
theorem g_iinc_11 (X : Cx p s m args c R kc ks cc own nL t D al A) {x0 : Option Value} {x1 : Option Value} {x2 : Option Value} {x3 : Option Value} {x4 : Option Value} {x5 : Option Value} {x6 : Option Value} {x7 : Option Value} {x8 : Option Value} {x9 : Option Value} {x10 : Option Value} {r : List (Option Value)} {a n : Int} (hd : decode cc pc = .ok (.iinc 11 n, 3)) (ho : lok [x10] 1) (k : ∀ v : Int, v = a + n → Gd p l e R s m args below meth c kc ks Q t D al A (pc + 3) (x0 :: x1 :: x2 :: x3 :: x4 :: x5 :: x6 :: x7 :: x8 :: x9 :: x10 :: some (.int (iN v)) :: r) st M) : Gd p l e R s m args below meth c kc ks Q t D al A pc (x0 :: x1 :: x2 :: x3 :: x4 :: x5 :: x6 :: x7 :: x8 :: x9 :: x10 :: some (.int (iN a)) :: r) st M := g_iinc0 X hd rfl (by simp) (by simpa [lok] using ho) (k _ rfl)
theorem g_istore_12 (X : Cx p s m args c R kc ks cc own nL t D al A) {x0 : Option Value} {x1 : Option Value} {x2 : Option Value} {x3 : Option Value} {x4 : Option Value} {x5 : Option Value} {x6 : Option Value} {x7 : Option Value} {x8 : Option Value} {x9 : Option Value} {x10 : Option Value} {x11 : Option Value} {y : Option Value} {r : List (Option Value)} {a : Int} (hd : decode cc pc = .ok (.istore 12, 2))  (ho : lok [x11] 1) (k : ∀ v : Int, v = a → Gd p l e R s m args below meth c kc ks Q t D al A (pc + 2) (x0 :: x1 :: x2 :: x3 :: x4 :: x5 :: x6 :: x7 :: x8 :: x9 :: x10 :: x11 :: some (.int (iN v)) :: r) st M) : Gd p l e R s m args below meth c kc ks Q t D al A pc (x0 :: x1 :: x2 :: x3 :: x4 :: x5 :: x6 :: x7 :: x8 :: x9 :: x10 :: x11 :: y :: r) (.int (iN a) :: st) M := g_istore0 X hd (by simp) (by simpa [lok] using ho) (k a rfl)
theorem g_astore_12 (X : Cx p s m args c R kc ks cc own nL t D al A) {x0 : Option Value} {x1 : Option Value} {x2 : Option Value} {x3 : Option Value} {x4 : Option Value} {x5 : Option Value} {x6 : Option Value} {x7 : Option Value} {x8 : Option Value} {x9 : Option Value} {x10 : Option Value} {x11 : Option Value} {y : Option Value} {r : List (Option Value)} {a : Nat} (hd : decode cc pc = .ok (.astore 12, 2))  (ho : lok [x11] 1) (k : ∀ v : Nat, v = a → Gd p l e R s m args below meth c kc ks Q t D al A (pc + 2) (x0 :: x1 :: x2 :: x3 :: x4 :: x5 :: x6 :: x7 :: x8 :: x9 :: x10 :: x11 :: some (.ref v) :: r) st M) : Gd p l e R s m args below meth c kc ks Q t D al A pc (x0 :: x1 :: x2 :: x3 :: x4 :: x5 :: x6 :: x7 :: x8 :: x9 :: x10 :: x11 :: y :: r) (.ref a :: st) M := g_astore0 X hd (by simp) (by simpa [lok] using ho) (k a rfl)
theorem g_lstore_12 (X : Cx p s m args c R kc ks cc own nL t D al A) {x0 : Option Value} {x1 : Option Value} {x2 : Option Value} {x3 : Option Value} {x4 : Option Value} {x5 : Option Value} {x6 : Option Value} {x7 : Option Value} {x8 : Option Value} {x9 : Option Value} {x10 : Option Value} {x11 : Option Value} {y z : Option Value} {r : List (Option Value)} {a : Int} (hd : decode cc pc = .ok (.lstore 12, 2))  (ho : lok [x11] 1) (k : ∀ v : Int, v = a → Gd p l e R s m args below meth c kc ks Q t D al A (pc + 2) (x0 :: x1 :: x2 :: x3 :: x4 :: x5 :: x6 :: x7 :: x8 :: x9 :: x10 :: x11 :: some (.long (jN v)) :: none :: r) st M) : Gd p l e R s m args below meth c kc ks Q t D al A pc (x0 :: x1 :: x2 :: x3 :: x4 :: x5 :: x6 :: x7 :: x8 :: x9 :: x10 :: x11 :: y :: z :: r) (.long (jN a) :: st) M := g_lstore0 X hd (by simp) (by simpa [lok] using ho) (k a rfl)
theorem g_iinc_12 (X : Cx p s m args c R kc ks cc own nL t D al A) {x0 : Option Value} {x1 : Option Value} {x2 : Option Value} {x3 : Option Value} {x4 : Option Value} {x5 : Option Value} {x6 : Option Value} {x7 : Option Value} {x8 : Option Value} {x9 : Option Value} {x10 : Option Value} {x11 : Option Value} {r : List (Option Value)} {a n : Int} (hd : decode cc pc = .ok (.iinc 12 n, 3)) (ho : lok [x11] 1) (k : ∀ v : Int, v = a + n → Gd p l e R s m args below meth c kc ks Q t D al A (pc + 3) (x0 :: x1 :: x2 :: x3 :: x4 :: x5 :: x6 :: x7 :: x8 :: x9 :: x10 :: x11 :: some (.int (iN v)) :: r) st M) : Gd p l e R s m args below meth c kc ks Q t D al A pc (x0 :: x1 :: x2 :: x3 :: x4 :: x5 :: x6 :: x7 :: x8 :: x9 :: x10 :: x11 :: some (.int (iN a)) :: r) st M := g_iinc0 X hd rfl (by simp) (by simpa [lok] using ho) (k _ rfl)
theorem g_istore_13 (X : Cx p s m args c R kc ks cc own nL t D al A) {x0 : Option Value} {x1 : Option Value} {x2 : Option Value} {x3 : Option Value} {x4 : Option Value} {x5 : Option Value} {x6 : Option Value} {x7 : Option Value} {x8 : Option Value} {x9 : Option Value} {x10 : Option Value} {x11 : Option Value} {x12 : Option Value} {y : Option Value} {r : List (Option Value)} {a : Int} (hd : decode cc pc = .ok (.istore 13, 2))  (ho : lok [x12] 1) (k : ∀ v : Int, v = a → Gd p l e R s m args below meth c kc ks Q t D al A (pc + 2) (x0 :: x1 :: x2 :: x3 :: x4 :: x5 :: x6 :: x7 :: x8 :: x9 :: x10 :: x11 :: x12 :: some (.int (iN v)) :: r) st M) : Gd p l e R s m args below meth c kc ks Q t D al A pc (x0 :: x1 :: x2 :: x3 :: x4 :: x5 :: x6 :: x7 :: x8 :: x9 :: x10 :: x11 :: x12 :: y :: r) (.int (iN a) :: st) M := g_istore0 X hd (by simp) (by simpa [lok] using ho) (k a rfl)
theorem g_astore_13 (X : Cx p s m args c R kc ks cc own nL t D al A) {x0 : Option Value} {x1 : Option Value} {x2 : Option Value} {x3 : Option Value} {x4 : Option Value} {x5 : Option Value} {x6 : Option Value} {x7 : Option Value} {x8 : Option Value} {x9 : Option Value} {x10 : Option Value} {x11 : Option Value} {x12 : Option Value} {y : Option Value} {r : List (Option Value)} {a : Nat} (hd : decode cc pc = .ok (.astore 13, 2))  (ho : lok [x12] 1) (k : ∀ v : Nat, v = a → Gd p l e R s m args below meth c kc ks Q t D al A (pc + 2) (x0 :: x1 :: x2 :: x3 :: x4 :: x5 :: x6 :: x7 :: x8 :: x9 :: x10 :: x11 :: x12 :: some (.ref v) :: r) st M) : Gd p l e R s m args below meth c kc ks Q t D al A pc (x0 :: x1 :: x2 :: x3 :: x4 :: x5 :: x6 :: x7 :: x8 :: x9 :: x10 :: x11 :: x12 :: y :: r) (.ref a :: st) M := g_astore0 X hd (by simp) (by simpa [lok] using ho) (k a rfl)
theorem g_lstore_13 (X : Cx p s m args c R kc ks cc own nL t D al A) {x0 : Option Value} {x1 : Option Value} {x2 : Option Value} {x3 : Option Value} {x4 : Option Value} {x5 : Option Value} {x6 : Option Value} {x7 : Option Value} {x8 : Option Value} {x9 : Option Value} {x10 : Option Value} {x11 : Option Value} {x12 : Option Value} {y z : Option Value} {r : List (Option Value)} {a : Int} (hd : decode cc pc = .ok (.lstore 13, 2))  (ho : lok [x12] 1) (k : ∀ v : Int, v = a → Gd p l e R s m args below meth c kc ks Q t D al A (pc + 2) (x0 :: x1 :: x2 :: x3 :: x4 :: x5 :: x6 :: x7 :: x8 :: x9 :: x10 :: x11 :: x12 :: some (.long (jN v)) :: none :: r) st M) : Gd p l e R s m args below meth c kc ks Q t D al A pc (x0 :: x1 :: x2 :: x3 :: x4 :: x5 :: x6 :: x7 :: x8 :: x9 :: x10 :: x11 :: x12 :: y :: z :: r) (.long (jN a) :: st) M := g_lstore0 X hd (by simp) (by simpa [lok] using ho) (k a rfl)
theorem g_iinc_13 (X : Cx p s m args c R kc ks cc own nL t D al A) {x0 : Option Value} {x1 : Option Value} {x2 : Option Value} {x3 : Option Value} {x4 : Option Value} {x5 : Option Value} {x6 : Option Value} {x7 : Option Value} {x8 : Option Value} {x9 : Option Value} {x10 : Option Value} {x11 : Option Value} {x12 : Option Value} {r : List (Option Value)} {a n : Int} (hd : decode cc pc = .ok (.iinc 13 n, 3)) (ho : lok [x12] 1) (k : ∀ v : Int, v = a + n → Gd p l e R s m args below meth c kc ks Q t D al A (pc + 3) (x0 :: x1 :: x2 :: x3 :: x4 :: x5 :: x6 :: x7 :: x8 :: x9 :: x10 :: x11 :: x12 :: some (.int (iN v)) :: r) st M) : Gd p l e R s m args below meth c kc ks Q t D al A pc (x0 :: x1 :: x2 :: x3 :: x4 :: x5 :: x6 :: x7 :: x8 :: x9 :: x10 :: x11 :: x12 :: some (.int (iN a)) :: r) st M := g_iinc0 X hd rfl (by simp) (by simpa [lok] using ho) (k _ rfl)
theorem g_iadd (X : Cx p s m args c R kc ks cc own nL t D al A) {a b : Int} (hd : decode cc pc = .ok (.iadd, 1)) (k : Gd p l e R s m args below meth c kc ks Q t D al A (pc + 1) ls (.int (iN (a + b)) :: st) M) : Gd p l e R s m args below meth c kc ks Q t D al A pc ls (.int (iN b) :: .int (iN a) :: st) M := fun H locs la hP hS hv => lv_iadd X.1 X.2.1 hd (by rw [← iN_add]; exact k H locs la hP hS hv)
theorem g_isub (X : Cx p s m args c R kc ks cc own nL t D al A) {a b : Int} (hd : decode cc pc = .ok (.isub, 1)) (k : Gd p l e R s m args below meth c kc ks Q t D al A (pc + 1) ls (.int (iN (a - b)) :: st) M) : Gd p l e R s m args below meth c kc ks Q t D al A pc ls (.int (iN b) :: .int (iN a) :: st) M := fun H locs la hP hS hv => lv_isub X.1 X.2.1 hd (by rw [← iN_sub]; exact k H locs la hP hS hv)
theorem g_imul (X : Cx p s m args c R kc ks cc own nL t D al A) {a b : Int} (hd : decode cc pc = .ok (.imul, 1)) (k : Gd p l e R s m args below meth c kc ks Q t D al A (pc + 1) ls (.int (iN (a * b)) :: st) M) : Gd p l e R s m args below meth c kc ks Q t D al A pc ls (.int (iN b) :: .int (iN a) :: st) M := fun H locs la hP hS hv => lv_imul X.1 X.2.1 hd (by rw [← iN_mul]; exact k H locs la hP hS hv)
theorem g_idiv (X : Cx p s m args c R kc ks cc own nL t D al A) {a b : Int} (hd : decode cc pc = .ok (.idiv, 1)) (ha : 0 ≤ a ∧ a ≤ 2147483647) (hb : 0 < b ∧ b ≤ 2147483647) (k : Gd p l e R s m args below meth c kc ks Q t D al A (pc + 1) ls (.int (iN (a / b)) :: st) M) : Gd p l e R s m args below meth c kc ks Q t D al A pc ls (.int (iN b) :: .int (iN a) :: st) M := fun H locs la hP hS hv => lv_idiv X.1 X.2.1 hd (iN_ne0 (by omega) (by constructor <;> omega)) (by rw [← iN_div ha hb]; exact k H locs la hP hS hv)
theorem g_irem (X : Cx p s m args c R kc ks cc own nL t D al A) {a b : Int} (hd : decode cc pc = .ok (.irem, 1)) (ha : 0 ≤ a ∧ a ≤ 2147483647) (hb : 0 < b ∧ b ≤ 2147483647) (k : Gd p l e R s m args below meth c kc ks Q t D al A (pc + 1) ls (.int (iN (a % b)) :: st) M) : Gd p l e R s m args below meth c kc ks Q t D al A pc ls (.int (iN b) :: .int (iN a) :: st) M := fun H locs la hP hS hv => lv_irem X.1 X.2.1 hd (iN_ne0 (by omega) (by constructor <;> omega)) (by rw [← iN_rem ha hb]; exact k H locs la hP hS hv)
theorem g_ladd (X : Cx p s m args c R kc ks cc own nL t D al A) {a b : Int} (hd : decode cc pc = .ok (.ladd, 1)) (k : Gd p l e R s m args below meth c kc ks Q t D al A (pc + 1) ls (.long (jN (a + b)) :: st) M) : Gd p l e R s m args below meth c kc ks Q t D al A pc ls (.long (jN b) :: .long (jN a) :: st) M := fun H locs la hP hS hv => lv_ladd X.1 X.2.1 hd (by rw [← jN_add]; exact k H locs la hP hS hv)
theorem g_lsub (X : Cx p s m args c R kc ks cc own nL t D al A) {a b : Int} (hd : decode cc pc = .ok (.lsub, 1)) (k : Gd p l e R s m args below meth c kc ks Q t D al A (pc + 1) ls (.long (jN (a - b)) :: st) M) : Gd p l e R s m args below meth c kc ks Q t D al A pc ls (.long (jN b) :: .long (jN a) :: st) M := fun H locs la hP hS hv => lv_lsub X.1 X.2.1 hd (by rw [← jN_sub]; exact k H locs la hP hS hv)
theorem g_lmul (X : Cx p s m args c R kc ks cc own nL t D al A) {a b : Int} (hd : decode cc pc = .ok (.lmul, 1)) (k : Gd p l e R s m args below meth c kc ks Q t D al A (pc + 1) ls (.long (jN (a * b)) :: st) M) : Gd p l e R s m args below meth c kc ks Q t D al A pc ls (.long (jN b) :: .long (jN a) :: st) M := fun H locs la hP hS hv => lv_lmul X.1 X.2.1 hd (by rw [← jN_mul]; exact k H locs la hP hS hv)
theorem g_ldiv (X : Cx p s m args c R kc ks cc own nL t D al A) {a b : Int} (hd : decode cc pc = .ok (.ldiv, 1)) (ha : 0 ≤ a ∧ a ≤ 9223372036854775807) (hb : 0 < b ∧ b ≤ 9223372036854775807) (k : Gd p l e R s m args below meth c kc ks Q t D al A (pc + 1) ls (.long (jN (a / b)) :: st) M) : Gd p l e R s m args below meth c kc ks Q t D al A pc ls (.long (jN b) :: .long (jN a) :: st) M := fun H locs la hP hS hv => lv_ldiv X.1 X.2.1 hd (jN_ne0 (by omega) (by constructor <;> omega)) (by rw [← jN_div ha hb]; exact k H locs la hP hS hv)
theorem g_lrem (X : Cx p s m args c R kc ks cc own nL t D al A) {a b : Int} (hd : decode cc pc = .ok (.lrem, 1)) (ha : 0 ≤ a ∧ a ≤ 9223372036854775807) (hb : 0 < b ∧ b ≤ 9223372036854775807) (k : Gd p l e R s m args below meth c kc ks Q t D al A (pc + 1) ls (.long (jN (a % b)) :: st) M) : Gd p l e R s m args below meth c kc ks Q t D al A pc ls (.long (jN b) :: .long (jN a) :: st) M := fun H locs la hP hS hv => lv_lrem X.1 X.2.1 hd (jN_ne0 (by omega) (by constructor <;> omega)) (by rw [← jN_rem ha hb]; exact k H locs la hP hS hv)
theorem g_iand (X : Cx p s m args c R kc ks cc own nL t D al A) {a b : Int} (hd : decode cc pc = .ok (.iand, 1)) (k : Gd p l e R s m args below meth c kc ks Q t D al A (pc + 1) ls (.int (iN (and32 a b)) :: st) M) : Gd p l e R s m args below meth c kc ks Q t D al A pc ls (.int (iN b) :: .int (iN a) :: st) M := fun H locs la hP hS hv => lv_iand X.1 X.2.1 hd (by rw [show iN (and32 a b) = _ from iN_of _] at k; exact k H locs la hP hS hv)
theorem g_ior (X : Cx p s m args c R kc ks cc own nL t D al A) {a b : Int} (hd : decode cc pc = .ok (.ior, 1)) (k : Gd p l e R s m args below meth c kc ks Q t D al A (pc + 1) ls (.int (iN (or32 a b)) :: st) M) : Gd p l e R s m args below meth c kc ks Q t D al A pc ls (.int (iN b) :: .int (iN a) :: st) M := fun H locs la hP hS hv => lv_ior X.1 X.2.1 hd (by rw [show iN (or32 a b) = _ from iN_of _] at k; exact k H locs la hP hS hv)
theorem g_ixor (X : Cx p s m args c R kc ks cc own nL t D al A) {a b : Int} (hd : decode cc pc = .ok (.ixor, 1)) (k : Gd p l e R s m args below meth c kc ks Q t D al A (pc + 1) ls (.int (iN (xor32 a b)) :: st) M) : Gd p l e R s m args below meth c kc ks Q t D al A pc ls (.int (iN b) :: .int (iN a) :: st) M := fun H locs la hP hS hv => lv_ixor X.1 X.2.1 hd (by rw [show iN (xor32 a b) = _ from iN_of _] at k; exact k H locs la hP hS hv)
theorem g_ishl (X : Cx p s m args c R kc ks cc own nL t D al A) {a b : Int} (hd : decode cc pc = .ok (.ishl, 1)) (k : Gd p l e R s m args below meth c kc ks Q t D al A (pc + 1) ls (.int (iN (shl32 a b)) :: st) M) : Gd p l e R s m args below meth c kc ks Q t D al A pc ls (.int (iN b) :: .int (iN a) :: st) M := fun H locs la hP hS hv => lv_ishl X.1 X.2.1 hd (by rw [show iN (shl32 a b) = _ from iN_of _] at k; exact k H locs la hP hS hv)
theorem g_ishr (X : Cx p s m args c R kc ks cc own nL t D al A) {a b : Int} (hd : decode cc pc = .ok (.ishr, 1)) (k : Gd p l e R s m args below meth c kc ks Q t D al A (pc + 1) ls (.int (iN (shr32 a b)) :: st) M) : Gd p l e R s m args below meth c kc ks Q t D al A pc ls (.int (iN b) :: .int (iN a) :: st) M := fun H locs la hP hS hv => lv_ishr X.1 X.2.1 hd (by rw [show iN (shr32 a b) = _ from iN_of _] at k; exact k H locs la hP hS hv)
theorem g_iushr (X : Cx p s m args c R kc ks cc own nL t D al A) {a b : Int} (hd : decode cc pc = .ok (.iushr, 1)) (k : Gd p l e R s m args below meth c kc ks Q t D al A (pc + 1) ls (.int (iN (ushr32 a b)) :: st) M) : Gd p l e R s m args below meth c kc ks Q t D al A pc ls (.int (iN b) :: .int (iN a) :: st) M := fun H locs la hP hS hv => lv_iushr X.1 X.2.1 hd rfl (by rw [show iN (ushr32 a b) = _ from iN_of _] at k; exact k H locs la hP hS hv)
theorem g_land (X : Cx p s m args c R kc ks cc own nL t D al A) {a b : Int} (hd : decode cc pc = .ok (.land, 1)) (k : Gd p l e R s m args below meth c kc ks Q t D al A (pc + 1) ls (.long (jN (and64 a b)) :: st) M) : Gd p l e R s m args below meth c kc ks Q t D al A pc ls (.long (jN b) :: .long (jN a) :: st) M := fun H locs la hP hS hv => lv_land X.1 X.2.1 hd (by rw [show jN (and64 a b) = _ from jN_of _] at k; exact k H locs la hP hS hv)
theorem g_lor (X : Cx p s m args c R kc ks cc own nL t D al A) {a b : Int} (hd : decode cc pc = .ok (.lor, 1)) (k : Gd p l e R s m args below meth c kc ks Q t D al A (pc + 1) ls (.long (jN (or64 a b)) :: st) M) : Gd p l e R s m args below meth c kc ks Q t D al A pc ls (.long (jN b) :: .long (jN a) :: st) M := fun H locs la hP hS hv => lv_lor X.1 X.2.1 hd (by rw [show jN (or64 a b) = _ from jN_of _] at k; exact k H locs la hP hS hv)
theorem g_lshl (X : Cx p s m args c R kc ks cc own nL t D al A) {a b : Int} (hd : decode cc pc = .ok (.lshl, 1)) (k : Gd p l e R s m args below meth c kc ks Q t D al A (pc + 1) ls (.long (jN (shl64 a b)) :: st) M) : Gd p l e R s m args below meth c kc ks Q t D al A pc ls (.int (iN b) :: .long (jN a) :: st) M := fun H locs la hP hS hv => lv_lshl X.1 X.2.1 hd rfl (by rw [show jN (shl64 a b) = _ from jN_of _] at k; exact k H locs la hP hS hv)
theorem g_lushr (X : Cx p s m args c R kc ks cc own nL t D al A) {a b : Int} (hd : decode cc pc = .ok (.lushr, 1)) (k : Gd p l e R s m args below meth c kc ks Q t D al A (pc + 1) ls (.long (jN (ushr64 a b)) :: st) M) : Gd p l e R s m args below meth c kc ks Q t D al A pc ls (.int (iN b) :: .long (jN a) :: st) M := fun H locs la hP hS hv => lv_lushr X.1 X.2.1 hd rfl (by rw [show jN (ushr64 a b) = _ from jN_of _] at k; exact k H locs la hP hS hv)
theorem g_i2l (X : Cx p s m args c R kc ks cc own nL t D al A) {a : Int} (hd : decode cc pc = .ok (.i2l, 1)) (h : i32 a) (k : Gd p l e R s m args below meth c kc ks Q t D al A (pc + 1) ls (.long (jN a) :: st) M) : Gd p l e R s m args below meth c kc ks Q t D al A pc ls (.int (iN a) :: st) M := fun H locs la hP hS hv => lv_i2l X.1 X.2.1 hd (iN_i2l h) (k H locs la hP hS hv)
theorem g_l2i (X : Cx p s m args c R kc ks cc own nL t D al A) {a : Int} (hd : decode cc pc = .ok (.l2i, 1)) (k : Gd p l e R s m args below meth c kc ks Q t D al A (pc + 1) ls (.int (iN a) :: st) M) : Gd p l e R s m args below meth c kc ks Q t D al A pc ls (.long (jN a) :: st) M := fun H locs la hP hS hv => lv_l2i X.1 X.2.1 hd (jN_l2i a) (k H locs la hP hS hv)
theorem g_dup (X : Cx p s m args c R kc ks cc own nL t D al A) {v : Value} (hd : decode cc pc = .ok (.dup, 1)) (hc : v.category = 1) (k : Gd p l e R s m args below meth c kc ks Q t D al A (pc + 1) ls (v :: v :: st) M) : Gd p l e R s m args below meth c kc ks Q t D al A pc ls (v :: st) M := fun H locs la hP hS hv => lv_dup X.1 X.2.1 hd hc (k H locs la hP hS hv)
theorem g_dup2 (X : Cx p s m args c R kc ks cc own nL t D al A) {v w : Value} (hd : decode cc pc = .ok (.dup2, 1)) (hc : v.category = 1) (hc2 : w.category = 1) (k : Gd p l e R s m args below meth c kc ks Q t D al A (pc + 1) ls (v :: w :: v :: w :: st) M) : Gd p l e R s m args below meth c kc ks Q t D al A pc ls (v :: w :: st) M := fun H locs la hP hS hv => lv_dup2_11 X.1 X.2.1 hd hc hc2 (k H locs la hP hS hv)
theorem g_goto (X : Cx p s m args c R kc ks cc own nL t D al A) {off : Int} {tgt : Nat} (hd : decode cc pc = .ok (.goto off, 3)) (ht : (pc : Int) + off = (tgt : Int)) (k : Gd p l e R s m args below meth c kc ks Q t D al A tgt ls st M) : Gd p l e R s m args below meth c kc ks Q t D al A pc ls st M := fun H locs la hP hS hv => lv_goto X.1 X.2.1 hd ht (k H locs la hP hS hv)
theorem g_icmp_eq (X : Cx p s m args c R kc ks cc own nL t D al A) {a b off : Int} {tgt : Nat} (hd : decode cc pc = .ok (.if_icmp .eq off, 3)) (ht : (pc : Int) + off = (tgt : Int)) (ha : i32 a) (hb : i32 b) (kt : a = b → Gd p l e R s m args below meth c kc ks Q t D al A tgt ls st M) (kf : a ≠ b → Gd p l e R s m args below meth c kc ks Q t D al A (pc + 3) ls st M) : Gd p l e R s m args below meth c kc ks Q t D al A pc ls (.int (iN b) :: .int (iN a) :: st) M := by
  intro H locs la hP hS hv
  refine lv_icmp_eq X.1 X.2.1 hd ht (fun q => kt ?_ H locs la hP hS hv) (fun q => kf ?_ H locs la hP hS hv)
  all_goals (simp only [ne_eq, iN_eq ha hb, iN_eq hb ha, iN_lt ha hb, iN_lt hb ha, iN_le ha hb, iN_le hb ha, ge_iff_le, gt_iff_lt] at q <;> omega)
theorem g_if_eq (X : Cx p s m args c R kc ks cc own nL t D al A) {a off : Int} {tgt : Nat} (hd : decode cc pc = .ok (.ifCond .eq off, 3)) (ht : (pc : Int) + off = (tgt : Int)) (ha : i32 a) (kt : a = 0 → Gd p l e R s m args below meth c kc ks Q t D al A tgt ls st M) (kf : a ≠ 0 → Gd p l e R s m args below meth c kc ks Q t D al A (pc + 3) ls st M) : Gd p l e R s m args below meth c kc ks Q t D al A pc ls (.int (iN a) :: st) M := by
  intro H locs la hP hS hv
  have hb : i32 0 := by decide
  refine lv_if_eq X.1 X.2.1 hd ht (fun q => kt ?_ H locs la hP hS hv) (fun q => kf ?_ H locs la hP hS hv)
  all_goals (rw [← iN_0] at q; simp only [ne_eq, iN_eq ha hb, iN_eq hb ha, iN_lt ha hb, iN_lt hb ha, iN_le ha hb, iN_le hb ha, ge_iff_le, gt_iff_lt] at q <;> omega)
theorem g_lcmp_eq (X : Cx p s m args c R kc ks cc own nL t D al A) {a b off : Int} {tgt : Nat} (hd : decode cc pc = .ok (.lcmp, 1)) (hd2 : decode cc (pc + 1) = .ok (.ifCond .eq off, 3)) (ht : ((pc + 1 : Nat) : Int) + off = (tgt : Int)) (ha : i64 a) (hb : i64 b) (kt : a = b → Gd p l e R s m args below meth c kc ks Q t D al A tgt ls st M) (kf : a ≠ b → Gd p l e R s m args below meth c kc ks Q t D al A (pc + 1 + 3) ls st M) : Gd p l e R s m args below meth c kc ks Q t D al A pc ls (.long (jN b) :: .long (jN a) :: st) M := by
  intro H locs la hP hS hv
  have e0 : (0 : Int32) = iN 0 := rfl
  have e1 : (1 : Int32) = iN 1 := rfl
  have e2 : (-1 : Int32) = iN (-1) := rfl
  have r0 : i32 0 := by decide
  have r1 : i32 1 := by decide
  have r2 : i32 (-1) := by decide
  refine W.lcmp X.1 X.2.1 hd ?_
  rcases Int.lt_trichotomy a b with h | h | h
  · have ec : lg_cmp (jN a) (jN b) = iN (-1) := by
      have h1 : ¬ (jN b < jN a) := by rw [jN_lt hb ha]; omega
      have h2 : ¬ (jN a = jN b) := by rw [jN_eq ha hb]; omega
      simp only [lg_cmp, gt_iff_lt, if_neg h1, if_neg h2, e2]
    rw [ec]
    refine lv_if_eq X.1 X.2.1 hd2 ht (fun q => kt ?_ H locs la hP hS hv) (fun q => kf ?_ H locs la hP hS hv)
    all_goals (rw [e0] at q; simp only [ne_eq, iN_eq r0 r2, iN_eq r2 r0, iN_lt r0 r2, iN_lt r2 r0, iN_le r0 r2, iN_le r2 r0, ge_iff_le, gt_iff_lt] at q <;> omega)
  · have ec : lg_cmp (jN a) (jN b) = iN 0 := by
      subst h
      have h1 : ¬ (jN a < jN a) := by rw [jN_lt ha ha]; omega
      simp only [lg_cmp, gt_iff_lt, if_neg h1, if_true, e0]
    rw [ec]
    refine lv_if_eq X.1 X.2.1 hd2 ht (fun q => kt ?_ H locs la hP hS hv) (fun q => kf ?_ H locs la hP hS hv)
    all_goals (rw [e0] at q; simp only [ne_eq, not_true, iN_lt r0 r0, iN_le r0 r0, ge_iff_le, gt_iff_lt] at q <;> omega)
  · have ec : lg_cmp (jN a) (jN b) = iN 1 := by
      have h1 : jN b < jN a := by rw [jN_lt hb ha]; omega
      simp only [lg_cmp, gt_iff_lt, if_pos h1, e1]
    rw [ec]
    refine lv_if_eq X.1 X.2.1 hd2 ht (fun q => kt ?_ H locs la hP hS hv) (fun q => kf ?_ H locs la hP hS hv)
    all_goals (rw [e0] at q; simp only [ne_eq, iN_eq r0 r1, iN_eq r1 r0, iN_lt r0 r1, iN_lt r1 r0, iN_le r0 r1, iN_le r1 r0, ge_iff_le, gt_iff_lt] at q <;> omega)
theorem g_icmp_ne (X : Cx p s m args c R kc ks cc own nL t D al A) {a b off : Int} {tgt : Nat} (hd : decode cc pc = .ok (.if_icmp .ne off, 3)) (ht : (pc : Int) + off = (tgt : Int)) (ha : i32 a) (hb : i32 b) (kt : a ≠ b → Gd p l e R s m args below meth c kc ks Q t D al A tgt ls st M) (kf : a = b → Gd p l e R s m args below meth c kc ks Q t D al A (pc + 3) ls st M) : Gd p l e R s m args below meth c kc ks Q t D al A pc ls (.int (iN b) :: .int (iN a) :: st) M := by
  intro H locs la hP hS hv
  refine lv_icmp_ne X.1 X.2.1 hd ht (fun q => kt ?_ H locs la hP hS hv) (fun q => kf ?_ H locs la hP hS hv)
  all_goals (simp only [ne_eq, iN_eq ha hb, iN_eq hb ha, iN_lt ha hb, iN_lt hb ha, iN_le ha hb, iN_le hb ha, ge_iff_le, gt_iff_lt] at q <;> omega)
theorem g_if_ne (X : Cx p s m args c R kc ks cc own nL t D al A) {a off : Int} {tgt : Nat} (hd : decode cc pc = .ok (.ifCond .ne off, 3)) (ht : (pc : Int) + off = (tgt : Int)) (ha : i32 a) (kt : a ≠ 0 → Gd p l e R s m args below meth c kc ks Q t D al A tgt ls st M) (kf : a = 0 → Gd p l e R s m args below meth c kc ks Q t D al A (pc + 3) ls st M) : Gd p l e R s m args below meth c kc ks Q t D al A pc ls (.int (iN a) :: st) M := by
  intro H locs la hP hS hv
  have hb : i32 0 := by decide
  refine lv_if_ne X.1 X.2.1 hd ht (fun q => kt ?_ H locs la hP hS hv) (fun q => kf ?_ H locs la hP hS hv)
  all_goals (rw [← iN_0] at q; simp only [ne_eq, iN_eq ha hb, iN_eq hb ha, iN_lt ha hb, iN_lt hb ha, iN_le ha hb, iN_le hb ha, ge_iff_le, gt_iff_lt] at q <;> omega)
theorem g_lcmp_ne (X : Cx p s m args c R kc ks cc own nL t D al A) {a b off : Int} {tgt : Nat} (hd : decode cc pc = .ok (.lcmp, 1)) (hd2 : decode cc (pc + 1) = .ok (.ifCond .ne off, 3)) (ht : ((pc + 1 : Nat) : Int) + off = (tgt : Int)) (ha : i64 a) (hb : i64 b) (kt : a ≠ b → Gd p l e R s m args below meth c kc ks Q t D al A tgt ls st M) (kf : a = b → Gd p l e R s m args below meth c kc ks Q t D al A (pc + 1 + 3) ls st M) : Gd p l e R s m args below meth c kc ks Q t D al A pc ls (.long (jN b) :: .long (jN a) :: st) M := by
  intro H locs la hP hS hv
  have e0 : (0 : Int32) = iN 0 := rfl
  have e1 : (1 : Int32) = iN 1 := rfl
  have e2 : (-1 : Int32) = iN (-1) := rfl
  have r0 : i32 0 := by decide
  have r1 : i32 1 := by decide
  have r2 : i32 (-1) := by decide
  refine W.lcmp X.1 X.2.1 hd ?_
  rcases Int.lt_trichotomy a b with h | h | h
  · have ec : lg_cmp (jN a) (jN b) = iN (-1) := by
      have h1 : ¬ (jN b < jN a) := by rw [jN_lt hb ha]; omega
      have h2 : ¬ (jN a = jN b) := by rw [jN_eq ha hb]; omega
      simp only [lg_cmp, gt_iff_lt, if_neg h1, if_neg h2, e2]
    rw [ec]
    refine lv_if_ne X.1 X.2.1 hd2 ht (fun q => kt ?_ H locs la hP hS hv) (fun q => kf ?_ H locs la hP hS hv)
    all_goals (rw [e0] at q; simp only [ne_eq, iN_eq r0 r2, iN_eq r2 r0, iN_lt r0 r2, iN_lt r2 r0, iN_le r0 r2, iN_le r2 r0, ge_iff_le, gt_iff_lt] at q <;> omega)
  · have ec : lg_cmp (jN a) (jN b) = iN 0 := by
      subst h
      have h1 : ¬ (jN a < jN a) := by rw [jN_lt ha ha]; omega
      simp only [lg_cmp, gt_iff_lt, if_neg h1, if_true, e0]
    rw [ec]
    refine lv_if_ne X.1 X.2.1 hd2 ht (fun q => kt ?_ H locs la hP hS hv) (fun q => kf ?_ H locs la hP hS hv)
    all_goals (rw [e0] at q; simp only [ne_eq, not_true, iN_lt r0 r0, iN_le r0 r0, ge_iff_le, gt_iff_lt] at q <;> omega)
  · have ec : lg_cmp (jN a) (jN b) = iN 1 := by
      have h1 : jN b < jN a := by rw [jN_lt hb ha]; omega
      simp only [lg_cmp, gt_iff_lt, if_pos h1, e1]
    rw [ec]
    refine lv_if_ne X.1 X.2.1 hd2 ht (fun q => kt ?_ H locs la hP hS hv) (fun q => kf ?_ H locs la hP hS hv)
    all_goals (rw [e0] at q; simp only [ne_eq, iN_eq r0 r1, iN_eq r1 r0, iN_lt r0 r1, iN_lt r1 r0, iN_le r0 r1, iN_le r1 r0, ge_iff_le, gt_iff_lt] at q <;> omega)
theorem g_icmp_lt (X : Cx p s m args c R kc ks cc own nL t D al A) {a b off : Int} {tgt : Nat} (hd : decode cc pc = .ok (.if_icmp .lt off, 3)) (ht : (pc : Int) + off = (tgt : Int)) (ha : i32 a) (hb : i32 b) (kt : a < b → Gd p l e R s m args below meth c kc ks Q t D al A tgt ls st M) (kf : b ≤ a → Gd p l e R s m args below meth c kc ks Q t D al A (pc + 3) ls st M) : Gd p l e R s m args below meth c kc ks Q t D al A pc ls (.int (iN b) :: .int (iN a) :: st) M := by
  intro H locs la hP hS hv
  refine lv_icmp_lt X.1 X.2.1 hd ht (fun q => kt ?_ H locs la hP hS hv) (fun q => kf ?_ H locs la hP hS hv)
  all_goals (simp only [ne_eq, iN_eq ha hb, iN_eq hb ha, iN_lt ha hb, iN_lt hb ha, iN_le ha hb, iN_le hb ha, ge_iff_le, gt_iff_lt] at q <;> omega)
theorem g_if_lt (X : Cx p s m args c R kc ks cc own nL t D al A) {a off : Int} {tgt : Nat} (hd : decode cc pc = .ok (.ifCond .lt off, 3)) (ht : (pc : Int) + off = (tgt : Int)) (ha : i32 a) (kt : a < 0 → Gd p l e R s m args below meth c kc ks Q t D al A tgt ls st M) (kf : 0 ≤ a → Gd p l e R s m args below meth c kc ks Q t D al A (pc + 3) ls st M) : Gd p l e R s m args below meth c kc ks Q t D al A pc ls (.int (iN a) :: st) M := by
  intro H locs la hP hS hv
  have hb : i32 0 := by decide
  refine lv_if_lt X.1 X.2.1 hd ht (fun q => kt ?_ H locs la hP hS hv) (fun q => kf ?_ H locs la hP hS hv)
  all_goals (rw [← iN_0] at q; simp only [ne_eq, iN_eq ha hb, iN_eq hb ha, iN_lt ha hb, iN_lt hb ha, iN_le ha hb, iN_le hb ha, ge_iff_le, gt_iff_lt] at q <;> omega)
theorem g_lcmp_lt (X : Cx p s m args c R kc ks cc own nL t D al A) {a b off : Int} {tgt : Nat} (hd : decode cc pc = .ok (.lcmp, 1)) (hd2 : decode cc (pc + 1) = .ok (.ifCond .lt off, 3)) (ht : ((pc + 1 : Nat) : Int) + off = (tgt : Int)) (ha : i64 a) (hb : i64 b) (kt : a < b → Gd p l e R s m args below meth c kc ks Q t D al A tgt ls st M) (kf : b ≤ a → Gd p l e R s m args below meth c kc ks Q t D al A (pc + 1 + 3) ls st M) : Gd p l e R s m args below meth c kc ks Q t D al A pc ls (.long (jN b) :: .long (jN a) :: st) M := by
  intro H locs la hP hS hv
  have e0 : (0 : Int32) = iN 0 := rfl
  have e1 : (1 : Int32) = iN 1 := rfl
  have e2 : (-1 : Int32) = iN (-1) := rfl
  have r0 : i32 0 := by decide
  have r1 : i32 1 := by decide
  have r2 : i32 (-1) := by decide
  refine W.lcmp X.1 X.2.1 hd ?_
  rcases Int.lt_trichotomy a b with h | h | h
  · have ec : lg_cmp (jN a) (jN b) = iN (-1) := by
      have h1 : ¬ (jN b < jN a) := by rw [jN_lt hb ha]; omega
      have h2 : ¬ (jN a = jN b) := by rw [jN_eq ha hb]; omega
      simp only [lg_cmp, gt_iff_lt, if_neg h1, if_neg h2, e2]
    rw [ec]
    refine lv_if_lt X.1 X.2.1 hd2 ht (fun q => kt ?_ H locs la hP hS hv) (fun q => kf ?_ H locs la hP hS hv)
    all_goals (rw [e0] at q; simp only [ne_eq, iN_eq r0 r2, iN_eq r2 r0, iN_lt r0 r2, iN_lt r2 r0, iN_le r0 r2, iN_le r2 r0, ge_iff_le, gt_iff_lt] at q <;> omega)
  · have ec : lg_cmp (jN a) (jN b) = iN 0 := by
      subst h
      have h1 : ¬ (jN a < jN a) := by rw [jN_lt ha ha]; omega
      simp only [lg_cmp, gt_iff_lt, if_neg h1, if_true, e0]
    rw [ec]
    refine lv_if_lt X.1 X.2.1 hd2 ht (fun q => kt ?_ H locs la hP hS hv) (fun q => kf ?_ H locs la hP hS hv)
    all_goals (rw [e0] at q; simp only [ne_eq, not_true, iN_lt r0 r0, iN_le r0 r0, ge_iff_le, gt_iff_lt] at q <;> omega)
  · have ec : lg_cmp (jN a) (jN b) = iN 1 := by
      have h1 : jN b < jN a := by rw [jN_lt hb ha]; omega
      simp only [lg_cmp, gt_iff_lt, if_pos h1, e1]
    rw [ec]
    refine lv_if_lt X.1 X.2.1 hd2 ht (fun q => kt ?_ H locs la hP hS hv) (fun q => kf ?_ H locs la hP hS hv)
    all_goals (rw [e0] at q; simp only [ne_eq, iN_eq r0 r1, iN_eq r1 r0, iN_lt r0 r1, iN_lt r1 r0, iN_le r0 r1, iN_le r1 r0, ge_iff_le, gt_iff_lt] at q <;> omega)
theorem g_icmp_ge (X : Cx p s m args c R kc ks cc own nL t D al A) {a b off : Int} {tgt : Nat} (hd : decode cc pc = .ok (.if_icmp .ge off, 3)) (ht : (pc : Int) + off = (tgt : Int)) (ha : i32 a) (hb : i32 b) (kt : b ≤ a → Gd p l e R s m args below meth c kc ks Q t D al A tgt ls st M) (kf : a < b → Gd p l e R s m args below meth c kc ks Q t D al A (pc + 3) ls st M) : Gd p l e R s m args below meth c kc ks Q t D al A pc ls (.int (iN b) :: .int (iN a) :: st) M := by
  intro H locs la hP hS hv
  refine lv_icmp_ge X.1 X.2.1 hd ht (fun q => kt ?_ H locs la hP hS hv) (fun q => kf ?_ H locs la hP hS hv)
  all_goals (simp only [ne_eq, iN_eq ha hb, iN_eq hb ha, iN_lt ha hb, iN_lt hb ha, iN_le ha hb, iN_le hb ha, ge_iff_le, gt_iff_lt] at q <;> omega)
theorem g_if_ge (X : Cx p s m args c R kc ks cc own nL t D al A) {a off : Int} {tgt : Nat} (hd : decode cc pc = .ok (.ifCond .ge off, 3)) (ht : (pc : Int) + off = (tgt : Int)) (ha : i32 a) (kt : 0 ≤ a → Gd p l e R s m args below meth c kc ks Q t D al A tgt ls st M) (kf : a < 0 → Gd p l e R s m args below meth c kc ks Q t D al A (pc + 3) ls st M) : Gd p l e R s m args below meth c kc ks Q t D al A pc ls (.int (iN a) :: st) M := by
  intro H locs la hP hS hv
  have hb : i32 0 := by decide
  refine lv_if_ge X.1 X.2.1 hd ht (fun q => kt ?_ H locs la hP hS hv) (fun q => kf ?_ H locs la hP hS hv)
  all_goals (rw [← iN_0] at q; simp only [ne_eq, iN_eq ha hb, iN_eq hb ha, iN_lt ha hb, iN_lt hb ha, iN_le ha hb, iN_le hb ha, ge_iff_le, gt_iff_lt] at q <;> omega)
theorem g_lcmp_ge (X : Cx p s m args c R kc ks cc own nL t D al A) {a b off : Int} {tgt : Nat} (hd : decode cc pc = .ok (.lcmp, 1)) (hd2 : decode cc (pc + 1) = .ok (.ifCond .ge off, 3)) (ht : ((pc + 1 : Nat) : Int) + off = (tgt : Int)) (ha : i64 a) (hb : i64 b) (kt : b ≤ a → Gd p l e R s m args below meth c kc ks Q t D al A tgt ls st M) (kf : a < b → Gd p l e R s m args below meth c kc ks Q t D al A (pc + 1 + 3) ls st M) : Gd p l e R s m args below meth c kc ks Q t D al A pc ls (.long (jN b) :: .long (jN a) :: st) M := by
  intro H locs la hP hS hv
  have e0 : (0 : Int32) = iN 0 := rfl
  have e1 : (1 : Int32) = iN 1 := rfl
  have e2 : (-1 : Int32) = iN (-1) := rfl
  have r0 : i32 0 := by decide
  have r1 : i32 1 := by decide
  have r2 : i32 (-1) := by decide
  refine W.lcmp X.1 X.2.1 hd ?_
  rcases Int.lt_trichotomy a b with h | h | h
  · have ec : lg_cmp (jN a) (jN b) = iN (-1) := by
      have h1 : ¬ (jN b < jN a) := by rw [jN_lt hb ha]; omega
      have h2 : ¬ (jN a = jN b) := by rw [jN_eq ha hb]; omega
      simp only [lg_cmp, gt_iff_lt, if_neg h1, if_neg h2, e2]
    rw [ec]
    refine lv_if_ge X.1 X.2.1 hd2 ht (fun q => kt ?_ H locs la hP hS hv) (fun q => kf ?_ H locs la hP hS hv)
    all_goals (rw [e0] at q; simp only [ne_eq, iN_eq r0 r2, iN_eq r2 r0, iN_lt r0 r2, iN_lt r2 r0, iN_le r0 r2, iN_le r2 r0, ge_iff_le, gt_iff_lt] at q <;> omega)
  · have ec : lg_cmp (jN a) (jN b) = iN 0 := by
      subst h
      have h1 : ¬ (jN a < jN a) := by rw [jN_lt ha ha]; omega
      simp only [lg_cmp, gt_iff_lt, if_neg h1, if_true, e0]
    rw [ec]
    refine lv_if_ge X.1 X.2.1 hd2 ht (fun q => kt ?_ H locs la hP hS hv) (fun q => kf ?_ H locs la hP hS hv)
    all_goals (rw [e0] at q; simp only [ne_eq, not_true, iN_lt r0 r0, iN_le r0 r0, ge_iff_le, gt_iff_lt] at q <;> omega)
  · have ec : lg_cmp (jN a) (jN b) = iN 1 := by
      have h1 : jN b < jN a := by rw [jN_lt hb ha]; omega
      simp only [lg_cmp, gt_iff_lt, if_pos h1, e1]
    rw [ec]
    refine lv_if_ge X.1 X.2.1 hd2 ht (fun q => kt ?_ H locs la hP hS hv) (fun q => kf ?_ H locs la hP hS hv)
    all_goals (rw [e0] at q; simp only [ne_eq, iN_eq r0 r1, iN_eq r1 r0, iN_lt r0 r1, iN_lt r1 r0, iN_le r0 r1, iN_le r1 r0, ge_iff_le, gt_iff_lt] at q <;> omega)
theorem g_icmp_gt (X : Cx p s m args c R kc ks cc own nL t D al A) {a b off : Int} {tgt : Nat} (hd : decode cc pc = .ok (.if_icmp .gt off, 3)) (ht : (pc : Int) + off = (tgt : Int)) (ha : i32 a) (hb : i32 b) (kt : b < a → Gd p l e R s m args below meth c kc ks Q t D al A tgt ls st M) (kf : a ≤ b → Gd p l e R s m args below meth c kc ks Q t D al A (pc + 3) ls st M) : Gd p l e R s m args below meth c kc ks Q t D al A pc ls (.int (iN b) :: .int (iN a) :: st) M := by
  intro H locs la hP hS hv
  refine lv_icmp_gt X.1 X.2.1 hd ht (fun q => kt ?_ H locs la hP hS hv) (fun q => kf ?_ H locs la hP hS hv)
  all_goals (simp only [ne_eq, iN_eq ha hb, iN_eq hb ha, iN_lt ha hb, iN_lt hb ha, iN_le ha hb, iN_le hb ha, ge_iff_le, gt_iff_lt] at q <;> omega)
theorem g_if_gt (X : Cx p s m args c R kc ks cc own nL t D al A) {a off : Int} {tgt : Nat} (hd : decode cc pc = .ok (.ifCond .gt off, 3)) (ht : (pc : Int) + off = (tgt : Int)) (ha : i32 a) (kt : 0 < a → Gd p l e R s m args below meth c kc ks Q t D al A tgt ls st M) (kf : a ≤ 0 → Gd p l e R s m args below meth c kc ks Q t D al A (pc + 3) ls st M) : Gd p l e R s m args below meth c kc ks Q t D al A pc ls (.int (iN a) :: st) M := by
  intro H locs la hP hS hv
  have hb : i32 0 := by decide
  refine lv_if_gt X.1 X.2.1 hd ht (fun q => kt ?_ H locs la hP hS hv) (fun q => kf ?_ H locs la hP hS hv)
  all_goals (rw [← iN_0] at q; simp only [ne_eq, iN_eq ha hb, iN_eq hb ha, iN_lt ha hb, iN_lt hb ha, iN_le ha hb, iN_le hb ha, ge_iff_le, gt_iff_lt] at q <;> omega)
theorem g_lcmp_gt (X : Cx p s m args c R kc ks cc own nL t D al A) {a b off : Int} {tgt : Nat} (hd : decode cc pc = .ok (.lcmp, 1)) (hd2 : decode cc (pc + 1) = .ok (.ifCond .gt off, 3)) (ht : ((pc + 1 : Nat) : Int) + off = (tgt : Int)) (ha : i64 a) (hb : i64 b) (kt : b < a → Gd p l e R s m args below meth c kc ks Q t D al A tgt ls st M) (kf : a ≤ b → Gd p l e R s m args below meth c kc ks Q t D al A (pc + 1 + 3) ls st M) : Gd p l e R s m args below meth c kc ks Q t D al A pc ls (.long (jN b) :: .long (jN a) :: st) M := by
  intro H locs la hP hS hv
  have e0 : (0 : Int32) = iN 0 := rfl
  have e1 : (1 : Int32) = iN 1 := rfl
  have e2 : (-1 : Int32) = iN (-1) := rfl
  have r0 : i32 0 := by decide
  have r1 : i32 1 := by decide
  have r2 : i32 (-1) := by decide
  refine W.lcmp X.1 X.2.1 hd ?_
  rcases Int.lt_trichotomy a b with h | h | h
  · have ec : lg_cmp (jN a) (jN b) = iN (-1) := by
      have h1 : ¬ (jN b < jN a) := by rw [jN_lt hb ha]; omega
      have h2 : ¬ (jN a = jN b) := by rw [jN_eq ha hb]; omega
      simp only [lg_cmp, gt_iff_lt, if_neg h1, if_neg h2, e2]
    rw [ec]
    refine lv_if_gt X.1 X.2.1 hd2 ht (fun q => kt ?_ H locs la hP hS hv) (fun q => kf ?_ H locs la hP hS hv)
    all_goals (rw [e0] at q; simp only [ne_eq, iN_eq r0 r2, iN_eq r2 r0, iN_lt r0 r2, iN_lt r2 r0, iN_le r0 r2, iN_le r2 r0, ge_iff_le, gt_iff_lt] at q <;> omega)
  · have ec : lg_cmp (jN a) (jN b) = iN 0 := by
      subst h
      have h1 : ¬ (jN a < jN a) := by rw [jN_lt ha ha]; omega
      simp only [lg_cmp, gt_iff_lt, if_neg h1, if_true, e0]
    rw [ec]
    refine lv_if_gt X.1 X.2.1 hd2 ht (fun q => kt ?_ H locs la hP hS hv) (fun q => kf ?_ H locs la hP hS hv)
    all_goals (rw [e0] at q; simp only [ne_eq, not_true, iN_lt r0 r0, iN_le r0 r0, ge_iff_le, gt_iff_lt] at q <;> omega)
  · have ec : lg_cmp (jN a) (jN b) = iN 1 := by
      have h1 : jN b < jN a := by rw [jN_lt hb ha]; omega
      simp only [lg_cmp, gt_iff_lt, if_pos h1, e1]
    rw [ec]
    refine lv_if_gt X.1 X.2.1 hd2 ht (fun q => kt ?_ H locs la hP hS hv) (fun q => kf ?_ H locs la hP hS hv)
    all_goals (rw [e0] at q; simp only [ne_eq, iN_eq r0 r1, iN_eq r1 r0, iN_lt r0 r1, iN_lt r1 r0, iN_le r0 r1, iN_le r1 r0, ge_iff_le, gt_iff_lt] at q <;> omega)
theorem g_icmp_le (X : Cx p s m args c R kc ks cc own nL t D al A) {a b off : Int} {tgt : Nat} (hd : decode cc pc = .ok (.if_icmp .le off, 3)) (ht : (pc : Int) + off = (tgt : Int)) (ha : i32 a) (hb : i32 b) (kt : a ≤ b → Gd p l e R s m args below meth c kc ks Q t D al A tgt ls st M) (kf : b < a → Gd p l e R s m args below meth c kc ks Q t D al A (pc + 3) ls st M) : Gd p l e R s m args below meth c kc ks Q t D al A pc ls (.int (iN b) :: .int (iN a) :: st) M := by
  intro H locs la hP hS hv
  refine lv_icmp_le X.1 X.2.1 hd ht (fun q => kt ?_ H locs la hP hS hv) (fun q => kf ?_ H locs la hP hS hv)
  all_goals (simp only [ne_eq, iN_eq ha hb, iN_eq hb ha, iN_lt ha hb, iN_lt hb ha, iN_le ha hb, iN_le hb ha, ge_iff_le, gt_iff_lt] at q <;> omega)
theorem g_if_le (X : Cx p s m args c R kc ks cc own nL t D al A) {a off : Int} {tgt : Nat} (hd : decode cc pc = .ok (.ifCond .le off, 3)) (ht : (pc : Int) + off = (tgt : Int)) (ha : i32 a) (kt : a ≤ 0 → Gd p l e R s m args below meth c kc ks Q t D al A tgt ls st M) (kf : 0 < a → Gd p l e R s m args below meth c kc ks Q t D al A (pc + 3) ls st M) : Gd p l e R s m args below meth c kc ks Q t D al A pc ls (.int (iN a) :: st) M := by
  intro H locs la hP hS hv
  have hb : i32 0 := by decide
  refine lv_if_le X.1 X.2.1 hd ht (fun q => kt ?_ H locs la hP hS hv) (fun q => kf ?_ H locs la hP hS hv)
  all_goals (rw [← iN_0] at q; simp only [ne_eq, iN_eq ha hb, iN_eq hb ha, iN_lt ha hb, iN_lt hb ha, iN_le ha hb, iN_le hb ha, ge_iff_le, gt_iff_lt] at q <;> omega)
theorem g_lcmp_le (X : Cx p s m args c R kc ks cc own nL t D al A) {a b off : Int} {tgt : Nat} (hd : decode cc pc = .ok (.lcmp, 1)) (hd2 : decode cc (pc + 1) = .ok (.ifCond .le off, 3)) (ht : ((pc + 1 : Nat) : Int) + off = (tgt : Int)) (ha : i64 a) (hb : i64 b) (kt : a ≤ b → Gd p l e R s m args below meth c kc ks Q t D al A tgt ls st M) (kf : b < a → Gd p l e R s m args below meth c kc ks Q t D al A (pc + 1 + 3) ls st M) : Gd p l e R s m args below meth c kc ks Q t D al A pc ls (.long (jN b) :: .long (jN a) :: st) M := by
  intro H locs la hP hS hv
  have e0 : (0 : Int32) = iN 0 := rfl
  have e1 : (1 : Int32) = iN 1 := rfl
  have e2 : (-1 : Int32) = iN (-1) := rfl
  have r0 : i32 0 := by decide
  have r1 : i32 1 := by decide
  have r2 : i32 (-1) := by decide
  refine W.lcmp X.1 X.2.1 hd ?_
  rcases Int.lt_trichotomy a b with h | h | h
  · have ec : lg_cmp (jN a) (jN b) = iN (-1) := by
      have h1 : ¬ (jN b < jN a) := by rw [jN_lt hb ha]; omega
      have h2 : ¬ (jN a = jN b) := by rw [jN_eq ha hb]; omega
      simp only [lg_cmp, gt_iff_lt, if_neg h1, if_neg h2, e2]
    rw [ec]
    refine lv_if_le X.1 X.2.1 hd2 ht (fun q => kt ?_ H locs la hP hS hv) (fun q => kf ?_ H locs la hP hS hv)
    all_goals (rw [e0] at q; simp only [ne_eq, iN_eq r0 r2, iN_eq r2 r0, iN_lt r0 r2, iN_lt r2 r0, iN_le r0 r2, iN_le r2 r0, ge_iff_le, gt_iff_lt] at q <;> omega)
  · have ec : lg_cmp (jN a) (jN b) = iN 0 := by
      subst h
      have h1 : ¬ (jN a < jN a) := by rw [jN_lt ha ha]; omega
      simp only [lg_cmp, gt_iff_lt, if_neg h1, if_true, e0]
    rw [ec]
    refine lv_if_le X.1 X.2.1 hd2 ht (fun q => kt ?_ H locs la hP hS hv) (fun q => kf ?_ H locs la hP hS hv)
    all_goals (rw [e0] at q; simp only [ne_eq, not_true, iN_lt r0 r0, iN_le r0 r0, ge_iff_le, gt_iff_lt] at q <;> omega)
  · have ec : lg_cmp (jN a) (jN b) = iN 1 := by
      have h1 : jN b < jN a := by rw [jN_lt hb ha]; omega
      simp only [lg_cmp, gt_iff_lt, if_pos h1, e1]
    rw [ec]
    refine lv_if_le X.1 X.2.1 hd2 ht (fun q => kt ?_ H locs la hP hS hv) (fun q => kf ?_ H locs la hP hS hv)
    all_goals (rw [e0] at q; simp only [ne_eq, iN_eq r0 r1, iN_eq r1 r0, iN_lt r0 r1, iN_lt r1 r0, iN_le r0 r1, iN_le r1 r0, ge_iff_le, gt_iff_lt] at q <;> omega)
theorem g_top {a : Int} (k : ∀ v : Int, v = a → Gd p l e R s m args below meth c kc ks Q t D al A pc ls (.int (iN v) :: st) M) : Gd p l e R s m args below meth c kc ks Q t D al A pc ls (.int (iN a) :: st) M := k a rfl
theorem g_topl {a : Int} (k : ∀ v : Int, v = a → Gd p l e R s m args below meth c kc ks Q t D al A pc ls (.long (jN v) :: st) M) : Gd p l e R s m args below meth c kc ks Q t D al A pc ls (.long (jN a) :: st) M := k a rfl
theorem g_mem {M0 : Mem} (k : ∀ M1 : Mem, M1 = M0 → Gd p l e R s m args below meth c kc ks Q t D al A pc ls st M1) : Gd p l e R s m args below meth c kc ks Q t D al A pc ls st M0 := k M0 rfl
theorem g_sub (h : Gd p l e R s m args below meth c kc ks Q t D al A pc ls' st M) (hs : lsub ls' ls) : Gd p l e R s m args below meth c kc ks Q t D al A pc ls st M := fun H locs la hP hS hv => h H locs la hP hS ⟨by rw [hv.1, (lsub_get hs).1], hv.2.1, fun i v hi => hv.2.2 i v ((lsub_get hs).2 i v hi)⟩
theorem g_tsOut (X : Cx p s m args c R kc ks cc own nL t D al A) {dflt lo hi : Int} {offs : Array Int} {len tgt : Nat} {a : Int} (hd : decode cc pc = .ok (.tableswitch dflt lo hi offs, len)) (ha : i32 a) (h : a < lo ∨ hi < a) (ht : (pc : Int) + dflt = (tgt : Int)) (k : Gd p l e R s m args below meth c kc ks Q t D al A tgt ls st M) : Gd p l e R s m args below meth c kc ks Q t D al A pc ls (.int (iN a) :: st) M := fun H locs la hP hS hv => lv_tableOut X.1 X.2.1 hd (by rw [iN_toInt ha]; exact h) ht (k H locs la hP hS hv)
theorem g_tsIn (X : Cx p s m args c R kc ks cc own nL t D al A) {dflt lo hi off : Int} {offs : Array Int} {len tgt : Nat} {a : Int} (hd : decode cc pc = .ok (.tableswitch dflt lo hi offs, len)) (ha : i32 a) (h1 : ¬ a < lo) (h2 : ¬ hi < a) (ho : offs[(a - lo).toNat]? = some off) (ht : (pc : Int) + off = (tgt : Int)) (k : Gd p l e R s m args below meth c kc ks Q t D al A tgt ls st M) : Gd p l e R s m args below meth c kc ks Q t D al A pc ls (.int (iN a) :: st) M := fun H locs la hP hS hv => lv_tableIn X.1 X.2.1 hd (by rw [iN_toInt ha]; exact h1) (by rw [iN_toInt ha]; exact h2) (by rw [iN_toInt ha]; exact ho) ht (k H locs la hP hS hv)
theorem g_lkup (X : Cx p s m args c R kc ks cc own nL t D al A) {dflt off : Int} {ps : Array (Int × Int)} {len tgt : Nat} {a : Int} (hd : decode cc pc = .ok (.lookupswitch dflt ps, len)) (ha : i32 a) (hp : (ps.toList.zip (ps.toList.drop 1)).all (fun (a, next) => a.1 < next.1) = true) (ho : Op.lookupswitch.offset ps.toList dflt a = off) (ht : (pc : Int) + off = (tgt : Int)) (k : Gd p l e R s m args below meth c kc ks Q t D al A tgt ls st M) : Gd p l e R s m args below meth c kc ks Q t D al A pc ls (.int (iN a) :: st) M := fun H locs la hP hS hv => lv_lookup X.1 X.2.1 hd hp (by rw [iN_toInt ha]; exact ho) ht (k H locs la hP hS hv)
end GD
end
section
theorem cont_o {t : TT} {al : Int → Nat} {M : Mem} {o : Int} {ci : Nat} {fts : List Nat} (h : kd o = (0, ci, fts)) : cont t al M o = .inr (ci, vals al M o 0 fts) := by simp [cont, contK, h]
theorem cont_i {t : TT} {al : Int → Nat} {M : Mem} {o : Int} {n : Nat} (h : kd o = (1, n, [])) : cont t al M o = .inl (t.1, n, .inl (fun j => iN (M o j))) := by simp [cont, contK, h]
theorem cont_z {t : TT} {al : Int → Nat} {M : Mem} {o : Int} {n : Nat} (h : kd o = (2, n, [])) : cont t al M o = .inl (t.2.2.1, n, .inl (fun j => iN (M o j))) := by simp [cont, contK, h]
theorem cont_j {t : TT} {al : Int → Nat} {M : Mem} {o : Int} {n : Nat} (h : kd o = (3, n, [])) : cont t al M o = .inl (t.2.1, n, .inr (.inl (fun j => jN (M o j)))) := by simp [cont, contK, h]
theorem cont_a {t : TT} {al : Int → Nat} {M : Mem} {o : Int} {n b : Nat} (h : kd o = (4, n, [b])) : cont t al M o = .inl (t.2.2.2, n, .inr (.inr (.inr (.inr (fun j => some (al ((b : Int) + (j : Int)))))))) := by simp [cont, contK, h]
theorem at_kd {t : TT} {al : Int → Nat} {M : Mem} {o : Int} {d : Kd} {x : va_E} (h : kd o = d) (hd : d.1 < 9) (hx : cont t al M o = x) : (ws t al M)[o.toNat]? = some (al o, x) := by
  obtain ⟨h0, h1⟩ := kd_in h hd
  rw [ws_at t al M h0 h1, hx]
theorem KD_small : KD.all (fun d => decide (d.2.1 < 100000)) = true := by decide +kernel
theorem kd_small {o : Int} {d : Kd} (h : kd o = d) : d.2.1 < 100000 := by
  unfold kd at h
  by_cases h0 : o < 0
  · rw [if_pos h0] at h; subst h; decide
  · rw [if_neg h0, List.getD_eq_getElem?_getD] at h
    cases he : KD[o.toNat]? with
    | none => rw [he] at h; subst h; decide
    | some d' =>
      rw [he] at h
      subst h
      have := List.all_eq_true.mp KD_small d' (List.mem_of_getElem? he)
      simpa using this
/-- what the tables know of a class -/
abbrev FC (ci : Nat) (C : String) (T : u_T) (N : Nat) (ty0 : Nat → FieldType) : Prop := vwCl[ci]? = some (C, T, N) ∧ (∀ w ∈ u_ws C T N, w ∈ tb) ∧ (∀ k, k < N → parseFieldDescriptor (T k).2.2.1 = some (ty0 k)) ∧ (∀ a, a < N → ∀ b, b < N → a ≠ b → (T a).2.1 ≠ (T b).2.1)
theorem arr_upd {M : Mem} {o i v : Int} (h0 : 0 ≤ i) (hi : i ≤ 2147483647) : (fun j : Nat => iN (mu M o i v o j)) = upd (fun j : Nat => iN (M o j)) (iN i).toNatClampNeg (iN v) := by
  funext j
  rw [iN_clamp ⟨h0, hi⟩]
  by_cases e : j = i.toNat
  · subst e
    have e2 : ((i.toNat : Nat) : Int) = i := by omega
    simp [upd, e2, mu_same]
  · have e2 : (j : Int) ≠ i := by omega
    simp [upd, e, mu_k M o v e2]
theorem arr_updL {M : Mem} {o i v : Int} (h0 : 0 ≤ i) (hi : i ≤ 2147483647) : (fun j : Nat => jN (mu M o i v o j)) = vp_updL (fun j : Nat => jN (M o j)) (iN i).toNatClampNeg (jN v) := by
  funext j
  rw [iN_clamp ⟨h0, hi⟩]
  by_cases e : j = i.toNat
  · subst e
    have e2 : ((i.toNat : Nat) : Int) = i := by omega
    simp [vp_updL, e2, mu_same]
  · have e2 : (j : Int) ≠ i := by omega
    simp [vp_updL, e, mu_k M o v e2]
/-- copied cells -/
def cpy (M : Mem) (o0 sp o1 dp n : Int) : Mem := fun o k => if o = o1 ∧ dp ≤ k ∧ k < dp + n then M o0 (sp + (k - dp)) else M o k
theorem vals_cpy (al : Int → Nat) (M : Mem) {o : Int} (o0 sp o1 dp n : Int) (h : o ≠ o1) : ∀ (fts : List Nat) (b : Nat), vals al (cpy M o0 sp o1 dp n) o b fts = vals al M o b fts
  | [], _ => rfl
  | t :: r, b => by rw [vals, vals, vals_cpy al M o0 sp o1 dp n h r]; simp [fv, cpy, h]
theorem ws_cpy (t : TT) (al : Int → Nat) (M : Mem) {o0 sp o1 dp n : Int} {x : va_E} (h0 : 0 ≤ o1) (hx : cont t al (cpy M o0 sp o1 dp n) o1 = x) : (ws t al M).set o1.toNat (al o1, x) = ws t al (cpy M o0 sp o1 dp n) := by
  apply List.ext_getElem?
  intro j
  by_cases hj : j < NO
  · by_cases e : j = o1.toNat
    · subst e
      rw [List.getElem?_set_self (by rw [ws_len]; exact hj), ws_at t al _ h0 (by omega), hx]
    · rw [List.getElem?_set_ne (fun q => e q.symm)]
      have h1 := ws_at t al M (o := (j : Int)) (by omega) (by omega)
      have h2 := ws_at t al (cpy M o0 sp o1 dp n) (o := (j : Int)) (by omega) (by omega)
      rw [Int.toNat_natCast] at h1 h2
      rw [h1, h2]
      have e2 : (j : Int) ≠ o1 := by omega
      have e3 : cpy M o0 sp o1 dp n (j : Int) = M (j : Int) := by funext k; simp [cpy, e2]
      simp [cont, contK, e3, vals_cpy al M o0 sp o1 dp n e2]
  · have a : ((ws t al M).set o1.toNat (al o1, x)).length ≤ j := by rw [List.length_set, ws_len]; omega
    have b : (ws t al (cpy M o0 sp o1 dp n)).length ≤ j := by rw [ws_len]; omega
    rw [List.getElem?_eq_none a, List.getElem?_eq_none b]
/-- what a call needs of the tables -/
abbrev VC (own C : String) (idx : Nat) (y : MethodName) (bytes : ByteArray) (maxL : Nat) (ret : Option FieldType) (n : Nat) : Prop :=
  Cond.methodLink own idx y ∈ tb ∧ Cond.instanceMethod y ∈ tb ∧ Cond.selects C y y ∈ tb ∧ Cond.initialized C ∈ tb ∧ Cond.code y bytes maxL ret ∈ tb ∧ (y.cls = C ∧ y.cls ≠ "java/lang/invoke/MethodHandle" ∧ y.cls ≠ "java/lang/invoke/VarHandle" ∧ (parseMethodDescriptor y.desc).map (fun d => d.parameters.length) = some n)
abbrev SC (own : String) (idx : Nat) (y : MethodName) (bytes : ByteArray) (maxL : Nat) (ret : Option FieldType) (n : Nat) : Prop :=
  Cond.methodLink own idx y ∈ tb ∧ Cond.static y ∈ tb ∧ Cond.initialized y.cls ∈ tb ∧ Cond.code y bytes maxL ret ∈ tb ∧ (y.cls ≠ "java/lang/invoke/MethodHandle" ∧ y.cls ≠ "java/lang/invoke/VarHandle" ∧ (parseMethodDescriptor y.desc).map (fun d => d.parameters.length) = some n)
abbrev NC (own host : String) (idx : Nat) (y : MethodName) (bytes : ByteArray) (maxL : Nat) (ret : Option FieldType) (n : Nat) : Prop :=
  Cond.methodLinkNest own idx y host ∈ nw ∧ Cond.static y ∈ tb ∧ Cond.initialized y.cls ∈ tb ∧ Cond.code y bytes maxL ret ∈ tb ∧ (y.cls ≠ "java/lang/invoke/MethodHandle" ∧ y.cls ≠ "java/lang/invoke/VarHandle" ∧ (parseMethodDescriptor y.desc).map (fun d => d.parameters.length) = some n)
abbrev UC (own C owner : String) (idx : Nat) (x y : MethodName) (bytes : ByteArray) (maxL : Nat) (ret : Option FieldType) (n : Nat) : Prop :=
  Cond.methodLink own idx x ∈ tb ∧ Cond.sameMethod x.cls owner x.name x.desc ∈ tb ∧ Cond.selects C x y ∈ tb ∧ Cond.instanceMethod y ∈ tb ∧ Cond.initialized y.cls ∈ tb ∧ Cond.code y bytes maxL ret ∈ tb ∧ Cond.declares ⟨owner, x.name, x.desc⟩ ∈ nw ∧ (owner ≠ "java/lang/invoke/MethodHandle" ∧ owner ≠ "java/lang/invoke/VarHandle" ∧ (parseMethodDescriptor x.desc).map (fun d => d.parameters.length) = some n)
theorem tb_good {w : Cond} (h : w ∈ tb) : (w.onTables && w.keeps) = true ∨ ∃ ty, w = .arrayClass ty := good_of_word (List.mem_filter.mp h).2
theorem tb_GI {l : List Cond} (h : ∀ w ∈ l, w ∈ tb) : GoodIn tb l := fun w hw => ⟨h w hw, tb_good (h w hw)⟩
theorem tb_cons {w : Cond} {l : List Cond} (h1 : w ∈ tb) (h2 : ∀ w ∈ l, w ∈ tb) : ∀ v ∈ w :: l, v ∈ tb := fun v hv => (List.mem_cons.mp hv).elim (fun q => q ▸ h1) (h2 v)
section GD2
variable {p : Program} {l : Launch} {e : Env} {R : Room} {s : State} {m : MethodId} {args : Array Value} {below : List Frame} {meth : Method} {c : Code} {kc ks : Nat} {Q : State → Prop} {t : TT} {D : va_G} {al : Int → Nat} {A : Nat → Prop}
variable {cc : ByteArray} {own : String} {nL pc : Nat} {ls ls' : List (Option Value)} {st : List Value} {M : Mem}
theorem g_geti (X : Cx p s m args c R kc ks cc own nL t D al A) {o kz : Int} {ci k N idx : Nat} {C : String} {T : u_T} {ty0 : Nat → FieldType} {fts : List Nat} (hk : kd o = (0, ci, fts)) (F : FC ci C T N ty0) (hkN : k < N) (hz : (k : Int) = kz) (hw : Cond.fieldLink own idx (T k).1 (T k).2.1 (T k).2.2.1 ∈ tb) (hf : fts[k]? = some 0) (hd : decode cc pc = .ok (.getfield idx, 3)) (kk : Gd p l e R s m args below meth c kc ks Q t D al A (pc + 3) ls (.int (iN (M o kz)) :: st) M) : Gd p l e R s m args below meth c kc ks Q t D al A pc ls (.ref (al o) :: st) M := fun H locs la hP hS hv => by
  refine va_get X.1 X.2.1 X.2.2.2.2.1 F.2.1 X.2.2.2.1 X.2.2.2.2.2.2.1 hP o.toNat (at_kd hk (Nat.le_of_ble_eq_true rfl) (cont_o hk)) F.1 k hkN (X.2.2.2.2.1 _ hw) (fun _ h => h) (v := .int (iN (M o kz))) ?_ hd (kk H locs la hP hS hv)
  rw [vals_get, hf]
  subst hz
  simp [fv]
theorem g_getl (X : Cx p s m args c R kc ks cc own nL t D al A) {o kz : Int} {ci k N idx : Nat} {C : String} {T : u_T} {ty0 : Nat → FieldType} {fts : List Nat} (hk : kd o = (0, ci, fts)) (F : FC ci C T N ty0) (hkN : k < N) (hz : (k : Int) = kz) (hw : Cond.fieldLink own idx (T k).1 (T k).2.1 (T k).2.2.1 ∈ tb) (hf : fts[k]? = some 1) (hd : decode cc pc = .ok (.getfield idx, 3)) (kk : Gd p l e R s m args below meth c kc ks Q t D al A (pc + 3) ls (.long (jN (M o kz)) :: st) M) : Gd p l e R s m args below meth c kc ks Q t D al A pc ls (.ref (al o) :: st) M := fun H locs la hP hS hv => by
  refine va_get X.1 X.2.1 X.2.2.2.2.1 F.2.1 X.2.2.2.1 X.2.2.2.2.2.2.1 hP o.toNat (at_kd hk (Nat.le_of_ble_eq_true rfl) (cont_o hk)) F.1 k hkN (X.2.2.2.2.1 _ hw) (fun _ h => h) (v := .long (jN (M o kz))) ?_ hd (kk H locs la hP hS hv)
  rw [vals_get, hf]
  subst hz
  simp [fv]
theorem g_getz (X : Cx p s m args c R kc ks cc own nL t D al A) {o kz : Int} {ci k N idx : Nat} {C : String} {T : u_T} {ty0 : Nat → FieldType} {fts : List Nat} (hk : kd o = (0, ci, fts)) (F : FC ci C T N ty0) (hkN : k < N) (hz : (k : Int) = kz) (hw : Cond.fieldLink own idx (T k).1 (T k).2.1 (T k).2.2.1 ∈ tb) (hf : fts[k]? = some 2) (hd : decode cc pc = .ok (.getfield idx, 3)) (kk : Gd p l e R s m args below meth c kc ks Q t D al A (pc + 3) ls (.int (iN (M o kz)) :: st) M) : Gd p l e R s m args below meth c kc ks Q t D al A pc ls (.ref (al o) :: st) M := fun H locs la hP hS hv => by
  refine va_get X.1 X.2.1 X.2.2.2.2.1 F.2.1 X.2.2.2.1 X.2.2.2.2.2.2.1 hP o.toNat (at_kd hk (Nat.le_of_ble_eq_true rfl) (cont_o hk)) F.1 k hkN (X.2.2.2.2.1 _ hw) (fun _ h => h) (v := .int (iN (M o kz))) ?_ hd (kk H locs la hP hS hv)
  rw [vals_get, hf]
  subst hz
  simp [fv]
theorem g_getr (X : Cx p s m args c R kc ks cc own nL t D al A) {o kz : Int} {ci k N idx : Nat} {C : String} {T : u_T} {ty0 : Nat → FieldType} {fts : List Nat} (hk : kd o = (0, ci, fts)) (F : FC ci C T N ty0) (hkN : k < N) (hz : (k : Int) = kz) (hw : Cond.fieldLink own idx (T k).1 (T k).2.1 (T k).2.2.1 ∈ tb) {r : Int} (hf : fts[k]? = some (r.toNat + 3)) (hr : 0 ≤ r) (hd : decode cc pc = .ok (.getfield idx, 3)) (kk : Gd p l e R s m args below meth c kc ks Q t D al A (pc + 3) ls (.ref (al r) :: st) M) : Gd p l e R s m args below meth c kc ks Q t D al A pc ls (.ref (al o) :: st) M := fun H locs la hP hS hv => by
  refine va_get X.1 X.2.1 X.2.2.2.2.1 F.2.1 X.2.2.2.1 X.2.2.2.2.2.2.1 hP o.toNat (at_kd hk (Nat.le_of_ble_eq_true rfl) (cont_o hk)) F.1 k hkN (X.2.2.2.2.1 _ hw) (fun _ h => h) (v := .ref (al r)) ?_ hd (kk H locs la hP hS hv)
  rw [vals_get, hf]
  have e : ((r.toNat + 3 - 3 : Nat) : Int) = r := by omega
  have e0 : ¬ (r.toNat + 3 = 0) := by omega
  have e1 : ¬ (r.toNat + 3 = 1) := by omega
  have e2 : ¬ (r.toNat + 3 = 2) := by omega
  simp only [Option.map_some, fv, if_neg e0, if_neg e1, if_neg e2, e]
theorem g_puti (X : Cx p s m args c R kc ks cc own nL t D al A) {o kz : Int} {ci k N idx : Nat} {C : String} {T : u_T} {ty0 : Nat → FieldType} {fts : List Nat} (hk : kd o = (0, ci, fts)) (F : FC ci C T N ty0) (hkN : k < N) (hz : (k : Int) = kz) (hw : Cond.fieldLink own idx (T k).1 (T k).2.1 (T k).2.2.1 ∈ tb) {v : Int} (hf : fts[k]? = some 0) (hfin : (T k).2.2.2 = false) (hty : ty0 k = .int) (hd : decode cc pc = .ok (.putfield idx, 3)) (kk : Gd p l e R s m args below meth c kc ks Q t D al A (pc + 3) ls st (mu M o kz v)) : Gd p l e R s m args below meth c kc ks Q t D al A pc ls (.int (iN v) :: .ref (al o) :: st) M := fun H locs la hP hS hv => by
  have hl : k < (vals al M o 0 fts).length := by rw [vals_len]; exact (List.getElem?_eq_some_iff.mp hf).1
  refine va_put X.1 X.2.1 X.2.2.2.2.1 F.2.1 ty0 F.2.2.1 F.2.2.2 X.2.2.2.1 X.2.2.2.2.2.2.1 hP (X.2.2.2.2.2.2.2.1 M) hS o.toNat (at_kd hk (Nat.le_of_ble_eq_true rfl) (cont_o hk)) F.1 k hkN (X.2.2.2.2.1 _ hw) (fun _ h => h) hfin (ty := .int) (by rw [F.2.2.1 k hkN, hty]) rfl rfl hl hd (fun H1 locs1 hP1 hD1 hS1 => ?_)
  have h0 := (kd_in hk (Nat.le_of_ble_eq_true rfl)).1
  have hset : (vals al M o 0 fts).set k (.int (iN v)) = vals al (mu M o kz v) o 0 fts := by
    have h := vals_set al M o v fts 0 k (.int (iN v)) (fun t' ht => by
      rw [hf] at ht
      cases ht
      simp [fv, mu_same])
    rw [Nat.zero_add, hz] at h
    exact h
  rw [hset] at hP1
  rw [ws_set t al M h0 (cont_o hk)] at hP1
  exact kk H1 locs1 la hP1 hS1 hv
theorem g_putl (X : Cx p s m args c R kc ks cc own nL t D al A) {o kz : Int} {ci k N idx : Nat} {C : String} {T : u_T} {ty0 : Nat → FieldType} {fts : List Nat} (hk : kd o = (0, ci, fts)) (F : FC ci C T N ty0) (hkN : k < N) (hz : (k : Int) = kz) (hw : Cond.fieldLink own idx (T k).1 (T k).2.1 (T k).2.2.1 ∈ tb) {v : Int} (hf : fts[k]? = some 1) (hfin : (T k).2.2.2 = false) (hty : ty0 k = .long) (hd : decode cc pc = .ok (.putfield idx, 3)) (kk : Gd p l e R s m args below meth c kc ks Q t D al A (pc + 3) ls st (mu M o kz v)) : Gd p l e R s m args below meth c kc ks Q t D al A pc ls (.long (jN v) :: .ref (al o) :: st) M := fun H locs la hP hS hv => by
  have hl : k < (vals al M o 0 fts).length := by rw [vals_len]; exact (List.getElem?_eq_some_iff.mp hf).1
  refine va_put X.1 X.2.1 X.2.2.2.2.1 F.2.1 ty0 F.2.2.1 F.2.2.2 X.2.2.2.1 X.2.2.2.2.2.2.1 hP (X.2.2.2.2.2.2.2.1 M) hS o.toNat (at_kd hk (Nat.le_of_ble_eq_true rfl) (cont_o hk)) F.1 k hkN (X.2.2.2.2.1 _ hw) (fun _ h => h) hfin (ty := .long) (by rw [F.2.2.1 k hkN, hty]) rfl rfl hl hd (fun H1 locs1 hP1 hD1 hS1 => ?_)
  have h0 := (kd_in hk (Nat.le_of_ble_eq_true rfl)).1
  have hset : (vals al M o 0 fts).set k (.long (jN v)) = vals al (mu M o kz v) o 0 fts := by
    have h := vals_set al M o v fts 0 k (.long (jN v)) (fun t' ht => by
      rw [hf] at ht
      cases ht
      simp [fv, mu_same])
    rw [Nat.zero_add, hz] at h
    exact h
  rw [hset] at hP1
  rw [ws_set t al M h0 (cont_o hk)] at hP1
  exact kk H1 locs1 la hP1 hS1 hv
theorem g_putz (X : Cx p s m args c R kc ks cc own nL t D al A) {o kz : Int} {ci k N idx : Nat} {C : String} {T : u_T} {ty0 : Nat → FieldType} {fts : List Nat} (hk : kd o = (0, ci, fts)) (F : FC ci C T N ty0) (hkN : k < N) (hz : (k : Int) = kz) (hw : Cond.fieldLink own idx (T k).1 (T k).2.1 (T k).2.2.1 ∈ tb) {v : Int} (hf : fts[k]? = some 2) (hfin : (T k).2.2.2 = false) (hty : ty0 k = .boolean) (hb : v = 0 ∨ v = 1) (hd : decode cc pc = .ok (.putfield idx, 3)) (kk : Gd p l e R s m args below meth c kc ks Q t D al A (pc + 3) ls st (mu M o kz v)) : Gd p l e R s m args below meth c kc ks Q t D al A pc ls (.int (iN v) :: .ref (al o) :: st) M := fun H locs la hP hS hv => by
  have hl : k < (vals al M o 0 fts).length := by rw [vals_len]; exact (List.getElem?_eq_some_iff.mp hf).1
  refine va_put X.1 X.2.1 X.2.2.2.2.1 F.2.1 ty0 F.2.2.1 F.2.2.2 X.2.2.2.1 X.2.2.2.2.2.2.1 hP (X.2.2.2.2.2.2.2.1 M) hS o.toNat (at_kd hk (Nat.le_of_ble_eq_true rfl) (cont_o hk)) F.1 k hkN (X.2.2.2.2.1 _ hw) (fun _ h => h) hfin (ty := .boolean) (by rw [F.2.2.1 k hkN, hty]) (by rcases hb with rfl | rfl <;> rfl) (by rcases hb with rfl | rfl <;> rfl) hl hd (fun H1 locs1 hP1 hD1 hS1 => ?_)
  have h0 := (kd_in hk (Nat.le_of_ble_eq_true rfl)).1
  have hset : (vals al M o 0 fts).set k (.int (iN v)) = vals al (mu M o kz v) o 0 fts := by
    have h := vals_set al M o v fts 0 k (.int (iN v)) (fun t' ht => by
      rw [hf] at ht
      cases ht
      simp [fv, mu_same])
    rw [Nat.zero_add, hz] at h
    exact h
  rw [hset] at hP1
  rw [ws_set t al M h0 (cont_o hk)] at hP1
  exact kk H1 locs1 la hP1 hS1 hv
theorem g_iald (X : Cx p s m args c R kc ks cc own nL t D al A) {o i : Int} {n : Nat} (hk : kd o = (1, n, [])) (h0 : 0 ≤ i) (h1 : i < (n : Int)) (hd : decode cc pc = .ok (.iaload, 1)) (kk : Gd p l e R s m args below meth c kc ks Q t D al A (pc + 1) ls (.int (iN (M o i)) :: st) M) : Gd p l e R s m args below meth c kc ks Q t D al A pc ls (.int (iN i) :: .ref (al o) :: st) M := fun H locs la hP hS hv => by
  have hn := kd_small hk
  dsimp only at hn
  refine va_iald X.1 X.2.1 X.2.2.2.2.2.2.1 hP o.toNat 0 (at_kd hk (Nat.le_of_ble_eq_true rfl) (cont_i hk)) rfl (iN_in h0 h1 (by omega)) hd ?_
  rw [iN_clamp ⟨h0, by omega⟩]
  have e2 : ((i.toNat : Nat) : Int) = i := by omega
  rw [e2]
  exact kk H locs la hP hS hv
theorem g_iast (X : Cx p s m args c R kc ks cc own nL t D al A) {o i v : Int} {n : Nat} (hk : kd o = (1, n, [])) (h0 : 0 ≤ i) (h1 : i < (n : Int)) (hd : decode cc pc = .ok (.iastore, 1)) (kk : Gd p l e R s m args below meth c kc ks Q t D al A (pc + 1) ls st (mu M o i v)) : Gd p l e R s m args below meth c kc ks Q t D al A pc ls (.int (iN v) :: .int (iN i) :: .ref (al o) :: st) M := fun H locs la hP hS hv => by
  have hn := kd_small hk
  dsimp only at hn
  refine va_iast X.1 X.2.1 X.2.2.2.2.2.2.1 hP (X.2.2.2.2.2.2.2.1 M) hS o.toNat 0 (at_kd hk (Nat.le_of_ble_eq_true rfl) (cont_i hk)) rfl (iN_in h0 h1 (by omega)) hd (fun H1 locs1 hP1 hD1 hS1 => ?_)
  rw [← arr_upd h0 (by omega), ws_set t al M (kd_in hk (Nat.le_of_ble_eq_true rfl)).1 (cont_i hk)] at hP1
  exact kk H1 locs1 la hP1 hS1 hv
theorem g_zald (X : Cx p s m args c R kc ks cc own nL t D al A) {o i : Int} {n : Nat} (hk : kd o = (2, n, [])) (h0 : 0 ≤ i) (h1 : i < (n : Int)) (hd : decode cc pc = .ok (.baload, 1)) (kk : Gd p l e R s m args below meth c kc ks Q t D al A (pc + 1) ls (.int (iN (M o i)) :: st) M) : Gd p l e R s m args below meth c kc ks Q t D al A pc ls (.int (iN i) :: .ref (al o) :: st) M := fun H locs la hP hS hv => by
  have hn := kd_small hk
  dsimp only at hn
  refine va_zald X.1 X.2.1 X.2.2.2.2.2.2.1 hP o.toNat 2 (at_kd hk (Nat.le_of_ble_eq_true rfl) (cont_z hk)) rfl (iN_in h0 h1 (by omega)) hd ?_
  rw [iN_clamp ⟨h0, by omega⟩]
  have e2 : ((i.toNat : Nat) : Int) = i := by omega
  rw [e2]
  exact kk H locs la hP hS hv
theorem g_zast (X : Cx p s m args c R kc ks cc own nL t D al A) {o i v : Int} {n : Nat} (hk : kd o = (2, n, [])) (h0 : 0 ≤ i) (h1 : i < (n : Int)) (hb : v = 0 ∨ v = 1) (hd : decode cc pc = .ok (.bastore, 1)) (kk : Gd p l e R s m args below meth c kc ks Q t D al A (pc + 1) ls st (mu M o i v)) : Gd p l e R s m args below meth c kc ks Q t D al A pc ls (.int (iN v) :: .int (iN i) :: .ref (al o) :: st) M := fun H locs la hP hS hv => by
  have hn := kd_small hk
  dsimp only at hn
  have hnar : vp_nar .boolean (iN v) = iN v := by rcases hb with rfl | rfl <;> rfl
  refine va_zast X.1 X.2.1 X.2.2.2.2.2.2.1 hP (X.2.2.2.2.2.2.2.1 M) hS o.toNat 2 (at_kd hk (Nat.le_of_ble_eq_true rfl) (cont_z hk)) rfl (iN_in h0 h1 (by omega)) hd (fun H1 locs1 hP1 hD1 hS1 => ?_)
  rw [hnar] at hP1
  rw [← arr_upd h0 (by omega), ws_set t al M (kd_in hk (Nat.le_of_ble_eq_true rfl)).1 (cont_z hk)] at hP1
  exact kk H1 locs1 la hP1 hS1 hv
theorem g_lald (X : Cx p s m args c R kc ks cc own nL t D al A) {o i : Int} {n : Nat} (hk : kd o = (3, n, [])) (h0 : 0 ≤ i) (h1 : i < (n : Int)) (hd : decode cc pc = .ok (.laload, 1)) (kk : Gd p l e R s m args below meth c kc ks Q t D al A (pc + 1) ls (.long (jN (M o i)) :: st) M) : Gd p l e R s m args below meth c kc ks Q t D al A pc ls (.int (iN i) :: .ref (al o) :: st) M := fun H locs la hP hS hv => by
  have hn := kd_small hk
  dsimp only at hn
  refine va_lald X.1 X.2.1 X.2.2.2.2.2.2.1 hP o.toNat 1 (at_kd hk (Nat.le_of_ble_eq_true rfl) (cont_j hk)) rfl (iN_in h0 h1 (by omega)) hd ?_
  rw [iN_clamp ⟨h0, by omega⟩]
  have e2 : ((i.toNat : Nat) : Int) = i := by omega
  rw [e2]
  exact kk H locs la hP hS hv
theorem g_last (X : Cx p s m args c R kc ks cc own nL t D al A) {o i v : Int} {n : Nat} (hk : kd o = (3, n, [])) (h0 : 0 ≤ i) (h1 : i < (n : Int)) (hd : decode cc pc = .ok (.lastore, 1)) (kk : Gd p l e R s m args below meth c kc ks Q t D al A (pc + 1) ls st (mu M o i v)) : Gd p l e R s m args below meth c kc ks Q t D al A pc ls (.long (jN v) :: .int (iN i) :: .ref (al o) :: st) M := fun H locs la hP hS hv => by
  have hn := kd_small hk
  dsimp only at hn
  refine va_last X.1 X.2.1 X.2.2.2.2.2.2.1 hP (X.2.2.2.2.2.2.2.1 M) hS o.toNat 1 (at_kd hk (Nat.le_of_ble_eq_true rfl) (cont_j hk)) rfl (iN_in h0 h1 (by omega)) hd (fun H1 locs1 hP1 hD1 hS1 => ?_)
  rw [← arr_updL h0 (by omega), ws_set t al M (kd_in hk (Nat.le_of_ble_eq_true rfl)).1 (cont_j hk)] at hP1
  exact kk H1 locs1 la hP1 hS1 hv
theorem g_aald (X : Cx p s m args c R kc ks cc own nL t D al A) {o i : Int} {n b : Nat} {bz : Int} (hk : kd o = (4, n, [b])) (hz : (b : Int) = bz) (h0 : 0 ≤ i) (h1 : i < (n : Int)) (hd : decode cc pc = .ok (.aaload, 1)) (kk : Gd p l e R s m args below meth c kc ks Q t D al A (pc + 1) ls (.ref (al (bz + i)) :: st) M) : Gd p l e R s m args below meth c kc ks Q t D al A pc ls (.int (iN i) :: .ref (al o) :: st) M := fun H locs la hP hS hv => by
  have hn := kd_small hk
  dsimp only at hn
  have hin := iN_in h0 h1 (by omega)
  have hlt : (iN i).toNatClampNeg < n := Nat.not_le.mp fun q => hin (Or.inr q)
  have hcell := hP _ _ (at_kd hk (Nat.le_of_ble_eq_true rfl) (cont_a hk))
  refine W.aald (v := .ref (al (bz + i))) (ty := .array .int) X.1 X.2.1 hcell ((X.2.2.2.2.2.2.1.2 3 _ rfl).1 n (fun j => va_rf (some (al ((b : Int) + (j : Int)))))) rfl (fun q => by cases q) (by show ¬ (iN i < 0 ∨ (arrV _ _ _).slots.size ≤ _); rw [arrV_size]; exact hin) ?_ rfl rfl hd (kk H locs la hP hS hv)
  show (arrV _ _ _).slots[_]? = _
  rw [arrV_read _ _ hlt, iN_clamp ⟨h0, by omega⟩]
  have e2 : ((i.toNat : Nat) : Int) = i := by omega
  show some (Value.ref (al ((b : Int) + ((i.toNat : Nat) : Int)))) = _
  rw [e2, hz]
theorem g_alen (X : Cx p s m args c R kc ks cc own nL t D al A) {o nz : Int} {n : Nat} (hk : kd o = (1, n, [])) (hz : (n : Int) = nz) (hd : decode cc pc = .ok (.arraylength, 1)) (kk : Gd p l e R s m args below meth c kc ks Q t D al A (pc + 1) ls (.int (iN nz) :: st) M) : Gd p l e R s m args below meth c kc ks Q t D al A pc ls (.ref (al o) :: st) M := fun H locs la hP hS hv => va_alen X.1 X.2.1 X.2.2.2.2.2.2.1 hP o.toNat 0 (at_kd hk (Nat.le_of_ble_eq_true rfl) (cont_i hk)) (ty := .int) rfl (by subst hz; exact (Int32.ofInt_eq_ofNat).symm) hd (kk H locs la hP hS hv)
theorem g_iret (X : Cx p s m args c R kc ks cc own nL t D al (fA al)) {a : Int} {post : Int → Mem → Prop} (hr : meth.sig.returnType = some .int) (hlocks : meth.locks = false) (hd : decode cc pc = .ok (.ireturn, 1)) (hp : post a M) : Gd p l e R s m args below meth c kc ks (MQ below (QI t D al post) args s kc ks (fA al)) t D al (fA al) pc ls [.int (iN a)] M := fun H locs la hP hS hv =>
  W.iret (v := iN a) X.1 X.2.1 hr  (fun t' ht hW => ⟨⟨_, (a, M), rfl, ⟨rfl, hp⟩, by show va_P _ _ _ t'.heap; rw [ht]; exact hP, va_K.moved hW.alike X.2.2.2.2.2.2.1, X.2.2.2.2.2.2.2.1 M, nw_warm hW X.2.2.2.2.2.1⟩, hS.F ht⟩) hS.2.2 hd hlocks
theorem g_zret (X : Cx p s m args c R kc ks cc own nL t D al (fA al)) {a : Int} {post : Int → Mem → Prop} (hr : meth.sig.returnType = some .boolean) (hlocks : meth.locks = false) (hb : a = 0 ∨ a = 1) (hd : decode cc pc = .ok (.ireturn, 1)) (hp : post a M) : Gd p l e R s m args below meth c kc ks (MQ below (QI t D al post) args s kc ks (fA al)) t D al (fA al) pc ls [.int (iN a)] M := fun H locs la hP hS hv =>
  W.zret (v := iN a) (ty := .boolean) X.1 X.2.1 hr (by rcases hb with rfl | rfl <;> rfl) (fun t' ht hW => ⟨⟨_, (a, M), rfl, ⟨rfl, hp⟩, by show va_P _ _ _ t'.heap; rw [ht]; exact hP, va_K.moved hW.alike X.2.2.2.2.2.2.1, X.2.2.2.2.2.2.2.1 M, nw_warm hW X.2.2.2.2.2.1⟩, hS.F ht⟩) hS.2.2 hd hlocks
theorem g_lret (X : Cx p s m args c R kc ks cc own nL t D al (fA al)) {a : Int} {post : Int → Mem → Prop} (hr : meth.sig.returnType = some .long) (hlocks : meth.locks = false) (hd : decode cc pc = .ok (.lreturn, 1)) (hp : post a M) : Gd p l e R s m args below meth c kc ks (MQ below (QJ t D al post) args s kc ks (fA al)) t D al (fA al) pc ls [.long (jN a)] M := fun H locs la hP hS hv =>
  W.lret (v := jN a) X.1 X.2.1 hr  (fun t' ht hW => ⟨⟨_, (a, M), rfl, ⟨rfl, hp⟩, by show va_P _ _ _ t'.heap; rw [ht]; exact hP, va_K.moved hW.alike X.2.2.2.2.2.2.1, X.2.2.2.2.2.2.2.1 M, nw_warm hW X.2.2.2.2.2.1⟩, hS.F ht⟩) hS.2.2 hd hlocks
theorem g_vret (X : Cx p s m args c R kc ks cc own nL t D al (fA al)) {post : Mem → Prop} (hr : meth.sig.returnType = none) (hlocks : meth.locks = false) (hd : decode cc pc = .ok (.return_, 1)) (hp : post M) : Gd p l e R s m args below meth c kc ks (MQ below (QV t D al post) args s kc ks (fA al)) t D al (fA al) pc ls [] M := fun H locs la hP hS hv =>
  W.vret X.1 X.2.1 hr (fun t' ht hW => ⟨⟨M, rfl, hp, by show va_P _ _ _ t'.heap; rw [ht]; exact hP, va_K.moved hW.alike X.2.2.2.2.2.2.1, X.2.2.2.2.2.2.2.1 M, nw_warm hW X.2.2.2.2.2.1⟩, hS.F ht⟩) hS.2.2 hd hlocks
theorem g_callVI (X : Cx p s m args c R kc ks cc own nL t D al A) {y : MethodName} {bytes : ByteArray} {maxL fr lo n idx : Nat} {As rest : List Value} {rt : FieldType} {post : Int → Mem → Prop} {o : Int} {ci N : Nat} {C : String} {T : u_T} {ty0 : Nat → FieldType} {fts : List Nat} (hM : CI l y bytes maxL rt fr lo t D al (.ref (al o) :: As) M post) (hk : kd o = (0, ci, fts)) (F : FC ci C T N ty0) (V : VC own C idx y bytes maxL (some rt) n) (hn : As.length = n) (hlen : ls.length = nL) (hR : fr + 1 ≤ R.frames ∧ 8 + (maxL + 11) + lo ≤ R.locals) (hst : st = As.reverse ++ .ref (al o) :: rest) (hcat : (rest.map fun v => v.category).sum ≤ 8) (hd : decode cc pc = .ok (.invokevirtual idx, 3)) (k : ∀ (r : Int) (M' : Mem), post r M' → Gd p l e R s m args below meth c kc ks Q t D al A (pc + 3) ls (.int (iN r) :: rest) M') : Gd p l e R s m args below meth c kc ks Q t D al A pc ls st M := by
  intro H locs la hP hS hv
  have hPre : ∀ U : State, U.heap = H → s.WarmedH U.vm → RepS t D al M U := fun U hU hW => ⟨by show va_P _ _ _ U.heap; rw [hU]; exact hP, va_K.moved hW.alike X.2.2.2.2.2.2.1, ws_fA (X.2.2.2.2.2.2.2.1 M), nw_warm hW X.2.2.2.2.2.1⟩
  have hAf : ∀ q, fA al q → A q := fun q hq => fA_A (X.2.2.2.2.2.2.2.1 M) hq
  have hG : GoodIn tb (wsV own idx C y (Cond.code y bytes maxL (some rt) :: tb)) := tb_GI (tb_cons V.1 (tb_cons V.2.1 (tb_cons V.2.2.1 (tb_cons V.2.2.2.1 (tb_cons V.2.2.2.2.1 (fun _ h => h))))))
  refine va_calli (va_runV (As := As) (rest := rest) (nL := nL) ⟨X.1, X.2.1, X.2.2.1, X.2.2.2.1, X.2.2.2.2.1⟩ hM (cwV n X.2.2.2.2.1 hG rfl rfl rfl V.2.2.2.2.2 hR) ⟨repS_blind, va_recv X.2.2.2.2.2.2.1 hP F.1 (at_kd hk (Nat.le_of_ble_eq_true rfl) (cont_o hk)), fun U hU hW => ⟨rfl, hPre U hU hW⟩⟩ rfl hn (by show la.size = nL; rw [hv.1, hlen]) hst (lv_room hcat) hd ⟨by have := X.2.2.2.2.2.2.2.2.1; omega, by have := X.2.2.2.2.2.2.2.2.2; omega⟩) hS (fun q _ h => hAf q h) hAf (fun r0 u tt H1 locs1 ht hvm hw hB hz1 hk1 hS1 => ?_)
  obtain ⟨hP1, -, -, -⟩ := hB
  rw [ht] at hP1
  obtain ⟨r2, M2⟩ := u
  have hr0 := hw.1
  dsimp only at hr0 hP1
  subst hr0
  exact k r2 M2 hw.2 H1 locs1 la hP1 hS1 hv
theorem g_callSI (X : Cx p s m args c R kc ks cc own nL t D al A) {y : MethodName} {bytes : ByteArray} {maxL fr lo n idx : Nat} {As rest : List Value} {rt : FieldType} {post : Int → Mem → Prop} (hM : CI l y bytes maxL rt fr lo t D al As M post) (V : SC own idx y bytes maxL (some rt) n) (hn : As.length = n) (hlen : ls.length = nL) (hR : fr + 1 ≤ R.frames ∧ 8 + (maxL + 11) + lo ≤ R.locals) (hst : st = As.reverse ++ rest) (hcat : (rest.map fun v => v.category).sum ≤ 8) (hd : decode cc pc = .ok (.invokestatic idx, 3)) (k : ∀ (r : Int) (M' : Mem), post r M' → Gd p l e R s m args below meth c kc ks Q t D al A (pc + 3) ls (.int (iN r) :: rest) M') : Gd p l e R s m args below meth c kc ks Q t D al A pc ls st M := by
  intro H locs la hP hS hv
  have hPre : ∀ U : State, U.heap = H → s.WarmedH U.vm → RepS t D al M U := fun U hU hW => ⟨by show va_P _ _ _ U.heap; rw [hU]; exact hP, va_K.moved hW.alike X.2.2.2.2.2.2.1, ws_fA (X.2.2.2.2.2.2.2.1 M), nw_warm hW X.2.2.2.2.2.1⟩
  have hAf : ∀ q, fA al q → A q := fun q hq => fA_A (X.2.2.2.2.2.2.2.1 M) hq
  have hG : GoodIn tb (va_wsS own idx y (Cond.code y bytes maxL (some rt) :: tb)) := tb_GI (tb_cons V.1 (tb_cons V.2.1 (tb_cons V.2.2.1 (tb_cons V.2.2.2.1 (fun _ h => h)))))
  refine va_calli (va_runS (As := As) (rest := rest) (nL := nL) ⟨X.1, X.2.1, X.2.2.1, X.2.2.2.1, X.2.2.2.2.1⟩ hM (va_cwS n X.2.2.2.2.1 hG rfl rfl rfl V.2.2.2.2 hR) ⟨repS_blind, fun U hU hW => ⟨rfl, hPre U hU hW⟩⟩ rfl hn (by show la.size = nL; rw [hv.1, hlen]) hst (lv_room hcat) hd ⟨by have := X.2.2.2.2.2.2.2.2.1; omega, by have := X.2.2.2.2.2.2.2.2.2; omega⟩) hS (fun q _ h => hAf q h) hAf (fun r0 u tt H1 locs1 ht hvm hw hB hz1 hk1 hS1 => ?_)
  obtain ⟨hP1, -, -, -⟩ := hB
  rw [ht] at hP1
  obtain ⟨r2, M2⟩ := u
  have hr0 := hw.1
  dsimp only at hr0 hP1
  subst hr0
  exact k r2 M2 hw.2 H1 locs1 la hP1 hS1 hv
theorem g_callNI (X : Cx p s m args c R kc ks cc own nL t D al A) {y : MethodName} {bytes : ByteArray} {maxL fr lo n idx : Nat} {As rest : List Value} {rt : FieldType} {post : Int → Mem → Prop} {host : String} (hM : CI l y bytes maxL rt fr lo t D al As M post) (V : NC own host idx y bytes maxL (some rt) n) (hn : As.length = n) (hlen : ls.length = nL) (hR : fr + 1 ≤ R.frames ∧ 8 + (maxL + 11) + lo ≤ R.locals) (hst : st = As.reverse ++ rest) (hcat : (rest.map fun v => v.category).sum ≤ 8) (hd : decode cc pc = .ok (.invokestatic idx, 3)) (k : ∀ (r : Int) (M' : Mem), post r M' → Gd p l e R s m args below meth c kc ks Q t D al A (pc + 3) ls (.int (iN r) :: rest) M') : Gd p l e R s m args below meth c kc ks Q t D al A pc ls st M := by
  intro H locs la hP hS hv
  have hPre : ∀ U : State, U.heap = H → s.WarmedH U.vm → RepS t D al M U := fun U hU hW => ⟨by show va_P _ _ _ U.heap; rw [hU]; exact hP, va_K.moved hW.alike X.2.2.2.2.2.2.1, ws_fA (X.2.2.2.2.2.2.2.1 M), nw_warm hW X.2.2.2.2.2.1⟩
  have hAf : ∀ q, fA al q → A q := fun q hq => fA_A (X.2.2.2.2.2.2.2.1 M) hq
  have hG : GoodIn tb (Cond.code y bytes maxL (some rt) :: tb) := tb_GI (tb_cons V.2.2.2.1 (fun _ h => h))
  refine va_calli (va_runSN (As := As) (rest := rest) (nL := nL) (host := host) ⟨X.1, X.2.1, X.2.2.1, X.2.2.2.1, X.2.2.2.2.1⟩ hM ⟨va_cnB n X.2.2.2.2.1 hG rfl rfl rfl (X.2.2.2.2.2.1 _ V.1) (X.2.2.2.2.1 _ V.2.2.1) V.2.2.2.2 hR, X.2.2.2.2.1 _ V.2.1, trivial⟩ ⟨repS_blind, fun U hU hW => ⟨rfl, hPre U hU hW⟩⟩ rfl hn (by show la.size = nL; rw [hv.1, hlen]) hst (lv_room hcat) hd ⟨by have := X.2.2.2.2.2.2.2.2.1; omega, by have := X.2.2.2.2.2.2.2.2.2; omega⟩) hS (fun q _ h => hAf q h) hAf (fun r0 u tt H1 locs1 ht hvm hw hB hz1 hk1 hS1 => ?_)
  obtain ⟨hP1, -, -, -⟩ := hB
  rw [ht] at hP1
  obtain ⟨r2, M2⟩ := u
  have hr0 := hw.1
  dsimp only at hr0 hP1
  subst hr0
  exact k r2 M2 hw.2 H1 locs1 la hP1 hS1 hv
theorem g_callUI (X : Cx p s m args c R kc ks cc own nL t D al A) {y : MethodName} {bytes : ByteArray} {maxL fr lo n idx : Nat} {As rest : List Value} {rt : FieldType} {post : Int → Mem → Prop} {x : MethodName} {owner : String} {o : Int} {ci N : Nat} {C : String} {T : u_T} {ty0 : Nat → FieldType} {fts : List Nat} (hM : CI l y bytes maxL rt fr lo t D al (.ref (al o) :: As) M post) (hk : kd o = (0, ci, fts)) (F : FC ci C T N ty0) (V : UC own C owner idx x y bytes maxL (some rt) n) (hn : As.length = n) (hlen : ls.length = nL) (hR : fr + 1 ≤ R.frames ∧ 8 + (maxL + 11) + lo ≤ R.locals) (hst : st = As.reverse ++ .ref (al o) :: rest) (hcat : (rest.map fun v => v.category).sum ≤ 8) (hd : decode cc pc = .ok (.invokevirtual idx, 3)) (k : ∀ (r : Int) (M' : Mem), post r M' → Gd p l e R s m args below meth c kc ks Q t D al A (pc + 3) ls (.int (iN r) :: rest) M') : Gd p l e R s m args below meth c kc ks Q t D al A pc ls st M := by
  intro H locs la hP hS hv
  have hPre : ∀ U : State, U.heap = H → s.WarmedH U.vm → RepS t D al M U := fun U hU hW => ⟨by show va_P _ _ _ U.heap; rw [hU]; exact hP, va_K.moved hW.alike X.2.2.2.2.2.2.1, ws_fA (X.2.2.2.2.2.2.2.1 M), nw_warm hW X.2.2.2.2.2.1⟩
  have hAf : ∀ q, fA al q → A q := fun q hq => fA_A (X.2.2.2.2.2.2.2.1 M) hq
  have hG : GoodIn tb (va_wsU own idx C owner x y (Cond.code y bytes maxL (some rt) :: tb)) := tb_GI (tb_cons V.1 (tb_cons V.2.1 (tb_cons V.2.2.1 (tb_cons V.2.2.2.1 (tb_cons V.2.2.2.2.1 (tb_cons V.2.2.2.2.2.1 (fun _ h => h)))))))
  refine va_calli (va_runU (As := As) (rest := rest) (nL := nL) ⟨X.1, X.2.1, X.2.2.1, X.2.2.2.1, X.2.2.2.2.1⟩ hM (va_cwA n X.2.2.2.2.1 hG rfl rfl rfl (X.2.2.2.2.2.1 _ V.2.2.2.2.2.2.1) V.2.2.2.2.2.2.2 hR) ⟨repS_blind, va_recv X.2.2.2.2.2.2.1 hP F.1 (at_kd hk (Nat.le_of_ble_eq_true rfl) (cont_o hk)), fun U hU hW => ⟨rfl, hPre U hU hW⟩⟩ rfl hn (by show la.size = nL; rw [hv.1, hlen]) hst (lv_room hcat) hd ⟨by have := X.2.2.2.2.2.2.2.2.1; omega, by have := X.2.2.2.2.2.2.2.2.2; omega⟩) hS (fun q _ h => hAf q h) hAf (fun r0 u tt H1 locs1 ht hvm hw hB hz1 hk1 hS1 => ?_)
  obtain ⟨hP1, -, -, -⟩ := hB
  rw [ht] at hP1
  obtain ⟨r2, M2⟩ := u
  have hr0 := hw.1
  dsimp only at hr0 hP1
  subst hr0
  exact k r2 M2 hw.2 H1 locs1 la hP1 hS1 hv
theorem g_callVJ (X : Cx p s m args c R kc ks cc own nL t D al A) {y : MethodName} {bytes : ByteArray} {maxL fr lo n idx : Nat} {As rest : List Value} {post : Int → Mem → Prop} {o : Int} {ci N : Nat} {C : String} {T : u_T} {ty0 : Nat → FieldType} {fts : List Nat} (hM : CJ l y bytes maxL fr lo t D al (.ref (al o) :: As) M post) (hk : kd o = (0, ci, fts)) (F : FC ci C T N ty0) (V : VC own C idx y bytes maxL (some .long) n) (hn : As.length = n) (hlen : ls.length = nL) (hR : fr + 1 ≤ R.frames ∧ 8 + (maxL + 11) + lo ≤ R.locals) (hst : st = As.reverse ++ .ref (al o) :: rest) (hcat : (rest.map fun v => v.category).sum ≤ 8) (hd : decode cc pc = .ok (.invokevirtual idx, 3)) (k : ∀ (r : Int) (M' : Mem), post r M' → Gd p l e R s m args below meth c kc ks Q t D al A (pc + 3) ls (.long (jN r) :: rest) M') : Gd p l e R s m args below meth c kc ks Q t D al A pc ls st M := by
  intro H locs la hP hS hv
  have hPre : ∀ U : State, U.heap = H → s.WarmedH U.vm → RepS t D al M U := fun U hU hW => ⟨by show va_P _ _ _ U.heap; rw [hU]; exact hP, va_K.moved hW.alike X.2.2.2.2.2.2.1, ws_fA (X.2.2.2.2.2.2.2.1 M), nw_warm hW X.2.2.2.2.2.1⟩
  have hAf : ∀ q, fA al q → A q := fun q hq => fA_A (X.2.2.2.2.2.2.2.1 M) hq
  have hG : GoodIn tb (wsV own idx C y (Cond.code y bytes maxL (some .long) :: tb)) := tb_GI (tb_cons V.1 (tb_cons V.2.1 (tb_cons V.2.2.1 (tb_cons V.2.2.2.1 (tb_cons V.2.2.2.2.1 (fun _ h => h))))))
  refine va_calll (va_runV (As := As) (rest := rest) (nL := nL) ⟨X.1, X.2.1, X.2.2.1, X.2.2.2.1, X.2.2.2.2.1⟩ hM (cwV n X.2.2.2.2.1 hG rfl rfl rfl V.2.2.2.2.2 hR) ⟨repS_blind, va_recv X.2.2.2.2.2.2.1 hP F.1 (at_kd hk (Nat.le_of_ble_eq_true rfl) (cont_o hk)), fun U hU hW => ⟨rfl, hPre U hU hW⟩⟩ rfl hn (by show la.size = nL; rw [hv.1, hlen]) hst (lv_room hcat) hd ⟨by have := X.2.2.2.2.2.2.2.2.1; omega, by have := X.2.2.2.2.2.2.2.2.2; omega⟩) hS (fun q _ h => hAf q h) hAf (fun r0 u tt H1 locs1 ht hvm hw hB hz1 hk1 hS1 => ?_)
  obtain ⟨hP1, -, -, -⟩ := hB
  rw [ht] at hP1
  obtain ⟨r2, M2⟩ := u
  have hr0 := hw.1
  dsimp only at hr0 hP1
  subst hr0
  exact k r2 M2 hw.2 H1 locs1 la hP1 hS1 hv
theorem g_callSJ (X : Cx p s m args c R kc ks cc own nL t D al A) {y : MethodName} {bytes : ByteArray} {maxL fr lo n idx : Nat} {As rest : List Value} {post : Int → Mem → Prop} (hM : CJ l y bytes maxL fr lo t D al As M post) (V : SC own idx y bytes maxL (some .long) n) (hn : As.length = n) (hlen : ls.length = nL) (hR : fr + 1 ≤ R.frames ∧ 8 + (maxL + 11) + lo ≤ R.locals) (hst : st = As.reverse ++ rest) (hcat : (rest.map fun v => v.category).sum ≤ 8) (hd : decode cc pc = .ok (.invokestatic idx, 3)) (k : ∀ (r : Int) (M' : Mem), post r M' → Gd p l e R s m args below meth c kc ks Q t D al A (pc + 3) ls (.long (jN r) :: rest) M') : Gd p l e R s m args below meth c kc ks Q t D al A pc ls st M := by
  intro H locs la hP hS hv
  have hPre : ∀ U : State, U.heap = H → s.WarmedH U.vm → RepS t D al M U := fun U hU hW => ⟨by show va_P _ _ _ U.heap; rw [hU]; exact hP, va_K.moved hW.alike X.2.2.2.2.2.2.1, ws_fA (X.2.2.2.2.2.2.2.1 M), nw_warm hW X.2.2.2.2.2.1⟩
  have hAf : ∀ q, fA al q → A q := fun q hq => fA_A (X.2.2.2.2.2.2.2.1 M) hq
  have hG : GoodIn tb (va_wsS own idx y (Cond.code y bytes maxL (some .long) :: tb)) := tb_GI (tb_cons V.1 (tb_cons V.2.1 (tb_cons V.2.2.1 (tb_cons V.2.2.2.1 (fun _ h => h)))))
  refine va_calll (va_runS (As := As) (rest := rest) (nL := nL) ⟨X.1, X.2.1, X.2.2.1, X.2.2.2.1, X.2.2.2.2.1⟩ hM (va_cwS n X.2.2.2.2.1 hG rfl rfl rfl V.2.2.2.2 hR) ⟨repS_blind, fun U hU hW => ⟨rfl, hPre U hU hW⟩⟩ rfl hn (by show la.size = nL; rw [hv.1, hlen]) hst (lv_room hcat) hd ⟨by have := X.2.2.2.2.2.2.2.2.1; omega, by have := X.2.2.2.2.2.2.2.2.2; omega⟩) hS (fun q _ h => hAf q h) hAf (fun r0 u tt H1 locs1 ht hvm hw hB hz1 hk1 hS1 => ?_)
  obtain ⟨hP1, -, -, -⟩ := hB
  rw [ht] at hP1
  obtain ⟨r2, M2⟩ := u
  have hr0 := hw.1
  dsimp only at hr0 hP1
  subst hr0
  exact k r2 M2 hw.2 H1 locs1 la hP1 hS1 hv
theorem g_callNJ (X : Cx p s m args c R kc ks cc own nL t D al A) {y : MethodName} {bytes : ByteArray} {maxL fr lo n idx : Nat} {As rest : List Value} {post : Int → Mem → Prop} {host : String} (hM : CJ l y bytes maxL fr lo t D al As M post) (V : NC own host idx y bytes maxL (some .long) n) (hn : As.length = n) (hlen : ls.length = nL) (hR : fr + 1 ≤ R.frames ∧ 8 + (maxL + 11) + lo ≤ R.locals) (hst : st = As.reverse ++ rest) (hcat : (rest.map fun v => v.category).sum ≤ 8) (hd : decode cc pc = .ok (.invokestatic idx, 3)) (k : ∀ (r : Int) (M' : Mem), post r M' → Gd p l e R s m args below meth c kc ks Q t D al A (pc + 3) ls (.long (jN r) :: rest) M') : Gd p l e R s m args below meth c kc ks Q t D al A pc ls st M := by
  intro H locs la hP hS hv
  have hPre : ∀ U : State, U.heap = H → s.WarmedH U.vm → RepS t D al M U := fun U hU hW => ⟨by show va_P _ _ _ U.heap; rw [hU]; exact hP, va_K.moved hW.alike X.2.2.2.2.2.2.1, ws_fA (X.2.2.2.2.2.2.2.1 M), nw_warm hW X.2.2.2.2.2.1⟩
  have hAf : ∀ q, fA al q → A q := fun q hq => fA_A (X.2.2.2.2.2.2.2.1 M) hq
  have hG : GoodIn tb (Cond.code y bytes maxL (some .long) :: tb) := tb_GI (tb_cons V.2.2.2.1 (fun _ h => h))
  refine va_calll (va_runSN (As := As) (rest := rest) (nL := nL) (host := host) ⟨X.1, X.2.1, X.2.2.1, X.2.2.2.1, X.2.2.2.2.1⟩ hM ⟨va_cnB n X.2.2.2.2.1 hG rfl rfl rfl (X.2.2.2.2.2.1 _ V.1) (X.2.2.2.2.1 _ V.2.2.1) V.2.2.2.2 hR, X.2.2.2.2.1 _ V.2.1, trivial⟩ ⟨repS_blind, fun U hU hW => ⟨rfl, hPre U hU hW⟩⟩ rfl hn (by show la.size = nL; rw [hv.1, hlen]) hst (lv_room hcat) hd ⟨by have := X.2.2.2.2.2.2.2.2.1; omega, by have := X.2.2.2.2.2.2.2.2.2; omega⟩) hS (fun q _ h => hAf q h) hAf (fun r0 u tt H1 locs1 ht hvm hw hB hz1 hk1 hS1 => ?_)
  obtain ⟨hP1, -, -, -⟩ := hB
  rw [ht] at hP1
  obtain ⟨r2, M2⟩ := u
  have hr0 := hw.1
  dsimp only at hr0 hP1
  subst hr0
  exact k r2 M2 hw.2 H1 locs1 la hP1 hS1 hv
theorem g_callUJ (X : Cx p s m args c R kc ks cc own nL t D al A) {y : MethodName} {bytes : ByteArray} {maxL fr lo n idx : Nat} {As rest : List Value} {post : Int → Mem → Prop} {x : MethodName} {owner : String} {o : Int} {ci N : Nat} {C : String} {T : u_T} {ty0 : Nat → FieldType} {fts : List Nat} (hM : CJ l y bytes maxL fr lo t D al (.ref (al o) :: As) M post) (hk : kd o = (0, ci, fts)) (F : FC ci C T N ty0) (V : UC own C owner idx x y bytes maxL (some .long) n) (hn : As.length = n) (hlen : ls.length = nL) (hR : fr + 1 ≤ R.frames ∧ 8 + (maxL + 11) + lo ≤ R.locals) (hst : st = As.reverse ++ .ref (al o) :: rest) (hcat : (rest.map fun v => v.category).sum ≤ 8) (hd : decode cc pc = .ok (.invokevirtual idx, 3)) (k : ∀ (r : Int) (M' : Mem), post r M' → Gd p l e R s m args below meth c kc ks Q t D al A (pc + 3) ls (.long (jN r) :: rest) M') : Gd p l e R s m args below meth c kc ks Q t D al A pc ls st M := by
  intro H locs la hP hS hv
  have hPre : ∀ U : State, U.heap = H → s.WarmedH U.vm → RepS t D al M U := fun U hU hW => ⟨by show va_P _ _ _ U.heap; rw [hU]; exact hP, va_K.moved hW.alike X.2.2.2.2.2.2.1, ws_fA (X.2.2.2.2.2.2.2.1 M), nw_warm hW X.2.2.2.2.2.1⟩
  have hAf : ∀ q, fA al q → A q := fun q hq => fA_A (X.2.2.2.2.2.2.2.1 M) hq
  have hG : GoodIn tb (va_wsU own idx C owner x y (Cond.code y bytes maxL (some .long) :: tb)) := tb_GI (tb_cons V.1 (tb_cons V.2.1 (tb_cons V.2.2.1 (tb_cons V.2.2.2.1 (tb_cons V.2.2.2.2.1 (tb_cons V.2.2.2.2.2.1 (fun _ h => h)))))))
  refine va_calll (va_runU (As := As) (rest := rest) (nL := nL) ⟨X.1, X.2.1, X.2.2.1, X.2.2.2.1, X.2.2.2.2.1⟩ hM (va_cwA n X.2.2.2.2.1 hG rfl rfl rfl (X.2.2.2.2.2.1 _ V.2.2.2.2.2.2.1) V.2.2.2.2.2.2.2 hR) ⟨repS_blind, va_recv X.2.2.2.2.2.2.1 hP F.1 (at_kd hk (Nat.le_of_ble_eq_true rfl) (cont_o hk)), fun U hU hW => ⟨rfl, hPre U hU hW⟩⟩ rfl hn (by show la.size = nL; rw [hv.1, hlen]) hst (lv_room hcat) hd ⟨by have := X.2.2.2.2.2.2.2.2.1; omega, by have := X.2.2.2.2.2.2.2.2.2; omega⟩) hS (fun q _ h => hAf q h) hAf (fun r0 u tt H1 locs1 ht hvm hw hB hz1 hk1 hS1 => ?_)
  obtain ⟨hP1, -, -, -⟩ := hB
  rw [ht] at hP1
  obtain ⟨r2, M2⟩ := u
  have hr0 := hw.1
  dsimp only at hr0 hP1
  subst hr0
  exact k r2 M2 hw.2 H1 locs1 la hP1 hS1 hv
theorem g_callVV (X : Cx p s m args c R kc ks cc own nL t D al A) {y : MethodName} {bytes : ByteArray} {maxL fr lo n idx : Nat} {As rest : List Value} {post : Mem → Prop} {o : Int} {ci N : Nat} {C : String} {T : u_T} {ty0 : Nat → FieldType} {fts : List Nat} (hM : CV l y bytes maxL fr lo t D al (.ref (al o) :: As) M post) (hk : kd o = (0, ci, fts)) (F : FC ci C T N ty0) (V : VC own C idx y bytes maxL none n) (hn : As.length = n) (hlen : ls.length = nL) (hR : fr + 1 ≤ R.frames ∧ 8 + (maxL + 11) + lo ≤ R.locals) (hst : st = As.reverse ++ .ref (al o) :: rest) (hcat : (rest.map fun v => v.category).sum ≤ 8) (hd : decode cc pc = .ok (.invokevirtual idx, 3)) (k : ∀ (M' : Mem), post M' → Gd p l e R s m args below meth c kc ks Q t D al A (pc + 3) ls rest M') : Gd p l e R s m args below meth c kc ks Q t D al A pc ls st M := by
  intro H locs la hP hS hv
  have hPre : ∀ U : State, U.heap = H → s.WarmedH U.vm → RepS t D al M U := fun U hU hW => ⟨by show va_P _ _ _ U.heap; rw [hU]; exact hP, va_K.moved hW.alike X.2.2.2.2.2.2.1, ws_fA (X.2.2.2.2.2.2.2.1 M), nw_warm hW X.2.2.2.2.2.1⟩
  have hAf : ∀ q, fA al q → A q := fun q hq => fA_A (X.2.2.2.2.2.2.2.1 M) hq
  have hG : GoodIn tb (wsV own idx C y (Cond.code y bytes maxL none :: tb)) := tb_GI (tb_cons V.1 (tb_cons V.2.1 (tb_cons V.2.2.1 (tb_cons V.2.2.2.1 (tb_cons V.2.2.2.2.1 (fun _ h => h))))))
  refine va_callv (va_runV (As := As) (rest := rest) (nL := nL) ⟨X.1, X.2.1, X.2.2.1, X.2.2.2.1, X.2.2.2.2.1⟩ hM (cwV n X.2.2.2.2.1 hG rfl rfl rfl V.2.2.2.2.2 hR) ⟨repS_blind, va_recv X.2.2.2.2.2.2.1 hP F.1 (at_kd hk (Nat.le_of_ble_eq_true rfl) (cont_o hk)), fun U hU hW => ⟨rfl, hPre U hU hW⟩⟩ rfl hn (by show la.size = nL; rw [hv.1, hlen]) hst (lv_room hcat) hd ⟨by have := X.2.2.2.2.2.2.2.2.1; omega, by have := X.2.2.2.2.2.2.2.2.2; omega⟩) hS (fun q _ h => hAf q h) hAf (fun u tt H1 locs1 ht hvm hw hB hz1 hk1 hS1 => ?_)
  obtain ⟨hP1, -, -, -⟩ := hB
  rw [ht] at hP1
  exact k u hw H1 locs1 la hP1 hS1 hv
theorem g_callSV (X : Cx p s m args c R kc ks cc own nL t D al A) {y : MethodName} {bytes : ByteArray} {maxL fr lo n idx : Nat} {As rest : List Value} {post : Mem → Prop} (hM : CV l y bytes maxL fr lo t D al As M post) (V : SC own idx y bytes maxL none n) (hn : As.length = n) (hlen : ls.length = nL) (hR : fr + 1 ≤ R.frames ∧ 8 + (maxL + 11) + lo ≤ R.locals) (hst : st = As.reverse ++ rest) (hcat : (rest.map fun v => v.category).sum ≤ 8) (hd : decode cc pc = .ok (.invokestatic idx, 3)) (k : ∀ (M' : Mem), post M' → Gd p l e R s m args below meth c kc ks Q t D al A (pc + 3) ls rest M') : Gd p l e R s m args below meth c kc ks Q t D al A pc ls st M := by
  intro H locs la hP hS hv
  have hPre : ∀ U : State, U.heap = H → s.WarmedH U.vm → RepS t D al M U := fun U hU hW => ⟨by show va_P _ _ _ U.heap; rw [hU]; exact hP, va_K.moved hW.alike X.2.2.2.2.2.2.1, ws_fA (X.2.2.2.2.2.2.2.1 M), nw_warm hW X.2.2.2.2.2.1⟩
  have hAf : ∀ q, fA al q → A q := fun q hq => fA_A (X.2.2.2.2.2.2.2.1 M) hq
  have hG : GoodIn tb (va_wsS own idx y (Cond.code y bytes maxL none :: tb)) := tb_GI (tb_cons V.1 (tb_cons V.2.1 (tb_cons V.2.2.1 (tb_cons V.2.2.2.1 (fun _ h => h)))))
  refine va_callv (va_runS (As := As) (rest := rest) (nL := nL) ⟨X.1, X.2.1, X.2.2.1, X.2.2.2.1, X.2.2.2.2.1⟩ hM (va_cwS n X.2.2.2.2.1 hG rfl rfl rfl V.2.2.2.2 hR) ⟨repS_blind, fun U hU hW => ⟨rfl, hPre U hU hW⟩⟩ rfl hn (by show la.size = nL; rw [hv.1, hlen]) hst (lv_room hcat) hd ⟨by have := X.2.2.2.2.2.2.2.2.1; omega, by have := X.2.2.2.2.2.2.2.2.2; omega⟩) hS (fun q _ h => hAf q h) hAf (fun u tt H1 locs1 ht hvm hw hB hz1 hk1 hS1 => ?_)
  obtain ⟨hP1, -, -, -⟩ := hB
  rw [ht] at hP1
  exact k u hw H1 locs1 la hP1 hS1 hv
theorem g_callNV (X : Cx p s m args c R kc ks cc own nL t D al A) {y : MethodName} {bytes : ByteArray} {maxL fr lo n idx : Nat} {As rest : List Value} {post : Mem → Prop} {host : String} (hM : CV l y bytes maxL fr lo t D al As M post) (V : NC own host idx y bytes maxL none n) (hn : As.length = n) (hlen : ls.length = nL) (hR : fr + 1 ≤ R.frames ∧ 8 + (maxL + 11) + lo ≤ R.locals) (hst : st = As.reverse ++ rest) (hcat : (rest.map fun v => v.category).sum ≤ 8) (hd : decode cc pc = .ok (.invokestatic idx, 3)) (k : ∀ (M' : Mem), post M' → Gd p l e R s m args below meth c kc ks Q t D al A (pc + 3) ls rest M') : Gd p l e R s m args below meth c kc ks Q t D al A pc ls st M := by
  intro H locs la hP hS hv
  have hPre : ∀ U : State, U.heap = H → s.WarmedH U.vm → RepS t D al M U := fun U hU hW => ⟨by show va_P _ _ _ U.heap; rw [hU]; exact hP, va_K.moved hW.alike X.2.2.2.2.2.2.1, ws_fA (X.2.2.2.2.2.2.2.1 M), nw_warm hW X.2.2.2.2.2.1⟩
  have hAf : ∀ q, fA al q → A q := fun q hq => fA_A (X.2.2.2.2.2.2.2.1 M) hq
  have hG : GoodIn tb (Cond.code y bytes maxL none :: tb) := tb_GI (tb_cons V.2.2.2.1 (fun _ h => h))
  refine va_callv (va_runSN (As := As) (rest := rest) (nL := nL) (host := host) ⟨X.1, X.2.1, X.2.2.1, X.2.2.2.1, X.2.2.2.2.1⟩ hM ⟨va_cnB n X.2.2.2.2.1 hG rfl rfl rfl (X.2.2.2.2.2.1 _ V.1) (X.2.2.2.2.1 _ V.2.2.1) V.2.2.2.2 hR, X.2.2.2.2.1 _ V.2.1, trivial⟩ ⟨repS_blind, fun U hU hW => ⟨rfl, hPre U hU hW⟩⟩ rfl hn (by show la.size = nL; rw [hv.1, hlen]) hst (lv_room hcat) hd ⟨by have := X.2.2.2.2.2.2.2.2.1; omega, by have := X.2.2.2.2.2.2.2.2.2; omega⟩) hS (fun q _ h => hAf q h) hAf (fun u tt H1 locs1 ht hvm hw hB hz1 hk1 hS1 => ?_)
  obtain ⟨hP1, -, -, -⟩ := hB
  rw [ht] at hP1
  exact k u hw H1 locs1 la hP1 hS1 hv
theorem g_callUV (X : Cx p s m args c R kc ks cc own nL t D al A) {y : MethodName} {bytes : ByteArray} {maxL fr lo n idx : Nat} {As rest : List Value} {post : Mem → Prop} {x : MethodName} {owner : String} {o : Int} {ci N : Nat} {C : String} {T : u_T} {ty0 : Nat → FieldType} {fts : List Nat} (hM : CV l y bytes maxL fr lo t D al (.ref (al o) :: As) M post) (hk : kd o = (0, ci, fts)) (F : FC ci C T N ty0) (V : UC own C owner idx x y bytes maxL none n) (hn : As.length = n) (hlen : ls.length = nL) (hR : fr + 1 ≤ R.frames ∧ 8 + (maxL + 11) + lo ≤ R.locals) (hst : st = As.reverse ++ .ref (al o) :: rest) (hcat : (rest.map fun v => v.category).sum ≤ 8) (hd : decode cc pc = .ok (.invokevirtual idx, 3)) (k : ∀ (M' : Mem), post M' → Gd p l e R s m args below meth c kc ks Q t D al A (pc + 3) ls rest M') : Gd p l e R s m args below meth c kc ks Q t D al A pc ls st M := by
  intro H locs la hP hS hv
  have hPre : ∀ U : State, U.heap = H → s.WarmedH U.vm → RepS t D al M U := fun U hU hW => ⟨by show va_P _ _ _ U.heap; rw [hU]; exact hP, va_K.moved hW.alike X.2.2.2.2.2.2.1, ws_fA (X.2.2.2.2.2.2.2.1 M), nw_warm hW X.2.2.2.2.2.1⟩
  have hAf : ∀ q, fA al q → A q := fun q hq => fA_A (X.2.2.2.2.2.2.2.1 M) hq
  have hG : GoodIn tb (va_wsU own idx C owner x y (Cond.code y bytes maxL none :: tb)) := tb_GI (tb_cons V.1 (tb_cons V.2.1 (tb_cons V.2.2.1 (tb_cons V.2.2.2.1 (tb_cons V.2.2.2.2.1 (tb_cons V.2.2.2.2.2.1 (fun _ h => h)))))))
  refine va_callv (va_runU (As := As) (rest := rest) (nL := nL) ⟨X.1, X.2.1, X.2.2.1, X.2.2.2.1, X.2.2.2.2.1⟩ hM (va_cwA n X.2.2.2.2.1 hG rfl rfl rfl (X.2.2.2.2.2.1 _ V.2.2.2.2.2.2.1) V.2.2.2.2.2.2.2 hR) ⟨repS_blind, va_recv X.2.2.2.2.2.2.1 hP F.1 (at_kd hk (Nat.le_of_ble_eq_true rfl) (cont_o hk)), fun U hU hW => ⟨rfl, hPre U hU hW⟩⟩ rfl hn (by show la.size = nL; rw [hv.1, hlen]) hst (lv_room hcat) hd ⟨by have := X.2.2.2.2.2.2.2.2.1; omega, by have := X.2.2.2.2.2.2.2.2.2; omega⟩) hS (fun q _ h => hAf q h) hAf (fun u tt H1 locs1 ht hvm hw hB hz1 hk1 hS1 => ?_)
  obtain ⟨hP1, -, -, -⟩ := hB
  rw [ht] at hP1
  exact k u hw H1 locs1 la hP1 hS1 hv
theorem g_mmax (X : Cx p s m args c R kc ks cc own nL t D al A) {a b : Int} {idx : Nat} (h1 : Cond.methodLink own idx Lib.Math.max.name ∈ tb) (h2 : Cond.static Lib.Math.max.name ∈ tb) (h3 : Cond.initialized "java/lang/Math" ∈ tb) (h4 : Cond.code Lib.Math.max.name Lib.Math.max.code 2 (some .int) ∈ tb) (ha : i32 a) (hb : i32 b) (hlen : ls.length = nL) (hR : 1 ≤ R.frames ∧ 21 ≤ R.locals) (hcat : (st.map fun v => v.category).sum ≤ 8) (hd : decode cc pc = .ok (.invokestatic idx, 3)) (k : Gd p l e R s m args below meth c kc ks Q t D al A (pc + 3) ls (.int (iN (max a b)) :: st) M) : Gd p l e R s m args below meth c kc ks Q t D al A pc ls (.int (iN b) :: .int (iN a) :: st) M := fun H locs la hP hS hv => by
  refine va_mmax X.1 X.2.1 (by rw [X.2.2.1, hv.1, hlen]) X.2.2.2.1 (X.2.2.2.2.1 _ h1) (X.2.2.2.2.1 _ h2) (X.2.2.2.2.1 _ h3) (X.2.2.2.2.1 _ h4) hR.1 (by omega) X.2.2.2.2.2.2.2.2.1 X.2.2.2.2.2.2.2.2.2 hd ?_
  have e : (if iN a < iN b then iN b else iN a) = iN (max a b) := by
    by_cases h : a < b
    · rw [if_pos ((iN_lt ha hb).mpr h)]
      congr 1; omega
    · rw [if_neg (fun q => h ((iN_lt ha hb).mp q))]
      congr 1; omega
  rw [e]
  exact k H locs la hP hS hv
theorem g_mmin (X : Cx p s m args c R kc ks cc own nL t D al A) {a b : Int} {idx : Nat} (h1 : Cond.methodLink own idx Lib.Math.min.name ∈ tb) (h2 : Cond.static Lib.Math.min.name ∈ tb) (h3 : Cond.initialized "java/lang/Math" ∈ tb) (h4 : Cond.code Lib.Math.min.name Lib.Math.min.code 2 (some .int) ∈ tb) (ha : i32 a) (hb : i32 b) (hlen : ls.length = nL) (hR : 1 ≤ R.frames ∧ 21 ≤ R.locals) (hcat : (st.map fun v => v.category).sum ≤ 8) (hd : decode cc pc = .ok (.invokestatic idx, 3)) (k : Gd p l e R s m args below meth c kc ks Q t D al A (pc + 3) ls (.int (iN (min a b)) :: st) M) : Gd p l e R s m args below meth c kc ks Q t D al A pc ls (.int (iN b) :: .int (iN a) :: st) M := fun H locs la hP hS hv => by
  refine va_mmin X.1 X.2.1 (by rw [X.2.2.1, hv.1, hlen]) X.2.2.2.1 (X.2.2.2.2.1 _ h1) (X.2.2.2.2.1 _ h2) (X.2.2.2.2.1 _ h3) (X.2.2.2.2.1 _ h4) hR.1 (by omega) X.2.2.2.2.2.2.2.2.1 X.2.2.2.2.2.2.2.2.2 hd ?_
  have e : (if iN b < iN a then iN b else iN a) = iN (min a b) := by
    by_cases h : b < a
    · rw [if_pos ((iN_lt hb ha).mpr h)]
      congr 1; omega
    · rw [if_neg (fun q => h ((iN_lt hb ha).mp q))]
      congr 1; omega
  rw [e]
  exact k H locs la hP hS hv
theorem g_mabsl (X : Cx p s m args c R kc ks cc own nL t D al A) {a : Int} {idx : Nat} (h1 : Cond.methodLink own idx Lib.MathLoose.abs_long.x ∈ tb) (h2 : Cond.static Lib.MathLoose.abs_long.x ∈ tb) (h3 : Cond.initialized "java/lang/Math" ∈ tb) (h4 : Cond.code Lib.MathLoose.abs_long.x Lib.MathLoose.abs_long.code 2 (some .long) ∈ tb) (ha : i64 a) (hlen : ls.length = nL) (hR : 1 ≤ R.frames ∧ 21 ≤ R.locals) (hcat : (st.map fun v => v.category).sum ≤ 8) (hd : decode cc pc = .ok (.invokestatic idx, 3)) (k : Gd p l e R s m args below meth c kc ks Q t D al A (pc + 3) ls (.long (jN (if 0 < a then a else -a)) :: st) M) : Gd p l e R s m args below meth c kc ks Q t D al A pc ls (.long (jN a) :: st) M := fun H locs la hP hS hv => by
  refine va_mabs_long X.1 X.2.1 (by rw [X.2.2.1, hv.1, hlen]) X.2.2.2.1 (X.2.2.2.2.1 _ h1) (X.2.2.2.2.1 _ h2) (X.2.2.2.2.1 _ h3) (X.2.2.2.2.1 _ h4) hR.1 (by omega) X.2.2.2.2.2.2.2.2.1 X.2.2.2.2.2.2.2.2.2 hd ?_
  have e : (if 0 < jN a then jN a else -jN a) = jN (if 0 < a then a else -a) := by
    have hz : i64 0 := by decide
    have q := jN_lt hz ha
    rw [jN_0] at q
    by_cases h : 0 < a
    · rw [if_pos (q.mpr h), if_pos h]
    · rw [if_neg (fun z => h (q.mp z)), if_neg h]
      exact (Int64.ofInt_neg a).symm
  rw [e]
  exact k H locs la hP hS hv
theorem g_copy (X : Cx p s m args c R kc ks cc own nL t D al A) {o0 o1 sp dp n : Int} {n0 n1 idx : Nat} (h1 : Cond.methodLink own idx arraycopyName ∈ tb) (h2 : Cond.native arraycopyName ∈ tb) (h3 : Cond.static arraycopyName ∈ tb) (h4 : Cond.initialized "java/lang/System" ∈ tb) (hk0 : kd o0 = (1, n0, [])) (hk1 : kd o1 = (1, n1, [])) (hsp : 0 ≤ sp) (hdp : 0 ≤ dp) (hnn : 0 ≤ n) (hs : sp + n ≤ (n0 : Int)) (hdn : dp + n ≤ (n1 : Int)) (hlen : ls.length = nL) (hR : 1 ≤ R.frames ∧ 40 ≤ R.locals) (hcat : (st.map fun v => v.category).sum ≤ 8) (hd : decode cc pc = .ok (.invokestatic idx, 3)) (k : Gd p l e R s m args below meth c kc ks Q t D al A (pc + 3) ls st (cpy M o0 sp o1 dp n)) : Gd p l e R s m args below meth c kc ks Q t D al A pc ls (.int (iN n) :: .int (iN dp) :: .ref (al o1) :: .int (iN sp) :: .ref (al o0) :: st) M := fun H locs la hP hS hv => by
  have hn0 := kd_small hk0
  have hn1 := kd_small hk1
  dsimp only at hn0 hn1
  have hz : i32 0 := by decide
  have neg : ∀ z : Int, 0 ≤ z → z < 2147483648 → ¬ iN z < 0 := fun z h h' q => by
    have := (iN_lt (a := z) (b := 0) (by constructor <;> omega) hz).mp q
    omega
  have c1 := iN_clamp (a := sp) ⟨hsp, by omega⟩
  have c2 := iN_clamp (a := dp) ⟨hdp, by omega⟩
  have c3 := iN_clamp (a := n) ⟨hnn, by omega⟩
  refine va_copyi X.1 X.2.1 (by rw [X.2.2.1, hv.1, hlen]) X.2.2.2.1 (X.2.2.2.2.1 _ h1) (X.2.2.2.2.1 _ h2) (X.2.2.2.2.1 _ h3) (X.2.2.2.2.1 _ h4) X.2.2.2.2.2.2.1 hP (X.2.2.2.2.2.2.2.1 M) hS o0.toNat o1.toNat 0 0 (at_kd hk0 (Nat.le_of_ble_eq_true rfl) (cont_i hk0)) (at_kd hk1 (Nat.le_of_ble_eq_true rfl) (cont_i hk1)) rfl rfl rfl (neg sp hsp (by omega)) (neg dp hdp (by omega)) (neg n hnn (by omega)) (by rw [c1, c3]; omega) (by rw [c2, c3]; omega) (fun i _ => rfl) hR.1 ?_ hd (fun H1 locs1 hP1 hD1 hS1 => ?_)
  · have : nativeFrameWords "java/lang/System" "arraycopy" 5 ≤ 21 := by decide +kernel
    omega
  · rw [c1, c2, c3] at hP1
    have hc : cont t al (cpy M o0 sp o1 dp n) o1 = .inl (t.1, n1, .inl (va_cpy (fun j : Nat => iN (M o0 j)) (fun j : Nat => iN (M o1 j)) sp.toNat dp.toNat n.toNat)) := by
      rw [cont_i hk1]
      congr 4
      funext j
      by_cases h : dp.toNat ≤ j ∧ j < dp.toNat + n.toNat
      · have e : dp ≤ (j : Int) ∧ (j : Int) < dp + n := by omega
        have e2 : sp + ((j : Int) - dp) = ((sp.toNat + (j - dp.toNat) : Nat) : Int) := by omega
        simp only [va_cpy, if_pos h, cpy, e, and_self, if_true, e2]
      · have e : ¬ (dp ≤ (j : Int) ∧ (j : Int) < dp + n) := by omega
        simp only [va_cpy, if_neg h, cpy, true_and, if_neg e]
    rw [ws_cpy t al M (kd_in hk1 (Nat.le_of_ble_eq_true rfl)).1 hc] at hP1
    exact k H1 locs1 la hP1 hS1 hv
end GD2
theorem CI.of {l : Launch} {y : MethodName} {cc : ByteArray} {nL fr lo : Nat} {rt : FieldType} {t : TT} {D : va_G} {al : Int → Nat} {av : List Value} {M : Mem} {post : Int → Mem → Prop} {own : String} {ls0 : List (Option Value)} (hy : plainName y.cls = true) (ho : y.cls = own) (hlen : (lg_sl av).length ≤ nL) (hent : entry av nL = ls0)
    (body : ∀ (p : Program) (e : Env) (s : State) (m : MethodId) (args : Array Value) (below : List Frame) (meth : Method) (c : Code), Cx p s m args c (rmN fr lo) 0 0 cc own nL t D al (fA al) → meth.sig.returnType = some rt → meth.locks = false → Gd p l e (rmN fr lo) s m args below meth c 0 0 (MQ below (QI t D al post) args s 0 0 (fA al)) t D al (fA al) 0 ls0 [] M) : CI l y cc nL rt fr lo t D al av M post := by
  refine Met.ofW (cc := cc) (maxL := nL) (ret := some rt) hy rfl ?_
  intro p e s m args below meth c s₁ B hml hv
  obtain ⟨rfl, hP, hK, hD, hN⟩ := hv
  have hts : ∀ w ∈ tb, w.before av.toArray s = true := fun w hw => atoms_spec B.pre w (List.mem_cons_of_mem _ hw)
  have hown : s.vm.findClass own = some m.cls := ho ▸ findClass_of_methodNamed B.named
  have h := body p e s m av.toArray below meth c ⟨B.exec, B.bytes, hml, hown, hts, hN, hK, fun M' => ws_D hD M', Nat.zero_le _, Nat.zero_le _⟩ B.returns B.notSynchronized
  rw [lg_entry_eq]
  exact h s.heap [] _ hP va_S.rf (hent ▸ entry_lvp av hlen)
theorem CJ.of {l : Launch} {y : MethodName} {cc : ByteArray} {nL fr lo : Nat} {t : TT} {D : va_G} {al : Int → Nat} {av : List Value} {M : Mem} {post : Int → Mem → Prop} {own : String} {ls0 : List (Option Value)} (hy : plainName y.cls = true) (ho : y.cls = own) (hlen : (lg_sl av).length ≤ nL) (hent : entry av nL = ls0)
    (body : ∀ (p : Program) (e : Env) (s : State) (m : MethodId) (args : Array Value) (below : List Frame) (meth : Method) (c : Code), Cx p s m args c (rmN fr lo) 0 0 cc own nL t D al (fA al) → meth.sig.returnType = some .long → meth.locks = false → Gd p l e (rmN fr lo) s m args below meth c 0 0 (MQ below (QJ t D al post) args s 0 0 (fA al)) t D al (fA al) 0 ls0 [] M) : CJ l y cc nL fr lo t D al av M post := by
  refine Met.ofW (cc := cc) (maxL := nL) (ret := some .long) hy rfl ?_
  intro p e s m args below meth c s₁ B hml hv
  obtain ⟨rfl, hP, hK, hD, hN⟩ := hv
  have hts : ∀ w ∈ tb, w.before av.toArray s = true := fun w hw => atoms_spec B.pre w (List.mem_cons_of_mem _ hw)
  have hown : s.vm.findClass own = some m.cls := ho ▸ findClass_of_methodNamed B.named
  have h := body p e s m av.toArray below meth c ⟨B.exec, B.bytes, hml, hown, hts, hN, hK, fun M' => ws_D hD M', Nat.zero_le _, Nat.zero_le _⟩ B.returns B.notSynchronized
  rw [lg_entry_eq]
  exact h s.heap [] _ hP va_S.rf (hent ▸ entry_lvp av hlen)
theorem CV.of {l : Launch} {y : MethodName} {cc : ByteArray} {nL fr lo : Nat} {t : TT} {D : va_G} {al : Int → Nat} {av : List Value} {M : Mem} {post : Mem → Prop} {own : String} {ls0 : List (Option Value)} (hy : plainName y.cls = true) (ho : y.cls = own) (hlen : (lg_sl av).length ≤ nL) (hent : entry av nL = ls0)
    (body : ∀ (p : Program) (e : Env) (s : State) (m : MethodId) (args : Array Value) (below : List Frame) (meth : Method) (c : Code), Cx p s m args c (rmN fr lo) 0 0 cc own nL t D al (fA al) → meth.sig.returnType = none → meth.locks = false → Gd p l e (rmN fr lo) s m args below meth c 0 0 (MQ below (QV t D al post) args s 0 0 (fA al)) t D al (fA al) 0 ls0 [] M) : CV l y cc nL fr lo t D al av M post := by
  refine Met.ofW (cc := cc) (maxL := nL) (ret := none) hy rfl ?_
  intro p e s m args below meth c s₁ B hml hv
  obtain ⟨rfl, hP, hK, hD, hN⟩ := hv
  have hts : ∀ w ∈ tb, w.before av.toArray s = true := fun w hw => atoms_spec B.pre w (List.mem_cons_of_mem _ hw)
  have hown : s.vm.findClass own = some m.cls := ho ▸ findClass_of_methodNamed B.named
  have h := body p e s m av.toArray below meth c ⟨B.exec, B.bytes, hml, hown, hts, hN, hK, fun M' => ws_D hD M', Nat.zero_le _, Nat.zero_le _⟩ B.returns B.notSynchronized
  rw [lg_entry_eq]
  exact h s.heap [] _ hP va_S.rf (hent ▸ entry_lvp av hlen)
theorem fc0 : FC 0 "RedSkies$Dealing" TX0 9 tyX0 := ⟨rfl, inRX0, tyX0_ok, nmX0⟩
theorem fc1 : FC 1 "RedSkies$LampReader" TX1 6 tyX1 := ⟨rfl, inRX1, tyX1_ok, nmX1⟩
theorem fc2 : FC 2 "RedSkies$Law" TX2 3 tyX2 := ⟨rfl, inRX2, tyX2_ok, nmX2⟩
theorem fc3 : FC 3 "RedSkies$LawReader" TX3 5 tyX3 := ⟨rfl, inRX3, tyX3_ok, nmX3⟩
theorem fc4 : FC 4 "RedSkies$MeasureReader" TX4 6 tyX4 := ⟨rfl, inRX4, tyX4_ok, nmX4⟩
theorem fc5 : FC 5 "RedSkies$Page" TX5 2 tyX5 := ⟨rfl, inRX5, tyX5_ok, nmX5⟩
theorem fc6 : FC 6 "RedSkies$Painter" TX6 1 tyX6 := ⟨rfl, inRX6, tyX6_ok, nmX6⟩
theorem fc7 : FC 7 "RedSkies$Show" TX8 8 tyX8 := ⟨rfl, inRX8, tyX8_ok, nmX8⟩
theorem fc8 : FC 8 "RedSkies" TX9 18 tyX9 := ⟨rfl, inRX9, tyX9_ok, nmX9⟩
theorem fc9 : FC 9 "RedSkiesModel" TX10 55 tyX10 := ⟨rfl, inRX10, tyX10_ok, nmX10⟩
theorem kd_0 : kd 0 = (0, 8, [4, 6, 9, 11, 13, 18, 19, 20, 25, 27, 65, 103, 116, 0, 0, 0, 0, 2]) := by decide +kernel
theorem kd_1 : kd 1 = (0, 5, [5, 0]) := by decide +kernel
theorem kd_2 : kd 2 = (1, 40, []) := by decide +kernel
theorem kd_3 : kd 3 = (0, 1, [7, 8, 0, 0, 0, 0]) := by decide +kernel
theorem kd_4 : kd 4 = (1, 3, []) := by decide +kernel
theorem kd_5 : kd 5 = (2, 3, []) := by decide +kernel
theorem kd_6 : kd 6 = (0, 4, [10, 0, 0, 0, 0, 0]) := by decide +kernel
theorem kd_7 : kd 7 = (1, 24, []) := by decide +kernel
theorem kd_8 : kd 8 = (0, 3, [12, 0, 0, 0, 2]) := by decide +kernel
theorem kd_9 : kd 9 = (1, 5, []) := by decide +kernel
theorem kd_10 : kd 10 = (4, 4, [11]) := by decide +kernel
theorem kr_11 {i : Int} (h0 : 0 ≤ i) (h1 : i < 4) : kd (11 + i) = (1, 3, []) := kd_nat (b := 11) (n := 4) (by decide +kernel) h0 h1
theorem kd_11 : kd 11 = (1, 3, []) := by decide +kernel
theorem kd_12 : kd 12 = (1, 3, []) := by decide +kernel
theorem kd_13 : kd 13 = (1, 3, []) := by decide +kernel
theorem kd_14 : kd 14 = (1, 3, []) := by decide +kernel
theorem kd_15 : kd 15 = (1, 4, []) := by decide +kernel
theorem kd_16 : kd 16 = (1, 4, []) := by decide +kernel
theorem kd_17 : kd 17 = (4, 4, [18]) := by decide +kernel
theorem kr_18 {i : Int} (h0 : 0 ≤ i) (h1 : i < 4) : kd (18 + i) = (1, 24, []) := kd_nat (b := 18) (n := 4) (by decide +kernel) h0 h1
theorem kd_18 : kd 18 = (1, 24, []) := by decide +kernel
theorem kd_19 : kd 19 = (1, 24, []) := by decide +kernel
theorem kd_20 : kd 20 = (1, 24, []) := by decide +kernel
theorem kd_21 : kd 21 = (1, 24, []) := by decide +kernel
theorem kd_22 : kd 22 = (0, 2, [26, 0, 0]) := by decide +kernel
theorem kd_23 : kd 23 = (1, 5, []) := by decide +kernel
theorem kd_24 : kd 24 = (0, 7, [28, 45, 62, 63, 64, 0, 0, 0]) := by decide +kernel
theorem kd_25 : kd 25 = (4, 16, [26]) := by decide +kernel
theorem kr_26 {i : Int} (h0 : 0 ≤ i) (h1 : i < 16) : kd (26 + i) = (1, 6, []) := kd_nat (b := 26) (n := 16) (by decide +kernel) h0 h1
theorem kd_26 : kd 26 = (1, 6, []) := by decide +kernel
theorem kd_27 : kd 27 = (1, 6, []) := by decide +kernel
theorem kd_28 : kd 28 = (1, 6, []) := by decide +kernel
theorem kd_29 : kd 29 = (1, 6, []) := by decide +kernel
theorem kd_30 : kd 30 = (1, 6, []) := by decide +kernel
theorem kd_31 : kd 31 = (1, 6, []) := by decide +kernel
theorem kd_32 : kd 32 = (1, 6, []) := by decide +kernel
theorem kd_33 : kd 33 = (1, 6, []) := by decide +kernel
theorem kd_34 : kd 34 = (1, 6, []) := by decide +kernel
theorem kd_35 : kd 35 = (1, 6, []) := by decide +kernel
theorem kd_36 : kd 36 = (1, 6, []) := by decide +kernel
theorem kd_37 : kd 37 = (1, 6, []) := by decide +kernel
theorem kd_38 : kd 38 = (1, 6, []) := by decide +kernel
theorem kd_39 : kd 39 = (1, 6, []) := by decide +kernel
theorem kd_40 : kd 40 = (1, 6, []) := by decide +kernel
theorem kd_41 : kd 41 = (1, 6, []) := by decide +kernel
theorem kd_42 : kd 42 = (4, 16, [43]) := by decide +kernel
theorem kr_43 {i : Int} (h0 : 0 ≤ i) (h1 : i < 16) : kd (43 + i) = (1, 12, []) := kd_nat (b := 43) (n := 16) (by decide +kernel) h0 h1
theorem kd_43 : kd 43 = (1, 12, []) := by decide +kernel
theorem kd_44 : kd 44 = (1, 12, []) := by decide +kernel
theorem kd_45 : kd 45 = (1, 12, []) := by decide +kernel
theorem kd_46 : kd 46 = (1, 12, []) := by decide +kernel
theorem kd_47 : kd 47 = (1, 12, []) := by decide +kernel
theorem kd_48 : kd 48 = (1, 12, []) := by decide +kernel
theorem kd_49 : kd 49 = (1, 12, []) := by decide +kernel
theorem kd_50 : kd 50 = (1, 12, []) := by decide +kernel
theorem kd_51 : kd 51 = (1, 12, []) := by decide +kernel
theorem kd_52 : kd 52 = (1, 12, []) := by decide +kernel
theorem kd_53 : kd 53 = (1, 12, []) := by decide +kernel
theorem kd_54 : kd 54 = (1, 12, []) := by decide +kernel
theorem kd_55 : kd 55 = (1, 12, []) := by decide +kernel
theorem kd_56 : kd 56 = (1, 12, []) := by decide +kernel
theorem kd_57 : kd 57 = (1, 12, []) := by decide +kernel
theorem kd_58 : kd 58 = (1, 12, []) := by decide +kernel
theorem kd_59 : kd 59 = (1, 6, []) := by decide +kernel
theorem kd_60 : kd 60 = (1, 401, []) := by decide +kernel
theorem kd_61 : kd 61 = (1, 401, []) := by decide +kernel
theorem kd_62 : kd 62 = (0, 7, [66, 83, 100, 101, 102, 0, 0, 0]) := by decide +kernel
theorem kd_63 : kd 63 = (4, 16, [64]) := by decide +kernel
theorem kr_64 {i : Int} (h0 : 0 ≤ i) (h1 : i < 16) : kd (64 + i) = (1, 6, []) := kd_nat (b := 64) (n := 16) (by decide +kernel) h0 h1
theorem kd_64 : kd 64 = (1, 6, []) := by decide +kernel
theorem kd_65 : kd 65 = (1, 6, []) := by decide +kernel
theorem kd_66 : kd 66 = (1, 6, []) := by decide +kernel
theorem kd_67 : kd 67 = (1, 6, []) := by decide +kernel
theorem kd_68 : kd 68 = (1, 6, []) := by decide +kernel
theorem kd_69 : kd 69 = (1, 6, []) := by decide +kernel
theorem kd_70 : kd 70 = (1, 6, []) := by decide +kernel
theorem kd_71 : kd 71 = (1, 6, []) := by decide +kernel
theorem kd_72 : kd 72 = (1, 6, []) := by decide +kernel
theorem kd_73 : kd 73 = (1, 6, []) := by decide +kernel
theorem kd_74 : kd 74 = (1, 6, []) := by decide +kernel
theorem kd_75 : kd 75 = (1, 6, []) := by decide +kernel
theorem kd_76 : kd 76 = (1, 6, []) := by decide +kernel
theorem kd_77 : kd 77 = (1, 6, []) := by decide +kernel
theorem kd_78 : kd 78 = (1, 6, []) := by decide +kernel
theorem kd_79 : kd 79 = (1, 6, []) := by decide +kernel
theorem kd_80 : kd 80 = (4, 16, [81]) := by decide +kernel
theorem kr_81 {i : Int} (h0 : 0 ≤ i) (h1 : i < 16) : kd (81 + i) = (1, 12, []) := kd_nat (b := 81) (n := 16) (by decide +kernel) h0 h1
theorem kd_81 : kd 81 = (1, 12, []) := by decide +kernel
theorem kd_82 : kd 82 = (1, 12, []) := by decide +kernel
theorem kd_83 : kd 83 = (1, 12, []) := by decide +kernel
theorem kd_84 : kd 84 = (1, 12, []) := by decide +kernel
theorem kd_85 : kd 85 = (1, 12, []) := by decide +kernel
theorem kd_86 : kd 86 = (1, 12, []) := by decide +kernel
theorem kd_87 : kd 87 = (1, 12, []) := by decide +kernel
theorem kd_88 : kd 88 = (1, 12, []) := by decide +kernel
theorem kd_89 : kd 89 = (1, 12, []) := by decide +kernel
theorem kd_90 : kd 90 = (1, 12, []) := by decide +kernel
theorem kd_91 : kd 91 = (1, 12, []) := by decide +kernel
theorem kd_92 : kd 92 = (1, 12, []) := by decide +kernel
theorem kd_93 : kd 93 = (1, 12, []) := by decide +kernel
theorem kd_94 : kd 94 = (1, 12, []) := by decide +kernel
theorem kd_95 : kd 95 = (1, 12, []) := by decide +kernel
theorem kd_96 : kd 96 = (1, 12, []) := by decide +kernel
theorem kd_97 : kd 97 = (1, 6, []) := by decide +kernel
theorem kd_98 : kd 98 = (1, 401, []) := by decide +kernel
theorem kd_99 : kd 99 = (1, 401, []) := by decide +kernel
theorem kd_100 : kd 100 = (0, 0, [104, 105, 0, 1, 1, 1, 1, 106, 0]) := by decide +kernel
theorem kd_101 : kd 101 = (1, 16, []) := by decide +kernel
theorem kd_102 : kd 102 = (1, 16, []) := by decide +kernel
theorem kd_103 : kd 103 = (4, 9, [104]) := by decide +kernel
theorem kr_104 {i : Int} (h0 : 0 ≤ i) (h1 : i < 9) : kd (104 + i) = (1, 129, []) := kd_nat (b := 104) (n := 9) (by decide +kernel) h0 h1
theorem kd_104 : kd 104 = (1, 129, []) := by decide +kernel
theorem kd_105 : kd 105 = (1, 129, []) := by decide +kernel
theorem kd_106 : kd 106 = (1, 129, []) := by decide +kernel
theorem kd_107 : kd 107 = (1, 129, []) := by decide +kernel
theorem kd_108 : kd 108 = (1, 129, []) := by decide +kernel
theorem kd_109 : kd 109 = (1, 129, []) := by decide +kernel
theorem kd_110 : kd 110 = (1, 129, []) := by decide +kernel
theorem kd_111 : kd 111 = (1, 129, []) := by decide +kernel
theorem kd_112 : kd 112 = (1, 129, []) := by decide +kernel
theorem kd_113 : kd 113 = (0, 6, [1]) := by decide +kernel
theorem kd_114 : kd 114 = (0, 9, [118, 0, 0, 0, 0, 0, 0, 0, 0, 119, 0, 120, 121, 0, 122, 0, 123, 0, 124, 0, 0, 125, 126, 0, 127, 128, 0, 129, 0, 0, 130, 131, 132, 133, 134, 135, 136, 1, 1, 0, 0, 137, 138, 0, 0, 0, 0, 0, 0, 139, 140, 141, 142, 143, 1]) := by decide +kernel
theorem kd_115 : kd 115 = (1, 40, []) := by decide +kernel
theorem kd_116 : kd 116 = (1, 3, []) := by decide +kernel
theorem kd_117 : kd 117 = (1, 24, []) := by decide +kernel
theorem kd_118 : kd 118 = (1, 5, []) := by decide +kernel
theorem kd_119 : kd 119 = (1, 12, []) := by decide +kernel
theorem kd_120 : kd 120 = (1, 96, []) := by decide +kernel
theorem kd_121 : kd 121 = (1, 5, []) := by decide +kernel
theorem kd_122 : kd 122 = (1, 4, []) := by decide +kernel
theorem kd_123 : kd 123 = (1, 4, []) := by decide +kernel
theorem kd_124 : kd 124 = (1, 96, []) := by decide +kernel
theorem kd_125 : kd 125 = (1, 192, []) := by decide +kernel
theorem kd_126 : kd 126 = (1, 6, []) := by decide +kernel
theorem kd_127 : kd 127 = (1, 16, []) := by decide +kernel
theorem kd_128 : kd 128 = (1, 16, []) := by decide +kernel
theorem kd_129 : kd 129 = (2, 16, []) := by decide +kernel
theorem kd_130 : kd 130 = (1, 16, []) := by decide +kernel
theorem kd_131 : kd 131 = (3, 8721, []) := by decide +kernel
theorem kd_132 : kd 132 = (3, 513, []) := by decide +kernel
theorem kd_133 : kd 133 = (3, 513, []) := by decide +kernel
theorem kd_134 : kd 134 = (1, 401, []) := by decide +kernel
theorem kd_135 : kd 135 = (1, 401, []) := by decide +kernel
theorem kd_136 : kd 136 = (1, 96, []) := by decide +kernel
theorem kd_137 : kd 137 = (1, 192, []) := by decide +kernel
theorem kd_138 : kd 138 = (1, 6, []) := by decide +kernel
theorem kd_139 : kd 139 = (1, 401, []) := by decide +kernel
theorem kd_140 : kd 140 = (1, 401, []) := by decide +kernel
end
