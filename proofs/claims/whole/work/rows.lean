section
-- PART A of the skeleton (printed); then printed names (NAMES.whole); then method infos
-- ===== PART A: goes FIRST, ahead of the names: the tables' words, and 'selects' of the private methods out of them =====
/-- a private method of a class that the tables say can be made, by its rows of tables_1 -/
def lw_okq (q : MethodName × Nat) : Prop := (q.1.cls ≠ "java/lang/invoke/MethodHandle" ∧ q.1.cls ≠ "java/lang/invoke/VarHandle") ∧ Cond.instantiable q.1.cls q.2 ∈ tables_1 ∧ Cond.privateMethod q.1 ∈ tables_1 ∧ Cond.instanceMethod q.1 ∈ tables_1
theorem lw_p0 : lw_okq (⟨"EdgesOff", "isPiece", "(I)Z"⟩, 8) := ⟨⟨by decide +kernel, by decide +kernel⟩, List.mem_of_getElem? (i := 19) (by decide +kernel), List.mem_of_getElem? (i := 222) (by decide +kernel), List.mem_of_getElem? (i := 223) (by decide +kernel)⟩
theorem lw_p1 : lw_okq (⟨"EdgesOff$Shore", "namesAlone", "(I)V"⟩, 11) := ⟨⟨by decide +kernel, by decide +kernel⟩, List.mem_of_getElem? (i := 102) (by decide +kernel), List.mem_of_getElem? (i := 254) (by decide +kernel), List.mem_of_getElem? (i := 255) (by decide +kernel)⟩
theorem lw_p2 : lw_okq (⟨"EdgesOff$Shore", "wornByKind", "(II)I"⟩, 11) := ⟨⟨by decide +kernel, by decide +kernel⟩, List.mem_of_getElem? (i := 102) (by decide +kernel), List.mem_of_getElem? (i := 289) (by decide +kernel), List.mem_of_getElem? (i := 290) (by decide +kernel)⟩
theorem lw_p3 : lw_okq (⟨"EdgesOff$Shore", "othersWith", "(I)I"⟩, 11) := ⟨⟨by decide +kernel, by decide +kernel⟩, List.mem_of_getElem? (i := 102) (by decide +kernel), List.mem_of_getElem? (i := 293) (by decide +kernel), List.mem_of_getElem? (i := 294) (by decide +kernel)⟩
theorem lw_p4 : lw_okq (⟨"EdgesOff$Shore", "isClashing", "(II)Z"⟩, 11) := ⟨⟨by decide +kernel, by decide +kernel⟩, List.mem_of_getElem? (i := 102) (by decide +kernel), List.mem_of_getElem? (i := 301) (by decide +kernel), List.mem_of_getElem? (i := 302) (by decide +kernel)⟩
theorem lw_p5 : lw_okq (⟨"EdgesOff$Shore", "isYes", "(II)Z"⟩, 11) := ⟨⟨by decide +kernel, by decide +kernel⟩, List.mem_of_getElem? (i := 102) (by decide +kernel), List.mem_of_getElem? (i := 305) (by decide +kernel), List.mem_of_getElem? (i := 306) (by decide +kernel)⟩
theorem lw_p6 : lw_okq (⟨"EdgesOff$Shore", "isYesAcross", "(II)Z"⟩, 11) := ⟨⟨by decide +kernel, by decide +kernel⟩, List.mem_of_getElem? (i := 102) (by decide +kernel), List.mem_of_getElem? (i := 315) (by decide +kernel), List.mem_of_getElem? (i := 316) (by decide +kernel)⟩
theorem lw_p7 : lw_okq (⟨"EdgesOff$Reader", "goesOn", "()V"⟩, 9) := ⟨⟨by decide +kernel, by decide +kernel⟩, List.mem_of_getElem? (i := 66) (by decide +kernel), List.mem_of_getElem? (i := 343) (by decide +kernel), List.mem_of_getElem? (i := 344) (by decide +kernel)⟩
theorem lw_p8 : lw_okq (⟨"EdgesOff$Reader", "wordFromStart", "()I"⟩, 9) := ⟨⟨by decide +kernel, by decide +kernel⟩, List.mem_of_getElem? (i := 66) (by decide +kernel), List.mem_of_getElem? (i := 350) (by decide +kernel), List.mem_of_getElem? (i := 351) (by decide +kernel)⟩
theorem lw_p9 : lw_okq (⟨"EdgesOff$Reader", "numberFromStart", "()I"⟩, 9) := ⟨⟨by decide +kernel, by decide +kernel⟩, List.mem_of_getElem? (i := 66) (by decide +kernel), List.mem_of_getElem? (i := 398) (by decide +kernel), List.mem_of_getElem? (i := 399) (by decide +kernel)⟩
theorem lw_p10 : lw_okq (⟨"EdgesOff$Reader", "wants", "(I)V"⟩, 9) := ⟨⟨by decide +kernel, by decide +kernel⟩, List.mem_of_getElem? (i := 66) (by decide +kernel), List.mem_of_getElem? (i := 465) (by decide +kernel), List.mem_of_getElem? (i := 466) (by decide +kernel)⟩
theorem lw_p11 : lw_okq (⟨"EdgesOff$Reader", "readsFrom", "(II)V"⟩, 9) := ⟨⟨by decide +kernel, by decide +kernel⟩, List.mem_of_getElem? (i := 66) (by decide +kernel), List.mem_of_getElem? (i := 469) (by decide +kernel), List.mem_of_getElem? (i := 470) (by decide +kernel)⟩
theorem lw_p12 : lw_okq (⟨"EdgesOff$Reader", "readsOne", "(I)V"⟩, 9) := ⟨⟨by decide +kernel, by decide +kernel⟩, List.mem_of_getElem? (i := 66) (by decide +kernel), List.mem_of_getElem? (i := 473) (by decide +kernel), List.mem_of_getElem? (i := 474) (by decide +kernel)⟩
theorem lw_p13 : lw_okq (⟨"EdgesOff$Reader", "puts", "(I)V"⟩, 9) := ⟨⟨by decide +kernel, by decide +kernel⟩, List.mem_of_getElem? (i := 66) (by decide +kernel), List.mem_of_getElem? (i := 477) (by decide +kernel), List.mem_of_getElem? (i := 478) (by decide +kernel)⟩
theorem lw_p14 : lw_okq (⟨"EdgesOff$Reader", "readsBehind", "(III)V"⟩, 9) := ⟨⟨by decide +kernel, by decide +kernel⟩, List.mem_of_getElem? (i := 66) (by decide +kernel), List.mem_of_getElem? (i := 481) (by decide +kernel), List.mem_of_getElem? (i := 482) (by decide +kernel)⟩
theorem lw_p15 : lw_okq (⟨"EdgesOff", "behindWhichAllAreRound", "()I"⟩, 8) := ⟨⟨by decide +kernel, by decide +kernel⟩, List.mem_of_getElem? (i := 19) (by decide +kernel), List.mem_of_getElem? (i := 558) (by decide +kernel), List.mem_of_getElem? (i := 559) (by decide +kernel)⟩
def lw_privs_1 : List (MethodName × Nat) := [(⟨"EdgesOff", "isPiece", "(I)Z"⟩, 8), (⟨"EdgesOff$Shore", "namesAlone", "(I)V"⟩, 11), (⟨"EdgesOff$Shore", "wornByKind", "(II)I"⟩, 11), (⟨"EdgesOff$Shore", "othersWith", "(I)I"⟩, 11), (⟨"EdgesOff$Shore", "isClashing", "(II)Z"⟩, 11), (⟨"EdgesOff$Shore", "isYes", "(II)Z"⟩, 11), (⟨"EdgesOff$Shore", "isYesAcross", "(II)Z"⟩, 11), (⟨"EdgesOff$Reader", "goesOn", "()V"⟩, 9), (⟨"EdgesOff$Reader", "wordFromStart", "()I"⟩, 9), (⟨"EdgesOff$Reader", "numberFromStart", "()I"⟩, 9), (⟨"EdgesOff$Reader", "wants", "(I)V"⟩, 9), (⟨"EdgesOff$Reader", "readsFrom", "(II)V"⟩, 9), (⟨"EdgesOff$Reader", "readsOne", "(I)V"⟩, 9), (⟨"EdgesOff$Reader", "puts", "(I)V"⟩, 9), (⟨"EdgesOff$Reader", "readsBehind", "(III)V"⟩, 9), (⟨"EdgesOff", "behindWhichAllAreRound", "()I"⟩, 8)]
theorem lw_r1 : ∀ q ∈ lw_privs_1, lw_okq q := List.forall_mem_cons.mpr ⟨lw_p0, List.forall_mem_cons.mpr ⟨lw_p1, List.forall_mem_cons.mpr ⟨lw_p2, List.forall_mem_cons.mpr ⟨lw_p3, List.forall_mem_cons.mpr ⟨lw_p4, List.forall_mem_cons.mpr ⟨lw_p5, List.forall_mem_cons.mpr ⟨lw_p6, List.forall_mem_cons.mpr ⟨lw_p7, List.forall_mem_cons.mpr ⟨lw_p8, List.forall_mem_cons.mpr ⟨lw_p9, List.forall_mem_cons.mpr ⟨lw_p10, List.forall_mem_cons.mpr ⟨lw_p11, List.forall_mem_cons.mpr ⟨lw_p12, List.forall_mem_cons.mpr ⟨lw_p13, List.forall_mem_cons.mpr ⟨lw_p14, List.forall_mem_cons.mpr ⟨lw_p15, fun _ h => absurd h List.not_mem_nil⟩⟩⟩⟩⟩⟩⟩⟩⟩⟩⟩⟩⟩⟩⟩⟩
theorem lw_p16 : lw_okq (⟨"EdgesOff", "areTwo", "(II)Z"⟩, 8) := ⟨⟨by decide +kernel, by decide +kernel⟩, List.mem_of_getElem? (i := 19) (by decide +kernel), List.mem_of_getElem? (i := 570) (by decide +kernel), List.mem_of_getElem? (i := 571) (by decide +kernel)⟩
theorem lw_p17 : lw_okq (⟨"EdgesOff", "behindWhichRoundFrom", "(III)I"⟩, 8) := ⟨⟨by decide +kernel, by decide +kernel⟩, List.mem_of_getElem? (i := 19) (by decide +kernel), List.mem_of_getElem? (i := 652) (by decide +kernel), List.mem_of_getElem? (i := 653) (by decide +kernel)⟩
theorem lw_p18 : lw_okq (⟨"EdgesOff", "firstOtherwise", "(LEdgesOff$Row;I)I"⟩, 8) := ⟨⟨by decide +kernel, by decide +kernel⟩, List.mem_of_getElem? (i := 19) (by decide +kernel), List.mem_of_getElem? (i := 668) (by decide +kernel), List.mem_of_getElem? (i := 669) (by decide +kernel)⟩
theorem lw_p19 : lw_okq (⟨"EdgesOff", "whichAreSo", "(LEdgesOff$Row;II)I"⟩, 8) := ⟨⟨by decide +kernel, by decide +kernel⟩, List.mem_of_getElem? (i := 19) (by decide +kernel), List.mem_of_getElem? (i := 672) (by decide +kernel), List.mem_of_getElem? (i := 673) (by decide +kernel)⟩
theorem lw_p20 : lw_okq (⟨"EdgesOff", "isSoWith", "(LEdgesOff$Row;III)Z"⟩, 8) := ⟨⟨by decide +kernel, by decide +kernel⟩, List.mem_of_getElem? (i := 19) (by decide +kernel), List.mem_of_getElem? (i := 676) (by decide +kernel), List.mem_of_getElem? (i := 677) (by decide +kernel)⟩
theorem lw_p21 : lw_okq (⟨"EdgesOff", "howManySharpsAreSo", "(LEdgesOff$Row;I)I"⟩, 8) := ⟨⟨by decide +kernel, by decide +kernel⟩, List.mem_of_getElem? (i := 19) (by decide +kernel), List.mem_of_getElem? (i := 680) (by decide +kernel), List.mem_of_getElem? (i := 681) (by decide +kernel)⟩
theorem lw_p22 : lw_okq (⟨"EdgesOff", "leastSharpThatIsSo", "(LEdgesOff$Row;I)I"⟩, 8) := ⟨⟨by decide +kernel, by decide +kernel⟩, List.mem_of_getElem? (i := 19) (by decide +kernel), List.mem_of_getElem? (i := 684) (by decide +kernel), List.mem_of_getElem? (i := 685) (by decide +kernel)⟩
theorem lw_p23 : lw_okq (⟨"EdgesOff", "whichTextsAreSo", "(LEdgesOff$Row;I)I"⟩, 8) := ⟨⟨by decide +kernel, by decide +kernel⟩, List.mem_of_getElem? (i := 19) (by decide +kernel), List.mem_of_getElem? (i := 688) (by decide +kernel), List.mem_of_getElem? (i := 689) (by decide +kernel)⟩
theorem lw_p24 : lw_okq (⟨"EdgesOff", "whichPiecesAreSo", "(LEdgesOff$Row;)I"⟩, 8) := ⟨⟨by decide +kernel, by decide +kernel⟩, List.mem_of_getElem? (i := 19) (by decide +kernel), List.mem_of_getElem? (i := 692) (by decide +kernel), List.mem_of_getElem? (i := 693) (by decide +kernel)⟩
theorem lw_p25 : lw_okq (⟨"EdgesOff", "howManyRoundBySeed", "(II)I"⟩, 8) := ⟨⟨by decide +kernel, by decide +kernel⟩, List.mem_of_getElem? (i := 19) (by decide +kernel), List.mem_of_getElem? (i := 713) (by decide +kernel), List.mem_of_getElem? (i := 714) (by decide +kernel)⟩
theorem lw_p26 : lw_okq (⟨"EdgesOffModel", "firstText", "()I"⟩, 30) := ⟨⟨by decide +kernel, by decide +kernel⟩, List.mem_of_getElem? (i := 769) (by decide +kernel), List.mem_of_getElem? (i := 775) (by decide +kernel), List.mem_of_getElem? (i := 776) (by decide +kernel)⟩
theorem lw_p27 : lw_okq (⟨"EdgesOffModel", "place", "(II)I"⟩, 30) := ⟨⟨by decide +kernel, by decide +kernel⟩, List.mem_of_getElem? (i := 769) (by decide +kernel), List.mem_of_getElem? (i := 879) (by decide +kernel), List.mem_of_getElem? (i := 880) (by decide +kernel)⟩
theorem lw_p28 : lw_okq (⟨"EdgesOffModel", "isPiece", "(I)Z"⟩, 30) := ⟨⟨by decide +kernel, by decide +kernel⟩, List.mem_of_getElem? (i := 769) (by decide +kernel), List.mem_of_getElem? (i := 883) (by decide +kernel), List.mem_of_getElem? (i := 884) (by decide +kernel)⟩
theorem lw_p29 : lw_okq (⟨"EdgesOffModel", "many", "()I"⟩, 30) := ⟨⟨by decide +kernel, by decide +kernel⟩, List.mem_of_getElem? (i := 769) (by decide +kernel), List.mem_of_getElem? (i := 891) (by decide +kernel), List.mem_of_getElem? (i := 892) (by decide +kernel)⟩
theorem lw_p30 : lw_okq (⟨"EdgesOffModel", "change", "(III)V"⟩, 30) := ⟨⟨by decide +kernel, by decide +kernel⟩, List.mem_of_getElem? (i := 769) (by decide +kernel), List.mem_of_getElem? (i := 895) (by decide +kernel), List.mem_of_getElem? (i := 896) (by decide +kernel)⟩
theorem lw_p31 : lw_okq (⟨"EdgesOffModel", "lying", "(I)I"⟩, 30) := ⟨⟨by decide +kernel, by decide +kernel⟩, List.mem_of_getElem? (i := 769) (by decide +kernel), List.mem_of_getElem? (i := 903) (by decide +kernel), List.mem_of_getElem? (i := 904) (by decide +kernel)⟩
def lw_privs_2 : List (MethodName × Nat) := [(⟨"EdgesOff", "areTwo", "(II)Z"⟩, 8), (⟨"EdgesOff", "behindWhichRoundFrom", "(III)I"⟩, 8), (⟨"EdgesOff", "firstOtherwise", "(LEdgesOff$Row;I)I"⟩, 8), (⟨"EdgesOff", "whichAreSo", "(LEdgesOff$Row;II)I"⟩, 8), (⟨"EdgesOff", "isSoWith", "(LEdgesOff$Row;III)Z"⟩, 8), (⟨"EdgesOff", "howManySharpsAreSo", "(LEdgesOff$Row;I)I"⟩, 8), (⟨"EdgesOff", "leastSharpThatIsSo", "(LEdgesOff$Row;I)I"⟩, 8), (⟨"EdgesOff", "whichTextsAreSo", "(LEdgesOff$Row;I)I"⟩, 8), (⟨"EdgesOff", "whichPiecesAreSo", "(LEdgesOff$Row;)I"⟩, 8), (⟨"EdgesOff", "howManyRoundBySeed", "(II)I"⟩, 8), (⟨"EdgesOffModel", "firstText", "()I"⟩, 30), (⟨"EdgesOffModel", "place", "(II)I"⟩, 30), (⟨"EdgesOffModel", "isPiece", "(I)Z"⟩, 30), (⟨"EdgesOffModel", "many", "()I"⟩, 30), (⟨"EdgesOffModel", "change", "(III)V"⟩, 30), (⟨"EdgesOffModel", "lying", "(I)I"⟩, 30)]
theorem lw_r2 : ∀ q ∈ lw_privs_2, lw_okq q := List.forall_mem_cons.mpr ⟨lw_p16, List.forall_mem_cons.mpr ⟨lw_p17, List.forall_mem_cons.mpr ⟨lw_p18, List.forall_mem_cons.mpr ⟨lw_p19, List.forall_mem_cons.mpr ⟨lw_p20, List.forall_mem_cons.mpr ⟨lw_p21, List.forall_mem_cons.mpr ⟨lw_p22, List.forall_mem_cons.mpr ⟨lw_p23, List.forall_mem_cons.mpr ⟨lw_p24, List.forall_mem_cons.mpr ⟨lw_p25, List.forall_mem_cons.mpr ⟨lw_p26, List.forall_mem_cons.mpr ⟨lw_p27, List.forall_mem_cons.mpr ⟨lw_p28, List.forall_mem_cons.mpr ⟨lw_p29, List.forall_mem_cons.mpr ⟨lw_p30, List.forall_mem_cons.mpr ⟨lw_p31, fun _ h => absurd h List.not_mem_nil⟩⟩⟩⟩⟩⟩⟩⟩⟩⟩⟩⟩⟩⟩⟩⟩
theorem lw_p32 : lw_okq (⟨"EdgesOffModel", "of", "(II)I"⟩, 30) := ⟨⟨by decide +kernel, by decide +kernel⟩, List.mem_of_getElem? (i := 769) (by decide +kernel), List.mem_of_getElem? (i := 907) (by decide +kernel), List.mem_of_getElem? (i := 908) (by decide +kernel)⟩
theorem lw_p33 : lw_okq (⟨"EdgesOffModel", "wears", "(I)I"⟩, 30) := ⟨⟨by decide +kernel, by decide +kernel⟩, List.mem_of_getElem? (i := 769) (by decide +kernel), List.mem_of_getElem? (i := 911) (by decide +kernel), List.mem_of_getElem? (i := 912) (by decide +kernel)⟩
theorem lw_p34 : lw_okq (⟨"EdgesOffModel", "tell", "(III)I"⟩, 30) := ⟨⟨by decide +kernel, by decide +kernel⟩, List.mem_of_getElem? (i := 769) (by decide +kernel), List.mem_of_getElem? (i := 915) (by decide +kernel), List.mem_of_getElem? (i := 916) (by decide +kernel)⟩
theorem lw_p35 : lw_okq (⟨"EdgesOffModel", "clashing", "(I)I"⟩, 30) := ⟨⟨by decide +kernel, by decide +kernel⟩, List.mem_of_getElem? (i := 769) (by decide +kernel), List.mem_of_getElem? (i := 935) (by decide +kernel), List.mem_of_getElem? (i := 936) (by decide +kernel)⟩
theorem lw_p36 : lw_okq (⟨"EdgesOffModel", "clashes", "(II)Z"⟩, 30) := ⟨⟨by decide +kernel, by decide +kernel⟩, List.mem_of_getElem? (i := 769) (by decide +kernel), List.mem_of_getElem? (i := 939) (by decide +kernel), List.mem_of_getElem? (i := 940) (by decide +kernel)⟩
theorem lw_p37 : lw_okq (⟨"EdgesOffModel", "carries", "(I)I"⟩, 30) := ⟨⟨by decide +kernel, by decide +kernel⟩, List.mem_of_getElem? (i := 769) (by decide +kernel), List.mem_of_getElem? (i := 947) (by decide +kernel), List.mem_of_getElem? (i := 948) (by decide +kernel)⟩
theorem lw_p38 : lw_okq (⟨"EdgesOffModel", "isText", "()Z"⟩, 30) := ⟨⟨by decide +kernel, by decide +kernel⟩, List.mem_of_getElem? (i := 769) (by decide +kernel), List.mem_of_getElem? (i := 959) (by decide +kernel), List.mem_of_getElem? (i := 960) (by decide +kernel)⟩
theorem lw_p39 : lw_okq (⟨"EdgesOffModel", "next", "()V"⟩, 30) := ⟨⟨by decide +kernel, by decide +kernel⟩, List.mem_of_getElem? (i := 769) (by decide +kernel), List.mem_of_getElem? (i := 963) (by decide +kernel), List.mem_of_getElem? (i := 964) (by decide +kernel)⟩
theorem lw_p40 : lw_okq (⟨"EdgesOffModel", "sortAt", "(I)I"⟩, 30) := ⟨⟨by decide +kernel, by decide +kernel⟩, List.mem_of_getElem? (i := 769) (by decide +kernel), List.mem_of_getElem? (i := 967) (by decide +kernel), List.mem_of_getElem? (i := 968) (by decide +kernel)⟩
theorem lw_p41 : lw_okq (⟨"EdgesOffModel", "word", "()I"⟩, 30) := ⟨⟨by decide +kernel, by decide +kernel⟩, List.mem_of_getElem? (i := 769) (by decide +kernel), List.mem_of_getElem? (i := 971) (by decide +kernel), List.mem_of_getElem? (i := 972) (by decide +kernel)⟩
theorem lw_p42 : lw_okq (⟨"EdgesOffModel", "isE", "()Z"⟩, 30) := ⟨⟨by decide +kernel, by decide +kernel⟩, List.mem_of_getElem? (i := 769) (by decide +kernel), List.mem_of_getElem? (i := 975) (by decide +kernel), List.mem_of_getElem? (i := 976) (by decide +kernel)⟩
theorem lw_p43 : lw_okq (⟨"EdgesOffModel", "begin", "()I"⟩, 30) := ⟨⟨by decide +kernel, by decide +kernel⟩, List.mem_of_getElem? (i := 769) (by decide +kernel), List.mem_of_getElem? (i := 979) (by decide +kernel), List.mem_of_getElem? (i := 980) (by decide +kernel)⟩
theorem lw_p44 : lw_okq (⟨"EdgesOffModel", "write", "(I)V"⟩, 30) := ⟨⟨by decide +kernel, by decide +kernel⟩, List.mem_of_getElem? (i := 769) (by decide +kernel), List.mem_of_getElem? (i := 983) (by decide +kernel), List.mem_of_getElem? (i := 984) (by decide +kernel)⟩
theorem lw_p45 : lw_okq (⟨"EdgesOffModel", "numberThere", "()I"⟩, 30) := ⟨⟨by decide +kernel, by decide +kernel⟩, List.mem_of_getElem? (i := 769) (by decide +kernel), List.mem_of_getElem? (i := 987) (by decide +kernel), List.mem_of_getElem? (i := 988) (by decide +kernel)⟩
theorem lw_p46 : lw_okq (⟨"EdgesOffModel", "isSign", "(I)Z"⟩, 30) := ⟨⟨by decide +kernel, by decide +kernel⟩, List.mem_of_getElem? (i := 769) (by decide +kernel), List.mem_of_getElem? (i := 991) (by decide +kernel), List.mem_of_getElem? (i := 992) (by decide +kernel)⟩
theorem lw_p47 : lw_okq (⟨"EdgesOffModel", "last", "()I"⟩, 30) := ⟨⟨by decide +kernel, by decide +kernel⟩, List.mem_of_getElem? (i := 769) (by decide +kernel), List.mem_of_getElem? (i := 995) (by decide +kernel), List.mem_of_getElem? (i := 996) (by decide +kernel)⟩
def lw_privs_3 : List (MethodName × Nat) := [(⟨"EdgesOffModel", "of", "(II)I"⟩, 30), (⟨"EdgesOffModel", "wears", "(I)I"⟩, 30), (⟨"EdgesOffModel", "tell", "(III)I"⟩, 30), (⟨"EdgesOffModel", "clashing", "(I)I"⟩, 30), (⟨"EdgesOffModel", "clashes", "(II)Z"⟩, 30), (⟨"EdgesOffModel", "carries", "(I)I"⟩, 30), (⟨"EdgesOffModel", "isText", "()Z"⟩, 30), (⟨"EdgesOffModel", "next", "()V"⟩, 30), (⟨"EdgesOffModel", "sortAt", "(I)I"⟩, 30), (⟨"EdgesOffModel", "word", "()I"⟩, 30), (⟨"EdgesOffModel", "isE", "()Z"⟩, 30), (⟨"EdgesOffModel", "begin", "()I"⟩, 30), (⟨"EdgesOffModel", "write", "(I)V"⟩, 30), (⟨"EdgesOffModel", "numberThere", "()I"⟩, 30), (⟨"EdgesOffModel", "isSign", "(I)Z"⟩, 30), (⟨"EdgesOffModel", "last", "()I"⟩, 30)]
theorem lw_r3 : ∀ q ∈ lw_privs_3, lw_okq q := List.forall_mem_cons.mpr ⟨lw_p32, List.forall_mem_cons.mpr ⟨lw_p33, List.forall_mem_cons.mpr ⟨lw_p34, List.forall_mem_cons.mpr ⟨lw_p35, List.forall_mem_cons.mpr ⟨lw_p36, List.forall_mem_cons.mpr ⟨lw_p37, List.forall_mem_cons.mpr ⟨lw_p38, List.forall_mem_cons.mpr ⟨lw_p39, List.forall_mem_cons.mpr ⟨lw_p40, List.forall_mem_cons.mpr ⟨lw_p41, List.forall_mem_cons.mpr ⟨lw_p42, List.forall_mem_cons.mpr ⟨lw_p43, List.forall_mem_cons.mpr ⟨lw_p44, List.forall_mem_cons.mpr ⟨lw_p45, List.forall_mem_cons.mpr ⟨lw_p46, List.forall_mem_cons.mpr ⟨lw_p47, fun _ h => absurd h List.not_mem_nil⟩⟩⟩⟩⟩⟩⟩⟩⟩⟩⟩⟩⟩⟩⟩⟩
theorem lw_p48 : lw_okq (⟨"EdgesOffModel", "await", "(I)V"⟩, 30) := ⟨⟨by decide +kernel, by decide +kernel⟩, List.mem_of_getElem? (i := 769) (by decide +kernel), List.mem_of_getElem? (i := 1002) (by decide +kernel), List.mem_of_getElem? (i := 1003) (by decide +kernel)⟩
theorem lw_p49 : lw_okq (⟨"EdgesOffModel", "settle", "(I)V"⟩, 30) := ⟨⟨by decide +kernel, by decide +kernel⟩, List.mem_of_getElem? (i := 769) (by decide +kernel), List.mem_of_getElem? (i := 1006) (by decide +kernel), List.mem_of_getElem? (i := 1007) (by decide +kernel)⟩
theorem lw_p50 : lw_okq (⟨"EdgesOffModel", "between", "()I"⟩, 30) := ⟨⟨by decide +kernel, by decide +kernel⟩, List.mem_of_getElem? (i := 769) (by decide +kernel), List.mem_of_getElem? (i := 1010) (by decide +kernel), List.mem_of_getElem? (i := 1011) (by decide +kernel)⟩
theorem lw_p51 : lw_okq (⟨"EdgesOffModel", "goTide", "()V"⟩, 30) := ⟨⟨by decide +kernel, by decide +kernel⟩, List.mem_of_getElem? (i := 769) (by decide +kernel), List.mem_of_getElem? (i := 1022) (by decide +kernel), List.mem_of_getElem? (i := 1023) (by decide +kernel)⟩
theorem lw_p52 : lw_okq (⟨"EdgesOffModel", "rounds", "()I"⟩, 30) := ⟨⟨by decide +kernel, by decide +kernel⟩, List.mem_of_getElem? (i := 769) (by decide +kernel), List.mem_of_getElem? (i := 1027) (by decide +kernel), List.mem_of_getElem? (i := 1028) (by decide +kernel)⟩
theorem lw_p53 : lw_okq (⟨"EdgesOffModel", "keep", "([I)V"⟩, 30) := ⟨⟨by decide +kernel, by decide +kernel⟩, List.mem_of_getElem? (i := 769) (by decide +kernel), List.mem_of_getElem? (i := 1035) (by decide +kernel), List.mem_of_getElem? (i := 1036) (by decide +kernel)⟩
theorem lw_p54 : lw_okq (⟨"EdgesOffModel", "sharps", "()I"⟩, 30) := ⟨⟨by decide +kernel, by decide +kernel⟩, List.mem_of_getElem? (i := 769) (by decide +kernel), List.mem_of_getElem? (i := 1039) (by decide +kernel), List.mem_of_getElem? (i := 1040) (by decide +kernel)⟩
theorem lw_p55 : lw_okq (⟨"EdgesOffModel", "places", "()I"⟩, 30) := ⟨⟨by decide +kernel, by decide +kernel⟩, List.mem_of_getElem? (i := 769) (by decide +kernel), List.mem_of_getElem? (i := 1043) (by decide +kernel), List.mem_of_getElem? (i := 1044) (by decide +kernel)⟩
theorem lw_p56 : lw_okq (⟨"EdgesOffModel", "lay", "([I)V"⟩, 30) := ⟨⟨by decide +kernel, by decide +kernel⟩, List.mem_of_getElem? (i := 769) (by decide +kernel), List.mem_of_getElem? (i := 1047) (by decide +kernel), List.mem_of_getElem? (i := 1048) (by decide +kernel)⟩
theorem lw_p57 : lw_okq (⟨"EdgesOffModel", "when", "()I"⟩, 30) := ⟨⟨by decide +kernel, by decide +kernel⟩, List.mem_of_getElem? (i := 769) (by decide +kernel), List.mem_of_getElem? (i := 1055) (by decide +kernel), List.mem_of_getElem? (i := 1056) (by decide +kernel)⟩
theorem lw_p58 : lw_okq (⟨"EdgesOffModel", "farOut", "()I"⟩, 30) := ⟨⟨by decide +kernel, by decide +kernel⟩, List.mem_of_getElem? (i := 769) (by decide +kernel), List.mem_of_getElem? (i := 1059) (by decide +kernel), List.mem_of_getElem? (i := 1060) (by decide +kernel)⟩
theorem lw_p59 : lw_okq (⟨"EdgesOffModel", "isTwo", "(II)Z"⟩, 30) := ⟨⟨by decide +kernel, by decide +kernel⟩, List.mem_of_getElem? (i := 769) (by decide +kernel), List.mem_of_getElem? (i := 1067) (by decide +kernel), List.mem_of_getElem? (i := 1068) (by decide +kernel)⟩
theorem lw_p60 : lw_okq (⟨"EdgesOffModel", "hurts", "(I)Z"⟩, 30) := ⟨⟨by decide +kernel, by decide +kernel⟩, List.mem_of_getElem? (i := 769) (by decide +kernel), List.mem_of_getElem? (i := 1078) (by decide +kernel), List.mem_of_getElem? (i := 1079) (by decide +kernel)⟩
theorem lw_p61 : lw_okq (⟨"EdgesOffModel", "jarsBut", "(I)I"⟩, 30) := ⟨⟨by decide +kernel, by decide +kernel⟩, List.mem_of_getElem? (i := 769) (by decide +kernel), List.mem_of_getElem? (i := 1086) (by decide +kernel), List.mem_of_getElem? (i := 1087) (by decide +kernel)⟩
theorem lw_p62 : lw_okq (⟨"EdgesOffModel", "isUnlike", "(II)Z"⟩, 30) := ⟨⟨by decide +kernel, by decide +kernel⟩, List.mem_of_getElem? (i := 769) (by decide +kernel), List.mem_of_getElem? (i := 1090) (by decide +kernel), List.mem_of_getElem? (i := 1091) (by decide +kernel)⟩
theorem lw_p63 : lw_okq (⟨"EdgesOffModel", "fill", "(IIII)V"⟩, 30) := ⟨⟨by decide +kernel, by decide +kernel⟩, List.mem_of_getElem? (i := 769) (by decide +kernel), List.mem_of_getElem? (i := 1094) (by decide +kernel), List.mem_of_getElem? (i := 1095) (by decide +kernel)⟩
def lw_privs_4 : List (MethodName × Nat) := [(⟨"EdgesOffModel", "await", "(I)V"⟩, 30), (⟨"EdgesOffModel", "settle", "(I)V"⟩, 30), (⟨"EdgesOffModel", "between", "()I"⟩, 30), (⟨"EdgesOffModel", "goTide", "()V"⟩, 30), (⟨"EdgesOffModel", "rounds", "()I"⟩, 30), (⟨"EdgesOffModel", "keep", "([I)V"⟩, 30), (⟨"EdgesOffModel", "sharps", "()I"⟩, 30), (⟨"EdgesOffModel", "places", "()I"⟩, 30), (⟨"EdgesOffModel", "lay", "([I)V"⟩, 30), (⟨"EdgesOffModel", "when", "()I"⟩, 30), (⟨"EdgesOffModel", "farOut", "()I"⟩, 30), (⟨"EdgesOffModel", "isTwo", "(II)Z"⟩, 30), (⟨"EdgesOffModel", "hurts", "(I)Z"⟩, 30), (⟨"EdgesOffModel", "jarsBut", "(I)I"⟩, 30), (⟨"EdgesOffModel", "isUnlike", "(II)Z"⟩, 30), (⟨"EdgesOffModel", "fill", "(IIII)V"⟩, 30)]
theorem lw_r4 : ∀ q ∈ lw_privs_4, lw_okq q := List.forall_mem_cons.mpr ⟨lw_p48, List.forall_mem_cons.mpr ⟨lw_p49, List.forall_mem_cons.mpr ⟨lw_p50, List.forall_mem_cons.mpr ⟨lw_p51, List.forall_mem_cons.mpr ⟨lw_p52, List.forall_mem_cons.mpr ⟨lw_p53, List.forall_mem_cons.mpr ⟨lw_p54, List.forall_mem_cons.mpr ⟨lw_p55, List.forall_mem_cons.mpr ⟨lw_p56, List.forall_mem_cons.mpr ⟨lw_p57, List.forall_mem_cons.mpr ⟨lw_p58, List.forall_mem_cons.mpr ⟨lw_p59, List.forall_mem_cons.mpr ⟨lw_p60, List.forall_mem_cons.mpr ⟨lw_p61, List.forall_mem_cons.mpr ⟨lw_p62, List.forall_mem_cons.mpr ⟨lw_p63, fun _ h => absurd h List.not_mem_nil⟩⟩⟩⟩⟩⟩⟩⟩⟩⟩⟩⟩⟩⟩⟩⟩
theorem lw_p64 : lw_okq (⟨"EdgesOffModel", "pair", "(III)I"⟩, 30) := ⟨⟨by decide +kernel, by decide +kernel⟩, List.mem_of_getElem? (i := 769) (by decide +kernel), List.mem_of_getElem? (i := 1106) (by decide +kernel), List.mem_of_getElem? (i := 1107) (by decide +kernel)⟩
theorem lw_p65 : lw_okq (⟨"EdgesOffModel", "soon", "(I)I"⟩, 30) := ⟨⟨by decide +kernel, by decide +kernel⟩, List.mem_of_getElem? (i := 769) (by decide +kernel), List.mem_of_getElem? (i := 1114) (by decide +kernel), List.mem_of_getElem? (i := 1115) (by decide +kernel)⟩
theorem lw_p66 : lw_okq (⟨"EdgesOffModel", "otherwise", "(II)I"⟩, 30) := ⟨⟨by decide +kernel, by decide +kernel⟩, List.mem_of_getElem? (i := 769) (by decide +kernel), List.mem_of_getElem? (i := 1151) (by decide +kernel), List.mem_of_getElem? (i := 1152) (by decide +kernel)⟩
theorem lw_p67 : lw_okq (⟨"EdgesOffModel", "fits", "(IIII)I"⟩, 30) := ⟨⟨by decide +kernel, by decide +kernel⟩, List.mem_of_getElem? (i := 769) (by decide +kernel), List.mem_of_getElem? (i := 1155) (by decide +kernel), List.mem_of_getElem? (i := 1156) (by decide +kernel)⟩
theorem lw_p68 : lw_okq (⟨"EdgesOffModel", "sharpsBy", "(IIZ)I"⟩, 30) := ⟨⟨by decide +kernel, by decide +kernel⟩, List.mem_of_getElem? (i := 769) (by decide +kernel), List.mem_of_getElem? (i := 1159) (by decide +kernel), List.mem_of_getElem? (i := 1160) (by decide +kernel)⟩
theorem lw_p69 : lw_okq (⟨"EdgesOffModel", "cants", "()I"⟩, 30) := ⟨⟨by decide +kernel, by decide +kernel⟩, List.mem_of_getElem? (i := 769) (by decide +kernel), List.mem_of_getElem? (i := 1190) (by decide +kernel), List.mem_of_getElem? (i := 1191) (by decide +kernel)⟩
def lw_privs_5 : List (MethodName × Nat) := [(⟨"EdgesOffModel", "pair", "(III)I"⟩, 30), (⟨"EdgesOffModel", "soon", "(I)I"⟩, 30), (⟨"EdgesOffModel", "otherwise", "(II)I"⟩, 30), (⟨"EdgesOffModel", "fits", "(IIII)I"⟩, 30), (⟨"EdgesOffModel", "sharpsBy", "(IIZ)I"⟩, 30), (⟨"EdgesOffModel", "cants", "()I"⟩, 30)]
theorem lw_r5 : ∀ q ∈ lw_privs_5, lw_okq q := List.forall_mem_cons.mpr ⟨lw_p64, List.forall_mem_cons.mpr ⟨lw_p65, List.forall_mem_cons.mpr ⟨lw_p66, List.forall_mem_cons.mpr ⟨lw_p67, List.forall_mem_cons.mpr ⟨lw_p68, List.forall_mem_cons.mpr ⟨lw_p69, fun _ h => absurd h List.not_mem_nil⟩⟩⟩⟩⟩⟩
def lw_privs : List (MethodName × Nat) := lw_privs_1 ++ (lw_privs_2 ++ (lw_privs_3 ++ (lw_privs_4 ++ (lw_privs_5))))
def lw_tbl : List Cond := k2_sels lw_privs ++ tables_1
theorem lw_privs_ok : ∀ q ∈ lw_privs, lw_okq q := by
  show ∀ q ∈ lw_privs_1 ++ (lw_privs_2 ++ (lw_privs_3 ++ (lw_privs_4 ++ (lw_privs_5)))), lw_okq q
  exact List.forall_mem_append.mpr ⟨lw_r1, List.forall_mem_append.mpr ⟨lw_r2, List.forall_mem_append.mpr ⟨lw_r3, List.forall_mem_append.mpr ⟨lw_r4, lw_r5⟩⟩⟩⟩

def RX0 : String := "EdgesOff$Jars"
def TX0 : u_T := fun k => match k with
  | 0 => ("EdgesOff$Jars", "cant", "[I", true)
  | 1 => ("EdgesOff$Jars", "held", "[I", true)
  | 2 => ("EdgesOff$Jars", "jar", "[I", true)
  | _ => ("EdgesOff$Jars", "size", "I", false)
def tyX0 : Nat → FieldType := fun k => match k with
  | 0 => .array .int
  | 1 => .array .int
  | 2 => .array .int
  | _ => .int
abbrev wsX00 : List Cond := u_ws RX0 TX0 4
theorem nmX0 : ∀ a, a < 4 → ∀ b, b < 4 → a ≠ b → (TX0 a).2.1 ≠ (TX0 b).2.1 := by decide +kernel
theorem tyX0_ok : ∀ k, k < 4 → parseFieldDescriptor (TX0 k).2.2.1 = some (tyX0 k) := by decide +kernel
abbrev cX0_init : ByteArray := prog_2_method_1_code
def yX0_init : MethodName := ⟨RX0, "<init>", "()V"⟩
abbrev cX0_looksAt : ByteArray := prog_2_method_2_code
def yX0_looksAt : MethodName := ⟨RX0, "looksAt", "(LEdgesOff$Shore;)V"⟩
abbrev cX0_fewestWithout : ByteArray := prog_2_method_3_code
def yX0_fewestWithout : MethodName := ⟨RX0, "fewestWithout", "(I)I"⟩
abbrev cX0_isFilled : ByteArray := prog_2_method_4_code
def yX0_isFilled : MethodName := ⟨RX0, "isFilled", "(LEdgesOff$Jars;IIII)Z"⟩
abbrev cX0_digits : ByteArray := prog_2_method_5_code
def yX0_digits : MethodName := ⟨RX0, "digits", "()I"⟩
abbrev cX0_leftOut : ByteArray := prog_2_method_6_code
def yX0_leftOut : MethodName := ⟨RX0, "leftOut", "()I"⟩
abbrev cX0_fewestWithoutLeftOut : ByteArray := prog_2_method_7_code
def yX0_fewestWithoutLeftOut : MethodName := ⟨RX0, "fewestWithoutLeftOut", "()I"⟩
def RX1 : String := "EdgesOff$Reader"
def TX1 : u_T := fun k => match k with
  | 0 => ("EdgesOff$Reader", "tape", "[I", true)
  | 1 => ("EdgesOff$Reader", "size", "I", false)
  | 2 => ("EdgesOff$Reader", "fault", "I", false)
  | 3 => ("EdgesOff$Reader", "code", "[I", true)
  | 4 => ("EdgesOff$Reader", "length", "I", false)
  | 5 => ("EdgesOff$Reader", "at", "I", false)
  | 6 => ("EdgesOff$Reader", "start", "I", false)
  | 7 => ("EdgesOff$Reader", "token", "I", false)
  | _ => ("EdgesOff$Reader", "digits", "I", false)
def tyX1 : Nat → FieldType := fun k => match k with
  | 0 => .array .int
  | 1 => .int
  | 2 => .int
  | 3 => .array .int
  | 4 => .int
  | 5 => .int
  | 6 => .int
  | 7 => .int
  | _ => .int
abbrev wsX10 : List Cond := u_ws RX1 TX1 9
theorem nmX1 : ∀ a, a < 9 → ∀ b, b < 9 → a ≠ b → (TX1 a).2.1 ≠ (TX1 b).2.1 := by decide +kernel
theorem tyX1_ok : ∀ k, k < 9 → parseFieldDescriptor (TX1 k).2.2.1 = some (tyX1 k) := by decide +kernel
abbrev cX1_init : ByteArray := prog_3_method_1_code
def yX1_init : MethodName := ⟨RX1, "<init>", "()V"⟩
abbrev cX1_takes : ByteArray := prog_3_method_2_code
def yX1_takes : MethodName := ⟨RX1, "takes", "(I)Z"⟩
abbrev cX1_reads : ByteArray := prog_3_method_3_code
def yX1_reads : MethodName := ⟨RX1, "reads", "()LEdgesOff$Text;"⟩
abbrev cX1_wants : ByteArray := prog_3_method_4_code
def yX1_wants : MethodName := ⟨RX1, "wants", "(I)V"⟩
abbrev cX1_readsFrom : ByteArray := prog_3_method_5_code
def yX1_readsFrom : MethodName := ⟨RX1, "readsFrom", "(II)V"⟩
abbrev cX1_readsOne : ByteArray := prog_3_method_6_code
def yX1_readsOne : MethodName := ⟨RX1, "readsOne", "(I)V"⟩
abbrev cX1_readsBehind : ByteArray := prog_3_method_7_code
def yX1_readsBehind : MethodName := ⟨RX1, "readsBehind", "(III)V"⟩
abbrev cX1_levelJoinedBy : ByteArray := prog_3_method_8_code
def yX1_levelJoinedBy : MethodName := ⟨RX1, "levelJoinedBy", "(I)I"⟩
abbrev cX1_puts : ByteArray := prog_3_method_9_code
def yX1_puts : MethodName := ⟨RX1, "puts", "(I)V"⟩
abbrev cX1_goesOn : ByteArray := prog_3_method_10_code
def yX1_goesOn : MethodName := ⟨RX1, "goesOn", "()V"⟩
abbrev cX1_isLetter : ByteArray := prog_3_method_11_code
def yX1_isLetter : MethodName := ⟨RX1, "isLetter", "(I)Z"⟩
abbrev cX1_isDigit : ByteArray := prog_3_method_12_code
def yX1_isDigit : MethodName := ⟨RX1, "isDigit", "(I)Z"⟩
abbrev cX1_numberFromStart : ByteArray := prog_3_method_13_code
def yX1_numberFromStart : MethodName := ⟨RX1, "numberFromStart", "()I"⟩
abbrev cX1_wordFromStart : ByteArray := prog_3_method_14_code
def yX1_wordFromStart : MethodName := ⟨RX1, "wordFromStart", "()I"⟩
def RX2 : String := "EdgesOff$Row"
def TX2 : u_T := fun k => match k with
  | 0 => ("EdgesOff$Row", "items", "[I", true)
  | 1 => ("EdgesOff$Row", "sort", "I", false)
  | _ => ("EdgesOff$Row", "size", "I", false)
def tyX2 : Nat → FieldType := fun k => match k with
  | 0 => .array .int
  | 1 => .int
  | _ => .int
abbrev wsX20 : List Cond := u_ws RX2 TX2 3
theorem nmX2 : ∀ a, a < 3 → ∀ b, b < 3 → a ≠ b → (TX2 a).2.1 ≠ (TX2 b).2.1 := by decide +kernel
theorem tyX2_ok : ∀ k, k < 3 → parseFieldDescriptor (TX2 k).2.2.1 = some (tyX2 k) := by decide +kernel
abbrev cX2_init : ByteArray := prog_4_method_1_code
def yX2_init : MethodName := ⟨RX2, "<init>", "()V"⟩
abbrev cX2_becomes : ByteArray := prog_4_method_2_code
def yX2_becomes : MethodName := ⟨RX2, "becomes", "(II)V"⟩
abbrev cX2_isMissing : ByteArray := prog_4_method_3_code
def yX2_isMissing : MethodName := ⟨RX2, "isMissing", "()Z"⟩
abbrev cX2_has : ByteArray := prog_4_method_4_code
def yX2_has : MethodName := ⟨RX2, "has", "(II)Z"⟩
abbrev cX2_isAllIn : ByteArray := prog_4_method_5_code
def yX2_isAllIn : MethodName := ⟨RX2, "isAllIn", "(II)Z"⟩
abbrev cX2_puts : ByteArray := prog_4_method_6_code
def yX2_puts : MethodName := ⟨RX2, "puts", "(II)V"⟩
def RX3 : String := "EdgesOff$Shore"
def TX3 : u_T := fun k => match k with
  | 0 => ("EdgesOff$Shore", "texts", "LEdgesOff$Texts;", true)
  | 1 => ("EdgesOff$Shore", "number", "[I", true)
  | 2 => ("EdgesOff$Shore", "sharp", "[I", true)
  | 3 => ("EdgesOff$Shore", "place", "[I", true)
  | 4 => ("EdgesOff$Shore", "side", "[I", true)
  | 5 => ("EdgesOff$Shore", "kind", "[I", true)
  | 6 => ("EdgesOff$Shore", "worn", "[I", true)
  | 7 => ("EdgesOff$Shore", "on", "[I", true)
  | 8 => ("EdgesOff$Shore", "size", "I", false)
  | 9 => ("EdgesOff$Shore", "tides", "I", false)
  | _ => ("EdgesOff$Shore", "rule", "I", false)
def tyX3 : Nat → FieldType := fun k => match k with
  | 0 => .object "EdgesOff$Texts"
  | 1 => .array .int
  | 2 => .array .int
  | 3 => .array .int
  | 4 => .array .int
  | 5 => .array .int
  | 6 => .array .int
  | 7 => .array .int
  | 8 => .int
  | 9 => .int
  | _ => .int
abbrev wsX30 : List Cond := u_ws RX3 TX3 11
theorem nmX3 : ∀ a, a < 11 → ∀ b, b < 11 → a ≠ b → (TX3 a).2.1 ≠ (TX3 b).2.1 := by decide +kernel
theorem tyX3_ok : ∀ k, k < 11 → parseFieldDescriptor (TX3 k).2.2.1 = some (tyX3 k) := by decide +kernel
abbrev cX3_init : ByteArray := prog_5_method_1_code
def yX3_init : MethodName := ⟨RX3, "<init>", "(LEdgesOff$Texts;)V"⟩
abbrev cX3_becomes : ByteArray := prog_5_method_2_code
def yX3_becomes : MethodName := ⟨RX3, "becomes", "(LEdgesOff$Shore;)V"⟩
abbrev cX3_valuesOf : ByteArray := prog_5_method_3_code
def yX3_valuesOf : MethodName := ⟨RX3, "valuesOf", "(I)[I"⟩
abbrev cX3_adds : ByteArray := prog_5_method_4_code
def yX3_adds : MethodName := ⟨RX3, "adds", "(IIII)I"⟩
abbrev cX3_passes : ByteArray := prog_5_method_5_code
def yX3_passes : MethodName := ⟨RX3, "passes", "()V"⟩
abbrev cX3_wornOff : ByteArray := prog_5_method_6_code
def yX3_wornOff : MethodName := ⟨RX3, "wornOff", "(I)I"⟩
abbrev cX3_wornByKind : ByteArray := prog_5_method_7_code
def yX3_wornByKind : MethodName := ⟨RX3, "wornByKind", "(II)I"⟩
abbrev cX3_carriedOn : ByteArray := prog_5_method_8_code
def yX3_carriedOn : MethodName := ⟨RX3, "carriedOn", "(I)I"⟩
abbrev cX3_isClashing : ByteArray := prog_5_method_9_code
def yX3_isClashing : MethodName := ⟨RX3, "isClashing", "(II)Z"⟩
abbrev cX3_isYesAcross : ByteArray := prog_5_method_10_code
def yX3_isYesAcross : MethodName := ⟨RX3, "isYesAcross", "(II)Z"⟩
abbrev cX3_isYes : ByteArray := prog_5_method_11_code
def yX3_isYes : MethodName := ⟨RX3, "isYes", "(II)Z"⟩
abbrev cX3_namesAlone : ByteArray := prog_5_method_12_code
def yX3_namesAlone : MethodName := ⟨RX3, "namesAlone", "(I)V"⟩
abbrev cX3_othersWith : ByteArray := prog_5_method_13_code
def yX3_othersWith : MethodName := ⟨RX3, "othersWith", "(I)I"⟩
abbrev cX3_whichAt : ByteArray := prog_5_method_14_code
def yX3_whichAt : MethodName := ⟨RX3, "whichAt", "(I)I"⟩
abbrev cX3_whichClash : ByteArray := prog_5_method_15_code
def yX3_whichClash : MethodName := ⟨RX3, "whichClash", "(I)I"⟩
abbrev cX3_isApartByClash : ByteArray := prog_5_method_16_code
def yX3_isApartByClash : MethodName := ⟨RX3, "isApartByClash", "(II)Z"⟩
abbrev cX3_howManyApartByClash : ByteArray := prog_5_method_17_code
def yX3_howManyApartByClash : MethodName := ⟨RX3, "howManyApartByClash", "()I"⟩
abbrev cX3_wereOne : ByteArray := prog_5_method_18_code
def yX3_wereOne : MethodName := ⟨RX3, "wereOne", "(III)Z"⟩
abbrev cX3_hurtsAt : ByteArray := prog_5_method_19_code
def yX3_hurtsAt : MethodName := ⟨RX3, "hurtsAt", "(I)Z"⟩
abbrev cX3_howManyRound : ByteArray := prog_5_method_20_code
def yX3_howManyRound : MethodName := ⟨RX3, "howManyRound", "()I"⟩
abbrev cX3_howManyPlaces : ByteArray := prog_5_method_21_code
def yX3_howManyPlaces : MethodName := ⟨RX3, "howManyPlaces", "()I"⟩
abbrev cX3_sharpTogether : ByteArray := prog_5_method_22_code
def yX3_sharpTogether : MethodName := ⟨RX3, "sharpTogether", "()I"⟩
abbrev cX3_farthestOut : ByteArray := prog_5_method_23_code
def yX3_farthestOut : MethodName := ⟨RX3, "farthestOut", "()I"⟩
def RX4 : String := "EdgesOff$Text"
def TX4 : u_T := fun k => match k with
  | 0 => ("EdgesOff$Text", "code", "[I", true)
  | 1 => ("EdgesOff$Text", "carriesAt", "I", true)
  | _ => ("EdgesOff$Text", "clashesAt", "I", true)
def tyX4 : Nat → FieldType := fun k => match k with
  | 0 => .array .int
  | 1 => .int
  | _ => .int
abbrev wsX40 : List Cond := u_ws RX4 TX4 3
theorem nmX4 : ∀ a, a < 3 → ∀ b, b < 3 → a ≠ b → (TX4 a).2.1 ≠ (TX4 b).2.1 := by decide +kernel
theorem tyX4_ok : ∀ k, k < 3 → parseFieldDescriptor (TX4 k).2.2.1 = some (tyX4 k) := by decide +kernel
abbrev cX4_init : ByteArray := prog_6_method_1_code
def yX4_init : MethodName := ⟨RX4, "<init>", "([III)V"⟩
abbrev cX4_startOf : ByteArray := prog_6_method_2_code
def yX4_startOf : MethodName := ⟨RX4, "startOf", "(I)I"⟩
abbrev cX4_endOf : ByteArray := prog_6_method_3_code
def yX4_endOf : MethodName := ⟨RX4, "endOf", "(I)I"⟩
def RX5 : String := "EdgesOff$Texts"
def TX5 : u_T := fun k => match k with
  | 0 => ("EdgesOff$Texts", "list", "[LEdgesOff$Text;", true)
  | 1 => ("EdgesOff$Texts", "values", "[I", true)
  | 2 => ("EdgesOff$Texts", "stack", "[I", true)
  | _ => ("EdgesOff$Texts", "size", "I", false)
def tyX5 : Nat → FieldType := fun k => match k with
  | 0 => .array (.object "EdgesOff$Text")
  | 1 => .array .int
  | 2 => .array .int
  | _ => .int
abbrev wsX50 : List Cond := u_ws RX5 TX5 4
theorem nmX5 : ∀ a, a < 4 → ∀ b, b < 4 → a ≠ b → (TX5 a).2.1 ≠ (TX5 b).2.1 := by decide +kernel
theorem tyX5_ok : ∀ k, k < 4 → parseFieldDescriptor (TX5 k).2.2.1 = some (tyX5 k) := by decide +kernel
abbrev cX5_init : ByteArray := prog_7_method_1_code
def yX5_init : MethodName := ⟨RX5, "<init>", "()V"⟩
abbrev cX5_adds : ByteArray := prog_7_method_2_code
def yX5_adds : MethodName := ⟨RX5, "adds", "(LEdgesOff$Text;)I"⟩
abbrev cX5_names : ByteArray := prog_7_method_3_code
def yX5_names : MethodName := ⟨RX5, "names", "(IIIIII)V"⟩
abbrev cX5_valueOf : ByteArray := prog_7_method_4_code
def yX5_valueOf : MethodName := ⟨RX5, "valueOf", "(II)I"⟩
abbrev cX5_alone : ByteArray := prog_7_method_5_code
def yX5_alone : MethodName := ⟨RX5, "alone", "(II)I"⟩
abbrev cX5_joined : ByteArray := prog_7_method_6_code
def yX5_joined : MethodName := ⟨RX5, "joined", "(III)I"⟩
def RX6 : String := "EdgesOff"
def TX6 : u_T := fun k => match k with
  | 0 => ("EdgesOff", "texts", "LEdgesOff$Texts;", true)
  | 1 => ("EdgesOff", "reader", "LEdgesOff$Reader;", true)
  | 2 => ("EdgesOff", "now", "LEdgesOff$Shore;", true)
  | 3 => ("EdgesOff", "thought", "LEdgesOff$Shore;", true)
  | 4 => ("EdgesOff", "kept", "LEdgesOff$Shore;", true)
  | 5 => ("EdgesOff", "jarring", "LEdgesOff$Jars;", true)
  | 6 => ("EdgesOff", "rows", "[LEdgesOff$Row;", true)
  | _ => ("EdgesOff", "isKept", "Z", false)
def tyX6 : Nat → FieldType := fun k => match k with
  | 0 => .object "EdgesOff$Texts"
  | 1 => .object "EdgesOff$Reader"
  | 2 => .object "EdgesOff$Shore"
  | 3 => .object "EdgesOff$Shore"
  | 4 => .object "EdgesOff$Shore"
  | 5 => .object "EdgesOff$Jars"
  | 6 => .array (.object "EdgesOff$Row")
  | _ => .boolean
abbrev wsX60 : List Cond := u_ws RX6 TX6 8
theorem nmX6 : ∀ a, a < 8 → ∀ b, b < 8 → a ≠ b → (TX6 a).2.1 ≠ (TX6 b).2.1 := by decide +kernel
theorem tyX6_ok : ∀ k, k < 8 → parseFieldDescriptor (TX6 k).2.2.1 = some (tyX6 k) := by decide +kernel
abbrev cX6_init : ByteArray := prog_1_method_1_code
def yX6_init : MethodName := ⟨RX6, "<init>", "()V"⟩
abbrev cX6_set : ByteArray := prog_1_method_2_code
def yX6_set : MethodName := ⟨RX6, "set", "(III)I"⟩
abbrev cX6_piece : ByteArray := prog_1_method_3_code
def yX6_piece : MethodName := ⟨RX6, "piece", "(IIII)I"⟩
abbrev cX6_told : ByteArray := prog_1_method_4_code
def yX6_told : MethodName := ⟨RX6, "told", "(II)I"⟩
abbrev cX6_carried : ByteArray := prog_1_method_5_code
def yX6_carried : MethodName := ⟨RX6, "carried", "(I)I"⟩
abbrev cX6_feed : ByteArray := prog_1_method_6_code
def yX6_feed : MethodName := ⟨RX6, "feed", "(I)I"⟩
abbrev cX6_text : ByteArray := prog_1_method_7_code
def yX6_text : MethodName := ⟨RX6, "text", "()I"⟩
abbrev cX6_force : ByteArray := prog_1_method_8_code
def yX6_force : MethodName := ⟨RX6, "force", "(I)I"⟩
abbrev cX6_tide : ByteArray := prog_1_method_9_code
def yX6_tide : MethodName := ⟨RX6, "tide", "()I"⟩
abbrev cX6_run : ByteArray := prog_1_method_10_code
def yX6_run : MethodName := ⟨RX6, "run", "(III)I"⟩
abbrev cX6_all : ByteArray := prog_1_method_11_code
def yX6_all : MethodName := ⟨RX6, "all", "(I)I"⟩
abbrev cX6_meet : ByteArray := prog_1_method_12_code
def yX6_meet : MethodName := ⟨RX6, "meet", "(II)I"⟩
abbrev cX6_walk : ByteArray := prog_1_method_13_code
def yX6_walk : MethodName := ⟨RX6, "walk", "(I)I"⟩
abbrev cX6_jars : ByteArray := prog_1_method_14_code
def yX6_jars : MethodName := ⟨RX6, "jars", "(I)I"⟩
abbrev cX6_can : ByteArray := prog_1_method_15_code
def yX6_can : MethodName := ⟨RX6, "can", "(II)I"⟩
abbrev cX6_twos : ByteArray := prog_1_method_16_code
def yX6_twos : MethodName := ⟨RX6, "twos", "(I)I"⟩
abbrev cX6_toss : ByteArray := prog_1_method_17_code
def yX6_toss : MethodName := ⟨RX6, "toss", "(II)I"⟩
abbrev cX6_mean : ByteArray := prog_1_method_18_code
def yX6_mean : MethodName := ⟨RX6, "mean", "(I)J"⟩
abbrev cX6_tells : ByteArray := prog_1_method_19_code
def yX6_tells : MethodName := ⟨RX6, "tells", "(III)I"⟩
abbrev cX6_film : ByteArray := prog_1_method_20_code
def yX6_film : MethodName := ⟨RX6, "film", "(III)I"⟩
abbrev cX6_drawn : ByteArray := prog_1_method_21_code
def yX6_drawn : MethodName := ⟨RX6, "drawn", "(II)I"⟩
abbrev cX6_chance : ByteArray := prog_1_method_22_code
def yX6_chance : MethodName := ⟨RX6, "chance", "(IIII)J"⟩
abbrev cX6_image : ByteArray := prog_1_method_23_code
def yX6_image : MethodName := ⟨RX6, "image", "()I"⟩
abbrev cX6_back : ByteArray := prog_1_method_24_code
def yX6_back : MethodName := ⟨RX6, "back", "()I"⟩
abbrev cX6_count : ByteArray := prog_1_method_25_code
def yX6_count : MethodName := ⟨RX6, "count", "(I)I"⟩
abbrev cX6_sheet : ByteArray := prog_1_method_26_code
def yX6_sheet : MethodName := ⟨RX6, "sheet", "(III)I"⟩
abbrev cX6_cell : ByteArray := prog_1_method_27_code
def yX6_cell : MethodName := ⟨RX6, "cell", "(III)I"⟩
abbrev cX6_copy : ByteArray := prog_1_method_28_code
def yX6_copy : MethodName := ⟨RX6, "copy", "(IIIII)I"⟩
abbrev cX6_finds : ByteArray := prog_1_method_29_code
def yX6_finds : MethodName := ⟨RX6, "finds", "(IIII)I"⟩
abbrev cX6_taken : ByteArray := prog_1_method_30_code
def yX6_taken : MethodName := ⟨RX6, "taken", "(II)I"⟩
abbrev cX6_isIn : ByteArray := prog_1_method_31_code
def yX6_isIn : MethodName := ⟨RX6, "isIn", "(III)Z"⟩
abbrev cX6_isPiece : ByteArray := prog_1_method_32_code
def yX6_isPiece : MethodName := ⟨RX6, "isPiece", "(I)Z"⟩
abbrev cX6_areTwo : ByteArray := prog_1_method_33_code
def yX6_areTwo : MethodName := ⟨RX6, "areTwo", "(II)Z"⟩
abbrev cX6_isSheet : ByteArray := prog_1_method_34_code
def yX6_isSheet : MethodName := ⟨RX6, "isSheet", "(I)Z"⟩
abbrev cX6_isOfKind : ByteArray := prog_1_method_35_code
def yX6_isOfKind : MethodName := ⟨RX6, "isOfKind", "(II)Z"⟩
abbrev cX6_bounded : ByteArray := prog_1_method_36_code
def yX6_bounded : MethodName := ⟨RX6, "bounded", "(III)I"⟩
abbrev cX6_apart : ByteArray := prog_1_method_37_code
def yX6_apart : MethodName := ⟨RX6, "apart", "(II)I"⟩
abbrev cX6_inLowestTerms : ByteArray := prog_1_method_38_code
def yX6_inLowestTerms : MethodName := ⟨RX6, "inLowestTerms", "(III)J"⟩
abbrev cX6_behindWhichAllAreRound : ByteArray := prog_1_method_39_code
def yX6_behindWhichAllAreRound : MethodName := ⟨RX6, "behindWhichAllAreRound", "()I"⟩
abbrev cX6_behindWhichRoundFrom : ByteArray := prog_1_method_40_code
def yX6_behindWhichRoundFrom : MethodName := ⟨RX6, "behindWhichRoundFrom", "(III)I"⟩
abbrev cX6_howManyRoundBySeed : ByteArray := prog_1_method_41_code
def yX6_howManyRoundBySeed : MethodName := ⟨RX6, "howManyRoundBySeed", "(II)I"⟩
abbrev cX6_mostTwos : ByteArray := prog_1_method_42_code
def yX6_mostTwos : MethodName := ⟨RX6, "mostTwos", "(LEdgesOff$Shore;III)I"⟩
abbrev cX6_firstOtherwise : ByteArray := prog_1_method_43_code
def yX6_firstOtherwise : MethodName := ⟨RX6, "firstOtherwise", "(LEdgesOff$Row;I)I"⟩
abbrev cX6_isSoWith : ByteArray := prog_1_method_44_code
def yX6_isSoWith : MethodName := ⟨RX6, "isSoWith", "(LEdgesOff$Row;III)Z"⟩
abbrev cX6_whichAreSo : ByteArray := prog_1_method_45_code
def yX6_whichAreSo : MethodName := ⟨RX6, "whichAreSo", "(LEdgesOff$Row;II)I"⟩
abbrev cX6_howManySharpsAreSo : ByteArray := prog_1_method_46_code
def yX6_howManySharpsAreSo : MethodName := ⟨RX6, "howManySharpsAreSo", "(LEdgesOff$Row;I)I"⟩
abbrev cX6_leastSharpThatIsSo : ByteArray := prog_1_method_47_code
def yX6_leastSharpThatIsSo : MethodName := ⟨RX6, "leastSharpThatIsSo", "(LEdgesOff$Row;I)I"⟩
abbrev cX6_whichTextsAreSo : ByteArray := prog_1_method_48_code
def yX6_whichTextsAreSo : MethodName := ⟨RX6, "whichTextsAreSo", "(LEdgesOff$Row;I)I"⟩
abbrev cX6_whichPiecesAreSo : ByteArray := prog_1_method_49_code
def yX6_whichPiecesAreSo : MethodName := ⟨RX6, "whichPiecesAreSo", "(LEdgesOff$Row;)I"⟩
def RX7 : String := "EdgesOffModel"
def TX7 : u_T := fun k => match k with
  | 0 => ("EdgesOffModel", "now", "[I", true)
  | 1 => ("EdgesOffModel", "kept", "[I", true)
  | 2 => ("EdgesOffModel", "mind", "[I", true)
  | 3 => ("EdgesOffModel", "isKept", "Z", false)
  | 4 => ("EdgesOffModel", "tape", "[I", true)
  | 5 => ("EdgesOffModel", "size", "I", false)
  | 6 => ("EdgesOffModel", "at", "I", false)
  | 7 => ("EdgesOffModel", "from", "I", false)
  | 8 => ("EdgesOffModel", "sort", "I", false)
  | 9 => ("EdgesOffModel", "open", "I", false)
  | 10 => ("EdgesOffModel", "code", "[I", true)
  | 11 => ("EdgesOffModel", "ends", "[I", true)
  | 12 => ("EdgesOffModel", "texts", "I", false)
  | 13 => ("EdgesOffModel", "wrote", "I", false)
  | 14 => ("EdgesOffModel", "names", "[C", true)
  | 15 => ("EdgesOffModel", "waiting", "[I", true)
  | 16 => ("EdgesOffModel", "waits", "I", false)
  | 17 => ("EdgesOffModel", "row", "[I", true)
  | 18 => ("EdgesOffModel", "off", "[I", true)
  | 19 => ("EdgesOffModel", "on", "[I", true)
  | 20 => ("EdgesOffModel", "unlike", "[I", true)
  | 21 => ("EdgesOffModel", "jars", "[I", true)
  | 22 => ("EdgesOffModel", "fewest", "I", false)
  | 23 => ("EdgesOffModel", "digits", "I", false)
  | 24 => ("EdgesOffModel", "sorts", "[I", true)
  | 25 => ("EdgesOffModel", "sizes", "[I", true)
  | 26 => ("EdgesOffModel", "cells", "[I", true)
  | 27 => ("EdgesOffModel", "moved", "[I", true)
  | 28 => ("EdgesOffModel", "above", "[I", true)
  | _ => ("EdgesOffModel", "fit", "[Z", true)
def tyX7 : Nat → FieldType := fun k => match k with
  | 0 => .array .int
  | 1 => .array .int
  | 2 => .array .int
  | 3 => .boolean
  | 4 => .array .int
  | 5 => .int
  | 6 => .int
  | 7 => .int
  | 8 => .int
  | 9 => .int
  | 10 => .array .int
  | 11 => .array .int
  | 12 => .int
  | 13 => .int
  | 14 => .array .char
  | 15 => .array .int
  | 16 => .int
  | 17 => .array .int
  | 18 => .array .int
  | 19 => .array .int
  | 20 => .array .int
  | 21 => .array .int
  | 22 => .int
  | 23 => .int
  | 24 => .array .int
  | 25 => .array .int
  | 26 => .array .int
  | 27 => .array .int
  | 28 => .array .int
  | _ => .array .boolean
abbrev wsX70 : List Cond := u_ws RX7 TX7 30
theorem nmX7 : ∀ a, a < 30 → ∀ b, b < 30 → a ≠ b → (TX7 a).2.1 ≠ (TX7 b).2.1 := by decide +kernel
theorem tyX7_ok : ∀ k, k < 30 → parseFieldDescriptor (TX7 k).2.2.1 = some (tyX7 k) := by decide +kernel
abbrev cX7_init : ByteArray := prog_9_method_1_code
def yX7_init : MethodName := ⟨RX7, "<init>", "()V"⟩
abbrev cX7_isIn : ByteArray := prog_9_method_2_code
def yX7_isIn : MethodName := ⟨RX7, "isIn", "(III)Z"⟩
abbrev cX7_bound : ByteArray := prog_9_method_3_code
def yX7_bound : MethodName := ⟨RX7, "bound", "(III)I"⟩
abbrev cX7_keep : ByteArray := prog_9_method_4_code
def yX7_keep : MethodName := ⟨RX7, "keep", "([I)V"⟩
abbrev cX7_lay : ByteArray := prog_9_method_5_code
def yX7_lay : MethodName := ⟨RX7, "lay", "([I)V"⟩
abbrev cX7_many : ByteArray := prog_9_method_6_code
def yX7_many : MethodName := ⟨RX7, "many", "()I"⟩
abbrev cX7_isPiece : ByteArray := prog_9_method_7_code
def yX7_isPiece : MethodName := ⟨RX7, "isPiece", "(I)Z"⟩
abbrev cX7_of : ByteArray := prog_9_method_8_code
def yX7_of : MethodName := ⟨RX7, "of", "(II)I"⟩
abbrev cX7_change : ByteArray := prog_9_method_9_code
def yX7_change : MethodName := ⟨RX7, "change", "(III)V"⟩
abbrev cX7_apart : ByteArray := prog_9_method_10_code
def yX7_apart : MethodName := ⟨RX7, "apart", "(II)I"⟩
abbrev cX7_place : ByteArray := prog_9_method_11_code
def yX7_place : MethodName := ⟨RX7, "place", "(II)I"⟩
abbrev cX7_set : ByteArray := prog_9_method_12_code
def yX7_set : MethodName := ⟨RX7, "set", "(III)I"⟩
abbrev cX7_piece : ByteArray := prog_9_method_13_code
def yX7_piece : MethodName := ⟨RX7, "piece", "(IIII)I"⟩
abbrev cX7_lying : ByteArray := prog_9_method_14_code
def yX7_lying : MethodName := ⟨RX7, "lying", "(I)I"⟩
abbrev cX7_clashing : ByteArray := prog_9_method_15_code
def yX7_clashing : MethodName := ⟨RX7, "clashing", "(I)I"⟩
abbrev cX7_told : ByteArray := prog_9_method_16_code
def yX7_told : MethodName := ⟨RX7, "told", "(II)I"⟩
abbrev cX7_carried : ByteArray := prog_9_method_17_code
def yX7_carried : MethodName := ⟨RX7, "carried", "(I)I"⟩
abbrev cX7_firstText : ByteArray := prog_9_method_18_code
def yX7_firstText : MethodName := ⟨RX7, "firstText", "()I"⟩
abbrev cX7_feed : ByteArray := prog_9_method_19_code
def yX7_feed : MethodName := ⟨RX7, "feed", "(I)I"⟩
abbrev cX7_sortAt : ByteArray := prog_9_method_20_code
def yX7_sortAt : MethodName := ⟨RX7, "sortAt", "(I)I"⟩
abbrev cX7_next : ByteArray := prog_9_method_21_code
def yX7_next : MethodName := ⟨RX7, "next", "()V"⟩
abbrev cX7_word : ByteArray := prog_9_method_22_code
def yX7_word : MethodName := ⟨RX7, "word", "()I"⟩
abbrev cX7_isSign : ByteArray := prog_9_method_23_code
def yX7_isSign : MethodName := ⟨RX7, "isSign", "(I)Z"⟩
abbrev cX7_write : ByteArray := prog_9_method_24_code
def yX7_write : MethodName := ⟨RX7, "write", "(I)V"⟩
abbrev cX7_rank : ByteArray := prog_9_method_25_code
def yX7_rank : MethodName := ⟨RX7, "rank", "(I)I"⟩
abbrev cX7_await : ByteArray := prog_9_method_26_code
def yX7_await : MethodName := ⟨RX7, "await", "(I)V"⟩
abbrev cX7_last : ByteArray := prog_9_method_27_code
def yX7_last : MethodName := ⟨RX7, "last", "()I"⟩
abbrev cX7_settle : ByteArray := prog_9_method_28_code
def yX7_settle : MethodName := ⟨RX7, "settle", "(I)V"⟩
abbrev cX7_between : ByteArray := prog_9_method_29_code
def yX7_between : MethodName := ⟨RX7, "between", "()I"⟩
abbrev cX7_numberThere : ByteArray := prog_9_method_30_code
def yX7_numberThere : MethodName := ⟨RX7, "numberThere", "()I"⟩
abbrev cX7_begin : ByteArray := prog_9_method_31_code
def yX7_begin : MethodName := ⟨RX7, "begin", "()I"⟩
abbrev cX7_isE : ByteArray := prog_9_method_32_code
def yX7_isE : MethodName := ⟨RX7, "isE", "()Z"⟩
abbrev cX7_isText : ByteArray := prog_9_method_33_code
def yX7_isText : MethodName := ⟨RX7, "isText", "()Z"⟩
abbrev cX7_text : ByteArray := prog_9_method_34_code
def yX7_text : MethodName := ⟨RX7, "text", "()I"⟩
abbrev cX7_force : ByteArray := prog_9_method_35_code
def yX7_force : MethodName := ⟨RX7, "force", "(I)I"⟩
abbrev cX7_yes : ByteArray := prog_9_method_36_code
def yX7_yes : MethodName := ⟨RX7, "yes", "(Z)I"⟩
abbrev cX7_deed : ByteArray := prog_9_method_37_code
def yX7_deed : MethodName := ⟨RX7, "deed", "(III)I"⟩
abbrev cX7_tell : ByteArray := prog_9_method_38_code
def yX7_tell : MethodName := ⟨RX7, "tell", "(III)I"⟩
abbrev cX7_wears : ByteArray := prog_9_method_39_code
def yX7_wears : MethodName := ⟨RX7, "wears", "(I)I"⟩
abbrev cX7_carries : ByteArray := prog_9_method_40_code
def yX7_carries : MethodName := ⟨RX7, "carries", "(I)I"⟩
abbrev cX7_clashes : ByteArray := prog_9_method_41_code
def yX7_clashes : MethodName := ⟨RX7, "clashes", "(II)Z"⟩
abbrev cX7_goTide : ByteArray := prog_9_method_42_code
def yX7_goTide : MethodName := ⟨RX7, "goTide", "()V"⟩
abbrev cX7_rounds : ByteArray := prog_9_method_43_code
def yX7_rounds : MethodName := ⟨RX7, "rounds", "()I"⟩
abbrev cX7_sharps : ByteArray := prog_9_method_44_code
def yX7_sharps : MethodName := ⟨RX7, "sharps", "()I"⟩
abbrev cX7_places : ByteArray := prog_9_method_45_code
def yX7_places : MethodName := ⟨RX7, "places", "()I"⟩
abbrev cX7_tide : ByteArray := prog_9_method_46_code
def yX7_tide : MethodName := ⟨RX7, "tide", "()I"⟩
abbrev cX7_run : ByteArray := prog_9_method_47_code
def yX7_run : MethodName := ⟨RX7, "run", "(III)I"⟩
abbrev cX7_when : ByteArray := prog_9_method_48_code
def yX7_when : MethodName := ⟨RX7, "when", "()I"⟩
abbrev cX7_farOut : ByteArray := prog_9_method_49_code
def yX7_farOut : MethodName := ⟨RX7, "farOut", "()I"⟩
abbrev cX7_all : ByteArray := prog_9_method_50_code
def yX7_all : MethodName := ⟨RX7, "all", "(I)I"⟩
abbrev cX7_isTwo : ByteArray := prog_9_method_51_code
def yX7_isTwo : MethodName := ⟨RX7, "isTwo", "(II)Z"⟩
abbrev cX7_meet : ByteArray := prog_9_method_52_code
def yX7_meet : MethodName := ⟨RX7, "meet", "(II)I"⟩
abbrev cX7_hurts : ByteArray := prog_9_method_53_code
def yX7_hurts : MethodName := ⟨RX7, "hurts", "(I)Z"⟩
abbrev cX7_walk : ByteArray := prog_9_method_54_code
def yX7_walk : MethodName := ⟨RX7, "walk", "(I)I"⟩
abbrev cX7_isUnlike : ByteArray := prog_9_method_55_code
def yX7_isUnlike : MethodName := ⟨RX7, "isUnlike", "(II)Z"⟩
abbrev cX7_fill : ByteArray := prog_9_method_56_code
def yX7_fill : MethodName := ⟨RX7, "fill", "(IIII)V"⟩
abbrev cX7_jarsBut : ByteArray := prog_9_method_57_code
def yX7_jarsBut : MethodName := ⟨RX7, "jarsBut", "(I)I"⟩
abbrev cX7_jars : ByteArray := prog_9_method_58_code
def yX7_jars : MethodName := ⟨RX7, "jars", "(I)I"⟩
abbrev cX7_can : ByteArray := prog_9_method_59_code
def yX7_can : MethodName := ⟨RX7, "can", "(II)I"⟩
abbrev cX7_pair : ByteArray := prog_9_method_60_code
def yX7_pair : MethodName := ⟨RX7, "pair", "(III)I"⟩
abbrev cX7_twos : ByteArray := prog_9_method_61_code
def yX7_twos : MethodName := ⟨RX7, "twos", "(I)I"⟩
abbrev cX7_soon : ByteArray := prog_9_method_62_code
def yX7_soon : MethodName := ⟨RX7, "soon", "(I)I"⟩
abbrev cX7_toss : ByteArray := prog_9_method_63_code
def yX7_toss : MethodName := ⟨RX7, "toss", "(II)I"⟩
abbrev cX7_gcd : ByteArray := prog_9_method_64_code
def yX7_gcd : MethodName := ⟨RX7, "gcd", "(JJ)J"⟩
abbrev cX7_mean : ByteArray := prog_9_method_65_code
def yX7_mean : MethodName := ⟨RX7, "mean", "(I)J"⟩
abbrev cX7_isSheet : ByteArray := prog_9_method_66_code
def yX7_isSheet : MethodName := ⟨RX7, "isSheet", "(I)Z"⟩
abbrev cX7_sheet : ByteArray := prog_9_method_67_code
def yX7_sheet : MethodName := ⟨RX7, "sheet", "(III)I"⟩
abbrev cX7_cell : ByteArray := prog_9_method_68_code
def yX7_cell : MethodName := ⟨RX7, "cell", "(III)I"⟩
abbrev cX7_copy : ByteArray := prog_9_method_69_code
def yX7_copy : MethodName := ⟨RX7, "copy", "(IIIII)I"⟩
abbrev cX7_finds : ByteArray := prog_9_method_70_code
def yX7_finds : MethodName := ⟨RX7, "finds", "(IIII)I"⟩
abbrev cX7_taken : ByteArray := prog_9_method_71_code
def yX7_taken : MethodName := ⟨RX7, "taken", "(II)I"⟩
abbrev cX7_otherwise : ByteArray := prog_9_method_72_code
def yX7_otherwise : MethodName := ⟨RX7, "otherwise", "(II)I"⟩
abbrev cX7_fits : ByteArray := prog_9_method_73_code
def yX7_fits : MethodName := ⟨RX7, "fits", "(IIII)I"⟩
abbrev cX7_sharpsBy : ByteArray := prog_9_method_74_code
def yX7_sharpsBy : MethodName := ⟨RX7, "sharpsBy", "(IIZ)I"⟩
abbrev cX7_tells : ByteArray := prog_9_method_75_code
def yX7_tells : MethodName := ⟨RX7, "tells", "(III)I"⟩
abbrev cX7_film : ByteArray := prog_9_method_76_code
def yX7_film : MethodName := ⟨RX7, "film", "(III)I"⟩
abbrev cX7_drawn : ByteArray := prog_9_method_77_code
def yX7_drawn : MethodName := ⟨RX7, "drawn", "(II)I"⟩
abbrev cX7_chance : ByteArray := prog_9_method_78_code
def yX7_chance : MethodName := ⟨RX7, "chance", "(IIII)J"⟩
abbrev cX7_image : ByteArray := prog_9_method_79_code
def yX7_image : MethodName := ⟨RX7, "image", "()I"⟩
abbrev cX7_back : ByteArray := prog_9_method_80_code
def yX7_back : MethodName := ⟨RX7, "back", "()I"⟩
abbrev cX7_cants : ByteArray := prog_9_method_81_code
def yX7_cants : MethodName := ⟨RX7, "cants", "()I"⟩
abbrev cX7_count : ByteArray := prog_9_method_82_code
def yX7_count : MethodName := ⟨RX7, "count", "(I)I"⟩
def RJ6 : String := "java/lang/Integer"
abbrev cJ6_bitCount_0f7a4 : ByteArray := prog_12_method_49_code
def yJ6_bitCount_0f7a4 : MethodName := ⟨RJ6, "bitCount", "(I)I"⟩
def RJ9 : String := "java/lang/Math"
abbrev cJ9_floorMod_7cf53 : ByteArray := prog_13_method_50_code
def yJ9_floorMod_7cf53 : MethodName := ⟨RJ9, "floorMod", "(II)I"⟩
abbrev cJ9_abs_0f7a4 : ByteArray := prog_13_method_59_code
def yJ9_abs_0f7a4 : MethodName := ⟨RJ9, "abs", "(I)I"⟩
abbrev cJ9_max_7cf53 : ByteArray := prog_13_method_65_code
def yJ9_max_7cf53 : MethodName := ⟨RJ9, "max", "(II)I"⟩
abbrev cJ9_min_7cf53 : ByteArray := prog_13_method_69_code
def yJ9_min_7cf53 : MethodName := ⟨RJ9, "min", "(II)I"⟩
def RJ0 : String := "java/lang/String"
abbrev cJ0_length_8abf5 : ByteArray := prog_14_method_54_code
def yJ0_length_8abf5 : MethodName := ⟨RJ0, "length", "()I"⟩
abbrev cJ0_charAt_5068e : ByteArray := prog_14_method_56_code
def yJ0_charAt_5068e : MethodName := ⟨RJ0, "charAt", "(I)C"⟩
abbrev cJ0_indexOf_0f7a4 : ByteArray := prog_14_method_79_code
def yJ0_indexOf_0f7a4 : MethodName := ⟨RJ0, "indexOf", "(I)I"⟩
abbrev cJ0_indexOf_7cf53 : ByteArray := prog_14_method_80_code
def yJ0_indexOf_7cf53 : MethodName := ⟨RJ0, "indexOf", "(II)I"⟩
abbrev cJ0_coder_7d493 : ByteArray := prog_14_method_152_code
def yJ0_coder_7d493 : MethodName := ⟨RJ0, "coder", "()B"⟩
abbrev cJ0_isLatin1_aae02 : ByteArray := prog_14_method_154_code
def yJ0_isLatin1_aae02 : MethodName := ⟨RJ0, "isLatin1", "()Z"⟩
abbrev cJ0_checkIndex_df160 : ByteArray := prog_14_method_155_code
def yJ0_checkIndex_df160 : MethodName := ⟨RJ0, "checkIndex", "(II)V"⟩
def RJ1 : String := "java/lang/StringLatin1"
abbrev cJ1_charAt_3b067 : ByteArray := prog_15_method_2_code
def yJ1_charAt_3b067 : MethodName := ⟨RJ1, "charAt", "([BI)C"⟩
abbrev cJ1_canEncode_9a6ad : ByteArray := prog_15_method_4_code
def yJ1_canEncode_9a6ad : MethodName := ⟨RJ1, "canEncode", "(I)Z"⟩
abbrev cJ1_indexOf_4cfef : ByteArray := prog_15_method_22_code
def yJ1_indexOf_4cfef : MethodName := ⟨RJ1, "indexOf", "([BIII)I"⟩
abbrev cJ1_indexOfChar_4cfef : ByteArray := prog_15_method_23_code
def yJ1_indexOfChar_4cfef : MethodName := ⟨RJ1, "indexOfChar", "([BIII)I"⟩
def RJ7 : String := "java/util/Arrays"
abbrev cJ7_fill_53178 : ByteArray := prog_18_method_103_code
def yJ7_fill_53178 : MethodName := ⟨RJ7, "fill", "([II)V"⟩
abbrev cJ7_copyOf_59c91 : ByteArray := prog_18_method_123_code
def yJ7_copyOf_59c91 : MethodName := ⟨RJ7, "copyOf", "([II)[I"⟩
def RJ3 : String := "jdk/internal/util/Preconditions"
abbrev cJ3_checkIndex_8e157 : ByteArray := prog_19_method_11_code
def yJ3_checkIndex_8e157 : MethodName := ⟨RJ3, "checkIndex", "(IILjava/util/function/BiFunction;)I"⟩
def RL : String := "EdgesOffLaw"
abbrev cL_law : ByteArray := code
def yL_law : MethodName := ⟨RL, "law", "([I)Z"⟩
abbrev MI : Type := MethodName × ByteArray × Nat × Option FieldType
abbrev mX0_init : MI := (yX0_init, cX0_init, 1, none)
abbrev mX0_looksAt : MI := (yX0_looksAt, cX0_looksAt, 4, none)
abbrev mX0_fewestWithout : MI := (yX0_fewestWithout, cX0_fewestWithout, 3, (some .int))
abbrev mX0_isFilled : MI := (yX0_isFilled, cX0_isFilled, 7, (some .boolean))
abbrev mX0_digits : MI := (yX0_digits, cX0_digits, 3, (some .int))
abbrev mX0_leftOut : MI := (yX0_leftOut, cX0_leftOut, 5, (some .int))
abbrev mX0_fewestWithoutLeftOut : MI := (yX0_fewestWithoutLeftOut, cX0_fewestWithoutLeftOut, 1, (some .int))
abbrev mX1_init : MI := (yX1_init, cX1_init, 1, none)
abbrev mX1_takes : MI := (yX1_takes, cX1_takes, 2, (some .boolean))
abbrev mX1_reads : MI := (yX1_reads, cX1_reads, 4, (some (FieldType.object "EdgesOff$Text")))
abbrev mX1_wants : MI := (yX1_wants, cX1_wants, 2, none)
abbrev mX1_readsFrom : MI := (yX1_readsFrom, cX1_readsFrom, 6, none)
abbrev mX1_readsOne : MI := (yX1_readsOne, cX1_readsOne, 2, none)
abbrev mX1_readsBehind : MI := (yX1_readsBehind, cX1_readsBehind, 4, none)
abbrev mX1_levelJoinedBy : MI := (yX1_levelJoinedBy, cX1_levelJoinedBy, 1, (some .int))
abbrev mX1_puts : MI := (yX1_puts, cX1_puts, 2, none)
abbrev mX1_goesOn : MI := (yX1_goesOn, cX1_goesOn, 2, none)
abbrev mX1_isLetter : MI := (yX1_isLetter, cX1_isLetter, 1, (some .boolean))
abbrev mX1_isDigit : MI := (yX1_isDigit, cX1_isDigit, 1, (some .boolean))
abbrev mX1_numberFromStart : MI := (yX1_numberFromStart, cX1_numberFromStart, 2, (some .int))
abbrev mX1_wordFromStart : MI := (yX1_wordFromStart, cX1_wordFromStart, 6, (some .int))
abbrev mX2_init : MI := (yX2_init, cX2_init, 1, none)
abbrev mX2_becomes : MI := (yX2_becomes, cX2_becomes, 3, none)
abbrev mX2_isMissing : MI := (yX2_isMissing, cX2_isMissing, 1, (some .boolean))
abbrev mX2_has : MI := (yX2_has, cX2_has, 3, (some .boolean))
abbrev mX2_isAllIn : MI := (yX2_isAllIn, cX2_isAllIn, 4, (some .boolean))
abbrev mX2_puts : MI := (yX2_puts, cX2_puts, 3, none)
abbrev mX3_init : MI := (yX3_init, cX3_init, 2, none)
abbrev mX3_becomes : MI := (yX3_becomes, cX3_becomes, 2, none)
abbrev mX3_valuesOf : MI := (yX3_valuesOf, cX3_valuesOf, 2, (some (FieldType.array FieldType.int)))
abbrev mX3_adds : MI := (yX3_adds, cX3_adds, 5, (some .int))
abbrev mX3_passes : MI := (yX3_passes, cX3_passes, 2, none)
abbrev mX3_wornOff : MI := (yX3_wornOff, cX3_wornOff, 3, (some .int))
abbrev mX3_wornByKind : MI := (yX3_wornByKind, cX3_wornByKind, 3, (some .int))
abbrev mX3_carriedOn : MI := (yX3_carriedOn, cX3_carriedOn, 3, (some .int))
abbrev mX3_isClashing : MI := (yX3_isClashing, cX3_isClashing, 3, (some .boolean))
abbrev mX3_isYesAcross : MI := (yX3_isYesAcross, cX3_isYesAcross, 3, (some .boolean))
abbrev mX3_isYes : MI := (yX3_isYes, cX3_isYes, 3, (some .boolean))
abbrev mX3_namesAlone : MI := (yX3_namesAlone, cX3_namesAlone, 2, none)
abbrev mX3_othersWith : MI := (yX3_othersWith, cX3_othersWith, 4, (some .int))
abbrev mX3_whichAt : MI := (yX3_whichAt, cX3_whichAt, 4, (some .int))
abbrev mX3_whichClash : MI := (yX3_whichClash, cX3_whichClash, 4, (some .int))
abbrev mX3_isApartByClash : MI := (yX3_isApartByClash, cX3_isApartByClash, 3, (some .boolean))
abbrev mX3_howManyApartByClash : MI := (yX3_howManyApartByClash, cX3_howManyApartByClash, 4, (some .int))
abbrev mX3_wereOne : MI := (yX3_wereOne, cX3_wereOne, 4, (some .boolean))
abbrev mX3_hurtsAt : MI := (yX3_hurtsAt, cX3_hurtsAt, 3, (some .boolean))
abbrev mX3_howManyRound : MI := (yX3_howManyRound, cX3_howManyRound, 3, (some .int))
abbrev mX3_howManyPlaces : MI := (yX3_howManyPlaces, cX3_howManyPlaces, 3, (some .int))
abbrev mX3_sharpTogether : MI := (yX3_sharpTogether, cX3_sharpTogether, 3, (some .int))
abbrev mX3_farthestOut : MI := (yX3_farthestOut, cX3_farthestOut, 6, (some .int))
abbrev mX4_init : MI := (yX4_init, cX4_init, 4, none)
abbrev mX4_startOf : MI := (yX4_startOf, cX4_startOf, 2, (some .int))
abbrev mX4_endOf : MI := (yX4_endOf, cX4_endOf, 2, (some .int))
abbrev mX5_init : MI := (yX5_init, cX5_init, 1, none)
abbrev mX5_adds : MI := (yX5_adds, cX5_adds, 2, (some .int))
abbrev mX5_names : MI := (yX5_names, cX5_names, 7, none)
abbrev mX5_valueOf : MI := (yX5_valueOf, cX5_valueOf, 8, (some .int))
abbrev mX5_alone : MI := (yX5_alone, cX5_alone, 2, (some .int))
abbrev mX5_joined : MI := (yX5_joined, cX5_joined, 3, (some .int))
abbrev mX6_init : MI := (yX6_init, cX6_init, 2, none)
abbrev mX6_set : MI := (yX6_set, cX6_set, 6, (some .int))
abbrev mX6_piece : MI := (yX6_piece, cX6_piece, 5, (some .int))
abbrev mX6_told : MI := (yX6_told, cX6_told, 3, (some .int))
abbrev mX6_carried : MI := (yX6_carried, cX6_carried, 2, (some .int))
abbrev mX6_feed : MI := (yX6_feed, cX6_feed, 2, (some .int))
abbrev mX6_text : MI := (yX6_text, cX6_text, 2, (some .int))
abbrev mX6_force : MI := (yX6_force, cX6_force, 3, (some .int))
abbrev mX6_tide : MI := (yX6_tide, cX6_tide, 1, (some .int))
abbrev mX6_run : MI := (yX6_run, cX6_run, 5, (some .int))
abbrev mX6_all : MI := (yX6_all, cX6_all, 2, (some .int))
abbrev mX6_meet : MI := (yX6_meet, cX6_meet, 4, (some .int))
abbrev mX6_walk : MI := (yX6_walk, cX6_walk, 5, (some .int))
abbrev mX6_jars : MI := (yX6_jars, cX6_jars, 2, (some .int))
abbrev mX6_can : MI := (yX6_can, cX6_can, 3, (some .int))
abbrev mX6_twos : MI := (yX6_twos, cX6_twos, 2, (some .int))
abbrev mX6_toss : MI := (yX6_toss, cX6_toss, 7, (some .int))
abbrev mX6_mean : MI := (yX6_mean, cX6_mean, 2, (some .long))
abbrev mX6_tells : MI := (yX6_tells, cX6_tells, 5, (some .int))
abbrev mX6_film : MI := (yX6_film, cX6_film, 6, (some .int))
abbrev mX6_drawn : MI := (yX6_drawn, cX6_drawn, 3, (some .int))
abbrev mX6_chance : MI := (yX6_chance, cX6_chance, 7, (some .long))
abbrev mX6_image : MI := (yX6_image, cX6_image, 1, (some .int))
abbrev mX6_back : MI := (yX6_back, cX6_back, 1, (some .int))
abbrev mX6_count : MI := (yX6_count, cX6_count, 2, (some .int))
abbrev mX6_sheet : MI := (yX6_sheet, cX6_sheet, 4, (some .int))
abbrev mX6_cell : MI := (yX6_cell, cX6_cell, 5, (some .int))
abbrev mX6_copy : MI := (yX6_copy, cX6_copy, 8, (some .int))
abbrev mX6_finds : MI := (yX6_finds, cX6_finds, 9, (some .int))
abbrev mX6_taken : MI := (yX6_taken, cX6_taken, 3, (some .int))
abbrev mX6_isIn : MI := (yX6_isIn, cX6_isIn, 3, (some .boolean))
abbrev mX6_isPiece : MI := (yX6_isPiece, cX6_isPiece, 2, (some .boolean))
abbrev mX6_areTwo : MI := (yX6_areTwo, cX6_areTwo, 3, (some .boolean))
abbrev mX6_isSheet : MI := (yX6_isSheet, cX6_isSheet, 1, (some .boolean))
abbrev mX6_isOfKind : MI := (yX6_isOfKind, cX6_isOfKind, 4, (some .boolean))
abbrev mX6_bounded : MI := (yX6_bounded, cX6_bounded, 3, (some .int))
abbrev mX6_apart : MI := (yX6_apart, cX6_apart, 3, (some .int))
abbrev mX6_inLowestTerms : MI := (yX6_inLowestTerms, cX6_inLowestTerms, 7, (some .long))
abbrev mX6_behindWhichAllAreRound : MI := (yX6_behindWhichAllAreRound, cX6_behindWhichAllAreRound, 2, (some .int))
abbrev mX6_behindWhichRoundFrom : MI := (yX6_behindWhichRoundFrom, cX6_behindWhichRoundFrom, 5, (some .int))
abbrev mX6_howManyRoundBySeed : MI := (yX6_howManyRoundBySeed, cX6_howManyRoundBySeed, 6, (some .int))
abbrev mX6_mostTwos : MI := (yX6_mostTwos, cX6_mostTwos, 6, (some .int))
abbrev mX6_firstOtherwise : MI := (yX6_firstOtherwise, cX6_firstOtherwise, 4, (some .int))
abbrev mX6_isSoWith : MI := (yX6_isSoWith, cX6_isSoWith, 5, (some .boolean))
abbrev mX6_whichAreSo : MI := (yX6_whichAreSo, cX6_whichAreSo, 6, (some .int))
abbrev mX6_howManySharpsAreSo : MI := (yX6_howManySharpsAreSo, cX6_howManySharpsAreSo, 5, (some .int))
abbrev mX6_leastSharpThatIsSo : MI := (yX6_leastSharpThatIsSo, cX6_leastSharpThatIsSo, 4, (some .int))
abbrev mX6_whichTextsAreSo : MI := (yX6_whichTextsAreSo, cX6_whichTextsAreSo, 5, (some .int))
abbrev mX6_whichPiecesAreSo : MI := (yX6_whichPiecesAreSo, cX6_whichPiecesAreSo, 4, (some .int))
abbrev mX7_init : MI := (yX7_init, cX7_init, 1, none)
abbrev mX7_isIn : MI := (yX7_isIn, cX7_isIn, 3, (some .boolean))
abbrev mX7_bound : MI := (yX7_bound, cX7_bound, 3, (some .int))
abbrev mX7_keep : MI := (yX7_keep, cX7_keep, 3, none)
abbrev mX7_lay : MI := (yX7_lay, cX7_lay, 3, none)
abbrev mX7_many : MI := (yX7_many, cX7_many, 1, (some .int))
abbrev mX7_isPiece : MI := (yX7_isPiece, cX7_isPiece, 2, (some .boolean))
abbrev mX7_of : MI := (yX7_of, cX7_of, 3, (some .int))
abbrev mX7_change : MI := (yX7_change, cX7_change, 4, none)
abbrev mX7_apart : MI := (yX7_apart, cX7_apart, 3, (some .int))
abbrev mX7_place : MI := (yX7_place, cX7_place, 3, (some .int))
abbrev mX7_set : MI := (yX7_set, cX7_set, 6, (some .int))
abbrev mX7_piece : MI := (yX7_piece, cX7_piece, 6, (some .int))
abbrev mX7_lying : MI := (yX7_lying, cX7_lying, 4, (some .int))
abbrev mX7_clashing : MI := (yX7_clashing, cX7_clashing, 4, (some .int))
abbrev mX7_told : MI := (yX7_told, cX7_told, 3, (some .int))
abbrev mX7_carried : MI := (yX7_carried, cX7_carried, 2, (some .int))
abbrev mX7_firstText : MI := (yX7_firstText, cX7_firstText, 1, (some .int))
abbrev mX7_feed : MI := (yX7_feed, cX7_feed, 2, (some .int))
abbrev mX7_sortAt : MI := (yX7_sortAt, cX7_sortAt, 2, (some .int))
abbrev mX7_next : MI := (yX7_next, cX7_next, 1, none)
abbrev mX7_word : MI := (yX7_word, cX7_word, 5, (some .int))
abbrev mX7_isSign : MI := (yX7_isSign, cX7_isSign, 2, (some .boolean))
abbrev mX7_write : MI := (yX7_write, cX7_write, 2, none)
abbrev mX7_rank : MI := (yX7_rank, cX7_rank, 1, (some .int))
abbrev mX7_await : MI := (yX7_await, cX7_await, 2, none)
abbrev mX7_last : MI := (yX7_last, cX7_last, 1, (some .int))
abbrev mX7_settle : MI := (yX7_settle, cX7_settle, 2, none)
abbrev mX7_between : MI := (yX7_between, cX7_between, 2, (some .int))
abbrev mX7_numberThere : MI := (yX7_numberThere, cX7_numberThere, 3, (some .int))
abbrev mX7_begin : MI := (yX7_begin, cX7_begin, 3, (some .int))
abbrev mX7_isE : MI := (yX7_isE, cX7_isE, 3, (some .boolean))
abbrev mX7_isText : MI := (yX7_isText, cX7_isText, 2, (some .boolean))
abbrev mX7_text : MI := (yX7_text, cX7_text, 2, (some .int))
abbrev mX7_force : MI := (yX7_force, cX7_force, 3, (some .int))
abbrev mX7_yes : MI := (yX7_yes, cX7_yes, 1, (some .int))
abbrev mX7_deed : MI := (yX7_deed, cX7_deed, 3, (some .int))
abbrev mX7_tell : MI := (yX7_tell, cX7_tell, 10, (some .int))
abbrev mX7_wears : MI := (yX7_wears, cX7_wears, 4, (some .int))
abbrev mX7_carries : MI := (yX7_carries, cX7_carries, 3, (some .int))
abbrev mX7_clashes : MI := (yX7_clashes, cX7_clashes, 5, (some .boolean))
abbrev mX7_goTide : MI := (yX7_goTide, cX7_goTide, 2, none)
abbrev mX7_rounds : MI := (yX7_rounds, cX7_rounds, 3, (some .int))
abbrev mX7_sharps : MI := (yX7_sharps, cX7_sharps, 3, (some .int))
abbrev mX7_places : MI := (yX7_places, cX7_places, 3, (some .int))
abbrev mX7_tide : MI := (yX7_tide, cX7_tide, 1, (some .int))
abbrev mX7_run : MI := (yX7_run, cX7_run, 5, (some .int))
abbrev mX7_when : MI := (yX7_when, cX7_when, 2, (some .int))
abbrev mX7_farOut : MI := (yX7_farOut, cX7_farOut, 6, (some .int))
abbrev mX7_all : MI := (yX7_all, cX7_all, 2, (some .int))
abbrev mX7_isTwo : MI := (yX7_isTwo, cX7_isTwo, 3, (some .boolean))
abbrev mX7_meet : MI := (yX7_meet, cX7_meet, 4, (some .int))
abbrev mX7_hurts : MI := (yX7_hurts, cX7_hurts, 4, (some .boolean))
abbrev mX7_walk : MI := (yX7_walk, cX7_walk, 6, (some .int))
abbrev mX7_isUnlike : MI := (yX7_isUnlike, cX7_isUnlike, 3, (some .boolean))
abbrev mX7_fill : MI := (yX7_fill, cX7_fill, 6, none)
abbrev mX7_jarsBut : MI := (yX7_jarsBut, cX7_jarsBut, 4, (some .int))
abbrev mX7_jars : MI := (yX7_jars, cX7_jars, 6, (some .int))
abbrev mX7_can : MI := (yX7_can, cX7_can, 3, (some .int))
abbrev mX7_pair : MI := (yX7_pair, cX7_pair, 7, (some .int))
abbrev mX7_twos : MI := (yX7_twos, cX7_twos, 2, (some .int))
abbrev mX7_soon : MI := (yX7_soon, cX7_soon, 3, (some .int))
abbrev mX7_toss : MI := (yX7_toss, cX7_toss, 8, (some .int))
abbrev mX7_gcd : MI := (yX7_gcd, cX7_gcd, 4, (some .long))
abbrev mX7_mean : MI := (yX7_mean, cX7_mean, 4, (some .long))
abbrev mX7_isSheet : MI := (yX7_isSheet, cX7_isSheet, 1, (some .boolean))
abbrev mX7_sheet : MI := (yX7_sheet, cX7_sheet, 5, (some .int))
abbrev mX7_cell : MI := (yX7_cell, cX7_cell, 4, (some .int))
abbrev mX7_copy : MI := (yX7_copy, cX7_copy, 7, (some .int))
abbrev mX7_finds : MI := (yX7_finds, cX7_finds, 9, (some .int))
abbrev mX7_taken : MI := (yX7_taken, cX7_taken, 4, (some .int))
abbrev mX7_otherwise : MI := (yX7_otherwise, cX7_otherwise, 5, (some .int))
abbrev mX7_fits : MI := (yX7_fits, cX7_fits, 8, (some .int))
abbrev mX7_sharpsBy : MI := (yX7_sharpsBy, cX7_sharpsBy, 7, (some .int))
abbrev mX7_tells : MI := (yX7_tells, cX7_tells, 6, (some .int))
abbrev mX7_film : MI := (yX7_film, cX7_film, 5, (some .int))
abbrev mX7_drawn : MI := (yX7_drawn, cX7_drawn, 6, (some .int))
abbrev mX7_chance : MI := (yX7_chance, cX7_chance, 9, (some .long))
abbrev mX7_image : MI := (yX7_image, cX7_image, 1, (some .int))
abbrev mX7_back : MI := (yX7_back, cX7_back, 1, (some .int))
abbrev mX7_cants : MI := (yX7_cants, cX7_cants, 4, (some .int))
abbrev mX7_count : MI := (yX7_count, cX7_count, 2, (some .int))
abbrev mJ6_bitCount_0f7a4 : MI := (yJ6_bitCount_0f7a4, cJ6_bitCount_0f7a4, 1, (some .int))
abbrev mJ9_floorMod_7cf53 : MI := (yJ9_floorMod_7cf53, cJ9_floorMod_7cf53, 3, (some .int))
abbrev mJ9_abs_0f7a4 : MI := (yJ9_abs_0f7a4, cJ9_abs_0f7a4, 1, (some .int))
abbrev mJ9_max_7cf53 : MI := (yJ9_max_7cf53, cJ9_max_7cf53, 2, (some .int))
abbrev mJ9_min_7cf53 : MI := (yJ9_min_7cf53, cJ9_min_7cf53, 2, (some .int))
abbrev mJ0_length_8abf5 : MI := (yJ0_length_8abf5, cJ0_length_8abf5, 1, (some .int))
abbrev mJ0_charAt_5068e : MI := (yJ0_charAt_5068e, cJ0_charAt_5068e, 2, (some .char))
abbrev mJ0_indexOf_0f7a4 : MI := (yJ0_indexOf_0f7a4, cJ0_indexOf_0f7a4, 2, (some .int))
abbrev mJ0_indexOf_7cf53 : MI := (yJ0_indexOf_7cf53, cJ0_indexOf_7cf53, 3, (some .int))
abbrev mJ0_coder_7d493 : MI := (yJ0_coder_7d493, cJ0_coder_7d493, 1, (some .byte))
abbrev mJ0_isLatin1_aae02 : MI := (yJ0_isLatin1_aae02, cJ0_isLatin1_aae02, 1, (some .boolean))
abbrev mJ0_checkIndex_df160 : MI := (yJ0_checkIndex_df160, cJ0_checkIndex_df160, 2, none)
abbrev mJ1_charAt_3b067 : MI := (yJ1_charAt_3b067, cJ1_charAt_3b067, 2, (some .char))
abbrev mJ1_canEncode_9a6ad : MI := (yJ1_canEncode_9a6ad, cJ1_canEncode_9a6ad, 1, (some .boolean))
abbrev mJ1_indexOf_4cfef : MI := (yJ1_indexOf_4cfef, cJ1_indexOf_4cfef, 4, (some .int))
abbrev mJ1_indexOfChar_4cfef : MI := (yJ1_indexOfChar_4cfef, cJ1_indexOfChar_4cfef, 6, (some .int))
abbrev mJ7_fill_53178 : MI := (yJ7_fill_53178, cJ7_fill_53178, 4, none)
abbrev mJ7_copyOf_59c91 : MI := (yJ7_copyOf_59c91, cJ7_copyOf_59c91, 3, (some (FieldType.array FieldType.int)))
abbrev mJ3_checkIndex_8e157 : MI := (yJ3_checkIndex_8e157, cJ3_checkIndex_8e157, 3, (some .int))
abbrev mL_law : MI := (x, code, maxLocals, ret)
abbrev classes : List vw_C := [(RX0, TX0, 4), (RX1, TX1, 9), (RX2, TX2, 3), (RX3, TX3, 11), (RX4, TX4, 3), (RX5, TX5, 4), (RX6, TX6, 8), (RX7, TX7, 30)]
theorem iX0 : ∀ w ∈ wsX00, w ∈ lw_tbl := by decide +kernel
theorem iX1 : ∀ w ∈ wsX10, w ∈ lw_tbl := by decide +kernel
theorem iX2 : ∀ w ∈ wsX20, w ∈ lw_tbl := by decide +kernel
theorem iX3 : ∀ w ∈ wsX30, w ∈ lw_tbl := by decide +kernel
theorem iX4 : ∀ w ∈ wsX40, w ∈ lw_tbl := by decide +kernel
theorem iX5 : ∀ w ∈ wsX50, w ∈ lw_tbl := by decide +kernel
theorem iX6 : ∀ w ∈ wsX60, w ∈ lw_tbl := by decide +kernel
theorem iX7 : ∀ w ∈ wsX70, w ∈ lw_tbl := by decide +kernel
end
section
/-! ===== the abstract judgement: definitions ===== -/
abbrev Lay : Type := List (Nat × Nat × (Nat → Value))
abbrev Mem : Type := Nat → Nat → Int32
abbrev Zz : Type := Launch × Nat × (Nat → Int32)
def wok : List Cond := lw_tbl.filter goodWord
theorem mem_wok {w : Cond} (p : Nat) (h : lw_tbl[p]? = some w) (hg : goodWord w = true) : w ∈ wok := List.mem_filter.mpr ⟨List.mem_of_getElem? h, hg⟩
theorem wok_good : ∀ w ∈ wok, goodWord w = true := fun w h => (List.mem_filter.mp h).2
theorem wok_tbl : ∀ w ∈ wok, w ∈ lw_tbl := fun w h => (List.mem_filter.mp h).1
def am_ws (mi : MI) : List Cond := Cond.code mi.1 mi.2.1 mi.2.2.1 mi.2.2.2 :: wok
/-- abstract values and the machine's -/
def am_v (rv : Nat → Value) (ws : va_W) (v w : Value) : Prop := match v with
  | .int x => w = .int x
  | .long x => w = .long x
  | .null => w = .null
  | .ref k => ∃ (a : Nat) (e : va_E), ws[k]? = some (a, e) ∧ w = .ref a
  | .retAddr n => w = rv n ∧ (w = .null ∨ ∃ a, w = .ref a)
  | _ => False
def am_ex (ws ws' : va_W) : Prop := ∀ (k a : Nat) (e : va_E), ws[k]? = some (a, e) → ∃ e', ws'[k]? = some (a, e')
theorem am_ex.rf {ws : va_W} : am_ex ws ws := fun _ _ e h => ⟨e, h⟩
theorem am_ex.tr {a b c : va_W} (h1 : am_ex a b) (h2 : am_ex b c) : am_ex a c := fun k x e h => by
  obtain ⟨e', h'⟩ := h1 k x e h
  exact h2 k x e' h'
theorem am_v.mono {rv : Nat → Value} {ws ws' : va_W} {v w : Value} (h : am_v rv ws v w) (hx : am_ex ws ws') : am_v rv ws' v w := by
  cases v with
  | ref k =>
    obtain ⟨a, e, h1, h2⟩ := h
    obtain ⟨e', h'⟩ := hx k a e h1
    exact ⟨a, e', h', h2⟩
  | _ => exact h
theorem am_v.cat {rv : Nat → Value} {ws : va_W} {v w : Value} (h : am_v rv ws v w) : w.category = v.category := by
  cases v with
  | ref k => obtain ⟨a, e, h1, h2⟩ := h; subst h2; rfl
  | int x => cases h; rfl
  | long x => cases h; rfl
  | null => cases h; rfl
  | retAddr n => rcases h with ⟨-, rfl | ⟨a, rfl⟩⟩ <;> rfl
  | float _ => cases h
  | double _ => cases h
def am_s (rv : Nat → Value) (ws : va_W) : List Value → List Value → Prop
  | [], [] => True
  | v :: S, w :: st => am_v rv ws v w ∧ am_s rv ws S st
  | _, _ => False
theorem am_s.mono {rv : Nat → Value} {ws ws' : va_W} (hx : am_ex ws ws') : ∀ {S st : List Value}, am_s rv ws S st → am_s rv ws' S st
  | [], [], _ => trivial
  | _ :: _, _ :: _, h => ⟨h.1.mono hx, am_s.mono hx h.2⟩
  | [], _ :: _, h => h.elim
  | _ :: _, [], h => h.elim
theorem am_s.nil {rv : Nat → Value} {ws : va_W} {st : List Value} (h : am_s rv ws [] st) : st = [] := by
  cases st with
  | nil => rfl
  | cons _ _ => exact h.elim
theorem am_s.cons {rv : Nat → Value} {ws : va_W} {v : Value} {S st : List Value} (h : am_s rv ws (v :: S) st) : ∃ w st', st = w :: st' ∧ am_v rv ws v w ∧ am_s rv ws S st' := by
  cases st with
  | nil => exact h.elim
  | cons w st' => exact ⟨w, st', rfl, h.1, h.2⟩
theorem am_s.cat {rv : Nat → Value} {ws : va_W} : ∀ {S st : List Value}, am_s rv ws S st → st.map (fun v => v.category) = S.map (fun v => v.category)
  | [], [], _ => rfl
  | _ :: _, _ :: _, h => by rw [List.map_cons, List.map_cons, h.1.cat, am_s.cat h.2]
  | [], _ :: _, h => h.elim
  | _ :: _, [], h => h.elim
theorem am_s.len {rv : Nat → Value} {ws : va_W} {S st : List Value} (h : am_s rv ws S st) : st.length = S.length := by
  have := congrArg List.length h.cat
  simpa using this
theorem am_s.app {rv : Nat → Value} {ws : va_W} : ∀ {S1 S2 st : List Value}, am_s rv ws (S1 ++ S2) st → ∃ s1 s2, st = s1 ++ s2 ∧ am_s rv ws S1 s1 ∧ am_s rv ws S2 s2
  | [], S2, st, h => ⟨[], st, rfl, trivial, h⟩
  | v :: S1, S2, st, h => by
    obtain ⟨w, st', rfl, h1, h2⟩ := am_s.cons h
    obtain ⟨s1, s2, rfl, h3, h4⟩ := am_s.app (S1 := S1) h2
    exact ⟨w :: s1, s2, rfl, ⟨h1, h3⟩, h4⟩
theorem am_s.join {rv : Nat → Value} {ws : va_W} : ∀ {S1 S2 s1 s2 : List Value}, am_s rv ws S1 s1 → am_s rv ws S2 s2 → am_s rv ws (S1 ++ S2) (s1 ++ s2)
  | [], _, [], _, _, h => h
  | _ :: _, _, _ :: _, _, h1, h2 => ⟨h1.1, am_s.join h1.2 h2⟩
  | [], _, _ :: _, _, h, _ => h.elim
  | _ :: _, _, [], _, h, _ => h.elim
theorem am_s.rev {rv : Nat → Value} {ws : va_W} : ∀ {S st : List Value}, am_s rv ws S st → am_s rv ws S.reverse st.reverse
  | [], [], _ => trivial
  | v :: S, w :: st, h => by
    rw [List.reverse_cons, List.reverse_cons]
    exact am_s.join (am_s.rev h.2) ⟨h.1, trivial⟩
  | [], _ :: _, h => h.elim
  | _ :: _, [], h => h.elim
/-- which fields are references -/
def am_rt : List (List Nat) := [[0, 1, 2], [0, 3], [0], [0, 1, 2, 3, 4, 5, 6, 7], [0], [0, 1, 2], [0, 1, 2, 3, 4, 5, 6], [0, 1, 2, 4, 10, 11, 14, 15, 17, 18, 19, 20, 21, 24, 25, 26, 27, 28, 29]]
def am_isR (ci k : Nat) : Bool := (am_rt.getD ci []).contains k
/-- array tags: 8 int, 9 char, 10 boolean; 12 Row, 13 Text -/
def am_aty (tag : Nat) : FieldType := if tag = 8 then .int else if tag = 9 then .char else .boolean
def am_acl (tag : Nat) : String := if tag = 12 then RX2 else RX4
def am_e (U : State) (rv : Nat → Value) (ws : va_W) (c : Nat × Nat × (Nat → Value)) (f : Nat → Int32) (e : va_E) : Prop :=
  if c.1 < 8 then ∃ fs : List Value, e = .inr (c.1, fs) ∧ fs.length = c.2.1 ∧ ∀ j, j < c.2.1 → ∃ w, fs[j]? = some w ∧ (if am_isR c.1 j = true then am_v rv ws (c.2.2 j) w else w = .int (f j))
  else if c.1 < 11 then ∃ cA : ClassId, e = .inl (cA, c.2.1, .inl f) ∧ ArrOfT U cA (am_aty c.1) ∧ va_RA U cA (am_aty c.1)
  else ∃ (cA : ClassId) (g : Nat → Option Nat), e = .inl (cA, c.2.1, .inr (.inr (.inr (.inr g)))) ∧ ArrOfT U cA (.object (am_acl c.1)) ∧ va_RA U cA (.object (am_acl c.1)) ∧ ∀ j, j < c.2.1 → am_v rv ws (c.2.2 j) (va_rf (g j))
theorem am_e.mono {U : State} {rv : Nat → Value} {ws ws' : va_W} {c : Nat × Nat × (Nat → Value)} {f : Nat → Int32} {e : va_E} (h : am_e U rv ws c f e) (hx : am_ex ws ws') : am_e U rv ws' c f e := by
  unfold am_e at h ⊢
  split at h
  · rename_i h0
    rw [if_pos h0]
    obtain ⟨fs, h1, h2, h3⟩ := h
    refine ⟨fs, h1, h2, fun j hj => ?_⟩
    obtain ⟨w, a, b⟩ := h3 j hj
    refine ⟨w, a, ?_⟩
    split at b
    · rename_i h4
      rw [if_pos h4]; exact b.mono hx
    · rename_i h4
      rw [if_neg h4]; exact b
  · rename_i h0
    rw [if_neg h0]
    split at h
    · rename_i h1
      rw [if_pos h1]; exact h
    · rename_i h1
      rw [if_neg h1]
      obtain ⟨cA, g, a, b, c, d⟩ := h
      exact ⟨cA, g, a, b, c, fun j hj => (d j hj).mono hx⟩
theorem am_e.moved {U U' : State} {rv : Nat → Value} {ws : va_W} {c : Nat × Nat × (Nat → Value)} {f : Nat → Int32} {e : va_E} (h : am_e U rv ws c f e) (hvm : U.vm.Alike U'.vm) : am_e U' rv ws c f e := by
  unfold am_e at h ⊢
  split at h
  · rename_i h0
    rw [if_pos h0]; exact h
  · rename_i h0
    rw [if_neg h0]
    split at h
    · rename_i h1
      rw [if_pos h1]
      obtain ⟨cA, a, b, c⟩ := h
      exact ⟨cA, a, arrOfT_moved hvm b, c.moved hvm⟩
    · rename_i h1
      rw [if_neg h1]
      obtain ⟨cA, g, a, b, c, d⟩ := h
      exact ⟨cA, g, a, arrOfT_moved hvm b, c.moved hvm, d⟩
/-- the cells of the world match layout and memory -/
def am_m (U : State) (rv : Nat → Value) (ws : va_W) (lay : Lay) (mem : Mem) : Prop := ws.length = lay.length ∧ ∀ (k : Nat) (c : Nat × Nat × (Nat → Value)), lay[k]? = some c → ∃ (a : Nat) (e : va_E), ws[k]? = some (a, e) ∧ am_e U rv ws c (mem k) e
theorem am_m.moved {U U' : State} {rv : Nat → Value} {ws : va_W} {lay : Lay} {mem : Mem} (h : am_m U rv ws lay mem) (hvm : U.vm.Alike U'.vm) : am_m U' rv ws lay mem :=
  ⟨h.1, fun k c hc => by obtain ⟨a, e, h1, h2⟩ := h.2 k c hc; exact ⟨a, e, h1, h2.moved hvm⟩⟩
def am_h (D : va_G) (A : Nat → Prop) (s : State) (H : Heap) (locs : List Loc) (rv : Nat → Value) (ws : va_W) (lay : Lay) (mem : Mem) : Prop :=
  va_P D classes ws H ∧ va_D A ws ∧ va_S A s.heap H locs ∧ am_m s rv ws lay mem
/-- what is given and never written -/
def am_gre (j : Nat) : Int32 := ([999, 9, 99, 11, 1, 5] : List Int32).getD j 0
def am_kab (j : Nat) : Int32 := ([-1, 0, 0, 1, 2, 0] : List Int32).getD j 0
def am_txtW : String := "sharp   theirs  apart   number  tide    place   wears   carries clashes or      and     not     "
def am_txtS : String := "();+-*<="
def am_byt (s : String) : List Int32 := s.toList.map (fun c => nI c.toNat)
def am_nws : List Cond := [.methodLinkNest RX6 18 yX1_init RX6, .methodLinkNest RX6 40 yX0_init RX6, .methodLinkNest RX6 51 yX2_init RX6, .fieldLinkNest RX3 53 RX6 "GREATEST" "[I" RX6, .methodLinkNest RX3 56 yX6_isIn RX6, .methodLinkNest RX3 85 yX6_bounded RX6, .methodLinkNest RX3 102 yX6_apart RX6, .methodLinkNest RX2 28 yX6_isIn RX6]
def am_ro (A : Nat → Prop) (U : State) (H : Heap) (rv : Nat → Value) (SL : Nat) (xs : Nat → Int32) : Prop :=
  (∃ t, rv 0 = .ref t ∧ va_Z "EdgesOff" "GREATEST" "[I" (.ref t) A U H ∧ va_T .int t 6 (fun j => .int (am_gre j)) A U H) ∧
  (∃ t, rv 1 = .ref t ∧ va_Z "EdgesOff" "KIND_ABOVE" "[I" (.ref t) A U H ∧ va_T .int t 6 (fun j => .int (am_kab j)) A U H) ∧
  (∃ t, rv 2 = .ref t ∧ va_T .int t SL (fun j => .int (xs j)) A U H) ∧
  (∃ adK adV : Nat → Nat, vk_S 2 [96, 8] [am_byt am_txtW, am_byt am_txtS] adK adV A U H ∧ rv 3 = .ref (adK 0) ∧ rv 4 = .ref (adK 1) ∧ rv 5 = .ref (adV 0) ∧ rv 6 = .ref (adV 1) ∧ vk_R RX1 99 am_txtW (adK 0) U ∧ vk_R RX1 92 am_txtS (adK 1) U) ∧
  va_Z "java/lang/String" "COMPACT_STRINGS" "Z" (.int 1) A U H ∧
  (va_Z "jdk/internal/util/Preconditions" "SIOOBE_FORMATTER" "Ljava/util/function/BiFunction;" (rv 7) A U H ∧ (rv 7 = .null ∨ ∃ a, rv 7 = .ref a)) ∧
  (∀ w ∈ am_nws, va_Nw w U) ∧ va_AO RX2 U ∧ va_AO RX4 U
theorem am_nw_warm {s U : State} (hW : s.WarmedH U.vm) (h : ∀ w ∈ am_nws, va_Nw w s) : ∀ w ∈ am_nws, va_Nw w U := by
  intro w hw
  have h1 := h w hw
  simp only [am_nws, List.mem_cons, List.not_mem_nil, or_false] at hw
  rcases hw with rfl | rfl | rfl | rfl | rfl | rfl | rfl | rfl <;> first | exact va_Nw.warmM hW h1 | exact va_Nw.warmF hW h1
theorem am_nw_same {u U : State} (hv : u.vm = U.vm) (h : ∀ w ∈ am_nws, va_Nw w u) : ∀ w ∈ am_nws, va_Nw w U := by
  intro w hw
  have h1 := h w hw
  simp only [am_nws, List.mem_cons, List.not_mem_nil, or_false] at hw
  rcases hw with rfl | rfl | rfl | rfl | rfl | rfl | rfl | rfl <;> exact va_Nw.same rfl hv h1
theorem am_ro.call {A B : Nat → Prop} {s U : State} {H H1 : Heap} {rv : Nat → Value} {SL : Nat} {xs : Nat → Int32} (h : am_ro A s H rv SL xs) (hW : s.WarmedH U.vm) (hq : ∀ a : Nat, a < H.size → ¬ A a → H1[a]? = H[a]?) (hAB : ∀ q, B q → A q) : am_ro B U H1 rv SL xs := by
  obtain ⟨⟨t0, a1, a2, a3⟩, ⟨t1, b1, b2, b3⟩, ⟨t2, c1, c2⟩, ⟨adK, adV, d1, d2, d3, d4, d5, d6, d7⟩, e1, ⟨f1, f2⟩, g1, g2, g3⟩ := h
  have hvm := hW.alike
  exact ⟨⟨t0, a1, ((a2.kept hq).narrow hAB).moved hvm, ((a3.kept hq).narrow hAB).moved hvm⟩, ⟨t1, b1, ((b2.kept hq).narrow hAB).moved hvm, ((b3.kept hq).narrow hAB).moved hvm⟩, ⟨t2, c1, ((c2.kept hq).narrow hAB).moved hvm⟩,
    ⟨adK, adV, ((d1.kept hq).narrow hAB).moved hvm, d2, d3, d4, d5, d6.warm hW, d7.warm hW⟩, ((e1.kept hq).narrow hAB).moved hvm, ⟨((f1.kept hq).narrow hAB).moved hvm, f2⟩, am_nw_warm hW g1, g2.moved hvm, g3.moved hvm⟩
theorem am_ro.same {A : Nat → Prop} {u U : State} {H : Heap} {rv : Nat → Value} {SL : Nat} {xs : Nat → Int32} (h : am_ro A u H rv SL xs) (hv : U.vm = u.vm) : am_ro A U H rv SL xs := by
  obtain ⟨⟨t0, a1, a2, a3⟩, ⟨t1, b1, b2, b3⟩, ⟨t2, c1, c2⟩, ⟨adK, adV, d1, d2, d3, d4, d5, d6, d7⟩, e1, ⟨f1, f2⟩, g1, g2, g3⟩ := h
  have hvm : u.vm.Alike U.vm := by rw [hv]; exact Vm.Alike.refl u.vm
  exact ⟨⟨t0, a1, a2.moved hvm, a3.moved hvm⟩, ⟨t1, b1, b2.moved hvm, b3.moved hvm⟩, ⟨t2, c1, c2.moved hvm⟩,
    ⟨adK, adV, d1.moved hvm, d2, d3, d4, d5, d6.same hv, d7.same hv⟩, e1.moved hvm, ⟨f1.moved hvm, f2⟩, am_nw_same hv.symm g1, g2.moved hvm, g3.moved hvm⟩
/-- the frame's fixed facts -/
def am_f (z : Zz) (p : Program) (R : Room) (s : State) (m : MethodId) (args : Array Value) (meth : Method) (c : Code) (mi : MI) (d : Nat) (D : va_G) (A : Nat → Prop) (rv : Nat → Value) : Prop :=
  p.tables.exec = Jvm.exec ∧ c.code = mi.2.1 ∧ c.maxLocals = mi.2.2.1 ∧ meth.sig.returnType = mi.2.2.2 ∧ s.vm.findClass mi.1.cls = some m.cls ∧ (∀ w ∈ wok, w.before args s = true) ∧ meth.locks = false ∧ (mi.1.name = "<init>" → meth.name = "<init>") ∧ d ≤ R.frames ∧ 64 * d ≤ R.locals ∧ va_K D classes [] s ∧ (∀ q, s.heap.size ≤ q → A q) ∧ am_ro A s s.heap rv z.2.1 z.2.2
/-- locals: a float is 'not set', a double the second half of a long -/
def am_mk (v : Value) : Bool := match v with
  | .float _ => true
  | .double _ => true
  | _ => false
def am_l (rv : Nat → Value) (ws : va_W) (L : List Value) (ls : Array Slot) (n : Nat) : Prop := ls.size = n ∧ lv_wf ls ∧ L.length = n ∧ ∀ (i : Nat) (v : Value), L[i]? = some v → am_mk v = false → ∃ w, ls[i]? = some (.val w) ∧ am_v rv ws v w
theorem am_l.mono {rv : Nat → Value} {ws ws' : va_W} {L : List Value} {ls : Array Slot} {n : Nat} (h : am_l rv ws L ls n) (hx : am_ex ws ws') : am_l rv ws' L ls n :=
  ⟨h.1, h.2.1, h.2.2.1, fun i v h1 h2 => by obtain ⟨w, h3, h4⟩ := h.2.2.2 i v h1 h2; exact ⟨w, h3, h4.mono hx⟩⟩
def am_rr (rv : Nat → Value) (ws : va_W) (r rw : Option Value) : Prop := match r, rw with
  | none, none => True
  | some v, some w => am_v rv ws v w
  | _, _ => False
def am_rt1 (mi : MI) (pc : Nat) (r : Option Value) : Prop := match r with
  | none => decode mi.2.1 pc = .ok (.return_, 1) ∧ mi.2.2.2 = none
  | some (.int x) => decode mi.2.1 pc = .ok (.ireturn, 1) ∧ ∃ ty, mi.2.2.2 = some ty ∧ narrow ty (.int x) = .int x
  | some (.long _) => decode mi.2.1 pc = .ok (.lreturn, 1) ∧ mi.2.2.2 = some .long
  | some _ => decode mi.2.1 pc = .ok (.areturn, 1) ∧ ∃ rt, mi.2.2.2 = some rt ∧ ((∃ n, rt = .object n) ∨ ∃ t, rt = .array t)
/-- THE JUDGEMENT: from this abstract state the method returns, with Q; at most kc cells of ks slots come; d calls deep -/
def Sim (z : Zz) (d kc ks : Nat) (mi : MI) (pc : Nat) (L S : List Value) (lay : Lay) (mem : Mem) (Q : Option Value → Lay → Mem → Prop) : Prop :=
  ∀ (p : Program) (e : Env) (R : Room) (s : State) (m : MethodId) (args : Array Value) (below : List Frame) (meth : Method) (c : Code) (D : va_G) (A : Nat → Prop) (rv : Nat → Value) (H : Heap) (locs : List Loc) (cells slots : Nat) (ls : Array Slot) (st : List Value) (ws : va_W) (X : State → Prop),
    am_f z p R s m args meth c mi d D A rv → cells + kc ≤ R.cells → slots + ks ≤ R.slots → am_h D A s H locs rv ws lay mem → am_l rv ws L ls mi.2.2.1 → am_s rv ws S st →
    (∀ (r : Option Value) (lay' : Lay) (mem' : Mem) (H' : Heap) (locs' : List Loc) (ws' : va_W) (pc' : Nat) (ls' : Array Slot) (rw : Option Value), Q r lay' mem' → am_h D A s H' locs' rv ws' lay' mem' → am_ex ws ws' → am_rt1 mi pc' r → am_rr rv ws' r rw → W p z.1 e R s m args below meth c H' locs' (cells + kc) (slots + ks) X (F0 m pc' ls' rw.toList)) →
    W p z.1 e R s m args below meth c H locs cells slots X (F0 m pc ls st)
end
section
theorem s_iconst {z : Zz} {d kc ks : Nat} {mi : MI} {pc pc' : Nat} {L S : List Value} {lay : Lay} {mem : Mem} {Q : Option Value → Lay → Mem → Prop} {n : Int} {v : Int32} (hd : decode mi.2.1 pc = .ok (.iconst n, 1)) (hp : pc + 1 = pc') (hv : Int32.ofInt n = v) (K : Sim z d kc ks mi pc' L (.int v :: S) lay mem Q) : Sim z d kc ks mi pc L (S) lay mem Q := by
  intro p e R s m args below meth c D A rv H locs cells slots ls st ws X F hc hs h hL hS kk
  subst hp
  exact lv_iconst F.1 F.2.1 hd hv (K p e R s m args below meth c D A rv H locs cells slots ls _ ws X F hc hs h hL ⟨rfl, hS⟩ kk)

theorem s_bipush {z : Zz} {d kc ks : Nat} {mi : MI} {pc pc' : Nat} {L S : List Value} {lay : Lay} {mem : Mem} {Q : Option Value → Lay → Mem → Prop} {n : Int} {v : Int32} (hd : decode mi.2.1 pc = .ok (.bipush n, 2)) (hp : pc + 2 = pc') (hv : (Int8.ofInt n).toInt32 = v) (K : Sim z d kc ks mi pc' L (.int v :: S) lay mem Q) : Sim z d kc ks mi pc L (S) lay mem Q := by
  intro p e R s m args below meth c D A rv H locs cells slots ls st ws X F hc hs h hL hS kk
  subst hp
  exact lv_bipush F.1 F.2.1 hd hv (K p e R s m args below meth c D A rv H locs cells slots ls _ ws X F hc hs h hL ⟨rfl, hS⟩ kk)

theorem s_sipush {z : Zz} {d kc ks : Nat} {mi : MI} {pc pc' : Nat} {L S : List Value} {lay : Lay} {mem : Mem} {Q : Option Value → Lay → Mem → Prop} {n : Int} {v : Int32} (hd : decode mi.2.1 pc = .ok (.sipush n, 3)) (hp : pc + 3 = pc') (hv : (Int16.ofInt n).toInt32 = v) (K : Sim z d kc ks mi pc' L (.int v :: S) lay mem Q) : Sim z d kc ks mi pc L (S) lay mem Q := by
  intro p e R s m args below meth c D A rv H locs cells slots ls st ws X F hc hs h hL hS kk
  subst hp
  exact lv_sipush F.1 F.2.1 hd hv (K p e R s m args below meth c D A rv H locs cells slots ls _ ws X F hc hs h hL ⟨rfl, hS⟩ kk)

theorem s_lconst {z : Zz} {d kc ks : Nat} {mi : MI} {pc pc' : Nat} {L S : List Value} {lay : Lay} {mem : Mem} {Q : Option Value → Lay → Mem → Prop} {n : Fin 2} {v : Int64} (hd : decode mi.2.1 pc = .ok (.lconst n, 1)) (hp : pc + 1 = pc') (hv : Int64.ofNat (n : Nat) = v) (K : Sim z d kc ks mi pc' L (.long v :: S) lay mem Q) : Sim z d kc ks mi pc L (S) lay mem Q := by
  intro p e R s m args below meth c D A rv H locs cells slots ls st ws X F hc hs h hL hS kk
  subst hp
  exact lv_lconst F.1 F.2.1 hd hv (K p e R s m args below meth c D A rv H locs cells slots ls _ ws X F hc hs h hL ⟨rfl, hS⟩ kk)

theorem s_null {z : Zz} {d kc ks : Nat} {mi : MI} {pc pc' : Nat} {L S : List Value} {lay : Lay} {mem : Mem} {Q : Option Value → Lay → Mem → Prop}  (hd : decode mi.2.1 pc = .ok (.aconst_null, 1)) (hp : pc + 1 = pc')  (K : Sim z d kc ks mi pc' L (.null :: S) lay mem Q) : Sim z d kc ks mi pc L (S) lay mem Q := by
  intro p e R s m args below meth c D A rv H locs cells slots ls st ws X F hc hs h hL hS kk
  subst hp
  exact lv_null F.1 F.2.1 hd  (K p e R s m args below meth c D A rv H locs cells slots ls _ ws X F hc hs h hL ⟨rfl, hS⟩ kk)

theorem s_iadd {z : Zz} {d kc ks : Nat} {mi : MI} {pc pc' : Nat} {L S : List Value} {lay : Lay} {mem : Mem} {Q : Option Value → Lay → Mem → Prop} {x y : Int32} (hd : decode mi.2.1 pc = .ok (.iadd, 1)) (hp : pc + 1 = pc')  (K : Sim z d kc ks mi pc' L (.int (x + y) :: S) lay mem Q) : Sim z d kc ks mi pc L (.int y :: .int x :: S) lay mem Q := by
  intro p e R s m args below meth c D A rv H locs cells slots ls st ws X F hc hs h hL hS kk
  subst hp
  obtain ⟨w0, st0, rfl, v0, hT1⟩ := am_s.cons hS
  obtain rfl : w0 = .int y := v0
  obtain ⟨w1, st1, rfl, v1, hT2⟩ := am_s.cons hT1
  obtain rfl : w1 = .int x := v1
  exact lv_iadd F.1 F.2.1 hd  (K p e R s m args below meth c D A rv H locs cells slots ls _ ws X F hc hs h hL ⟨rfl, hT2⟩ kk)

theorem s_isub {z : Zz} {d kc ks : Nat} {mi : MI} {pc pc' : Nat} {L S : List Value} {lay : Lay} {mem : Mem} {Q : Option Value → Lay → Mem → Prop} {x y : Int32} (hd : decode mi.2.1 pc = .ok (.isub, 1)) (hp : pc + 1 = pc')  (K : Sim z d kc ks mi pc' L (.int (x - y) :: S) lay mem Q) : Sim z d kc ks mi pc L (.int y :: .int x :: S) lay mem Q := by
  intro p e R s m args below meth c D A rv H locs cells slots ls st ws X F hc hs h hL hS kk
  subst hp
  obtain ⟨w0, st0, rfl, v0, hT1⟩ := am_s.cons hS
  obtain rfl : w0 = .int y := v0
  obtain ⟨w1, st1, rfl, v1, hT2⟩ := am_s.cons hT1
  obtain rfl : w1 = .int x := v1
  exact lv_isub F.1 F.2.1 hd  (K p e R s m args below meth c D A rv H locs cells slots ls _ ws X F hc hs h hL ⟨rfl, hT2⟩ kk)

theorem s_imul {z : Zz} {d kc ks : Nat} {mi : MI} {pc pc' : Nat} {L S : List Value} {lay : Lay} {mem : Mem} {Q : Option Value → Lay → Mem → Prop} {x y : Int32} (hd : decode mi.2.1 pc = .ok (.imul, 1)) (hp : pc + 1 = pc')  (K : Sim z d kc ks mi pc' L (.int (x * y) :: S) lay mem Q) : Sim z d kc ks mi pc L (.int y :: .int x :: S) lay mem Q := by
  intro p e R s m args below meth c D A rv H locs cells slots ls st ws X F hc hs h hL hS kk
  subst hp
  obtain ⟨w0, st0, rfl, v0, hT1⟩ := am_s.cons hS
  obtain rfl : w0 = .int y := v0
  obtain ⟨w1, st1, rfl, v1, hT2⟩ := am_s.cons hT1
  obtain rfl : w1 = .int x := v1
  exact lv_imul F.1 F.2.1 hd  (K p e R s m args below meth c D A rv H locs cells slots ls _ ws X F hc hs h hL ⟨rfl, hT2⟩ kk)

theorem s_iand {z : Zz} {d kc ks : Nat} {mi : MI} {pc pc' : Nat} {L S : List Value} {lay : Lay} {mem : Mem} {Q : Option Value → Lay → Mem → Prop} {x y : Int32} (hd : decode mi.2.1 pc = .ok (.iand, 1)) (hp : pc + 1 = pc')  (K : Sim z d kc ks mi pc' L (.int (x &&& y) :: S) lay mem Q) : Sim z d kc ks mi pc L (.int y :: .int x :: S) lay mem Q := by
  intro p e R s m args below meth c D A rv H locs cells slots ls st ws X F hc hs h hL hS kk
  subst hp
  obtain ⟨w0, st0, rfl, v0, hT1⟩ := am_s.cons hS
  obtain rfl : w0 = .int y := v0
  obtain ⟨w1, st1, rfl, v1, hT2⟩ := am_s.cons hT1
  obtain rfl : w1 = .int x := v1
  exact lv_iand F.1 F.2.1 hd  (K p e R s m args below meth c D A rv H locs cells slots ls _ ws X F hc hs h hL ⟨rfl, hT2⟩ kk)

theorem s_ior {z : Zz} {d kc ks : Nat} {mi : MI} {pc pc' : Nat} {L S : List Value} {lay : Lay} {mem : Mem} {Q : Option Value → Lay → Mem → Prop} {x y : Int32} (hd : decode mi.2.1 pc = .ok (.ior, 1)) (hp : pc + 1 = pc')  (K : Sim z d kc ks mi pc' L (.int (x ||| y) :: S) lay mem Q) : Sim z d kc ks mi pc L (.int y :: .int x :: S) lay mem Q := by
  intro p e R s m args below meth c D A rv H locs cells slots ls st ws X F hc hs h hL hS kk
  subst hp
  obtain ⟨w0, st0, rfl, v0, hT1⟩ := am_s.cons hS
  obtain rfl : w0 = .int y := v0
  obtain ⟨w1, st1, rfl, v1, hT2⟩ := am_s.cons hT1
  obtain rfl : w1 = .int x := v1
  exact lv_ior F.1 F.2.1 hd  (K p e R s m args below meth c D A rv H locs cells slots ls _ ws X F hc hs h hL ⟨rfl, hT2⟩ kk)

theorem s_ixor {z : Zz} {d kc ks : Nat} {mi : MI} {pc pc' : Nat} {L S : List Value} {lay : Lay} {mem : Mem} {Q : Option Value → Lay → Mem → Prop} {x y : Int32} (hd : decode mi.2.1 pc = .ok (.ixor, 1)) (hp : pc + 1 = pc')  (K : Sim z d kc ks mi pc' L (.int (x ^^^ y) :: S) lay mem Q) : Sim z d kc ks mi pc L (.int y :: .int x :: S) lay mem Q := by
  intro p e R s m args below meth c D A rv H locs cells slots ls st ws X F hc hs h hL hS kk
  subst hp
  obtain ⟨w0, st0, rfl, v0, hT1⟩ := am_s.cons hS
  obtain rfl : w0 = .int y := v0
  obtain ⟨w1, st1, rfl, v1, hT2⟩ := am_s.cons hT1
  obtain rfl : w1 = .int x := v1
  exact lv_ixor F.1 F.2.1 hd  (K p e R s m args below meth c D A rv H locs cells slots ls _ ws X F hc hs h hL ⟨rfl, hT2⟩ kk)

theorem s_ishl {z : Zz} {d kc ks : Nat} {mi : MI} {pc pc' : Nat} {L S : List Value} {lay : Lay} {mem : Mem} {Q : Option Value → Lay → Mem → Prop} {x y : Int32} (hd : decode mi.2.1 pc = .ok (.ishl, 1)) (hp : pc + 1 = pc')  (K : Sim z d kc ks mi pc' L (.int (x <<< (y &&& 31)) :: S) lay mem Q) : Sim z d kc ks mi pc L (.int y :: .int x :: S) lay mem Q := by
  intro p e R s m args below meth c D A rv H locs cells slots ls st ws X F hc hs h hL hS kk
  subst hp
  obtain ⟨w0, st0, rfl, v0, hT1⟩ := am_s.cons hS
  obtain rfl : w0 = .int y := v0
  obtain ⟨w1, st1, rfl, v1, hT2⟩ := am_s.cons hT1
  obtain rfl : w1 = .int x := v1
  exact lv_ishl F.1 F.2.1 hd  (K p e R s m args below meth c D A rv H locs cells slots ls _ ws X F hc hs h hL ⟨rfl, hT2⟩ kk)

theorem s_ishr {z : Zz} {d kc ks : Nat} {mi : MI} {pc pc' : Nat} {L S : List Value} {lay : Lay} {mem : Mem} {Q : Option Value → Lay → Mem → Prop} {x y : Int32} (hd : decode mi.2.1 pc = .ok (.ishr, 1)) (hp : pc + 1 = pc')  (K : Sim z d kc ks mi pc' L (.int (x >>> (y &&& 31)) :: S) lay mem Q) : Sim z d kc ks mi pc L (.int y :: .int x :: S) lay mem Q := by
  intro p e R s m args below meth c D A rv H locs cells slots ls st ws X F hc hs h hL hS kk
  subst hp
  obtain ⟨w0, st0, rfl, v0, hT1⟩ := am_s.cons hS
  obtain rfl : w0 = .int y := v0
  obtain ⟨w1, st1, rfl, v1, hT2⟩ := am_s.cons hT1
  obtain rfl : w1 = .int x := v1
  exact lv_ishr F.1 F.2.1 hd  (K p e R s m args below meth c D A rv H locs cells slots ls _ ws X F hc hs h hL ⟨rfl, hT2⟩ kk)

theorem s_iushr {z : Zz} {d kc ks : Nat} {mi : MI} {pc pc' : Nat} {L S : List Value} {lay : Lay} {mem : Mem} {Q : Option Value → Lay → Mem → Prop} {x y : Int32} (hd : decode mi.2.1 pc = .ok (.iushr, 1)) (hp : pc + 1 = pc')  (K : Sim z d kc ks mi pc' L (.int (x.toUInt32 >>> (y.toUInt32 &&& Int32.toUInt32 31)).toInt32 :: S) lay mem Q) : Sim z d kc ks mi pc L (.int y :: .int x :: S) lay mem Q := by
  intro p e R s m args below meth c D A rv H locs cells slots ls st ws X F hc hs h hL hS kk
  subst hp
  obtain ⟨w0, st0, rfl, v0, hT1⟩ := am_s.cons hS
  obtain rfl : w0 = .int y := v0
  obtain ⟨w1, st1, rfl, v1, hT2⟩ := am_s.cons hT1
  obtain rfl : w1 = .int x := v1
  exact lv_iushr F.1 F.2.1 hd rfl (K p e R s m args below meth c D A rv H locs cells slots ls _ ws X F hc hs h hL ⟨rfl, hT2⟩ kk)

theorem s_idiv {z : Zz} {d kc ks : Nat} {mi : MI} {pc pc' : Nat} {L S : List Value} {lay : Lay} {mem : Mem} {Q : Option Value → Lay → Mem → Prop} {x y : Int32} (hd : decode mi.2.1 pc = .ok (.idiv, 1)) (hp : pc + 1 = pc') (hy : ¬ y = 0) (K : Sim z d kc ks mi pc' L (.int (x / y) :: S) lay mem Q) : Sim z d kc ks mi pc L (.int y :: .int x :: S) lay mem Q := by
  intro p e R s m args below meth c D A rv H locs cells slots ls st ws X F hc hs h hL hS kk
  subst hp
  obtain ⟨w0, st0, rfl, v0, hT1⟩ := am_s.cons hS
  obtain rfl : w0 = .int y := v0
  obtain ⟨w1, st1, rfl, v1, hT2⟩ := am_s.cons hT1
  obtain rfl : w1 = .int x := v1
  exact lv_idiv F.1 F.2.1 hd hy (K p e R s m args below meth c D A rv H locs cells slots ls _ ws X F hc hs h hL ⟨rfl, hT2⟩ kk)

theorem s_irem {z : Zz} {d kc ks : Nat} {mi : MI} {pc pc' : Nat} {L S : List Value} {lay : Lay} {mem : Mem} {Q : Option Value → Lay → Mem → Prop} {x y : Int32} (hd : decode mi.2.1 pc = .ok (.irem, 1)) (hp : pc + 1 = pc') (hy : ¬ y = 0) (K : Sim z d kc ks mi pc' L (.int (x - x / y * y) :: S) lay mem Q) : Sim z d kc ks mi pc L (.int y :: .int x :: S) lay mem Q := by
  intro p e R s m args below meth c D A rv H locs cells slots ls st ws X F hc hs h hL hS kk
  subst hp
  obtain ⟨w0, st0, rfl, v0, hT1⟩ := am_s.cons hS
  obtain rfl : w0 = .int y := v0
  obtain ⟨w1, st1, rfl, v1, hT2⟩ := am_s.cons hT1
  obtain rfl : w1 = .int x := v1
  exact lv_irem F.1 F.2.1 hd hy (K p e R s m args below meth c D A rv H locs cells slots ls _ ws X F hc hs h hL ⟨rfl, hT2⟩ kk)

theorem s_ldiv {z : Zz} {d kc ks : Nat} {mi : MI} {pc pc' : Nat} {L S : List Value} {lay : Lay} {mem : Mem} {Q : Option Value → Lay → Mem → Prop} {x y : Int64} (hd : decode mi.2.1 pc = .ok (.ldiv, 1)) (hp : pc + 1 = pc') (hy : ¬ y = 0) (K : Sim z d kc ks mi pc' L (.long (x / y) :: S) lay mem Q) : Sim z d kc ks mi pc L (.long y :: .long x :: S) lay mem Q := by
  intro p e R s m args below meth c D A rv H locs cells slots ls st ws X F hc hs h hL hS kk
  subst hp
  obtain ⟨w0, st0, rfl, v0, hT1⟩ := am_s.cons hS
  obtain rfl : w0 = .long y := v0
  obtain ⟨w1, st1, rfl, v1, hT2⟩ := am_s.cons hT1
  obtain rfl : w1 = .long x := v1
  exact lv_ldiv F.1 F.2.1 hd hy (K p e R s m args below meth c D A rv H locs cells slots ls _ ws X F hc hs h hL ⟨rfl, hT2⟩ kk)

theorem s_lrem {z : Zz} {d kc ks : Nat} {mi : MI} {pc pc' : Nat} {L S : List Value} {lay : Lay} {mem : Mem} {Q : Option Value → Lay → Mem → Prop} {x y : Int64} (hd : decode mi.2.1 pc = .ok (.lrem, 1)) (hp : pc + 1 = pc') (hy : ¬ y = 0) (K : Sim z d kc ks mi pc' L (.long (x - x / y * y) :: S) lay mem Q) : Sim z d kc ks mi pc L (.long y :: .long x :: S) lay mem Q := by
  intro p e R s m args below meth c D A rv H locs cells slots ls st ws X F hc hs h hL hS kk
  subst hp
  obtain ⟨w0, st0, rfl, v0, hT1⟩ := am_s.cons hS
  obtain rfl : w0 = .long y := v0
  obtain ⟨w1, st1, rfl, v1, hT2⟩ := am_s.cons hT1
  obtain rfl : w1 = .long x := v1
  exact lv_lrem F.1 F.2.1 hd hy (K p e R s m args below meth c D A rv H locs cells slots ls _ ws X F hc hs h hL ⟨rfl, hT2⟩ kk)

theorem s_ladd {z : Zz} {d kc ks : Nat} {mi : MI} {pc pc' : Nat} {L S : List Value} {lay : Lay} {mem : Mem} {Q : Option Value → Lay → Mem → Prop} {x y : Int64} (hd : decode mi.2.1 pc = .ok (.ladd, 1)) (hp : pc + 1 = pc')  (K : Sim z d kc ks mi pc' L (.long (x + y) :: S) lay mem Q) : Sim z d kc ks mi pc L (.long y :: .long x :: S) lay mem Q := by
  intro p e R s m args below meth c D A rv H locs cells slots ls st ws X F hc hs h hL hS kk
  subst hp
  obtain ⟨w0, st0, rfl, v0, hT1⟩ := am_s.cons hS
  obtain rfl : w0 = .long y := v0
  obtain ⟨w1, st1, rfl, v1, hT2⟩ := am_s.cons hT1
  obtain rfl : w1 = .long x := v1
  exact lv_ladd F.1 F.2.1 hd  (K p e R s m args below meth c D A rv H locs cells slots ls _ ws X F hc hs h hL ⟨rfl, hT2⟩ kk)

theorem s_lsub {z : Zz} {d kc ks : Nat} {mi : MI} {pc pc' : Nat} {L S : List Value} {lay : Lay} {mem : Mem} {Q : Option Value → Lay → Mem → Prop} {x y : Int64} (hd : decode mi.2.1 pc = .ok (.lsub, 1)) (hp : pc + 1 = pc')  (K : Sim z d kc ks mi pc' L (.long (x - y) :: S) lay mem Q) : Sim z d kc ks mi pc L (.long y :: .long x :: S) lay mem Q := by
  intro p e R s m args below meth c D A rv H locs cells slots ls st ws X F hc hs h hL hS kk
  subst hp
  obtain ⟨w0, st0, rfl, v0, hT1⟩ := am_s.cons hS
  obtain rfl : w0 = .long y := v0
  obtain ⟨w1, st1, rfl, v1, hT2⟩ := am_s.cons hT1
  obtain rfl : w1 = .long x := v1
  exact lv_lsub F.1 F.2.1 hd  (K p e R s m args below meth c D A rv H locs cells slots ls _ ws X F hc hs h hL ⟨rfl, hT2⟩ kk)

theorem s_lmul {z : Zz} {d kc ks : Nat} {mi : MI} {pc pc' : Nat} {L S : List Value} {lay : Lay} {mem : Mem} {Q : Option Value → Lay → Mem → Prop} {x y : Int64} (hd : decode mi.2.1 pc = .ok (.lmul, 1)) (hp : pc + 1 = pc')  (K : Sim z d kc ks mi pc' L (.long (x * y) :: S) lay mem Q) : Sim z d kc ks mi pc L (.long y :: .long x :: S) lay mem Q := by
  intro p e R s m args below meth c D A rv H locs cells slots ls st ws X F hc hs h hL hS kk
  subst hp
  obtain ⟨w0, st0, rfl, v0, hT1⟩ := am_s.cons hS
  obtain rfl : w0 = .long y := v0
  obtain ⟨w1, st1, rfl, v1, hT2⟩ := am_s.cons hT1
  obtain rfl : w1 = .long x := v1
  exact lv_lmul F.1 F.2.1 hd  (K p e R s m args below meth c D A rv H locs cells slots ls _ ws X F hc hs h hL ⟨rfl, hT2⟩ kk)

theorem s_ineg {z : Zz} {d kc ks : Nat} {mi : MI} {pc pc' : Nat} {L S : List Value} {lay : Lay} {mem : Mem} {Q : Option Value → Lay → Mem → Prop} {x : Int32} (hd : decode mi.2.1 pc = .ok (.ineg, 1)) (hp : pc + 1 = pc')  (K : Sim z d kc ks mi pc' L (.int (-x) :: S) lay mem Q) : Sim z d kc ks mi pc L (.int x :: S) lay mem Q := by
  intro p e R s m args below meth c D A rv H locs cells slots ls st ws X F hc hs h hL hS kk
  subst hp
  obtain ⟨w0, st0, rfl, v0, hT1⟩ := am_s.cons hS
  obtain rfl : w0 = .int x := v0
  exact lv_ineg F.1 F.2.1 hd  (K p e R s m args below meth c D A rv H locs cells slots ls _ ws X F hc hs h hL ⟨rfl, hT1⟩ kk)

theorem s_i2l {z : Zz} {d kc ks : Nat} {mi : MI} {pc pc' : Nat} {L S : List Value} {lay : Lay} {mem : Mem} {Q : Option Value → Lay → Mem → Prop} {x : Int32} (hd : decode mi.2.1 pc = .ok (.i2l, 1)) (hp : pc + 1 = pc')  (K : Sim z d kc ks mi pc' L (.long x.toInt64 :: S) lay mem Q) : Sim z d kc ks mi pc L (.int x :: S) lay mem Q := by
  intro p e R s m args below meth c D A rv H locs cells slots ls st ws X F hc hs h hL hS kk
  subst hp
  obtain ⟨w0, st0, rfl, v0, hT1⟩ := am_s.cons hS
  obtain rfl : w0 = .int x := v0
  exact lv_i2l F.1 F.2.1 hd rfl (K p e R s m args below meth c D A rv H locs cells slots ls _ ws X F hc hs h hL ⟨rfl, hT1⟩ kk)

theorem s_i2b {z : Zz} {d kc ks : Nat} {mi : MI} {pc pc' : Nat} {L S : List Value} {lay : Lay} {mem : Mem} {Q : Option Value → Lay → Mem → Prop} {x : Int32} (hd : decode mi.2.1 pc = .ok (.i2b, 1)) (hp : pc + 1 = pc')  (K : Sim z d kc ks mi pc' L (.int x.toInt8.toInt32 :: S) lay mem Q) : Sim z d kc ks mi pc L (.int x :: S) lay mem Q := by
  intro p e R s m args below meth c D A rv H locs cells slots ls st ws X F hc hs h hL hS kk
  subst hp
  obtain ⟨w0, st0, rfl, v0, hT1⟩ := am_s.cons hS
  obtain rfl : w0 = .int x := v0
  exact lv_i2b F.1 F.2.1 hd rfl (K p e R s m args below meth c D A rv H locs cells slots ls _ ws X F hc hs h hL ⟨rfl, hT1⟩ kk)

theorem s_i2s {z : Zz} {d kc ks : Nat} {mi : MI} {pc pc' : Nat} {L S : List Value} {lay : Lay} {mem : Mem} {Q : Option Value → Lay → Mem → Prop} {x : Int32} (hd : decode mi.2.1 pc = .ok (.i2s, 1)) (hp : pc + 1 = pc')  (K : Sim z d kc ks mi pc' L (.int x.toInt16.toInt32 :: S) lay mem Q) : Sim z d kc ks mi pc L (.int x :: S) lay mem Q := by
  intro p e R s m args below meth c D A rv H locs cells slots ls st ws X F hc hs h hL hS kk
  subst hp
  obtain ⟨w0, st0, rfl, v0, hT1⟩ := am_s.cons hS
  obtain rfl : w0 = .int x := v0
  exact lv_i2s F.1 F.2.1 hd rfl (K p e R s m args below meth c D A rv H locs cells slots ls _ ws X F hc hs h hL ⟨rfl, hT1⟩ kk)

theorem s_i2c {z : Zz} {d kc ks : Nat} {mi : MI} {pc pc' : Nat} {L S : List Value} {lay : Lay} {mem : Mem} {Q : Option Value → Lay → Mem → Prop} {x : Int32} (hd : decode mi.2.1 pc = .ok (.i2c, 1)) (hp : pc + 1 = pc')  (K : Sim z d kc ks mi pc' L (.int (x.toUInt32 % 65536).toInt32 :: S) lay mem Q) : Sim z d kc ks mi pc L (.int x :: S) lay mem Q := by
  intro p e R s m args below meth c D A rv H locs cells slots ls st ws X F hc hs h hL hS kk
  subst hp
  obtain ⟨w0, st0, rfl, v0, hT1⟩ := am_s.cons hS
  obtain rfl : w0 = .int x := v0
  exact lv_i2c F.1 F.2.1 hd rfl (K p e R s m args below meth c D A rv H locs cells slots ls _ ws X F hc hs h hL ⟨rfl, hT1⟩ kk)

theorem s_lcmp {z : Zz} {d kc ks : Nat} {mi : MI} {pc pc' : Nat} {L S : List Value} {lay : Lay} {mem : Mem} {Q : Option Value → Lay → Mem → Prop} {x y : Int64} (hd : decode mi.2.1 pc = .ok (.lcmp, 1)) (hp : pc + 1 = pc') (K : Sim z d kc ks mi pc' L (.int (lg_cmp x y) :: S) lay mem Q) : Sim z d kc ks mi pc L (.long y :: .long x :: S) lay mem Q := by
  intro p e R s m args below meth c D A rv H locs cells slots ls st ws X F hc hs h hL hS kk
  subst hp
  obtain ⟨w0, st0, rfl, v0, hT1⟩ := am_s.cons hS
  obtain rfl : w0 = .long y := v0
  obtain ⟨w1, st1, rfl, v1, hT2⟩ := am_s.cons hT1
  obtain rfl : w1 = .long x := v1
  exact W.lcmp F.1 F.2.1 hd (K p e R s m args below meth c D A rv H locs cells slots ls _ ws X F hc hs h hL ⟨rfl, hT2⟩ kk)

theorem s_iload {z : Zz} {d kc ks : Nat} {mi : MI} {pc pc' : Nat} {L S : List Value} {lay : Lay} {mem : Mem} {Q : Option Value → Lay → Mem → Prop} {k : Nat} {x : Int32} (hd : decode mi.2.1 pc = .ok (.iload k, 2)) (hp : pc + 2 = pc') (hl : L[k]? = some (.int x)) (K : Sim z d kc ks mi pc' L (.int x :: S) lay mem Q) : Sim z d kc ks mi pc L S lay mem Q := by
  intro p e R s m args below meth c D A rv H locs cells slots ls st ws X F hc hs h hL hS kk
  subst hp
  obtain ⟨w, hw, hv⟩ := hL.2.2.2 _ _ hl rfl
  obtain rfl : w = .int x := hv
  exact lv_iload F.1 F.2.1 hd  hw (K p e R s m args below meth c D A rv H locs cells slots ls _ ws X F hc hs h hL ⟨rfl, hS⟩ kk)

theorem s_iload_n {z : Zz} {d kc ks : Nat} {mi : MI} {pc pc' : Nat} {L S : List Value} {lay : Lay} {mem : Mem} {Q : Option Value → Lay → Mem → Prop} {k : Fin 4} {x : Int32} (hd : decode mi.2.1 pc = .ok (.iload_n k, 1)) (hp : pc + 1 = pc') (hl : L[(k : Nat)]? = some (.int x)) (K : Sim z d kc ks mi pc' L (.int x :: S) lay mem Q) : Sim z d kc ks mi pc L S lay mem Q := by
  intro p e R s m args below meth c D A rv H locs cells slots ls st ws X F hc hs h hL hS kk
  subst hp
  obtain ⟨w, hw, hv⟩ := hL.2.2.2 _ _ hl rfl
  obtain rfl : w = .int x := hv
  exact lv_iload_n F.1 F.2.1 hd rfl hw (K p e R s m args below meth c D A rv H locs cells slots ls _ ws X F hc hs h hL ⟨rfl, hS⟩ kk)

theorem s_lload {z : Zz} {d kc ks : Nat} {mi : MI} {pc pc' : Nat} {L S : List Value} {lay : Lay} {mem : Mem} {Q : Option Value → Lay → Mem → Prop} {k : Nat} {x : Int64} (hd : decode mi.2.1 pc = .ok (.lload k, 2)) (hp : pc + 2 = pc') (hl : L[k]? = some (.long x)) (K : Sim z d kc ks mi pc' L (.long x :: S) lay mem Q) : Sim z d kc ks mi pc L S lay mem Q := by
  intro p e R s m args below meth c D A rv H locs cells slots ls st ws X F hc hs h hL hS kk
  subst hp
  obtain ⟨w, hw, hv⟩ := hL.2.2.2 _ _ hl rfl
  obtain rfl : w = .long x := hv
  exact lv_lload F.1 F.2.1 hd  hw (K p e R s m args below meth c D A rv H locs cells slots ls _ ws X F hc hs h hL ⟨rfl, hS⟩ kk)

theorem s_lload_n {z : Zz} {d kc ks : Nat} {mi : MI} {pc pc' : Nat} {L S : List Value} {lay : Lay} {mem : Mem} {Q : Option Value → Lay → Mem → Prop} {k : Fin 4} {x : Int64} (hd : decode mi.2.1 pc = .ok (.lload_n k, 1)) (hp : pc + 1 = pc') (hl : L[(k : Nat)]? = some (.long x)) (K : Sim z d kc ks mi pc' L (.long x :: S) lay mem Q) : Sim z d kc ks mi pc L S lay mem Q := by
  intro p e R s m args below meth c D A rv H locs cells slots ls st ws X F hc hs h hL hS kk
  subst hp
  obtain ⟨w, hw, hv⟩ := hL.2.2.2 _ _ hl rfl
  obtain rfl : w = .long x := hv
  exact lv_lload_n F.1 F.2.1 hd rfl hw (K p e R s m args below meth c D A rv H locs cells slots ls _ ws X F hc hs h hL ⟨rfl, hS⟩ kk)

def am_isA (v : Value) : Bool := match v with
  | .null => true
  | .ref _ => true
  | .retAddr _ => true
  | _ => false
theorem am_isA_mk {v : Value} (h : am_isA v = true) : am_mk v = false := by cases v <;> first | rfl | cases h
theorem am_isA_w {rv : Nat → Value} {ws : va_W} {v w : Value} (h : am_isA v = true) (hv : am_v rv ws v w) : w = .null ∨ ∃ a, w = .ref a := by
  cases v with
  | null => exact Or.inl hv
  | ref k => obtain ⟨a, e, -, h2⟩ := hv; exact Or.inr ⟨a, h2⟩
  | retAddr n => exact hv.2
  | _ => cases h
theorem am_isA_c {v : Value} (h : am_isA v = true) : v.category = 1 := by cases v <;> first | rfl | cases h
/-- the listed locals of the machine, all of them -/
def am_lv (ls : Array Slot) : List (Nat × Value) := (List.range ls.size).filterMap (fun (i : Nat) => match ls[i]? with | some (Slot.val w) => some (i, w) | _ => none)
theorem am_lv_mem {ls : Array Slot} {i : Nat} {w : Value} : (i, w) ∈ am_lv ls ↔ ls[i]? = some (.val w) := by
  unfold am_lv
  rw [List.mem_filterMap]
  constructor
  · rintro ⟨j, -, hj⟩
    split at hj
    · rename_i w' h'
      cases hj
      exact h'
    · cases hj
  · intro h
    refine ⟨i, List.mem_range.mpr (Array.getElem?_eq_some_iff.mp h).1, ?_⟩
    rw [h]
theorem am_l.has {rv : Nat → Value} {ws : va_W} {L : List Value} {ls : Array Slot} {n : Nat} (h : am_l rv ws L ls n) : lv_has ls n (am_lv ls) := ⟨h.1, h.2.1, fun q hq => am_lv_mem.mp hq⟩
def am_nl (L : List Value) (i : Nat) : Bool := match i with
  | 0 => true
  | j + 1 => match L[j]? with
    | some (.long _) => false
    | _ => true
theorem am_nl_c {rv : Nat → Value} {ws : va_W} {L : List Value} {j : Nat} {u w : Value} (h : am_nl L (j + 1) = true) (hu : L[j]? = some u) (hm : am_mk u = false) (hv : am_v rv ws u w) : w.category = 1 := by
  rw [hv.cat]
  cases u with
  | long x => simp [am_nl, hu] at h
  | float _ => cases hm
  | double _ => cases hm
  | _ => rfl
theorem am_l.st1 {rv : Nat → Value} {ws : va_W} {L : List Value} {ls ls' : Array Slot} {n i : Nat} {v w : Value} (h : am_l rv ws L ls n) (hi : i < n) (hn : am_nl L i = true) (hv : am_v rv ws v w)
    (h' : lv_has ls' n ((i, w) :: (am_lv ls).filter (fun q => !(q.1 == i) && !(q.1 + 1 == i && q.2.category == 2)))) : am_l rv ws (L.set i v) ls' n := by
  refine ⟨h'.1, h'.2.1, by rw [List.length_set]; exact h.2.2.1, fun j u hu hm => ?_⟩
  by_cases hj : j = i
  · subst hj
    rw [List.getElem?_set_self (by rw [h.2.2.1]; exact hi)] at hu
    cases hu
    exact ⟨w, h'.2.2 (j, w) List.mem_cons_self, hv⟩
  · rw [List.getElem?_set_ne (Ne.symm hj)] at hu
    obtain ⟨w', h1, h2⟩ := h.2.2.2 j u hu hm
    refine ⟨w', h'.2.2 (j, w') (List.mem_cons_of_mem _ (List.mem_filter.mpr ⟨am_lv_mem.mpr h1, ?_⟩)), h2⟩
    simp only [Bool.and_eq_true, Bool.not_eq_true', beq_eq_false_iff_ne, ne_eq, Bool.and_eq_false_iff]
    refine ⟨hj, ?_⟩
    by_cases hji : j + 1 = i
    · right
      subst hji
      rw [am_nl_c hn hu hm h2]
      decide
    · left; exact hji
theorem am_l.st2 {rv : Nat → Value} {ws : va_W} {L : List Value} {ls ls' : Array Slot} {n i : Nat} {v w : Value} (h : am_l rv ws L ls n) (hi : i + 1 < n) (hn : am_nl L i = true) (hv : am_v rv ws v w)
    (h' : lv_has ls' n ((i, w) :: (am_lv ls).filter (fun q => !(q.1 == i) && (!(q.1 == i + 1) && !(q.1 + 1 == i && q.2.category == 2))))) : am_l rv ws ((L.set i v).set (i + 1) (.double 0)) ls' n := by
  refine ⟨h'.1, h'.2.1, by rw [List.length_set, List.length_set]; exact h.2.2.1, fun j u hu hm => ?_⟩
  by_cases hj1 : j = i + 1
  · subst hj1
    rw [List.getElem?_set_self (by rw [List.length_set, h.2.2.1]; exact hi)] at hu
    cases hu
    cases hm
  rw [List.getElem?_set_ne (Ne.symm hj1)] at hu
  by_cases hj : j = i
  · subst hj
    rw [List.getElem?_set_self (by rw [h.2.2.1]; omega)] at hu
    cases hu
    exact ⟨w, h'.2.2 (j, w) List.mem_cons_self, hv⟩
  · rw [List.getElem?_set_ne (Ne.symm hj)] at hu
    obtain ⟨w', h1, h2⟩ := h.2.2.2 j u hu hm
    refine ⟨w', h'.2.2 (j, w') (List.mem_cons_of_mem _ (List.mem_filter.mpr ⟨am_lv_mem.mpr h1, ?_⟩)), h2⟩
    simp only [Bool.and_eq_true, Bool.not_eq_true', beq_eq_false_iff_ne, ne_eq, Bool.and_eq_false_iff]
    refine ⟨hj, hj1, ?_⟩
    by_cases hji : j + 1 = i
    · right
      subst hji
      rw [am_nl_c hn hu hm h2]
      decide
    · left; exact hji
theorem am_l.lt {rv : Nat → Value} {ws : va_W} {L : List Value} {ls : Array Slot} {n i : Nat} (h : am_l rv ws L ls n) (hi : i < L.length) : i < n := by rw [← h.2.2.1]; exact hi

theorem s_aload {z : Zz} {d kc ks : Nat} {mi : MI} {pc pc' : Nat} {L S : List Value} {lay : Lay} {mem : Mem} {Q : Option Value → Lay → Mem → Prop} {k : Nat} {v : Value} (hd : decode mi.2.1 pc = .ok (.aload k, 2)) (hp : pc + 2 = pc') (hl : L[k]? = some v) (hr : am_isA v = true) (K : Sim z d kc ks mi pc' L (v :: S) lay mem Q) : Sim z d kc ks mi pc L S lay mem Q := by
  intro p e R s m args below meth c D A rv H locs cells slots ls st ws X F hc hs h hL hS kk
  subst hp
  obtain ⟨w, hw, hv⟩ := hL.2.2.2 _ _ hl (am_isA_mk hr)
  rcases am_isA_w hr hv with rfl | ⟨a, rfl⟩
  · exact lv_aloadN F.1 F.2.1 hd  hw (K p e R s m args below meth c D A rv H locs cells slots ls _ ws X F hc hs h hL ⟨hv, hS⟩ kk)
  · exact lv_aload F.1 F.2.1 hd  hw (K p e R s m args below meth c D A rv H locs cells slots ls _ ws X F hc hs h hL ⟨hv, hS⟩ kk)

theorem s_aload_n {z : Zz} {d kc ks : Nat} {mi : MI} {pc pc' : Nat} {L S : List Value} {lay : Lay} {mem : Mem} {Q : Option Value → Lay → Mem → Prop} {k : Fin 4} {v : Value} (hd : decode mi.2.1 pc = .ok (.aload_n k, 1)) (hp : pc + 1 = pc') (hl : L[(k : Nat)]? = some v) (hr : am_isA v = true) (K : Sim z d kc ks mi pc' L (v :: S) lay mem Q) : Sim z d kc ks mi pc L S lay mem Q := by
  intro p e R s m args below meth c D A rv H locs cells slots ls st ws X F hc hs h hL hS kk
  subst hp
  obtain ⟨w, hw, hv⟩ := hL.2.2.2 _ _ hl (am_isA_mk hr)
  rcases am_isA_w hr hv with rfl | ⟨a, rfl⟩
  · exact lv_aload_nN F.1 F.2.1 hd rfl hw (K p e R s m args below meth c D A rv H locs cells slots ls _ ws X F hc hs h hL ⟨hv, hS⟩ kk)
  · exact lv_aload_n F.1 F.2.1 hd rfl hw (K p e R s m args below meth c D A rv H locs cells slots ls _ ws X F hc hs h hL ⟨hv, hS⟩ kk)

theorem s_istore {z : Zz} {d kc ks : Nat} {mi : MI} {pc pc' : Nat} {L S : List Value} {lay : Lay} {mem : Mem} {Q : Option Value → Lay → Mem → Prop} {k : Nat} {x : Int32} {L' : List Value} (hd : decode mi.2.1 pc = .ok (.istore k, 2)) (hp : pc + 2 = pc') (hi : k < L.length) (hn : am_nl L k = true) (hl : L.set k (.int x) = L') (K : Sim z d kc ks mi pc' L' S lay mem Q) : Sim z d kc ks mi pc L (.int x :: S) lay mem Q := by
  intro p e R s m args below meth c D A rv H locs cells slots ls st ws X F hc hs h hL hS kk
  subst hp
  subst hl
  obtain ⟨w, st, rfl, v, hT⟩ := am_s.cons hS
  obtain rfl : w = .int x := v
  exact lv_istore F.1 F.2.1 hd  hL.has (hL.lt hi) rfl (fun ls2 h2 => K p e R s m args below meth c D A rv H locs cells slots ls2 _ ws X F hc hs h (hL.st1 (hL.lt hi) hn rfl h2) hT kk)

theorem s_istore_n {z : Zz} {d kc ks : Nat} {mi : MI} {pc pc' : Nat} {L S : List Value} {lay : Lay} {mem : Mem} {Q : Option Value → Lay → Mem → Prop} {k : Fin 4} {x : Int32} {L' : List Value} (hd : decode mi.2.1 pc = .ok (.istore_n k, 1)) (hp : pc + 1 = pc') (hi : (k : Nat) < L.length) (hn : am_nl L (k : Nat) = true) (hl : L.set (k : Nat) (.int x) = L') (K : Sim z d kc ks mi pc' L' S lay mem Q) : Sim z d kc ks mi pc L (.int x :: S) lay mem Q := by
  intro p e R s m args below meth c D A rv H locs cells slots ls st ws X F hc hs h hL hS kk
  subst hp
  subst hl
  obtain ⟨w, st, rfl, v, hT⟩ := am_s.cons hS
  obtain rfl : w = .int x := v
  exact lv_istore_n F.1 F.2.1 hd rfl hL.has (hL.lt hi) rfl (fun ls2 h2 => K p e R s m args below meth c D A rv H locs cells slots ls2 _ ws X F hc hs h (hL.st1 (hL.lt hi) hn rfl h2) hT kk)

theorem s_lstore {z : Zz} {d kc ks : Nat} {mi : MI} {pc pc' : Nat} {L S : List Value} {lay : Lay} {mem : Mem} {Q : Option Value → Lay → Mem → Prop} {k : Nat} {x : Int64} {L' : List Value} (hd : decode mi.2.1 pc = .ok (.lstore k, 2)) (hp : pc + 2 = pc') (hi : k + 1 < L.length) (hn : am_nl L k = true) (hl : (L.set k (.long x)).set (k + 1) (.double 0) = L') (K : Sim z d kc ks mi pc' L' S lay mem Q) : Sim z d kc ks mi pc L (.long x :: S) lay mem Q := by
  intro p e R s m args below meth c D A rv H locs cells slots ls st ws X F hc hs h hL hS kk
  subst hp
  subst hl
  obtain ⟨w, st, rfl, v, hT⟩ := am_s.cons hS
  obtain rfl : w = .long x := v
  exact lv_lstore F.1 F.2.1 hd  hL.has (hL.lt hi) rfl (fun ls2 h2 => K p e R s m args below meth c D A rv H locs cells slots ls2 _ ws X F hc hs h (hL.st2 (hL.lt hi) hn rfl h2) hT kk)

theorem s_lstore_n {z : Zz} {d kc ks : Nat} {mi : MI} {pc pc' : Nat} {L S : List Value} {lay : Lay} {mem : Mem} {Q : Option Value → Lay → Mem → Prop} {k : Fin 4} {x : Int64} {L' : List Value} (hd : decode mi.2.1 pc = .ok (.lstore_n k, 1)) (hp : pc + 1 = pc') (hi : (k : Nat) + 1 < L.length) (hn : am_nl L (k : Nat) = true) (hl : (L.set (k : Nat) (.long x)).set ((k : Nat) + 1) (.double 0) = L') (K : Sim z d kc ks mi pc' L' S lay mem Q) : Sim z d kc ks mi pc L (.long x :: S) lay mem Q := by
  intro p e R s m args below meth c D A rv H locs cells slots ls st ws X F hc hs h hL hS kk
  subst hp
  subst hl
  obtain ⟨w, st, rfl, v, hT⟩ := am_s.cons hS
  obtain rfl : w = .long x := v
  exact lv_lstore_n F.1 F.2.1 hd rfl hL.has (hL.lt hi) rfl (fun ls2 h2 => K p e R s m args below meth c D A rv H locs cells slots ls2 _ ws X F hc hs h (hL.st2 (hL.lt hi) hn rfl h2) hT kk)

theorem s_astore {z : Zz} {d kc ks : Nat} {mi : MI} {pc pc' : Nat} {L S : List Value} {lay : Lay} {mem : Mem} {Q : Option Value → Lay → Mem → Prop} {k : Nat} {v : Value} {L' : List Value} (hd : decode mi.2.1 pc = .ok (.astore k, 2)) (hp : pc + 2 = pc') (hr : am_isA v = true) (hi : k < L.length) (hn : am_nl L k = true) (hl : L.set k v = L') (K : Sim z d kc ks mi pc' L' S lay mem Q) : Sim z d kc ks mi pc L (v :: S) lay mem Q := by
  intro p e R s m args below meth c D A rv H locs cells slots ls st ws X F hc hs h hL hS kk
  subst hp
  subst hl
  obtain ⟨w, st, rfl, hv, hT⟩ := am_s.cons hS
  rcases am_isA_w hr hv with rfl | ⟨a, rfl⟩
  · exact lv_astoreN F.1 F.2.1 hd  hL.has (hL.lt hi) rfl (fun ls2 h2 => K p e R s m args below meth c D A rv H locs cells slots ls2 _ ws X F hc hs h (hL.st1 (hL.lt hi) hn hv h2) hT kk)
  · exact lv_astore F.1 F.2.1 hd  hL.has (hL.lt hi) rfl (fun ls2 h2 => K p e R s m args below meth c D A rv H locs cells slots ls2 _ ws X F hc hs h (hL.st1 (hL.lt hi) hn hv h2) hT kk)

theorem s_astore_n {z : Zz} {d kc ks : Nat} {mi : MI} {pc pc' : Nat} {L S : List Value} {lay : Lay} {mem : Mem} {Q : Option Value → Lay → Mem → Prop} {k : Fin 4} {v : Value} {L' : List Value} (hd : decode mi.2.1 pc = .ok (.astore_n k, 1)) (hp : pc + 1 = pc') (hr : am_isA v = true) (hi : (k : Nat) < L.length) (hn : am_nl L (k : Nat) = true) (hl : L.set (k : Nat) v = L') (K : Sim z d kc ks mi pc' L' S lay mem Q) : Sim z d kc ks mi pc L (v :: S) lay mem Q := by
  intro p e R s m args below meth c D A rv H locs cells slots ls st ws X F hc hs h hL hS kk
  subst hp
  subst hl
  obtain ⟨w, st, rfl, hv, hT⟩ := am_s.cons hS
  rcases am_isA_w hr hv with rfl | ⟨a, rfl⟩
  · exact lv_astore_nN F.1 F.2.1 hd rfl hL.has (hL.lt hi) rfl (fun ls2 h2 => K p e R s m args below meth c D A rv H locs cells slots ls2 _ ws X F hc hs h (hL.st1 (hL.lt hi) hn hv h2) hT kk)
  · exact lv_astore_n F.1 F.2.1 hd rfl hL.has (hL.lt hi) rfl (fun ls2 h2 => K p e R s m args below meth c D A rv H locs cells slots ls2 _ ws X F hc hs h (hL.st1 (hL.lt hi) hn hv h2) hT kk)

theorem s_iinc {z : Zz} {d kc ks : Nat} {mi : MI} {pc pc' : Nat} {L S : List Value} {lay : Lay} {mem : Mem} {Q : Option Value → Lay → Mem → Prop} {k : Nat} {n : Int} {x v : Int32} {L' : List Value} (hd : decode mi.2.1 pc = .ok (.iinc k n, 3)) (hp : pc + 3 = pc') (hl : L[k]? = some (.int x)) (hn : am_nl L k = true) (hv : x + Int32.ofInt n = v) (hl' : L.set k (.int v) = L') (K : Sim z d kc ks mi pc' L' S lay mem Q) : Sim z d kc ks mi pc L S lay mem Q := by
  intro p e R s m args below meth c D A rv H locs cells slots ls st ws X F hc hs h hL hS kk
  subst hp
  subst hl'
  obtain ⟨w, hw, hv2⟩ := hL.2.2.2 _ _ hl rfl
  obtain rfl : w = .int x := hv2
  obtain ⟨j, hj⟩ := List.getElem?_of_mem (am_lv_mem.mpr hw)
  have hi := hL.lt (List.getElem?_eq_some_iff.mp hl).1
  exact lv_iinc F.1 F.2.1 hd hL.has hj hv hi rfl (fun ls2 h2 => K p e R s m args below meth c D A rv H locs cells slots ls2 _ ws X F hc hs h (hL.st1 hi hn rfl h2) hS kk)

theorem s_dup {z : Zz} {d kc ks : Nat} {mi : MI} {pc pc' : Nat} {L S : List Value} {lay : Lay} {mem : Mem} {Q : Option Value → Lay → Mem → Prop} {v : Value} (hd : decode mi.2.1 pc = .ok (.dup, 1)) (hp : pc + 1 = pc') (hv : v.category = 1) (K : Sim z d kc ks mi pc' L (v :: v :: S) lay mem Q) : Sim z d kc ks mi pc L (v :: S) lay mem Q := by
  intro p e R s m args below meth c D A rv H locs cells slots ls st ws X F hc hs h hL hS kk
  subst hp
  obtain ⟨w, st, rfl, v1, hT⟩ := am_s.cons hS
  exact lv_dup F.1 F.2.1 hd (v1.cat.trans hv) (K p e R s m args below meth c D A rv H locs cells slots ls _ ws X F hc hs h hL ⟨v1, v1, hT⟩ kk)

theorem s_pop {z : Zz} {d kc ks : Nat} {mi : MI} {pc pc' : Nat} {L S : List Value} {lay : Lay} {mem : Mem} {Q : Option Value → Lay → Mem → Prop} {v : Value} (hd : decode mi.2.1 pc = .ok (.pop, 1)) (hp : pc + 1 = pc') (hv : v.category = 1) (K : Sim z d kc ks mi pc' L S lay mem Q) : Sim z d kc ks mi pc L (v :: S) lay mem Q := by
  intro p e R s m args below meth c D A rv H locs cells slots ls st ws X F hc hs h hL hS kk
  subst hp
  obtain ⟨w, st, rfl, v1, hT⟩ := am_s.cons hS
  exact lv_pop F.1 F.2.1 hd (v1.cat.trans hv) (K p e R s m args below meth c D A rv H locs cells slots ls _ ws X F hc hs h hL hT kk)

theorem s_dup2 {z : Zz} {d kc ks : Nat} {mi : MI} {pc pc' : Nat} {L S : List Value} {lay : Lay} {mem : Mem} {Q : Option Value → Lay → Mem → Prop} {v u : Value} (hd : decode mi.2.1 pc = .ok (.dup2, 1)) (hp : pc + 1 = pc') (hv : v.category = 1) (hu : u.category = 1) (K : Sim z d kc ks mi pc' L (v :: u :: v :: u :: S) lay mem Q) : Sim z d kc ks mi pc L (v :: u :: S) lay mem Q := by
  intro p e R s m args below meth c D A rv H locs cells slots ls st ws X F hc hs h hL hS kk
  subst hp
  obtain ⟨w, st, rfl, v1, hT⟩ := am_s.cons hS
  obtain ⟨w2, st2, rfl, v2, hT2⟩ := am_s.cons hT
  exact lv_dup2_11 F.1 F.2.1 hd (v1.cat.trans hv) (v2.cat.trans hu) (K p e R s m args below meth c D A rv H locs cells slots ls _ ws X F hc hs h hL ⟨v1, v2, v1, v2, hT2⟩ kk)

theorem s_if_eq {z : Zz} {d kc ks : Nat} {mi : MI} {pc pc' : Nat} {L S : List Value} {lay : Lay} {mem : Mem} {Q : Option Value → Lay → Mem → Prop} {x : Int32} {off : Int} {tgt : Nat} (hd : decode mi.2.1 pc = .ok (.ifCond .eq off, 3)) (hp : pc + 3 = pc') (ht : (pc : Int) + off = (tgt : Int)) (Kt : x = 0 → Sim z d kc ks mi tgt L S lay mem Q) (Kf : ¬ x = 0 → Sim z d kc ks mi pc' L S lay mem Q) : Sim z d kc ks mi pc L (.int x :: S) lay mem Q := by
  intro p e R s m args below meth c D A rv H locs cells slots ls st ws X F hc hs h hL hS kk
  subst hp
  obtain ⟨w0, st0, rfl, v0, hT1⟩ := am_s.cons hS
  obtain rfl : w0 = .int x := v0
  exact lv_if_eq F.1 F.2.1 hd ht (fun q => Kt q p e R s m args below meth c D A rv H locs cells slots ls _ ws X F hc hs h hL hT1 kk) (fun q => Kf q p e R s m args below meth c D A rv H locs cells slots ls _ ws X F hc hs h hL hT1 kk)

theorem s_icmp_eq {z : Zz} {d kc ks : Nat} {mi : MI} {pc pc' : Nat} {L S : List Value} {lay : Lay} {mem : Mem} {Q : Option Value → Lay → Mem → Prop} {x y : Int32} {off : Int} {tgt : Nat} (hd : decode mi.2.1 pc = .ok (.if_icmp .eq off, 3)) (hp : pc + 3 = pc') (ht : (pc : Int) + off = (tgt : Int)) (Kt : x = y → Sim z d kc ks mi tgt L S lay mem Q) (Kf : ¬ x = y → Sim z d kc ks mi pc' L S lay mem Q) : Sim z d kc ks mi pc L (.int y :: .int x :: S) lay mem Q := by
  intro p e R s m args below meth c D A rv H locs cells slots ls st ws X F hc hs h hL hS kk
  subst hp
  obtain ⟨w0, st0, rfl, v0, hT1⟩ := am_s.cons hS
  obtain rfl : w0 = .int y := v0
  obtain ⟨w1, st1, rfl, v1, hT2⟩ := am_s.cons hT1
  obtain rfl : w1 = .int x := v1
  exact lv_icmp_eq F.1 F.2.1 hd ht (fun q => Kt q p e R s m args below meth c D A rv H locs cells slots ls _ ws X F hc hs h hL hT2 kk) (fun q => Kf q p e R s m args below meth c D A rv H locs cells slots ls _ ws X F hc hs h hL hT2 kk)

theorem s_if_lt {z : Zz} {d kc ks : Nat} {mi : MI} {pc pc' : Nat} {L S : List Value} {lay : Lay} {mem : Mem} {Q : Option Value → Lay → Mem → Prop} {x : Int32} {off : Int} {tgt : Nat} (hd : decode mi.2.1 pc = .ok (.ifCond .lt off, 3)) (hp : pc + 3 = pc') (ht : (pc : Int) + off = (tgt : Int)) (Kt : x < 0 → Sim z d kc ks mi tgt L S lay mem Q) (Kf : ¬ x < 0 → Sim z d kc ks mi pc' L S lay mem Q) : Sim z d kc ks mi pc L (.int x :: S) lay mem Q := by
  intro p e R s m args below meth c D A rv H locs cells slots ls st ws X F hc hs h hL hS kk
  subst hp
  obtain ⟨w0, st0, rfl, v0, hT1⟩ := am_s.cons hS
  obtain rfl : w0 = .int x := v0
  exact lv_if_lt F.1 F.2.1 hd ht (fun q => Kt q p e R s m args below meth c D A rv H locs cells slots ls _ ws X F hc hs h hL hT1 kk) (fun q => Kf q p e R s m args below meth c D A rv H locs cells slots ls _ ws X F hc hs h hL hT1 kk)

theorem s_icmp_lt {z : Zz} {d kc ks : Nat} {mi : MI} {pc pc' : Nat} {L S : List Value} {lay : Lay} {mem : Mem} {Q : Option Value → Lay → Mem → Prop} {x y : Int32} {off : Int} {tgt : Nat} (hd : decode mi.2.1 pc = .ok (.if_icmp .lt off, 3)) (hp : pc + 3 = pc') (ht : (pc : Int) + off = (tgt : Int)) (Kt : x < y → Sim z d kc ks mi tgt L S lay mem Q) (Kf : ¬ x < y → Sim z d kc ks mi pc' L S lay mem Q) : Sim z d kc ks mi pc L (.int y :: .int x :: S) lay mem Q := by
  intro p e R s m args below meth c D A rv H locs cells slots ls st ws X F hc hs h hL hS kk
  subst hp
  obtain ⟨w0, st0, rfl, v0, hT1⟩ := am_s.cons hS
  obtain rfl : w0 = .int y := v0
  obtain ⟨w1, st1, rfl, v1, hT2⟩ := am_s.cons hT1
  obtain rfl : w1 = .int x := v1
  exact lv_icmp_lt F.1 F.2.1 hd ht (fun q => Kt q p e R s m args below meth c D A rv H locs cells slots ls _ ws X F hc hs h hL hT2 kk) (fun q => Kf q p e R s m args below meth c D A rv H locs cells slots ls _ ws X F hc hs h hL hT2 kk)

theorem s_if_ge {z : Zz} {d kc ks : Nat} {mi : MI} {pc pc' : Nat} {L S : List Value} {lay : Lay} {mem : Mem} {Q : Option Value → Lay → Mem → Prop} {x : Int32} {off : Int} {tgt : Nat} (hd : decode mi.2.1 pc = .ok (.ifCond .ge off, 3)) (hp : pc + 3 = pc') (ht : (pc : Int) + off = (tgt : Int)) (Kt : 0 ≤ x → Sim z d kc ks mi tgt L S lay mem Q) (Kf : ¬ 0 ≤ x → Sim z d kc ks mi pc' L S lay mem Q) : Sim z d kc ks mi pc L (.int x :: S) lay mem Q := by
  intro p e R s m args below meth c D A rv H locs cells slots ls st ws X F hc hs h hL hS kk
  subst hp
  obtain ⟨w0, st0, rfl, v0, hT1⟩ := am_s.cons hS
  obtain rfl : w0 = .int x := v0
  exact lv_if_ge F.1 F.2.1 hd ht (fun q => Kt q p e R s m args below meth c D A rv H locs cells slots ls _ ws X F hc hs h hL hT1 kk) (fun q => Kf q p e R s m args below meth c D A rv H locs cells slots ls _ ws X F hc hs h hL hT1 kk)

theorem s_icmp_ge {z : Zz} {d kc ks : Nat} {mi : MI} {pc pc' : Nat} {L S : List Value} {lay : Lay} {mem : Mem} {Q : Option Value → Lay → Mem → Prop} {x y : Int32} {off : Int} {tgt : Nat} (hd : decode mi.2.1 pc = .ok (.if_icmp .ge off, 3)) (hp : pc + 3 = pc') (ht : (pc : Int) + off = (tgt : Int)) (Kt : y ≤ x → Sim z d kc ks mi tgt L S lay mem Q) (Kf : ¬ y ≤ x → Sim z d kc ks mi pc' L S lay mem Q) : Sim z d kc ks mi pc L (.int y :: .int x :: S) lay mem Q := by
  intro p e R s m args below meth c D A rv H locs cells slots ls st ws X F hc hs h hL hS kk
  subst hp
  obtain ⟨w0, st0, rfl, v0, hT1⟩ := am_s.cons hS
  obtain rfl : w0 = .int y := v0
  obtain ⟨w1, st1, rfl, v1, hT2⟩ := am_s.cons hT1
  obtain rfl : w1 = .int x := v1
  exact lv_icmp_ge F.1 F.2.1 hd ht (fun q => Kt q p e R s m args below meth c D A rv H locs cells slots ls _ ws X F hc hs h hL hT2 kk) (fun q => Kf q p e R s m args below meth c D A rv H locs cells slots ls _ ws X F hc hs h hL hT2 kk)

theorem s_if_gt {z : Zz} {d kc ks : Nat} {mi : MI} {pc pc' : Nat} {L S : List Value} {lay : Lay} {mem : Mem} {Q : Option Value → Lay → Mem → Prop} {x : Int32} {off : Int} {tgt : Nat} (hd : decode mi.2.1 pc = .ok (.ifCond .gt off, 3)) (hp : pc + 3 = pc') (ht : (pc : Int) + off = (tgt : Int)) (Kt : 0 < x → Sim z d kc ks mi tgt L S lay mem Q) (Kf : ¬ 0 < x → Sim z d kc ks mi pc' L S lay mem Q) : Sim z d kc ks mi pc L (.int x :: S) lay mem Q := by
  intro p e R s m args below meth c D A rv H locs cells slots ls st ws X F hc hs h hL hS kk
  subst hp
  obtain ⟨w0, st0, rfl, v0, hT1⟩ := am_s.cons hS
  obtain rfl : w0 = .int x := v0
  exact lv_if_gt F.1 F.2.1 hd ht (fun q => Kt q p e R s m args below meth c D A rv H locs cells slots ls _ ws X F hc hs h hL hT1 kk) (fun q => Kf q p e R s m args below meth c D A rv H locs cells slots ls _ ws X F hc hs h hL hT1 kk)

theorem s_icmp_gt {z : Zz} {d kc ks : Nat} {mi : MI} {pc pc' : Nat} {L S : List Value} {lay : Lay} {mem : Mem} {Q : Option Value → Lay → Mem → Prop} {x y : Int32} {off : Int} {tgt : Nat} (hd : decode mi.2.1 pc = .ok (.if_icmp .gt off, 3)) (hp : pc + 3 = pc') (ht : (pc : Int) + off = (tgt : Int)) (Kt : y < x → Sim z d kc ks mi tgt L S lay mem Q) (Kf : ¬ y < x → Sim z d kc ks mi pc' L S lay mem Q) : Sim z d kc ks mi pc L (.int y :: .int x :: S) lay mem Q := by
  intro p e R s m args below meth c D A rv H locs cells slots ls st ws X F hc hs h hL hS kk
  subst hp
  obtain ⟨w0, st0, rfl, v0, hT1⟩ := am_s.cons hS
  obtain rfl : w0 = .int y := v0
  obtain ⟨w1, st1, rfl, v1, hT2⟩ := am_s.cons hT1
  obtain rfl : w1 = .int x := v1
  exact lv_icmp_gt F.1 F.2.1 hd ht (fun q => Kt q p e R s m args below meth c D A rv H locs cells slots ls _ ws X F hc hs h hL hT2 kk) (fun q => Kf q p e R s m args below meth c D A rv H locs cells slots ls _ ws X F hc hs h hL hT2 kk)

theorem s_if_le {z : Zz} {d kc ks : Nat} {mi : MI} {pc pc' : Nat} {L S : List Value} {lay : Lay} {mem : Mem} {Q : Option Value → Lay → Mem → Prop} {x : Int32} {off : Int} {tgt : Nat} (hd : decode mi.2.1 pc = .ok (.ifCond .le off, 3)) (hp : pc + 3 = pc') (ht : (pc : Int) + off = (tgt : Int)) (Kt : x ≤ 0 → Sim z d kc ks mi tgt L S lay mem Q) (Kf : ¬ x ≤ 0 → Sim z d kc ks mi pc' L S lay mem Q) : Sim z d kc ks mi pc L (.int x :: S) lay mem Q := by
  intro p e R s m args below meth c D A rv H locs cells slots ls st ws X F hc hs h hL hS kk
  subst hp
  obtain ⟨w0, st0, rfl, v0, hT1⟩ := am_s.cons hS
  obtain rfl : w0 = .int x := v0
  exact lv_if_le F.1 F.2.1 hd ht (fun q => Kt q p e R s m args below meth c D A rv H locs cells slots ls _ ws X F hc hs h hL hT1 kk) (fun q => Kf q p e R s m args below meth c D A rv H locs cells slots ls _ ws X F hc hs h hL hT1 kk)

theorem s_icmp_le {z : Zz} {d kc ks : Nat} {mi : MI} {pc pc' : Nat} {L S : List Value} {lay : Lay} {mem : Mem} {Q : Option Value → Lay → Mem → Prop} {x y : Int32} {off : Int} {tgt : Nat} (hd : decode mi.2.1 pc = .ok (.if_icmp .le off, 3)) (hp : pc + 3 = pc') (ht : (pc : Int) + off = (tgt : Int)) (Kt : x ≤ y → Sim z d kc ks mi tgt L S lay mem Q) (Kf : ¬ x ≤ y → Sim z d kc ks mi pc' L S lay mem Q) : Sim z d kc ks mi pc L (.int y :: .int x :: S) lay mem Q := by
  intro p e R s m args below meth c D A rv H locs cells slots ls st ws X F hc hs h hL hS kk
  subst hp
  obtain ⟨w0, st0, rfl, v0, hT1⟩ := am_s.cons hS
  obtain rfl : w0 = .int y := v0
  obtain ⟨w1, st1, rfl, v1, hT2⟩ := am_s.cons hT1
  obtain rfl : w1 = .int x := v1
  exact lv_icmp_le F.1 F.2.1 hd ht (fun q => Kt q p e R s m args below meth c D A rv H locs cells slots ls _ ws X F hc hs h hL hT2 kk) (fun q => Kf q p e R s m args below meth c D A rv H locs cells slots ls _ ws X F hc hs h hL hT2 kk)

theorem s_if_ne {z : Zz} {d kc ks : Nat} {mi : MI} {pc pc' : Nat} {L S : List Value} {lay : Lay} {mem : Mem} {Q : Option Value → Lay → Mem → Prop} {x : Int32} {off : Int} {tgt : Nat} (hd : decode mi.2.1 pc = .ok (.ifCond .ne off, 3)) (hp : pc + 3 = pc') (ht : (pc : Int) + off = (tgt : Int)) (Kt : ¬ x = 0 → Sim z d kc ks mi tgt L S lay mem Q) (Kf : x = 0 → Sim z d kc ks mi pc' L S lay mem Q) : Sim z d kc ks mi pc L (.int x :: S) lay mem Q := by
  intro p e R s m args below meth c D A rv H locs cells slots ls st ws X F hc hs h hL hS kk
  subst hp
  obtain ⟨w0, st0, rfl, v0, hT1⟩ := am_s.cons hS
  obtain rfl : w0 = .int x := v0
  exact lv_if_ne F.1 F.2.1 hd ht (fun q => Kt q p e R s m args below meth c D A rv H locs cells slots ls _ ws X F hc hs h hL hT1 kk) (fun q => Kf q p e R s m args below meth c D A rv H locs cells slots ls _ ws X F hc hs h hL hT1 kk)

theorem s_icmp_ne {z : Zz} {d kc ks : Nat} {mi : MI} {pc pc' : Nat} {L S : List Value} {lay : Lay} {mem : Mem} {Q : Option Value → Lay → Mem → Prop} {x y : Int32} {off : Int} {tgt : Nat} (hd : decode mi.2.1 pc = .ok (.if_icmp .ne off, 3)) (hp : pc + 3 = pc') (ht : (pc : Int) + off = (tgt : Int)) (Kt : ¬ x = y → Sim z d kc ks mi tgt L S lay mem Q) (Kf : x = y → Sim z d kc ks mi pc' L S lay mem Q) : Sim z d kc ks mi pc L (.int y :: .int x :: S) lay mem Q := by
  intro p e R s m args below meth c D A rv H locs cells slots ls st ws X F hc hs h hL hS kk
  subst hp
  obtain ⟨w0, st0, rfl, v0, hT1⟩ := am_s.cons hS
  obtain rfl : w0 = .int y := v0
  obtain ⟨w1, st1, rfl, v1, hT2⟩ := am_s.cons hT1
  obtain rfl : w1 = .int x := v1
  exact lv_icmp_ne F.1 F.2.1 hd ht (fun q => Kt q p e R s m args below meth c D A rv H locs cells slots ls _ ws X F hc hs h hL hT2 kk) (fun q => Kf q p e R s m args below meth c D A rv H locs cells slots ls _ ws X F hc hs h hL hT2 kk)

theorem s_goto {z : Zz} {d kc ks : Nat} {mi : MI} {pc : Nat} {L S : List Value} {lay : Lay} {mem : Mem} {Q : Option Value → Lay → Mem → Prop} {off : Int} {tgt : Nat} (hd : decode mi.2.1 pc = .ok (.goto off, 3)) (ht : (pc : Int) + off = (tgt : Int)) (K : Sim z d kc ks mi tgt L S lay mem Q) : Sim z d kc ks mi pc L S lay mem Q := by
  intro p e R s m args below meth c D A rv H locs cells slots ls st ws X F hc hs h hL hS kk
  exact lv_goto F.1 F.2.1 hd ht (K p e R s m args below meth c D A rv H locs cells slots ls _ ws X F hc hs h hL hS kk)

theorem s_ifnonnull {z : Zz} {d kc ks : Nat} {mi : MI} {pc : Nat} {L S : List Value} {lay : Lay} {mem : Mem} {Q : Option Value → Lay → Mem → Prop} {off : Int} {tgt a : Nat} (hd : decode mi.2.1 pc = .ok (.ifnonnull off, 3)) (ht : (pc : Int) + off = (tgt : Int)) (K : Sim z d kc ks mi tgt L S lay mem Q) : Sim z d kc ks mi pc L (.ref a :: S) lay mem Q := by
  intro p e R s m args below meth c D A rv H locs cells slots ls st ws X F hc hs h hL hS kk
  obtain ⟨w, st, rfl, ⟨a, e9, -, rfl⟩, hT⟩ := am_s.cons hS
  exact lv_ifnonnull F.1 F.2.1 hd ht (K p e R s m args below meth c D A rv H locs cells slots ls _ ws X F hc hs h hL hT kk)

theorem s_ifnonnullN {z : Zz} {d kc ks : Nat} {mi : MI} {pc pc' : Nat} {L S : List Value} {lay : Lay} {mem : Mem} {Q : Option Value → Lay → Mem → Prop} {off : Int} (hd : decode mi.2.1 pc = .ok (.ifnonnull off, 3)) (hp : pc + 3 = pc') (K : Sim z d kc ks mi pc' L S lay mem Q) : Sim z d kc ks mi pc L (.null :: S) lay mem Q := by
  intro p e R s m args below meth c D A rv H locs cells slots ls st ws X F hc hs h hL hS kk
  subst hp
  obtain ⟨w, st, rfl, v, hT⟩ := am_s.cons hS
  obtain rfl : w = .null := v
  exact lv_ifnonnullN F.1 F.2.1 hd (K p e R s m args below meth c D A rv H locs cells slots ls _ ws X F hc hs h hL hT kk)

theorem s_tsOut {z : Zz} {d kc ks : Nat} {mi : MI} {pc : Nat} {L S : List Value} {lay : Lay} {mem : Mem} {Q : Option Value → Lay → Mem → Prop} {dflt lo hi : Int} {offs : Array Int} {len tgt : Nat} {x : Int32} (hd : decode mi.2.1 pc = .ok (.tableswitch dflt lo hi offs, len)) (hx : x.toInt < lo ∨ hi < x.toInt) (ht : (pc : Int) + dflt = (tgt : Int)) (K : Sim z d kc ks mi tgt L S lay mem Q) : Sim z d kc ks mi pc L (.int x :: S) lay mem Q := by
  intro p e R s m args below meth c D A rv H locs cells slots ls st ws X F hc hs h hL hS kk
  obtain ⟨w, st, rfl, v, hT⟩ := am_s.cons hS
  obtain rfl : w = .int x := v
  exact lv_tableOut F.1 F.2.1 hd hx ht (K p e R s m args below meth c D A rv H locs cells slots ls _ ws X F hc hs h hL hT kk)

theorem s_tsIn {z : Zz} {d kc ks : Nat} {mi : MI} {pc : Nat} {L S : List Value} {lay : Lay} {mem : Mem} {Q : Option Value → Lay → Mem → Prop} {dflt lo hi off : Int} {offs : Array Int} {len tgt : Nat} {x : Int32} (hd : decode mi.2.1 pc = .ok (.tableswitch dflt lo hi offs, len)) (h1 : ¬ x.toInt < lo) (h2 : ¬ hi < x.toInt) (ho : offs[(x.toInt - lo).toNat]? = some off) (ht : (pc : Int) + off = (tgt : Int)) (K : Sim z d kc ks mi tgt L S lay mem Q) : Sim z d kc ks mi pc L (.int x :: S) lay mem Q := by
  intro p e R s m args below meth c D A rv H locs cells slots ls st ws X F hc hs h hL hS kk
  obtain ⟨w, st, rfl, v, hT⟩ := am_s.cons hS
  obtain rfl : w = .int x := v
  exact lv_tableIn F.1 F.2.1 hd h1 h2 ho ht (K p e R s m args below meth c D A rv H locs cells slots ls _ ws X F hc hs h hL hT kk)

theorem s_ldc {z : Zz} {d kc ks : Nat} {mi : MI} {pc pc' : Nat} {L S : List Value} {lay : Lay} {mem : Mem} {Q : Option Value → Lay → Mem → Prop} {index : Nat} {v : Int32} (hd : decode mi.2.1 pc = .ok (.ldc index, 2)) (hp : pc + 2 = pc') (hw : Cond.constant mi.1.cls index v ∈ wok) (K : Sim z d kc ks mi pc' L (.int v :: S) lay mem Q) : Sim z d kc ks mi pc L S lay mem Q := by
  intro p e R s m args below meth c D A rv H locs cells slots ls st ws X F hc hs h hL hS kk
  subst hp
  exact lv_ldc F.1 F.2.1 F.2.2.2.2.1 (F.2.2.2.2.2.1 _ hw) hd (K p e R s m args below meth c D A rv H locs cells slots ls _ ws X F hc hs h hL ⟨rfl, hS⟩ kk)

theorem s_ldcw {z : Zz} {d kc ks : Nat} {mi : MI} {pc pc' : Nat} {L S : List Value} {lay : Lay} {mem : Mem} {Q : Option Value → Lay → Mem → Prop} {index : Nat} {v : Int32} (hd : decode mi.2.1 pc = .ok (.ldc_w index, 3)) (hp : pc + 3 = pc') (hw : Cond.constant mi.1.cls index v ∈ wok) (K : Sim z d kc ks mi pc' L (.int v :: S) lay mem Q) : Sim z d kc ks mi pc L S lay mem Q := by
  intro p e R s m args below meth c D A rv H locs cells slots ls st ws X F hc hs h hL hS kk
  subst hp
  exact lv_ldcw F.1 F.2.1 F.2.2.2.2.1 (F.2.2.2.2.2.1 _ hw) hd (K p e R s m args below meth c D A rv H locs cells slots ls _ ws X F hc hs h hL ⟨rfl, hS⟩ kk)

theorem s_ldc2 {z : Zz} {d kc ks : Nat} {mi : MI} {pc pc' : Nat} {L S : List Value} {lay : Lay} {mem : Mem} {Q : Option Value → Lay → Mem → Prop} {index : Nat} {v : Int64} (hd : decode mi.2.1 pc = .ok (.ldc2_w index, 3)) (hp : pc + 3 = pc') (hw : Cond.constantLong mi.1.cls index v ∈ wok) (K : Sim z d kc ks mi pc' L (.long v :: S) lay mem Q) : Sim z d kc ks mi pc L S lay mem Q := by
  intro p e R s m args below meth c D A rv H locs cells slots ls st ws X F hc hs h hL hS kk
  subst hp
  exact lv_ldc2 F.1 F.2.1 F.2.2.2.2.1 (F.2.2.2.2.2.1 _ hw) hd (K p e R s m args below meth c D A rv H locs cells slots ls _ ws X F hc hs h hL ⟨rfl, hS⟩ kk)

theorem s_iret {z : Zz} {d kc ks : Nat} {mi : MI} {pc : Nat} {L : List Value} {lay : Lay} {mem : Mem} {Q : Option Value → Lay → Mem → Prop} {x : Int32} (hd : decode mi.2.1 pc = .ok (.ireturn, 1)) {ty : FieldType} (hty : mi.2.2.2 = some ty) (hn : narrow ty (.int x) = .int x) (hq : Q (some (.int x)) lay mem) : Sim z d kc ks mi pc L [.int x] lay mem Q := by
  intro p e R s m args below meth c D A rv H locs cells slots ls st ws X F hc hs h hL hS kk
  obtain ⟨w, st, rfl, v, hT⟩ := am_s.cons hS
  obtain rfl : w = .int x := v
  obtain rfl := am_s.nil hT
  refine W.widen (k := cells + kc) (n := slots + ks) (Nat.le_add_right _ _) (Nat.le_add_right _ _) ?_
  exact kk (some (.int x)) lay mem H locs ws pc ls (some (.int x)) hq h am_ex.rf ⟨hd, ty, hty, hn⟩ rfl

theorem s_lret {z : Zz} {d kc ks : Nat} {mi : MI} {pc : Nat} {L : List Value} {lay : Lay} {mem : Mem} {Q : Option Value → Lay → Mem → Prop} {x : Int64} (hd : decode mi.2.1 pc = .ok (.lreturn, 1)) (hty : mi.2.2.2 = some .long) (hq : Q (some (.long x)) lay mem) : Sim z d kc ks mi pc L [.long x] lay mem Q := by
  intro p e R s m args below meth c D A rv H locs cells slots ls st ws X F hc hs h hL hS kk
  obtain ⟨w, st, rfl, v, hT⟩ := am_s.cons hS
  obtain rfl : w = .long x := v
  obtain rfl := am_s.nil hT
  refine W.widen (k := cells + kc) (n := slots + ks) (Nat.le_add_right _ _) (Nat.le_add_right _ _) ?_
  exact kk (some (.long x)) lay mem H locs ws pc ls (some (.long x)) hq h am_ex.rf ⟨hd, hty⟩ rfl

theorem s_vret {z : Zz} {d kc ks : Nat} {mi : MI} {pc : Nat} {L : List Value} {lay : Lay} {mem : Mem} {Q : Option Value → Lay → Mem → Prop}  (hd : decode mi.2.1 pc = .ok (.return_, 1)) (hty : mi.2.2.2 = none) (hq : Q (none) lay mem) : Sim z d kc ks mi pc L [] lay mem Q := by
  intro p e R s m args below meth c D A rv H locs cells slots ls st ws X F hc hs h hL hS kk
  obtain rfl := am_s.nil hS
  refine W.widen (k := cells + kc) (n := slots + ks) (Nat.le_add_right _ _) (Nat.le_add_right _ _) ?_
  exact kk none lay mem H locs ws pc ls none hq h am_ex.rf ⟨hd, hty⟩ trivial

theorem s_aret {z : Zz} {d kc ks : Nat} {mi : MI} {pc : Nat} {L : List Value} {lay : Lay} {mem : Mem} {Q : Option Value → Lay → Mem → Prop} {v : Value} (hd : decode mi.2.1 pc = .ok (.areturn, 1)) {rt : FieldType} (hty : mi.2.2.2 = some rt) (hrt : (∃ n, rt = .object n) ∨ ∃ t, rt = .array t) (hr : am_isA v = true) (hq : Q (some v) lay mem) : Sim z d kc ks mi pc L [v] lay mem Q := by
  intro p e R s m args below meth c D A rv H locs cells slots ls st ws X F hc hs h hL hS kk
  obtain ⟨w, st, rfl, hv, hT⟩ := am_s.cons hS
  obtain rfl := am_s.nil hT
  refine W.widen (k := cells + kc) (n := slots + ks) (Nat.le_add_right _ _) (Nat.le_add_right _ _) ?_
  refine kk (some v) lay mem H locs ws pc ls (some w) hq h am_ex.rf ?_ hv
  cases v <;> first | exact ⟨hd, rt, hty, hrt⟩ | cases hr

theorem Sim.up {z : Zz} {d d2 kc ks kc2 ks2 : Nat} {mi : MI} {pc : Nat} {L S : List Value} {lay : Lay} {mem : Mem} {Q Q2 : Option Value → Lay → Mem → Prop} (h : Sim z d kc ks mi pc L S lay mem Q) (hd : d ≤ d2) (hc : kc ≤ kc2) (hs : ks ≤ ks2) (hQ : ∀ r lay' mem', Q r lay' mem' → Q2 r lay' mem') : Sim z d2 kc2 ks2 mi pc L S lay mem Q2 := by
  intro p e R s m args below meth c D A rv H locs cells slots ls st ws X F h1 h2 hh hL hS kk
  obtain ⟨f1, f2, f3, f4, f5, f6, f7, f8, f9, f10, f11, f12, f13⟩ := F
  refine h p e R s m args below meth c D A rv H locs cells slots ls st ws X ⟨f1, f2, f3, f4, f5, f6, f7, f8, by omega, by omega, f11, f12, f13⟩ (by omega) (by omega) hh hL hS ?_
  intro r lay' mem' H' locs' ws' pc' ls' rw q a b c9 d9
  exact W.widen (by omega) (by omega) (kk r lay' mem' H' locs' ws' pc' ls' rw (hQ _ _ _ q) a b c9 d9)
end
section
/-! ===== rules over the heap ===== -/
def am_up (mem : Mem) (id k : Nat) (x : Int32) : Mem := fun j => if j = id then upd (mem id) k x else mem j
def am_nw (mem : Mem) (id : Nat) : Mem := fun j => if j = id then fun _ => 0 else mem j
def am_ur (lay : Lay) (id k : Nat) (v : Value) : Lay := match lay[id]? with
  | some c => lay.set id (c.1, c.2.1, va_up c.2.2 k v)
  | none => lay
theorem am_cl8 {ci : Nat} {q : vw_C} (h : classes[ci]? = some q) : ci < 8 := (List.getElem?_eq_some_iff.mp h).1
theorem am_uws {ci N : Nat} {C : String} {T : u_T} (h : classes[ci]? = some (C, T, N)) : ∀ w ∈ u_ws C T N, w ∈ wok := by
  intro w hw
  refine List.mem_filter.mpr ⟨?_, ?_⟩
  · have h8 := am_cl8 h
    match ci, h8, h with
    | 0, _, h => cases h; exact iX0 w hw
    | 1, _, h => cases h; exact iX1 w hw
    | 2, _, h => cases h; exact iX2 w hw
    | 3, _, h => cases h; exact iX3 w hw
    | 4, _, h => cases h; exact iX4 w hw
    | 5, _, h => cases h; exact iX5 w hw
    | 6, _, h => cases h; exact iX6 w hw
    | 7, _, h => cases h; exact iX7 w hw
  · obtain ⟨k, -, rfl⟩ := List.mem_map.mp hw
    unfold u_lay
    split <;> rfl
theorem am_tyn {ci N : Nat} {C : String} {T : u_T} (h : classes[ci]? = some (C, T, N)) : ∃ ty0 : Nat → FieldType, (∀ k, k < N → parseFieldDescriptor (T k).2.2.1 = some (ty0 k)) ∧ ∀ a, a < N → ∀ b, b < N → a ≠ b → (T a).2.1 ≠ (T b).2.1 := by
  have h8 := am_cl8 h
  match ci, h8, h with
  | 0, _, h => cases h; exact ⟨_, tyX0_ok, nmX0⟩
  | 1, _, h => cases h; exact ⟨_, tyX1_ok, nmX1⟩
  | 2, _, h => cases h; exact ⟨_, tyX2_ok, nmX2⟩
  | 3, _, h => cases h; exact ⟨_, tyX3_ok, nmX3⟩
  | 4, _, h => cases h; exact ⟨_, tyX4_ok, nmX4⟩
  | 5, _, h => cases h; exact ⟨_, tyX5_ok, nmX5⟩
  | 6, _, h => cases h; exact ⟨_, tyX6_ok, nmX6⟩
  | 7, _, h => cases h; exact ⟨_, tyX7_ok, nmX7⟩
theorem am_K1 {D : va_G} {s : State} {cA : ClassId} {ty : FieldType} (h : va_K D classes [] s) (h1 : ArrOfT s cA ty) (h2 : va_RA s cA ty) : va_K D classes [(cA, ty)] s :=
  ⟨h.1, fun k q hk => by
    match k, hk with
    | 0, hk => cases hk; exact ⟨h1, h2⟩
    | k + 1, hk => simp at hk⟩
/-- one cell changes its contents, not its address -/
theorem am_ex.set {ws : va_W} {id a : Nat} {e e' : va_E} (h : ws[id]? = some (a, e)) : am_ex ws (ws.set id (a, e')) := by
  intro k b f hk
  by_cases hq : k = id
  · subst hq
    cases h.symm.trans hk
    exact ⟨e', List.getElem?_set_self (List.getElem?_eq_some_iff.mp h).1⟩
  · exact ⟨f, by rw [List.getElem?_set_ne (Ne.symm hq)]; exact hk⟩
theorem am_ex.push {ws : va_W} {q : Nat × va_E} : am_ex ws (ws ++ [q]) := by
  intro k b f hk
  exact ⟨f, by rw [List.getElem?_append_left (List.getElem?_eq_some_iff.mp hk).1]; exact hk⟩
theorem am_m.set {s : State} {rv : Nat → Value} {ws : va_W} {lay lay' : Lay} {mem mem' : Mem} {id a : Nat} {e e' : va_E} {c c' : Nat × Nat × (Nat → Value)} (h : am_m s rv ws lay mem) (hc : lay[id]? = some c) (hw : ws[id]? = some (a, e)) (hl : lay' = lay.set id c') (hm : ∀ j, j ≠ id → mem' j = mem j) (he : am_e s rv (ws.set id (a, e')) c' (mem' id) e') : am_m s rv (ws.set id (a, e')) lay' mem' := by
  subst hl
  refine ⟨by rw [List.length_set, List.length_set]; exact h.1, fun k c2 hk => ?_⟩
  by_cases hq : k = id
  · subst hq
    rw [List.getElem?_set_self (List.getElem?_eq_some_iff.mp hc).1] at hk
    cases hk
    exact ⟨a, e', List.getElem?_set_self (List.getElem?_eq_some_iff.mp hw).1, he⟩
  · rw [List.getElem?_set_ne (Ne.symm hq)] at hk
    obtain ⟨b, f, h1, h2⟩ := h.2 k c2 hk
    refine ⟨b, f, by rw [List.getElem?_set_ne (Ne.symm hq)]; exact h1, ?_⟩
    rw [hm k hq]
    exact h2.mono (am_ex.set hw)
theorem am_m.push {s : State} {rv : Nat → Value} {ws : va_W} {lay : Lay} {mem mem' : Mem} {a : Nat} {e : va_E} {c : Nat × Nat × (Nat → Value)} (h : am_m s rv ws lay mem) (hm : ∀ j, j ≠ lay.length → mem' j = mem j) (he : am_e s rv (ws ++ [(a, e)]) c (mem' lay.length) e) : am_m s rv (ws ++ [(a, e)]) (lay ++ [c]) mem' := by
  refine ⟨by rw [List.length_append, List.length_append, h.1]; rfl, fun k c2 hk => ?_⟩
  by_cases hq : k < lay.length
  · rw [List.getElem?_append_left hq] at hk
    obtain ⟨b, f, h1, h2⟩ := h.2 k c2 hk
    refine ⟨b, f, by rw [List.getElem?_append_left (by rw [h.1]; exact hq)]; exact h1, ?_⟩
    rw [hm k (by omega)]
    exact h2.mono am_ex.push
  · have hk2 := (List.getElem?_eq_some_iff.mp hk).1
    rw [List.length_append] at hk2
    have hk3 : k = lay.length := by simp at hk2; omega
    subst hk3
    rw [List.getElem?_append_right (Nat.le_refl _), Nat.sub_self] at hk
    cases hk
    refine ⟨a, e, ?_, he⟩
    rw [List.getElem?_append_right (by rw [h.1]; exact Nat.le_refl _), h.1, Nat.sub_self]
    rfl
theorem am_set_self {α : Type} {l : List α} {i : Nat} {c : α} (h : l[i]? = some c) : l.set i c = l := by
  refine List.ext_getElem? fun j => ?_
  by_cases hj : j = i
  · subst hj
    rw [List.getElem?_set_self (List.getElem?_eq_some_iff.mp h).1, h]
  · rw [List.getElem?_set_ne (Ne.symm hj)]
/-- field links -/
def am_fl (own : String) (idx ci k : Nat) : Prop := ∃ (C : String) (T : u_T) (N : Nat), classes[ci]? = some (C, T, N) ∧ k < N ∧ Cond.fieldLink own idx (T k).1 (T k).2.1 (T k).2.2.1 ∈ wok
def am_fw (ci k : Nat) (fin : Bool) (ds : String) : Prop := ∃ (C : String) (T : u_T) (N : Nat), classes[ci]? = some (C, T, N) ∧ (T k).2.2.2 = fin ∧ (T k).2.2.1 = ds ∧ (T k).1 = C
section HR
variable {z : Zz} {d kc ks : Nat} {mi : MI} {pc pc' : Nat} {L S : List Value} {lay : Lay} {mem : Mem} {Q : Option Value → Lay → Mem → Prop}
theorem am_obj {s : State} {D : va_G} {A : Nat → Prop} {H : Heap} {locs : List Loc} {rv : Nat → Value} {ws : va_W} {ci n id : Nat} {rf : Nat → Value} {q : vw_C} (h : am_h D A s H locs rv ws lay mem) (hq : classes[ci]? = some q) (hc : lay[id]? = some (ci, n, rf)) :
    ∃ (a : Nat) (fs : List Value), ws[id]? = some (a, .inr (ci, fs)) ∧ fs.length = n ∧ ∀ j, j < n → ∃ w, fs[j]? = some w ∧ (if am_isR ci j = true then am_v rv ws (rf j) w else w = .int (mem id j)) := by
  obtain ⟨a, e, hw, he⟩ := h.2.2.2.2 id _ hc
  unfold am_e at he
  rw [if_pos (am_cl8 hq)] at he
  obtain ⟨fs, rfl, h1, h2⟩ := he
  exact ⟨a, fs, hw, h1, h2⟩
theorem am_arr {s : State} {D : va_G} {A : Nat → Prop} {H : Heap} {locs : List Loc} {rv : Nat → Value} {ws : va_W} {tg n id : Nat} {rf : Nat → Value} (h : am_h D A s H locs rv ws lay mem) (hq : 8 ≤ tg ∧ tg < 11) (hc : lay[id]? = some (tg, n, rf)) :
    ∃ (a : Nat) (cA : ClassId), ws[id]? = some (a, .inl (cA, n, .inl (mem id))) ∧ ArrOfT s cA (am_aty tg) ∧ va_RA s cA (am_aty tg) := by
  obtain ⟨a, e, hw, he⟩ := h.2.2.2.2 id _ hc
  unfold am_e at he
  rw [if_neg (show ¬ tg < 8 by omega), if_pos hq.2] at he
  obtain ⟨cA, rfl, h1, h2⟩ := he
  exact ⟨a, cA, hw, h1, h2⟩
theorem am_arq {s : State} {D : va_G} {A : Nat → Prop} {H : Heap} {locs : List Loc} {rv : Nat → Value} {ws : va_W} {tg n id : Nat} {rf : Nat → Value} (h : am_h D A s H locs rv ws lay mem) (hq : 11 ≤ tg) (hc : lay[id]? = some (tg, n, rf)) :
    ∃ (a : Nat) (cA : ClassId) (g : Nat → Option Nat), ws[id]? = some (a, .inl (cA, n, .inr (.inr (.inr (.inr g))))) ∧ ArrOfT s cA (.object (am_acl tg)) ∧ va_RA s cA (.object (am_acl tg)) ∧ ∀ j, j < n → am_v rv ws (rf j) (va_rf (g j)) := by
  obtain ⟨a, e, hw, he⟩ := h.2.2.2.2 id _ hc
  unfold am_e at he
  rw [if_neg (show ¬ tg < 8 by omega), if_neg (show ¬ tg < 11 by omega)] at he
  obtain ⟨cA, g, rfl, h1, h2, h3⟩ := he
  exact ⟨a, cA, g, hw, h1, h2, h3⟩
theorem s_getI {idx ci k n id : Nat} {rf : Nat → Value} (hd : decode mi.2.1 pc = .ok (.getfield idx, 3)) (hp : pc + 3 = pc') (hf : am_fl mi.1.cls idx ci k) (hc : lay[id]? = some (ci, n, rf)) (hk : k < n) (hr : am_isR ci k = false) (K : Sim z d kc ks mi pc' L (.int (mem id k) :: S) lay mem Q) : Sim z d kc ks mi pc L (.ref id :: S) lay mem Q := by
  intro p e R s m args below meth c D A rv H locs cells slots ls st ws X F hc1 hs h hL hS kk
  subst hp
  obtain ⟨C, T, N, hq, hkN, hlk⟩ := hf
  obtain ⟨a, fs, hw, hlen, hfs⟩ := am_obj h hq hc
  obtain ⟨w0, st0, rfl, v0, hT⟩ := am_s.cons hS
  obtain ⟨a2, e2, hw2, rfl⟩ := v0
  cases hw.symm.trans hw2
  obtain ⟨w, hfw, hv⟩ := hfs k hk
  rw [if_neg (by rw [hr]; decide)] at hv
  subst hv
  exact va_get F.1 F.2.1 F.2.2.2.2.2.1 (am_uws hq) F.2.2.2.2.1 F.2.2.2.2.2.2.2.2.2.2.1 h.1 id hw hq k hkN (F.2.2.2.2.2.1 _ hlk) (fun _ h9 => h9) hfw hd (K p e R s m args below meth c D A rv H locs cells slots ls _ ws X F hc1 hs h hL ⟨rfl, hT⟩ kk)
theorem s_getR {idx ci k n id : Nat} {rf : Nat → Value} (hd : decode mi.2.1 pc = .ok (.getfield idx, 3)) (hp : pc + 3 = pc') (hf : am_fl mi.1.cls idx ci k) (hc : lay[id]? = some (ci, n, rf)) (hk : k < n) (hr : am_isR ci k = true) (K : Sim z d kc ks mi pc' L (rf k :: S) lay mem Q) : Sim z d kc ks mi pc L (.ref id :: S) lay mem Q := by
  intro p e R s m args below meth c D A rv H locs cells slots ls st ws X F hc1 hs h hL hS kk
  subst hp
  obtain ⟨C, T, N, hq, hkN, hlk⟩ := hf
  obtain ⟨a, fs, hw, hlen, hfs⟩ := am_obj h hq hc
  obtain ⟨w0, st0, rfl, v0, hT⟩ := am_s.cons hS
  obtain ⟨a2, e2, hw2, rfl⟩ := v0
  cases hw.symm.trans hw2
  obtain ⟨w, hfw, hv⟩ := hfs k hk
  rw [if_pos hr] at hv
  exact va_get F.1 F.2.1 F.2.2.2.2.2.1 (am_uws hq) F.2.2.2.2.1 F.2.2.2.2.2.2.2.2.2.2.1 h.1 id hw hq k hkN (F.2.2.2.2.2.1 _ hlk) (fun _ h9 => h9) hfw hd (K p e R s m args below meth c D A rv H locs cells slots ls _ ws X F hc1 hs h hL ⟨hv, hT⟩ kk)
theorem am_putI {s : State} {rv : Nat → Value} {ws : va_W} {ci k n id a : Nat} {rf : Nat → Value} {fs : List Value} {x : Int32} (hm : am_m s rv ws lay mem) (h8 : ci < 8) (hc : lay[id]? = some (ci, n, rf)) (hr : am_isR ci k = false) (hw : ws[id]? = some (a, .inr (ci, fs))) (hlen : fs.length = n) (hfs : ∀ j, j < n → ∃ w, fs[j]? = some w ∧ (if am_isR ci j = true then am_v rv ws (rf j) w else w = .int (mem id j))) : am_m s rv (ws.set id (a, .inr (ci, fs.set k (.int x)))) lay (am_up mem id k x) := by
  refine hm.set hc hw (c' := (ci, n, rf)) ?_ (fun j hj => if_neg hj) ?_
  · exact (am_set_self hc).symm
  · unfold am_e
    rw [if_pos h8]
    refine ⟨_, rfl, by rw [List.length_set]; exact hlen, fun j hj => ?_⟩
    by_cases hjk : j = k
    · subst hjk
      refine ⟨.int x, List.getElem?_set_self (by rw [hlen]; exact hj), ?_⟩
      rw [if_neg (by rw [hr]; decide)]
      simp [am_up, upd]
    · obtain ⟨w, h1, h2⟩ := hfs j hj
      refine ⟨w, by rw [List.getElem?_set_ne (Ne.symm hjk)]; exact h1, ?_⟩
      split at h2
      · rename_i h3
        rw [if_pos h3]; exact h2.mono (am_ex.set hw)
      · rename_i h3
        rw [if_neg h3, h2]; simp [am_up, upd, hjk]
theorem s_putI {idx ci k n id : Nat} {rf : Nat → Value} {x : Int32} {ds : String} {ty : FieldType} (hd : decode mi.2.1 pc = .ok (.putfield idx, 3)) (hp : pc + 3 = pc') (hf : am_fl mi.1.cls idx ci k) (hfw : am_fw ci k false ds) (hty : parseFieldDescriptor ds = some ty) (hn : narrow ty (.int x) = .int x) (hfit : fits ty (.int x) = true) (hc : lay[id]? = some (ci, n, rf)) (hk : k < n) (hr : am_isR ci k = false) (K : Sim z d kc ks mi pc' L S lay (am_up mem id k x) Q) : Sim z d kc ks mi pc L (.int x :: .ref id :: S) lay mem Q := by
  intro p e R s m args below meth c D A rv H locs cells slots ls st ws X F hc1 hs h hL hS kk
  subst hp
  obtain ⟨C, T, N, hq, hkN, hlk⟩ := hf
  obtain ⟨C2, T2, N2, hq2, hfin, hds, hcl⟩ := hfw
  cases hq.symm.trans hq2
  obtain ⟨a, fs, hw, hlen, hfs⟩ := am_obj h hq hc
  obtain ⟨w0, st0, rfl, v0, hT⟩ := am_s.cons hS
  obtain rfl : w0 = .int x := v0
  obtain ⟨w1, st1, rfl, v1, hT1⟩ := am_s.cons hT
  obtain ⟨a2, e2, hw2, rfl⟩ := v1
  cases hw.symm.trans hw2
  obtain ⟨ty0, ht0, hnm⟩ := am_tyn hq
  refine va_put F.1 F.2.1 F.2.2.2.2.2.1 (am_uws hq) ty0 ht0 hnm F.2.2.2.2.1 F.2.2.2.2.2.2.2.2.2.2.1 h.1 h.2.1 h.2.2.1 id hw hq k hkN (F.2.2.2.2.2.1 _ hlk) (fun _ h9 => h9) hfin (by rw [hds]; exact hty) hn hfit (by rw [hlen]; exact hk) hd (fun H1 locs1 hP hD hS1 => ?_)
  have hx := am_ex.set (e' := .inr (ci, fs.set k (.int x))) hw
  exact K p e R s m args below meth c D A rv H1 locs1 cells slots ls _ _ X F hc1 hs ⟨hP, hD, hS1, am_putI h.2.2.2 (am_cl8 hq) hc hr hw hlen hfs⟩ (hL.mono hx) (hT1.mono hx) (fun r lay' mem' H' locs' ws' pc' ls' rw q1 q2 q3 q4 q5 => kk r lay' mem' H' locs' ws' pc' ls' rw q1 q2 (hx.tr q3) q4 q5)
theorem s_putIF {idx ci k n id : Nat} {rf : Nat → Value} {x : Int32} (hd : decode mi.2.1 pc = .ok (.putfield idx, 3)) (hp : pc + 3 = pc') (hf : am_fl mi.1.cls idx ci k) (hfw : am_fw ci k true "I") (hin : mi.1.name = "<init>") (hown : ∃ T N, classes[ci]? = some (mi.1.cls, T, N)) (hc : lay[id]? = some (ci, n, rf)) (hk : k < n) (hr : am_isR ci k = false) (K : Sim z d kc ks mi pc' L S lay (am_up mem id k x) Q) : Sim z d kc ks mi pc L (.int x :: .ref id :: S) lay mem Q := by
  intro p e R s m args below meth c D A rv H locs cells slots ls st ws X F hc1 hs h hL hS kk
  subst hp
  obtain ⟨C, T, N, hq, hkN, hlk⟩ := hf
  obtain ⟨C2, T2, N2, hq2, hfin, hds, hcl⟩ := hfw
  cases hq.symm.trans hq2
  obtain ⟨T3, N3, hq3⟩ := hown
  cases hq.symm.trans hq3
  obtain ⟨a, fs, hw, hlen, hfs⟩ := am_obj h hq hc
  obtain ⟨w0, st0, rfl, v0, hT⟩ := am_s.cons hS
  obtain rfl : w0 = .int x := v0
  obtain ⟨w1, st1, rfl, v1, hT1⟩ := am_s.cons hT
  obtain ⟨a2, e2, hw2, rfl⟩ := v1
  cases hw.symm.trans hw2
  obtain ⟨ty0, ht0, hnm⟩ := am_tyn hq
  refine va_putF (ty := .int) F.1 F.2.1 F.2.2.2.2.2.1 (am_uws hq) ty0 ht0 hnm F.2.2.2.2.1 F.2.2.2.2.2.2.2.2.2.2.1 h.1 h.2.1 h.2.2.1 id hw hq k hkN (F.2.2.2.2.2.1 _ hlk) (fun _ h9 => h9) hfin (F.2.2.2.2.2.2.2.1 hin) hcl (by rw [hds]; decide +kernel) rfl rfl (by rw [hlen]; exact hk) hd (fun H1 locs1 hP hD hS1 => ?_)
  have hx := am_ex.set (e' := .inr (ci, fs.set k (.int x))) hw
  exact K p e R s m args below meth c D A rv H1 locs1 cells slots ls _ _ X F hc1 hs ⟨hP, hD, hS1, am_putI h.2.2.2 (am_cl8 hq) hc hr hw hlen hfs⟩ (hL.mono hx) (hT1.mono hx) (fun r lay' mem' H' locs' ws' pc' ls' rw q1 q2 q3 q4 q5 => kk r lay' mem' H' locs' ws' pc' ls' rw q1 q2 (hx.tr q3) q4 q5)
/-- a final reference field, in the constructor -/
theorem s_putR {idx ci k n id : Nat} {rf : Nat → Value} {v : Value} {ds : String} {ty : FieldType} (hd : decode mi.2.1 pc = .ok (.putfield idx, 3)) (hp : pc + 3 = pc') (hf : am_fl mi.1.cls idx ci k) (hfw : am_fw ci k true ds) (hty : parseFieldDescriptor ds = some ty) (hrt : (∃ n, ty = .object n) ∨ ∃ t, ty = .array t) (hin : mi.1.name = "<init>") (hown : ∃ T N, classes[ci]? = some (mi.1.cls, T, N)) (hv : am_isA v = true) (hc : lay[id]? = some (ci, n, rf)) (hk : k < n) (hr : am_isR ci k = true) (K : Sim z d kc ks mi pc' L S (lay.set id (ci, n, va_up rf k v)) mem Q) : Sim z d kc ks mi pc L (v :: .ref id :: S) lay mem Q := by
  intro p e R s m args below meth c D A rv H locs cells slots ls st ws X F hc1 hs h hL hS kk
  subst hp
  obtain ⟨C, T, N, hq, hkN, hlk⟩ := hf
  obtain ⟨C2, T2, N2, hq2, hfin, hds, hcl⟩ := hfw
  cases hq.symm.trans hq2
  obtain ⟨T3, N3, hq3⟩ := hown
  cases hq.symm.trans hq3
  obtain ⟨a, fs, hw, hlen, hfs⟩ := am_obj h hq hc
  obtain ⟨w0, st0, rfl, v0, hT⟩ := am_s.cons hS
  obtain ⟨w1, st1, rfl, v1, hT1⟩ := am_s.cons hT
  obtain ⟨a2, e2, hw2, rfl⟩ := v1
  cases hw.symm.trans hw2
  obtain ⟨ty0, ht0, hnm⟩ := am_tyn hq
  have hnf : narrow ty w0 = w0 ∧ fits ty w0 = true := by
    rcases am_isA_w hv v0 with rfl | ⟨b, rfl⟩ <;> rcases hrt with ⟨q, rfl⟩ | ⟨q, rfl⟩ <;> exact ⟨rfl, rfl⟩
  refine va_putF (ty := ty) F.1 F.2.1 F.2.2.2.2.2.1 (am_uws hq) ty0 ht0 hnm F.2.2.2.2.1 F.2.2.2.2.2.2.2.2.2.2.1 h.1 h.2.1 h.2.2.1 id hw hq k hkN (F.2.2.2.2.2.1 _ hlk) (fun _ h9 => h9) hfin (F.2.2.2.2.2.2.2.1 hin) hcl (by rw [hds]; exact hty) hnf.1 hnf.2 (by rw [hlen]; exact hk) hd (fun H1 locs1 hP hD hS1 => ?_)
  have hx := am_ex.set (e' := .inr (ci, fs.set k w0)) hw
  have hm : am_m s rv (ws.set id (a, .inr (ci, fs.set k w0))) (lay.set id (ci, n, va_up rf k v)) mem := by
    refine h.2.2.2.set hc hw rfl (fun _ _ => rfl) ?_
    unfold am_e
    rw [if_pos (am_cl8 hq)]
    refine ⟨_, rfl, by rw [List.length_set]; exact hlen, fun j hj => ?_⟩
    by_cases hjk : j = k
    · subst hjk
      refine ⟨w0, List.getElem?_set_self (by rw [hlen]; exact hj), ?_⟩
      rw [if_pos hr]
      show am_v _ _ (va_up rf j v j) w0
      rw [show va_up rf j v j = v from if_pos rfl]
      exact v0.mono hx
    · obtain ⟨w, h1, h2⟩ := hfs j hj
      refine ⟨w, by rw [List.getElem?_set_ne (Ne.symm hjk)]; exact h1, ?_⟩
      split at h2
      · rename_i h3
        rw [if_pos h3]
        show am_v _ _ (va_up rf k v j) w
        rw [show va_up rf k v j = rf j from if_neg hjk]
        exact h2.mono hx
      · rename_i h3
        rw [if_neg h3]; exact h2
  exact K p e R s m args below meth c D A rv H1 locs1 cells slots ls _ _ X F hc1 hs ⟨hP, hD, hS1, hm⟩ (hL.mono hx) (hT1.mono hx) (fun r lay' mem' H' locs' ws' pc' ls' rw q1 q2 q3 q4 q5 => kk r lay' mem' H' locs' ws' pc' ls' rw q1 q2 (hx.tr q3) q4 q5)
end HR
end
section
/-! ===== arrays, new things, what is given ===== -/
section AR
variable {z : Zz} {d kc ks : Nat} {mi : MI} {pc pc' : Nat} {L S : List Value} {lay : Lay} {mem : Mem} {Q : Option Value → Lay → Mem → Prop}
theorem am_in {k n : Nat} (h : k < n) (hn : n ≤ 2147483648) : vp_in (nI k) n := by
  unfold vp_in
  rw [nI_clamp (by omega)]
  exact fun q => q.elim (nI_pos (by omega)) (by omega)
theorem am_cl {k n : Nat} (h : k < n) (hn : n ≤ 2147483648) : (nI k).toNatClampNeg = k := nI_clamp (by omega)
theorem s_iald {n id : Nat} {rf : Nat → Value} {i : Int32} (hd : decode mi.2.1 pc = .ok (.iaload, 1)) (hp : pc + 1 = pc') (hc : lay[id]? = some (8, n, rf)) (hin : vp_in i n) (K : Sim z d kc ks mi pc' L (.int (mem id i.toNatClampNeg) :: S) lay mem Q) : Sim z d kc ks mi pc L (.int i :: .ref id :: S) lay mem Q := by
  intro p e R s m args below meth c D A rv H locs cells slots ls st ws X F hc1 hs h hL hS kk
  subst hp
  obtain ⟨a, cA, hw, h1, h2⟩ := am_arr h (by decide) hc
  obtain ⟨w0, st0, rfl, v0, hT⟩ := am_s.cons hS
  obtain rfl : w0 = .int i := v0
  obtain ⟨w1, st1, rfl, v1, hT1⟩ := am_s.cons hT
  obtain ⟨a2, e2, hw2, rfl⟩ := v1
  cases hw.symm.trans hw2
  exact va_iald F.1 F.2.1 (am_K1 F.2.2.2.2.2.2.2.2.2.2.1 h1 h2) h.1 id 0 hw rfl hin hd (K p e R s m args below meth c D A rv H locs cells slots ls _ ws X F hc1 hs h hL ⟨rfl, hT1⟩ kk)
theorem s_ialdN {n id k : Nat} {rf : Nat → Value} (hd : decode mi.2.1 pc = .ok (.iaload, 1)) (hp : pc + 1 = pc') (hc : lay[id]? = some (8, n, rf)) (hk : k < n) (hn : n ≤ 2147483648) (K : Sim z d kc ks mi pc' L (.int (mem id k) :: S) lay mem Q) : Sim z d kc ks mi pc L (.int (nI k) :: .ref id :: S) lay mem Q :=
  s_iald hd hp hc (am_in hk hn) (by rw [am_cl hk hn]; exact K)
theorem s_cald {n id : Nat} {rf : Nat → Value} {i : Int32} (hd : decode mi.2.1 pc = .ok (.caload, 1)) (hp : pc + 1 = pc') (hc : lay[id]? = some (9, n, rf)) (hin : vp_in i n) (K : Sim z d kc ks mi pc' L (.int (mem id i.toNatClampNeg) :: S) lay mem Q) : Sim z d kc ks mi pc L (.int i :: .ref id :: S) lay mem Q := by
  intro p e R s m args below meth c D A rv H locs cells slots ls st ws X F hc1 hs h hL hS kk
  subst hp
  obtain ⟨a, cA, hw, h1, h2⟩ := am_arr h (by decide) hc
  obtain ⟨w0, st0, rfl, v0, hT⟩ := am_s.cons hS
  obtain rfl : w0 = .int i := v0
  obtain ⟨w1, st1, rfl, v1, hT1⟩ := am_s.cons hT
  obtain ⟨a2, e2, hw2, rfl⟩ := v1
  cases hw.symm.trans hw2
  exact va_cald F.1 F.2.1 (am_K1 F.2.2.2.2.2.2.2.2.2.2.1 h1 h2) h.1 id 0 hw rfl hin hd (K p e R s m args below meth c D A rv H locs cells slots ls _ ws X F hc1 hs h hL ⟨rfl, hT1⟩ kk)
theorem s_caldN {n id k : Nat} {rf : Nat → Value} (hd : decode mi.2.1 pc = .ok (.caload, 1)) (hp : pc + 1 = pc') (hc : lay[id]? = some (9, n, rf)) (hk : k < n) (hn : n ≤ 2147483648) (K : Sim z d kc ks mi pc' L (.int (mem id k) :: S) lay mem Q) : Sim z d kc ks mi pc L (.int (nI k) :: .ref id :: S) lay mem Q :=
  s_cald hd hp hc (am_in hk hn) (by rw [am_cl hk hn]; exact K)
theorem s_zald {n id : Nat} {rf : Nat → Value} {i : Int32} (hd : decode mi.2.1 pc = .ok (.baload, 1)) (hp : pc + 1 = pc') (hc : lay[id]? = some (10, n, rf)) (hin : vp_in i n) (K : Sim z d kc ks mi pc' L (.int (mem id i.toNatClampNeg) :: S) lay mem Q) : Sim z d kc ks mi pc L (.int i :: .ref id :: S) lay mem Q := by
  intro p e R s m args below meth c D A rv H locs cells slots ls st ws X F hc1 hs h hL hS kk
  subst hp
  obtain ⟨a, cA, hw, h1, h2⟩ := am_arr h (by decide) hc
  obtain ⟨w0, st0, rfl, v0, hT⟩ := am_s.cons hS
  obtain rfl : w0 = .int i := v0
  obtain ⟨w1, st1, rfl, v1, hT1⟩ := am_s.cons hT
  obtain ⟨a2, e2, hw2, rfl⟩ := v1
  cases hw.symm.trans hw2
  exact va_zald F.1 F.2.1 (am_K1 F.2.2.2.2.2.2.2.2.2.2.1 h1 h2) h.1 id 0 hw rfl hin hd (K p e R s m args below meth c D A rv H locs cells slots ls _ ws X F hc1 hs h hL ⟨rfl, hT1⟩ kk)
theorem s_zaldN {n id k : Nat} {rf : Nat → Value} (hd : decode mi.2.1 pc = .ok (.baload, 1)) (hp : pc + 1 = pc') (hc : lay[id]? = some (10, n, rf)) (hk : k < n) (hn : n ≤ 2147483648) (K : Sim z d kc ks mi pc' L (.int (mem id k) :: S) lay mem Q) : Sim z d kc ks mi pc L (.int (nI k) :: .ref id :: S) lay mem Q :=
  s_zald hd hp hc (am_in hk hn) (by rw [am_cl hk hn]; exact K)
theorem s_iast {n id : Nat} {rf : Nat → Value} {i x : Int32} (hd : decode mi.2.1 pc = .ok (.iastore, 1)) (hp : pc + 1 = pc') (hc : lay[id]? = some (8, n, rf)) (hin : vp_in i n) (K : Sim z d kc ks mi pc' L S lay (am_up mem id i.toNatClampNeg x) Q) : Sim z d kc ks mi pc L (.int x :: .int i :: .ref id :: S) lay mem Q := by
  intro p e R s m args below meth c D A rv H locs cells slots ls st ws X F hc1 hs h hL hS kk
  subst hp
  obtain ⟨a, cA, hw, h1, h2⟩ := am_arr h (by decide) hc
  obtain ⟨wx, stx, rfl, vx, hTx⟩ := am_s.cons hS
  obtain rfl : wx = .int x := vx
  obtain ⟨w0, st0, rfl, v0, hT⟩ := am_s.cons hTx
  obtain rfl : w0 = .int i := v0
  obtain ⟨w1, st1, rfl, v1, hT1⟩ := am_s.cons hT
  obtain ⟨a2, e2, hw2, rfl⟩ := v1
  cases hw.symm.trans hw2
  refine va_iast F.1 F.2.1 (am_K1 F.2.2.2.2.2.2.2.2.2.2.1 h1 h2) h.1 h.2.1 h.2.2.1 id 0 hw rfl hin hd (fun H1 locs1 hP hD hS1 => ?_)
  have hx := am_ex.set (e' := .inl (cA, n, .inl (upd (mem id) i.toNatClampNeg x))) hw
  have hm : am_m s rv (ws.set id (a, .inl (cA, n, .inl (upd (mem id) i.toNatClampNeg x)))) lay (am_up mem id i.toNatClampNeg x) := by
    refine h.2.2.2.set hc hw (c' := (8, n, rf)) (am_set_self hc).symm (fun j hj => if_neg hj) ?_
    unfold am_e
    rw [if_neg (show ¬ 8 < 8 by decide), if_pos (show 8 < 11 by decide)]
    refine ⟨cA, ?_, h1, h2⟩
    rw [show am_up mem id i.toNatClampNeg x id = upd (mem id) i.toNatClampNeg x from if_pos rfl]
  exact K p e R s m args below meth c D A rv H1 locs1 cells slots ls _ _ X F hc1 hs ⟨hP, hD, hS1, hm⟩ (hL.mono hx) (hT1.mono hx) (fun r lay' mem' H' locs' ws' pc' ls' rw q1 q2 q3 q4 q5 => kk r lay' mem' H' locs' ws' pc' ls' rw q1 q2 (hx.tr q3) q4 q5)
theorem s_iastN {n id k : Nat} {rf : Nat → Value} {x : Int32} (hd : decode mi.2.1 pc = .ok (.iastore, 1)) (hp : pc + 1 = pc') (hc : lay[id]? = some (8, n, rf)) (hk : k < n) (hn : n ≤ 2147483648) (K : Sim z d kc ks mi pc' L S lay (am_up mem id k x) Q) : Sim z d kc ks mi pc L (.int x :: .int (nI k) :: .ref id :: S) lay mem Q :=
  s_iast hd hp hc (am_in hk hn) (by rw [am_cl hk hn]; exact K)
theorem s_cast {n id : Nat} {rf : Nat → Value} {i x : Int32} (hd : decode mi.2.1 pc = .ok (.castore, 1)) (hp : pc + 1 = pc') (hc : lay[id]? = some (9, n, rf)) (hin : vp_in i n) (K : Sim z d kc ks mi pc' L S lay (am_up mem id i.toNatClampNeg (vp_nar .char x)) Q) : Sim z d kc ks mi pc L (.int x :: .int i :: .ref id :: S) lay mem Q := by
  intro p e R s m args below meth c D A rv H locs cells slots ls st ws X F hc1 hs h hL hS kk
  subst hp
  obtain ⟨a, cA, hw, h1, h2⟩ := am_arr h (by decide) hc
  obtain ⟨wx, stx, rfl, vx, hTx⟩ := am_s.cons hS
  obtain rfl : wx = .int x := vx
  obtain ⟨w0, st0, rfl, v0, hT⟩ := am_s.cons hTx
  obtain rfl : w0 = .int i := v0
  obtain ⟨w1, st1, rfl, v1, hT1⟩ := am_s.cons hT
  obtain ⟨a2, e2, hw2, rfl⟩ := v1
  cases hw.symm.trans hw2
  refine va_cast F.1 F.2.1 (am_K1 F.2.2.2.2.2.2.2.2.2.2.1 h1 h2) h.1 h.2.1 h.2.2.1 id 0 hw rfl hin hd (fun H1 locs1 hP hD hS1 => ?_)
  have hx := am_ex.set (e' := .inl (cA, n, .inl (upd (mem id) i.toNatClampNeg (vp_nar .char x)))) hw
  have hm : am_m s rv (ws.set id (a, .inl (cA, n, .inl (upd (mem id) i.toNatClampNeg (vp_nar .char x))))) lay (am_up mem id i.toNatClampNeg (vp_nar .char x)) := by
    refine h.2.2.2.set hc hw (c' := (9, n, rf)) (am_set_self hc).symm (fun j hj => if_neg hj) ?_
    unfold am_e
    rw [if_neg (show ¬ 9 < 8 by decide), if_pos (show 9 < 11 by decide)]
    refine ⟨cA, ?_, h1, h2⟩
    rw [show am_up mem id i.toNatClampNeg (vp_nar .char x) id = upd (mem id) i.toNatClampNeg (vp_nar .char x) from if_pos rfl]
  exact K p e R s m args below meth c D A rv H1 locs1 cells slots ls _ _ X F hc1 hs ⟨hP, hD, hS1, hm⟩ (hL.mono hx) (hT1.mono hx) (fun r lay' mem' H' locs' ws' pc' ls' rw q1 q2 q3 q4 q5 => kk r lay' mem' H' locs' ws' pc' ls' rw q1 q2 (hx.tr q3) q4 q5)
theorem s_castN {n id k : Nat} {rf : Nat → Value} {x : Int32} (hd : decode mi.2.1 pc = .ok (.castore, 1)) (hp : pc + 1 = pc') (hc : lay[id]? = some (9, n, rf)) (hk : k < n) (hn : n ≤ 2147483648) (K : Sim z d kc ks mi pc' L S lay (am_up mem id k (vp_nar .char x)) Q) : Sim z d kc ks mi pc L (.int x :: .int (nI k) :: .ref id :: S) lay mem Q :=
  s_cast hd hp hc (am_in hk hn) (by rw [am_cl hk hn]; exact K)
theorem s_zast {n id : Nat} {rf : Nat → Value} {i x : Int32} (hd : decode mi.2.1 pc = .ok (.bastore, 1)) (hp : pc + 1 = pc') (hc : lay[id]? = some (10, n, rf)) (hin : vp_in i n) (K : Sim z d kc ks mi pc' L S lay (am_up mem id i.toNatClampNeg (vp_nar .boolean x)) Q) : Sim z d kc ks mi pc L (.int x :: .int i :: .ref id :: S) lay mem Q := by
  intro p e R s m args below meth c D A rv H locs cells slots ls st ws X F hc1 hs h hL hS kk
  subst hp
  obtain ⟨a, cA, hw, h1, h2⟩ := am_arr h (by decide) hc
  obtain ⟨wx, stx, rfl, vx, hTx⟩ := am_s.cons hS
  obtain rfl : wx = .int x := vx
  obtain ⟨w0, st0, rfl, v0, hT⟩ := am_s.cons hTx
  obtain rfl : w0 = .int i := v0
  obtain ⟨w1, st1, rfl, v1, hT1⟩ := am_s.cons hT
  obtain ⟨a2, e2, hw2, rfl⟩ := v1
  cases hw.symm.trans hw2
  refine va_zast F.1 F.2.1 (am_K1 F.2.2.2.2.2.2.2.2.2.2.1 h1 h2) h.1 h.2.1 h.2.2.1 id 0 hw rfl hin hd (fun H1 locs1 hP hD hS1 => ?_)
  have hx := am_ex.set (e' := .inl (cA, n, .inl (upd (mem id) i.toNatClampNeg (vp_nar .boolean x)))) hw
  have hm : am_m s rv (ws.set id (a, .inl (cA, n, .inl (upd (mem id) i.toNatClampNeg (vp_nar .boolean x))))) lay (am_up mem id i.toNatClampNeg (vp_nar .boolean x)) := by
    refine h.2.2.2.set hc hw (c' := (10, n, rf)) (am_set_self hc).symm (fun j hj => if_neg hj) ?_
    unfold am_e
    rw [if_neg (show ¬ 10 < 8 by decide), if_pos (show 10 < 11 by decide)]
    refine ⟨cA, ?_, h1, h2⟩
    rw [show am_up mem id i.toNatClampNeg (vp_nar .boolean x) id = upd (mem id) i.toNatClampNeg (vp_nar .boolean x) from if_pos rfl]
  exact K p e R s m args below meth c D A rv H1 locs1 cells slots ls _ _ X F hc1 hs ⟨hP, hD, hS1, hm⟩ (hL.mono hx) (hT1.mono hx) (fun r lay' mem' H' locs' ws' pc' ls' rw q1 q2 q3 q4 q5 => kk r lay' mem' H' locs' ws' pc' ls' rw q1 q2 (hx.tr q3) q4 q5)
theorem s_zastN {n id k : Nat} {rf : Nat → Value} {x : Int32} (hd : decode mi.2.1 pc = .ok (.bastore, 1)) (hp : pc + 1 = pc') (hc : lay[id]? = some (10, n, rf)) (hk : k < n) (hn : n ≤ 2147483648) (K : Sim z d kc ks mi pc' L S lay (am_up mem id k (vp_nar .boolean x)) Q) : Sim z d kc ks mi pc L (.int x :: .int (nI k) :: .ref id :: S) lay mem Q :=
  s_zast hd hp hc (am_in hk hn) (by rw [am_cl hk hn]; exact K)
theorem s_alen {tg n id : Nat} {rf : Nat → Value} (hd : decode mi.2.1 pc = .ok (.arraylength, 1)) (hp : pc + 1 = pc') (hc : lay[id]? = some (tg, n, rf)) (htg : 8 ≤ tg ∧ tg < 11) (K : Sim z d kc ks mi pc' L (.int (nI n) :: S) lay mem Q) : Sim z d kc ks mi pc L (.ref id :: S) lay mem Q := by
  intro p e R s m args below meth c D A rv H locs cells slots ls st ws X F hc1 hs h hL hS kk
  subst hp
  obtain ⟨a, cA, hw, h1, h2⟩ := am_arr h htg hc
  obtain ⟨w1, st1, rfl, v1, hT1⟩ := am_s.cons hS
  obtain ⟨a2, e2, hw2, rfl⟩ := v1
  cases hw.symm.trans hw2
  exact va_alen F.1 F.2.1 (am_K1 F.2.2.2.2.2.2.2.2.2.2.1 h1 h2) h.1 id 0 hw rfl rfl hd (K p e R s m args below meth c D A rv H locs cells slots ls _ ws X F hc1 hs h hL ⟨rfl, hT1⟩ kk)
theorem s_aald {tg n id : Nat} {rf : Nat → Value} {i : Int32} (hd : decode mi.2.1 pc = .ok (.aaload, 1)) (hp : pc + 1 = pc') (hc : lay[id]? = some (tg, n, rf)) (htg : 11 ≤ tg) (hin : vp_in i n) (K : Sim z d kc ks mi pc' L (rf i.toNatClampNeg :: S) lay mem Q) : Sim z d kc ks mi pc L (.int i :: .ref id :: S) lay mem Q := by
  intro p e R s m args below meth c D A rv H locs cells slots ls st ws X F hc1 hs h hL hS kk
  subst hp
  obtain ⟨a, cA, g, hw, h1, h2, h3⟩ := am_arq h htg hc
  obtain ⟨w0, st0, rfl, v0, hT⟩ := am_s.cons hS
  obtain rfl : w0 = .int i := v0
  obtain ⟨w1, st1, rfl, v1, hT1⟩ := am_s.cons hT
  obtain ⟨a2, e2, hw2, rfl⟩ := v1
  cases hw.symm.trans hw2
  have hlt : i.toNatClampNeg < n := by
    unfold vp_in at hin
    omega
  exact va_aldq F.1 F.2.1 (am_K1 F.2.2.2.2.2.2.2.2.2.2.1 h1 h2) h.1 id 0 hw rfl hin hd (K p e R s m args below meth c D A rv H locs cells slots ls _ ws X F hc1 hs h hL ⟨h3 _ hlt, hT1⟩ kk)
theorem s_aast {tg n id id2 ci2 n2 : Nat} {rf rf2 : Nat → Value} {q2 : vw_C} {i : Int32} (hd : decode mi.2.1 pc = .ok (.aastore, 1)) (hp : pc + 1 = pc') (hc : lay[id]? = some (tg, n, rf)) (htg : 11 ≤ tg) (hin : vp_in i n) (hc2 : lay[id2]? = some (ci2, n2, rf2)) (hq2 : classes[ci2]? = some q2) (hcl : q2.1 = am_acl tg) (K : Sim z d kc ks mi pc' L S (lay.set id (tg, n, va_up rf i.toNatClampNeg (.ref id2))) mem Q) : Sim z d kc ks mi pc L (.ref id2 :: .int i :: .ref id :: S) lay mem Q := by
  intro p e R s m args below meth c D A rv H locs cells slots ls st ws X F hc1 hs h hL hS kk
  subst hp
  obtain ⟨a, cA, g, hw, h1, h2, h3⟩ := am_arq h htg hc
  obtain ⟨b, fs, hwb, -, -⟩ := am_obj h hq2 hc2
  obtain ⟨wb, stb, rfl, vb, hTb⟩ := am_s.cons hS
  obtain ⟨b2, eb2, hwb2, rfl⟩ := vb
  cases hwb.symm.trans hwb2
  obtain ⟨w0, st0, rfl, v0, hT⟩ := am_s.cons hTb
  obtain rfl : w0 = .int i := v0
  obtain ⟨w1, st1, rfl, v1, hT1⟩ := am_s.cons hT
  obtain ⟨a2, e2, hw2, rfl⟩ := v1
  cases hw.symm.trans hw2
  refine va_astq F.1 F.2.1 (am_K1 F.2.2.2.2.2.2.2.2.2.2.1 h1 h2) h.1 h.2.1 h.2.2.1 id 0 id2 ci2 hw (by rw [hcl]; rfl) hwb hq2 hin hd (fun H1 locs1 hP hD hS1 => ?_)
  have hx := am_ex.set (e' := .inl (cA, n, .inr (.inr (.inr (.inr (va_up g i.toNatClampNeg (some b))))))) hw
  have hm : am_m s rv (ws.set id (a, .inl (cA, n, .inr (.inr (.inr (.inr (va_up g i.toNatClampNeg (some b)))))))) (lay.set id (tg, n, va_up rf i.toNatClampNeg (.ref id2))) mem := by
    refine h.2.2.2.set hc hw rfl (fun _ _ => rfl) ?_
    unfold am_e
    rw [if_neg (show ¬ tg < 8 by omega), if_neg (show ¬ tg < 11 by omega)]
    refine ⟨cA, _, rfl, h1, h2, fun j hj => ?_⟩
    by_cases hji : j = i.toNatClampNeg
    · subst hji
      show am_v _ _ (va_up rf _ _ _) (va_rf (va_up g _ _ _))
      rw [show va_up rf i.toNatClampNeg (.ref id2) i.toNatClampNeg = .ref id2 from if_pos rfl, show va_up g i.toNatClampNeg (some b) i.toNatClampNeg = some b from if_pos rfl]
      obtain ⟨e', he'⟩ := hx id2 b _ hwb
      exact ⟨b, e', he', rfl⟩
    · show am_v _ _ (va_up rf _ _ _) (va_rf (va_up g _ _ _))
      rw [show va_up rf i.toNatClampNeg (.ref id2) j = rf j from if_neg hji, show va_up g i.toNatClampNeg (some b) j = g j from if_neg hji]
      exact (h3 j hj).mono hx
  exact K p e R s m args below meth c D A rv H1 locs1 cells slots ls _ _ X F hc1 hs ⟨hP, hD, hS1, hm⟩ (hL.mono hx) (hT1.mono hx) (fun r lay' mem' H' locs' ws' pc' ls' rw q1 q2 q3 q4 q5 => kk r lay' mem' H' locs' ws' pc' ls' rw q1 q2 (hx.tr q3) q4 q5)
theorem s_newa {tg N : Nat} {n : Int32} {at' : ArrayType} (hd : decode mi.2.1 pc = .ok (.newarray at', 2)) (hp : pc + 2 = pc') (hwk : Cond.arrayClass (newarray.typeOf at') ∈ wok) (htg : 8 ≤ tg ∧ tg < 11) (hty : newarray.typeOf at' = am_aty tg) (hn : ¬ n < 0) (hN : n.toNatClampNeg = N) (hb : N ≤ 1000) (K : Sim z d kc ks mi pc' L (.ref lay.length :: S) (lay ++ [(tg, N, fun _ => .null)]) (am_nw mem lay.length) Q) : Sim z d (1 + kc) (N + ks) mi pc L (.int n :: S) lay mem Q := by
  intro p e R s m args below meth c D A rv H locs cells slots ls st ws X F hc1 hs h hL hS kk
  subst hp
  obtain ⟨w0, st0, rfl, v0, hT⟩ := am_s.cons hS
  obtain rfl : w0 = .int n := v0
  have hdef : defaultValue (am_aty tg) = .int 0 := by
    obtain ⟨t1, t2⟩ := htg
    have : tg = 8 ∨ tg = 9 ∨ tg = 10 := by omega
    rcases this with rfl | rfl | rfl <;> rfl
  have hby : componentBytes (am_aty tg) ≤ 8 := by
    obtain ⟨t1, t2⟩ := htg
    have : tg = 8 ∨ tg = 9 ∨ tg = 10 := by omega
    rcases this with rfl | rfl | rfl <;> decide
  refine va_newa F.1 F.2.1 (F.2.2.2.2.2.1 _ hwk) hty F.2.2.2.2.2.2.2.2.2.2.1 h.1 h.2.1 h.2.2.1 F.2.2.2.2.2.2.2.2.2.2.2.1 (a0 := (N, .inl (fun _ => 0))) (fun cA => by rw [hdef]; rfl) hn hN (Nat.le_trans (Nat.mul_le_mul hb hby) (by decide)) (by omega) (by omega) hd (fun q cA H1 hK1 hP hD hS1 => ?_)
  have hx : am_ex ws (ws ++ [(q, .inl (cA, N, .inl (fun _ => 0)))]) := am_ex.push
  have hm : am_m s rv (ws ++ [(q, .inl (cA, N, .inl (fun _ => 0)))]) (lay ++ [(tg, N, fun _ => .null)]) (am_nw mem lay.length) := by
    refine h.2.2.2.push (fun j hj => if_neg hj) ?_
    unfold am_e
    rw [if_neg (show ¬ tg < 8 by omega), if_pos htg.2]
    refine ⟨cA, ?_, (hK1.2 0 (cA, am_aty tg) rfl).1, (hK1.2 0 (cA, am_aty tg) rfl).2⟩
    rw [show am_nw mem lay.length lay.length = fun _ => 0 from if_pos rfl]
  have hk := K p e R s m args below meth c D A rv H1 locs (cells + 1) (slots + N) ls (.ref q :: st0) _ X F (by omega) (by omega) ⟨hP, hD, hS1, hm⟩ (hL.mono hx) ⟨⟨q, _, by rw [List.getElem?_append_right (by rw [h.2.2.2.1]; exact Nat.le_refl _), h.2.2.2.1, Nat.sub_self]; rfl, rfl⟩, hT.mono hx⟩
  refine hk (fun r lay' mem' H' locs' ws' pc' ls' rw q1 q2 q3 q4 q5 => ?_)
  have := kk r lay' mem' H' locs' ws' pc' ls' rw q1 q2 (hx.tr q3) q4 q5
  rw [show cells + 1 + kc = cells + (1 + kc) by omega, show slots + N + ks = slots + (N + ks) by omega]
  exact this
theorem s_newq {tg N idx : Nat} {n : Int32} {C : String} (hd : decode mi.2.1 pc = .ok (.anewarray idx, 3)) (hp : pc + 3 = pc') (hwk : Cond.classLink mi.1.cls idx C ∈ wok) (htg : 11 ≤ tg) (hC : C = am_acl tg) (hn : ¬ n < 0) (hN : n.toNatClampNeg = N) (hb : N ≤ 1000) (K : Sim z d kc ks mi pc' L (.ref lay.length :: S) (lay ++ [(tg, N, fun _ => .null)]) (am_nw mem lay.length) Q) : Sim z d (1 + kc) (N + ks) mi pc L (.int n :: S) lay mem Q := by
  intro p e R s m args below meth c D A rv H locs cells slots ls st ws X F hc1 hs h hL hS kk
  subst hp
  subst hC
  obtain ⟨w0, st0, rfl, v0, hT⟩ := am_s.cons hS
  obtain rfl : w0 = .int n := v0
  have hao : va_AO (am_acl tg) s := by
    obtain ⟨-, -, -, -, -, -, -, g2, g3⟩ := F.2.2.2.2.2.2.2.2.2.2.2.2
    unfold am_acl
    split
    · exact g2
    · exact g3
  refine va_newq F.1 F.2.1 F.2.2.2.2.1 (F.2.2.2.2.2.1 _ hwk) hao F.2.2.2.2.2.2.2.2.2.2.1 h.1 h.2.1 h.2.2.1 F.2.2.2.2.2.2.2.2.2.2.2.1 hn hN (by omega) (by omega) (by omega) hd (fun q cA H1 hK1 hP hD hS1 => ?_)
  have hx : am_ex ws (ws ++ [(q, .inl (cA, N, .inr (.inr (.inr (.inr (fun _ => none))))))]) := am_ex.push
  have hm : am_m s rv (ws ++ [(q, .inl (cA, N, .inr (.inr (.inr (.inr (fun _ => none))))))]) (lay ++ [(tg, N, fun _ => .null)]) (am_nw mem lay.length) := by
    refine h.2.2.2.push (fun j hj => if_neg hj) ?_
    unfold am_e
    rw [if_neg (show ¬ tg < 8 by omega), if_neg (show ¬ tg < 11 by omega)]
    exact ⟨cA, _, rfl, (hK1.2 0 (cA, .object (am_acl tg)) rfl).1, (hK1.2 0 (cA, .object (am_acl tg)) rfl).2, fun j hj => rfl⟩
  have hk := K p e R s m args below meth c D A rv H1 locs (cells + 1) (slots + N) ls (.ref q :: st0) _ X F (by omega) (by omega) ⟨hP, hD, hS1, hm⟩ (hL.mono hx) ⟨⟨q, _, by rw [List.getElem?_append_right (by rw [h.2.2.2.1]; exact Nat.le_refl _), h.2.2.2.1, Nat.sub_self]; rfl, rfl⟩, hT.mono hx⟩
  refine hk (fun r lay' mem' H' locs' ws' pc' ls' rw q1 q2 q3 q4 q5 => ?_)
  have := kk r lay' mem' H' locs' ws' pc' ls' rw q1 q2 (hx.tr q3) q4 q5
  rw [show cells + 1 + kc = cells + (1 + kc) by omega, show slots + N + ks = slots + (N + ks) by omega]
  exact this
/-- a new object: its class's words -/
def am_nk (own : String) (idx ci N : Nat) : Prop := ∃ (C : String) (T : u_T), classes[ci]? = some (C, T, N) ∧ Cond.classLink own idx C ∈ wok ∧ Cond.instantiable C N ∈ wok ∧ Cond.initialized C ∈ wok ∧ (∀ j, j < N → ∃ ty, parseFieldDescriptor (T j).2.2.1 = some ty ∧ defaultValue ty = (if am_isR ci j = true then .null else .int 0))
theorem s_new {idx ci N : Nat} (hd : decode mi.2.1 pc = .ok (.new idx, 3)) (hp : pc + 3 = pc') (hn : am_nk mi.1.cls idx ci N) (K : Sim z d kc ks mi pc' L (.ref lay.length :: S) (lay ++ [(ci, N, fun _ => .null)]) (am_nw mem lay.length) Q) : Sim z d (1 + kc) (N + ks) mi pc L S lay mem Q := by
  intro p e R s m args below meth c D A rv H locs cells slots ls st ws X F hc1 hs h hL hS kk
  subst hp
  obtain ⟨C, T, hq, hl, hi, hini, hdf⟩ := hn
  obtain ⟨ty0, ht0, -⟩ := am_tyn hq
  have h8 := am_cl8 hq
  refine va_new (fs := (List.range N).map (fun j => if am_isR ci j = true then .null else .int 0)) F.1 F.2.1 F.2.2.2.2.2.1 (am_uws hq) ty0 ht0 F.2.2.2.2.1 (F.2.2.2.2.2.1 _ hl) (F.2.2.2.2.2.1 _ hi) (F.2.2.2.2.2.1 _ hini) F.2.2.2.2.2.2.2.2.2.2.1 h.1 h.2.1 h.2.2.1 F.2.2.2.2.2.2.2.2.2.2.2.1 hq (fun j hj => ?_) (by omega) (by omega) hd (fun q H1 hP hD hS1 => ?_)
  · obtain ⟨ty, a, b⟩ := hdf j hj
    cases (ht0 j hj).symm.trans a
    rw [b]
    unfold vp_V
    simp [hj]
  · have hx : am_ex ws (ws ++ [(q, .inr (ci, (List.range N).map (fun j => if am_isR ci j = true then .null else .int 0)))]) := am_ex.push
    have hm : am_m s rv (ws ++ [(q, .inr (ci, (List.range N).map (fun j => if am_isR ci j = true then .null else .int 0)))]) (lay ++ [(ci, N, fun _ => .null)]) (am_nw mem lay.length) := by
      refine h.2.2.2.push (fun j hj => if_neg hj) ?_
      unfold am_e
      rw [if_pos h8]
      refine ⟨_, rfl, by simp, fun j hj => ⟨_, by rw [List.getElem?_map, List.getElem?_range hj]; rfl, ?_⟩⟩
      by_cases hr : am_isR ci j = true
      · simp only [hr, if_true]; rfl
      · simp only [hr]
        show _ = Value.int (am_nw mem lay.length lay.length j)
        rw [show am_nw mem lay.length lay.length = fun _ => 0 from if_pos rfl]
        rfl
    have hk := K p e R s m args below meth c D A rv H1 locs (cells + 1) (slots + N) ls (.ref q :: st) _ X F (by omega) (by omega) ⟨hP, hD, hS1, hm⟩ (hL.mono hx) ⟨⟨q, _, by rw [List.getElem?_append_right (by rw [h.2.2.2.1]; exact Nat.le_refl _), h.2.2.2.1, Nat.sub_self]; rfl, rfl⟩, hS.mono hx⟩
    refine hk (fun r lay' mem' H' locs' ws' pc' ls' rw q1 q2 q3 q4 q5 => ?_)
    have := kk r lay' mem' H' locs' ws' pc' ls' rw q1 q2 (hx.tr q3) q4 q5
    rw [show cells + 1 + kc = cells + (1 + kc) by omega, show slots + N + ks = slots + (N + ks) by omega]
    exact this
end AR
end
section
/-! ===== calls: a judgement of a method's body is its contract ===== -/
def am_fl0 : List Value → List Value
  | [] => []
  | v :: As => (if v.category = 2 then [v, .double 0] else [v]) ++ am_fl0 As
def am_L0 (n : Nat) (As : List Value) : List Value := am_fl0 As ++ List.replicate (n - (am_fl0 As).length) (.float 0)
theorem lg_sl_cons (v : Value) (Ws : List Value) : lg_sl (v :: Ws) = (if v.category = 2 then [.val v, .second] else [.val v]) ++ lg_sl Ws := by
  simp [lg_sl]
theorem am_fl0_len {rv : Nat → Value} {ws : va_W} : ∀ {As Ws : List Value}, am_s rv ws As Ws → (lg_sl Ws).length = (am_fl0 As).length
  | [], [], _ => rfl
  | v :: As, w :: Ws, h => by
    rw [lg_sl_cons, am_fl0, List.length_append, List.length_append, am_fl0_len h.2, h.1.cat]
    split <;> rfl
  | [], _ :: _, h => h.elim
  | _ :: _, [], h => h.elim
theorem am_fl0_at {rv : Nat → Value} {ws : va_W} : ∀ {As Ws : List Value} (i : Nat) (v : Value), am_s rv ws As Ws → (am_fl0 As)[i]? = some v → am_mk v = false → ∃ w, (lg_sl Ws)[i]? = some (.val w) ∧ am_v rv ws v w
  | [], _, i, v, _, h, _ => by simp [am_fl0] at h
  | _ :: _, [], _, _, h, _, _ => h.elim
  | u :: As, w :: Ws, i, v, h, hi, hm => by
    rw [lg_sl_cons]
    rw [am_fl0] at hi
    rw [h.1.cat]
    by_cases hc : u.category = 2
    · rw [if_pos hc] at hi ⊢
      match i, hi with
      | 0, hi => cases hi; exact ⟨w, rfl, h.1⟩
      | 1, hi => cases hi; cases hm
      | i + 2, hi => exact am_fl0_at i v h.2 hi hm
    · rw [if_neg hc] at hi ⊢
      match i, hi with
      | 0, hi => cases hi; exact ⟨w, rfl, h.1⟩
      | i + 1, hi => exact am_fl0_at i v h.2 hi hm
theorem am_entry {rv : Nat → Value} {ws : va_W} {As Ws : List Value} {n : Nat} (h : am_s rv ws As Ws) (hn : (am_fl0 As).length ≤ n) : am_l rv ws (am_L0 n As) ((lg_sl Ws ++ List.replicate (n - (lg_sl Ws).length) Slot.unset).toArray) n := by
  have h1 := am_fl0_len h
  have h2 := lv_entry Ws (n := n) (by rw [h1]; exact hn)
  refine ⟨h2.1, h2.2.1, ?_, fun i v hi hm => ?_⟩
  · rw [am_L0, List.length_append, List.length_replicate]; omega
  · unfold am_L0 at hi
    by_cases hl : i < (am_fl0 As).length
    · rw [List.getElem?_append_left hl] at hi
      obtain ⟨w, a, b⟩ := am_fl0_at i v h hi hm
      refine ⟨w, ?_, b⟩
      rw [List.getElem?_toArray, List.getElem?_append_left (by rw [h1]; exact hl)]
      exact a
    · rw [List.getElem?_append_right (by omega)] at hi
      have := List.mem_of_getElem? hi
      rw [List.mem_replicate] at this
      rw [this.2] at hm
      cases hm
def am_Pc (z : Zz) (D : va_G) (rv : Nat → Value) (ws : va_W) (sz : Nat) (lay : Lay) (mem : Mem) (Ws : List Value) : Array Value → State → Prop :=
  va_Pc Ws (fun U => U.heap.size = sz ∧ va_P D classes ws U.heap ∧ va_D (fun _ => True) ws ∧ va_K D classes [] U ∧ am_ro (va_A ws sz) U U.heap rv z.2.1 z.2.2 ∧ am_m U rv ws lay mem)
def am_Qc (D : va_G) (rv : Nat → Value) (ws : va_W) (sz : Nat) (Q : Option Value → Lay → Mem → Prop) : Array Value → State → Outcome → State → Prop := fun _ st oc t =>
  (∃ (r : Option Value) (lay' : Lay) (mem' : Mem) (ws' : va_W) (rw : Option Value), oc = .returned rw ∧ Q r lay' mem' ∧ am_rr rv ws' r rw ∧ am_ex ws ws' ∧ va_P D classes ws' t.heap ∧ va_D (va_A ws sz) ws' ∧ am_m t rv ws' lay' mem') ∧ va_F (va_A ws sz) st t
def am_rm (d kc ks : Nat) : Room := { frames := d, cells := kc, slots := ks, locals := 64 * d }
theorem am_met {z : Zz} {d kc ks : Nat} {mi : MI} {As Ws : List Value} {lay : Lay} {mem : Mem} {Q : Option Value → Lay → Mem → Prop} (hy : plainName mi.1.cls = true) (hfit : (am_fl0 As).length ≤ mi.2.2.1) (h : Sim z d kc ks mi 0 (am_L0 mi.2.2.1 As) [] lay mem Q) (D : va_G) (rv : Nat → Value) (ws : va_W) (sz : Nat) (hA : am_s rv ws As Ws) :
    Met z.1 mi.1 (am_ws mi) (am_rm d kc ks) (am_Pc z D rv ws sz lay mem Ws) (am_Qc D rv ws sz Q) kc ks (va_A ws sz) := by
  refine Met.ofW (cc := mi.2.1) (maxL := mi.2.2.1) (ret := mi.2.2.2) hy rfl ?_
  intro p e s m args below meth c s₁ B hml hv
  obtain ⟨rfl, hsz, hP, hD, hK, hro, hm⟩ := hv
  have hts := atoms_spec (ws := am_ws mi) B.pre
  subst hsz
  have hS : va_S (va_A ws s.heap.size) s.heap s.heap [] := va_S.rf
  have hlocks := B.notSynchronized
  rw [lg_entry_eq]
  refine h p e _ s m Ws.toArray below meth c D (va_A ws s.heap.size) rv s.heap [] 0 0 _ [] ws _ ⟨B.exec, B.bytes, hml, B.returns, findClass_of_methodNamed B.named, fun w hw => hts w (List.mem_cons_of_mem _ hw), hlocks, fun hn => by rw [← hn]; exact (name_of_methodNamed B.named B.method).1, Nat.le_refl d, Nat.le_refl (64 * d), hK, fun q hq => Or.inr hq, hro⟩ (by show 0 + kc ≤ kc; omega) (by show 0 + ks ≤ ks; omega) ⟨hP, hD.self, hS, hm⟩ (am_entry hA hfit) trivial ?_
  intro r lay' mem' H' locs' ws' pc' ls' rw hq hh hx hrt hrr
  rw [Nat.zero_add, Nat.zero_add]
  have fin : ∀ t : State, t.heap = H' → s.WarmedH t.vm → am_Qc D rv ws s.heap.size Q Ws.toArray s (.returned rw) t := fun t ht hW =>
    ⟨⟨r, lay', mem', ws', rw, rfl, hq, hrr, hx, by rw [ht]; exact hh.1, hh.2.1, hh.2.2.2.moved hW.alike⟩, hh.2.2.1.F ht⟩
  cases r with
  | none =>
    cases rw with
    | some w => exact hrr.elim
    | none => exact W.vret B.exec B.bytes (B.returns.trans hrt.2) fin hh.2.2.1.2.2 hrt.1
  | some v =>
    cases rw with
    | none => exact hrr.elim
    | some w =>
      cases v with
      | int x =>
        obtain rfl : w = .int x := hrr
        obtain ⟨h1, ty, h2, h3⟩ := hrt
        exact W.zret B.exec B.bytes (B.returns.trans h2) h3 fin hh.2.2.1.2.2 h1
      | long x =>
        obtain rfl : w = .long x := hrr
        exact W.lret B.exec B.bytes (B.returns.trans hrt.2) fin hh.2.2.1.2.2 hrt.1
      | null =>
        obtain ⟨h1, ty, h2, h3⟩ := hrt
        exact W.aret B.exec B.bytes (B.returns.trans h2) h3 (am_isA_w (v := (.null : Value)) (rv := rv) (ws := ws') rfl hrr) fin hh.2.2.1.2.2 h1
      | ref k =>
        obtain ⟨h1, ty, h2, h3⟩ := hrt
        exact W.aret B.exec B.bytes (B.returns.trans h2) h3 (am_isA_w (v := (.ref k : Value)) (rv := rv) (ws := ws') rfl hrr) fin hh.2.2.1.2.2 h1
      | retAddr k =>
        obtain ⟨h1, ty, h2, h3⟩ := hrt
        exact W.aret B.exec B.bytes (B.returns.trans h2) h3 (am_isA_w (v := (.retAddr k : Value)) (rv := rv) (ws := ws') rfl hrr) fin hh.2.2.1.2.2 h1
      | float _ => exact hrr.elim
      | double _ => exact hrr.elim
/-- n values off the stack, the first argument first -/
def am_pp : Nat → List Value → List Value → List Value × List Value
  | 0, acc, S => (acc, S)
  | _ + 1, acc, [] => (acc, [])
  | n + 1, acc, v :: S => am_pp n (v :: acc) S
theorem am_pp_spec : ∀ (n : Nat) (acc S As S' : List Value), am_pp n acc S = (As, S') → As.reverse ++ S' = acc.reverse ++ S
  | 0, acc, S, As, S', h => by cases h; rfl
  | _ + 1, acc, [], As, S', h => by cases h; rfl
  | n + 1, acc, v :: S, As, S', h => by
    have := am_pp_spec n (v :: acc) S As S' h
    rw [this]; simp
theorem am_Pc_blind {z : Zz} {D : va_G} {rv : Nat → Value} {ws : va_W} {sz : Nat} {lay : Lay} {mem : Mem} {Ws : List Value} : FrameBlind (am_Pc z D rv ws sz lay mem Ws) := by
  intro a U g mk q
  obtain ⟨q0, q1, qP, qD, qK, qR, qM⟩ := q
  exact ⟨q0, q1, qP, qD, va_K.moved (u := U) (U := U.calling g mk a) (Vm.Alike.refl U.vm) qK, qR.same (u := U) (U := U.calling g mk a) rfl, qM.moved (U := U) (U' := U.calling g mk a) (Vm.Alike.refl U.vm)⟩
theorem am_Pc_of {z : Zz} {p : Program} {R : Room} {s : State} {m : MethodId} {args : Array Value} {meth : Method} {c : Code} {mi : MI} {d : Nat} {D : va_G} {A : Nat → Prop} {rv : Nat → Value} {H : Heap} {locs : List Loc} {ws : va_W} {lay : Lay} {mem : Mem} {Ws : List Value} (F : am_f z p R s m args meth c mi d D A rv) (h : am_h D A s H locs rv ws lay mem) : ∀ U : State, U.heap = H → s.WarmedH U.vm → am_Pc z D rv ws H.size lay mem Ws Ws.toArray U := by
  intro U hU hW
  have hfr : ∀ q, va_A ws H.size q → A q := by
    intro q hq
    rcases hq with ⟨k, e, hk⟩ | hq
    · exact h.2.1.2 k (q, e) hk
    · exact F.2.2.2.2.2.2.2.2.2.2.2.1 q (Nat.le_trans h.2.2.1.1 hq)
  refine ⟨rfl, by rw [hU], by rw [hU]; exact h.1, h.2.1.weaken (fun _ _ _ _ => trivial), va_K.moved hW.alike F.2.2.2.2.2.2.2.2.2.2.1, ?_, h.2.2.2.moved hW.alike⟩
  rw [hU]
  exact F.2.2.2.2.2.2.2.2.2.2.2.2.call hW h.2.2.1.2.1 hfr
theorem am_back {z : Zz} {p : Program} {e : Env} {R : Room} {s : State} {m : MethodId} {args : Array Value} {below : List Frame} {meth : Method} {c : Code} {D : va_G} {A : Nat → Prop} {rv : Nat → Value} {H : Heap} {locs : List Loc} {cells slots : Nat} {ls : Array Slot} {st rest : List Value} {ws : va_W} {X : State → Prop} {d kc ks kc1 ks1 : Nat} {mi : MI} {pc : Nat} {L S : List Value} {lay : Lay} {mem : Mem} {Q Q1 : Option Value → Lay → Mem → Prop} {a : Array Value}
    (hrun : va_Run p z.1 e R s m args below meth c H locs cells slots kc1 ks1 (F0 m pc ls st) rest (am_Qc D rv ws H.size Q1 a) (va_A ws H.size))
    (F : am_f z p R s m args meth c mi d D A rv) (hc : cells + (kc1 + kc) ≤ R.cells) (hs : slots + (ks1 + ks) ≤ R.slots) (h : am_h D A s H locs rv ws lay mem) (hL : am_l rv ws L ls mi.2.2.1) (hT : am_s rv ws S rest)
    (K : ∀ (r : Option Value) (lay' : Lay) (mem' : Mem), Q1 r lay' mem' → Sim z d kc ks mi (pc + 3) L (r.toList ++ S) lay' mem' Q)
    (kk : ∀ (r : Option Value) (lay' : Lay) (mem' : Mem) (H' : Heap) (locs' : List Loc) (ws' : va_W) (pc' : Nat) (ls' : Array Slot) (rw : Option Value), Q r lay' mem' → am_h D A s H' locs' rv ws' lay' mem' → am_ex ws ws' → am_rt1 mi pc' r → am_rr rv ws' r rw → W p z.1 e R s m args below meth c H' locs' (cells + (kc1 + kc)) (slots + (ks1 + ks)) X (F0 m pc' ls' rw.toList)) :
    W p z.1 e R s m args below meth c H locs cells slots X (F0 m pc ls st) := by
  intro T hT0 XX
  obtain ⟨v, st₀, t, T', LL, h0, X', hLL, e1, e2, ⟨⟨r, lay', mem', ws', rw, hv, hq, hrr, hx, hP', hD', hm'⟩, hz, hk⟩, stp⟩ := hrun T hT0 XX
  cases hv
  have hfr : ∀ q, va_A ws H.size q → A q := by
    intro q hq
    rcases hq with ⟨k, e, hk⟩ | hq
    · exact h.2.1.2 k (q, e) hk
    · exact F.2.2.2.2.2.2.2.2.2.2.2.1 q (Nat.le_trans h.2.2.1.1 hq)
  rw [h0] at hz hk
  have hvm : s.vm.Alike t.vm := by rw [← e2]; exact X'.warmed.alike
  have hS' : va_S A s.heap T'.heap (locs ++ LL) := by
    refine ⟨Nat.le_trans h.2.2.1.1 (by rw [e1]; exact hz), fun q h1 h2 => ?_, fun q hq => ?_⟩
    · rw [e1, hk q (Nat.lt_of_lt_of_le h1 h.2.2.1.1) (fun z => h2 (hfr q z))]
      exact h.2.2.1.2.1 q h1 h2
    · rcases List.mem_append.mp hq with h2 | h2
      · exact h.2.2.1.2.2 q h2
      · exact hfr _ (hLL q h2)
  have hh : am_h D A s T'.heap (locs ++ LL) rv ws' lay' mem' := ⟨by rw [e1]; exact hP', hD'.weaken (fun _ q _ hq => hfr q.1 hq), hS', hm'.moved hvm.symm⟩
  have hst : am_s rv ws' (r.toList ++ S) (v.toList ++ rest) := by
    refine am_s.join ?_ (hT.mono hx)
    cases r with
    | none =>
      cases v with
      | none => trivial
      | some w => exact hrr.elim
    | some v2 =>
      cases v with
      | none => exact hrr.elim
      | some w => exact ⟨hrr, trivial⟩
  obtain ⟨t2, a1, b1⟩ := K r lay' mem' hq p e R s m args below meth c D A rv T'.heap (locs ++ LL) (cells + kc1) (slots + ks1) ls _ ws' X F (by omega) (by omega) hh (hL.mono hx) hst (fun r lay' mem' H' locs' ws'' pc' ls' rw q1 q2 q3 q4 q5 => by
    have := kk r lay' mem' H' locs' ws'' pc' ls' rw q1 q2 (hx.tr q3) q4 q5
    rw [show cells + kc1 + kc = cells + (kc1 + kc) by omega, show slots + ks1 + ks = slots + (ks1 + ks) by omega]
    exact this) T' rfl X'
  exact ⟨t2, stp t2 a1, b1⟩
/-- what a method must have to be called -/
def am_ok (mi : MI) (n : Nat) : Prop := plainName mi.1.cls = true ∧ mi.2.2.1 ≤ 45 ∧ Cond.code mi.1 mi.2.1 mi.2.2.1 mi.2.2.2 ∈ wok ∧ Cond.initialized mi.1.cls ∈ wok ∧ (mi.1.cls ≠ "java/lang/invoke/MethodHandle" ∧ mi.1.cls ≠ "java/lang/invoke/VarHandle") ∧ (parseMethodDescriptor mi.1.desc).map (fun d => d.parameters.length) = some n
theorem am_good {mi : MI} {n : Nat} (h : am_ok mi n) : GoodIn wok (am_ws mi) := by
  intro w hw
  rcases List.mem_cons.mp hw with rfl | hw
  · exact ⟨h.2.2.1, good_of_word rfl⟩
  · exact ⟨hw, good_of_word (wok_good w hw)⟩
theorem am_callB {R : Room} {s : State} {args : Array Value} {own : String} {idx n d D kc ks : Nat} {mi : MI} (ht : ∀ w ∈ wok, w.before args s = true) (h : am_ok mi n) (hl : (Cond.methodLink own idx mi.1).before args s = true) (hd : d + 1 ≤ D) (hf : D ≤ R.frames) (hlo : 64 * D ≤ R.locals) :
    CallB R s args own idx mi.1 mi.2.1 mi.2.2.1 mi.2.2.2 (am_ws mi) (am_rm d kc ks) kc ks n :=
  ⟨rfl, rfl, by show d + 1 ≤ _; omega, by show 8 + (mi.2.2.1 + 11) + 64 * d ≤ _; have := h.2.1; omega, fun w hw a' U hW => word_at hW (am_good h w hw).2 (ht w (am_good h w hw).1), List.mem_cons_self, ht _ h.2.2.1, ht _ h.2.2.2.1, h.2.2.2.2.1, fun sig hs => by have := h.2.2.2.2.2; rw [hs] at this; exact (Option.some.inj this).symm, hl⟩
theorem am_callN {R : Room} {s : State} {args : Array Value} {own host : String} {idx n d D kc ks : Nat} {mi : MI} (ht : ∀ w ∈ wok, w.before args s = true) (h : am_ok mi n) (hl : va_Nw (.methodLinkNest own idx mi.1 host) s) (hd : d + 1 ≤ D) (hf : D ≤ R.frames) (hlo : 64 * D ≤ R.locals) :
    va_CN R s args own idx mi.1 host mi.2.1 mi.2.2.1 mi.2.2.2 (am_ws mi) (am_rm d kc ks) kc ks n :=
  va_cnB n ht (am_good h) rfl rfl rfl hl (ht _ h.2.2.2.1) ⟨h.2.2.2.2.1.1, h.2.2.2.2.1.2, h.2.2.2.2.2⟩ ⟨by show d + 1 ≤ _; omega, by show 8 + (mi.2.2.1 + 11) + 64 * d ≤ _; have := h.2.1; omega⟩
end
section
/-! ===== call rules; what is given; arraycopy ===== -/
def am_ap (r : Option Value) (S : List Value) : List Value := match r with
  | none => S
  | some v => v :: S
theorem am_ap_eq (r : Option Value) (S : List Value) : r.toList ++ S = am_ap r S := by cases r <;> rfl
section IV
variable {z : Zz} {d kc ks : Nat} {mi : MI} {pc pc' : Nat} {L S : List Value} {lay : Lay} {mem : Mem} {Q : Option Value → Lay → Mem → Prop}
theorem am_room {m : MethodId} {pc : Nat} {ls : Array Slot} {st rest : List Value} {rv : Nat → Value} {ws : va_W} {S : List Value} (h : am_s rv ws S rest) (hc : (S.map (fun v => v.category)).sum ≤ 8) : 2 * (F0 m pc ls st).monitorRoom + (rest.map fun v => v.category).sum ≤ 8 := by
  rw [am_s.cat h]
  show 2 * 0 + _ ≤ 8
  omega
theorem s_invS {idx n d2 kc1 ks1 kcT ksT : Nat} {mi2 : MI} {As S' : List Value} (hd : decode mi.2.1 pc = .ok (.invokestatic idx, 3)) (hp : pc + 3 = pc') (hok : am_ok mi2 n) (hlk : Cond.methodLink mi.1.cls idx mi2.1 ∈ wok) (hst : Cond.static mi2.1 ∈ wok) (hd2 : d2 + 1 ≤ d) (hkc : kc1 + kc = kcT) (hks : ks1 + ks = ksT) (hpp : am_pp n [] S = (As, S')) (hn : As.length = n) (hcat : (S'.map (fun v => v.category)).sum ≤ 8) (hfit : (am_fl0 As).length ≤ mi2.2.2.1)
    (C : Sim z d2 kc1 ks1 mi2 0 (am_L0 mi2.2.2.1 As) [] lay mem (fun r lay' mem' => Sim z d kc ks mi pc' L (am_ap r S') lay' mem' Q)) : Sim z d kcT ksT mi pc L S lay mem Q := by
  intro p e R s m args below meth c D A rv H locs cells slots ls st ws X F hc hs h hL hS kk
  subst hp; subst hkc; subst hks
  have hsp := am_pp_spec n [] S As S' hpp
  rw [List.reverse_nil, List.nil_append] at hsp
  rw [← hsp] at hS
  obtain ⟨s1, rest, rfl, h1, hT⟩ := am_s.app hS
  have hA : am_s rv ws As s1.reverse := by
    have := h1.rev
    rwa [List.reverse_reverse] at this
  have hM := am_met hok.1 hfit C D rv ws H.size hA
  have hrun := va_runS (As := s1.reverse) (rest := rest) (g := F0 m pc ls (s1 ++ rest)) (e := e) (below := below) (meth := meth) (locs := locs) (cells := cells) (slots := slots) (H := H) ⟨F.1, F.2.1, F.2.2.1, F.2.2.2.2.1, F.2.2.2.2.2.1⟩ hM ⟨am_callB F.2.2.2.2.2.1 hok (F.2.2.2.2.2.1 _ hlk) hd2 F.2.2.2.2.2.2.2.2.1 F.2.2.2.2.2.2.2.2.2.1, F.2.2.2.2.2.1 _ hst⟩ ⟨am_Pc_blind, am_Pc_of F h⟩ rfl (by rw [hA.len]; exact hn) hL.1 (by rw [List.reverse_reverse]) (am_room hT hcat) hd ⟨by omega, by omega⟩
  exact am_back hrun F hc hs h hL hT (fun r lay' mem' q => by rw [am_ap_eq]; exact q) kk
theorem s_invSN {idx n d2 kc1 ks1 kcT ksT : Nat} {host : String} {mi2 : MI} {As S' : List Value} (hd : decode mi.2.1 pc = .ok (.invokestatic idx, 3)) (hp : pc + 3 = pc') (hok : am_ok mi2 n) (hlk : Cond.methodLinkNest mi.1.cls idx mi2.1 host ∈ am_nws) (hst : Cond.static mi2.1 ∈ wok) (hd2 : d2 + 1 ≤ d) (hkc : kc1 + kc = kcT) (hks : ks1 + ks = ksT) (hpp : am_pp n [] S = (As, S')) (hn : As.length = n) (hcat : (S'.map (fun v => v.category)).sum ≤ 8) (hfit : (am_fl0 As).length ≤ mi2.2.2.1)
    (C : Sim z d2 kc1 ks1 mi2 0 (am_L0 mi2.2.2.1 As) [] lay mem (fun r lay' mem' => Sim z d kc ks mi pc' L (am_ap r S') lay' mem' Q)) : Sim z d kcT ksT mi pc L S lay mem Q := by
  intro p e R s m args below meth c D A rv H locs cells slots ls st ws X F hc hs h hL hS kk
  subst hp; subst hkc; subst hks
  have hsp := am_pp_spec n [] S As S' hpp
  rw [List.reverse_nil, List.nil_append] at hsp
  rw [← hsp] at hS
  obtain ⟨s1, rest, rfl, h1, hT⟩ := am_s.app hS
  have hA : am_s rv ws As s1.reverse := by
    have := h1.rev
    rwa [List.reverse_reverse] at this
  have hM := am_met hok.1 hfit C D rv ws H.size hA
  have hnw := F.2.2.2.2.2.2.2.2.2.2.2.2.2.2.2.2.2.2.1 _ hlk
  have hrun := va_runSN (As := s1.reverse) (rest := rest) (g := F0 m pc ls (s1 ++ rest)) (e := e) (below := below) (meth := meth) (locs := locs) (cells := cells) (slots := slots) (H := H) ⟨F.1, F.2.1, F.2.2.1, F.2.2.2.2.1, F.2.2.2.2.2.1⟩ hM ⟨am_callN F.2.2.2.2.2.1 hok hnw hd2 F.2.2.2.2.2.2.2.2.1 F.2.2.2.2.2.2.2.2.2.1, F.2.2.2.2.2.1 _ hst, trivial⟩ ⟨am_Pc_blind, am_Pc_of F h⟩ rfl (by rw [hA.len]; exact hn) hL.1 (by rw [List.reverse_reverse]) (am_room hT hcat) hd ⟨by omega, by omega⟩
  exact am_back hrun F hc hs h hL hT (fun r lay' mem' q => by rw [am_ap_eq]; exact q) kk
theorem s_invV {idx n d2 kc1 ks1 kcT ksT id ci nn N : Nat} {rf : Nat → Value} {T : u_T} {mi2 : MI} {As S' : List Value} (hd : decode mi.2.1 pc = .ok (.invokevirtual idx, 3)) (hp : pc + 3 = pc') (hok : am_ok mi2 n) (hlk : Cond.methodLink mi.1.cls idx mi2.1 ∈ wok) (hin : Cond.instanceMethod mi2.1 ∈ wok) (hsel : Cond.selects mi2.1.cls mi2.1 mi2.1 ∈ wok) (hd2 : d2 + 1 ≤ d) (hkc : kc1 + kc = kcT) (hks : ks1 + ks = ksT) (hpp : am_pp (n + 1) [] S = (.ref id :: As, S')) (hn : As.length = n) (hc : lay[id]? = some (ci, nn, rf)) (hq : classes[ci]? = some (mi2.1.cls, T, N)) (hcat : (S'.map (fun v => v.category)).sum ≤ 8) (hfit : (am_fl0 (.ref id :: As)).length ≤ mi2.2.2.1)
    (C : Sim z d2 kc1 ks1 mi2 0 (am_L0 mi2.2.2.1 (.ref id :: As)) [] lay mem (fun r lay' mem' => Sim z d kc ks mi pc' L (am_ap r S') lay' mem' Q)) : Sim z d kcT ksT mi pc L S lay mem Q := by
  intro p e R s m args below meth c D A rv H locs cells slots ls st ws X F hc1 hs h hL hS kk
  subst hp; subst hkc; subst hks
  have hsp := am_pp_spec (n + 1) [] S (.ref id :: As) S' hpp
  rw [List.reverse_nil, List.nil_append, List.reverse_cons, List.append_assoc] at hsp
  rw [← hsp] at hS
  obtain ⟨s1, rest1, rfl, h1, hT1⟩ := am_s.app hS
  obtain ⟨w, rest, rfl, hv, hT⟩ := am_s.cons (show am_s rv ws (.ref id :: S') rest1 from hT1)
  obtain ⟨b, e1, hw, rfl⟩ := hv
  obtain ⟨b2, fs, hw2, -, -⟩ := am_obj h hq hc
  cases hw2.symm.trans hw
  have hA : am_s rv ws As s1.reverse := by
    have := h1.rev
    rwa [List.reverse_reverse] at this
  have hA2 : am_s rv ws (.ref id :: As) (.ref b :: s1.reverse) := ⟨⟨b, _, hw, rfl⟩, hA⟩
  have hM := am_met hok.1 hfit C D rv ws H.size hA2
  have hrun := va_runV (C := mi2.1.cls) (b := b) (As := s1.reverse) (rest := rest) (g := F0 m pc ls (s1 ++ .ref b :: rest)) (e := e) (below := below) (meth := meth) (locs := locs) (cells := cells) (slots := slots) (H := H) ⟨F.1, F.2.1, F.2.2.1, F.2.2.2.2.1, F.2.2.2.2.2.1⟩ hM ⟨am_callB F.2.2.2.2.2.1 hok (F.2.2.2.2.2.1 _ hlk) hd2 F.2.2.2.2.2.2.2.2.1 F.2.2.2.2.2.2.2.2.2.1, F.2.2.2.2.2.1 _ hin, F.2.2.2.2.2.1 _ hsel⟩ ⟨am_Pc_blind, va_recv F.2.2.2.2.2.2.2.2.2.2.1 h.1 hq hw, am_Pc_of F h⟩ rfl (by rw [hA.len]; exact hn) hL.1 (by rw [List.reverse_reverse]) (am_room hT hcat) hd ⟨by omega, by omega⟩
  exact am_back hrun F hc1 hs h hL hT (fun r lay' mem' q => by rw [am_ap_eq]; exact q) kk
theorem s_invI {idx n d2 kc1 ks1 kcT ksT id : Nat} {mi2 : MI} {As S' : List Value} (hd : decode mi.2.1 pc = .ok (.invokespecial idx, 3)) (hp : pc + 3 = pc') (hok : am_ok mi2 n) (hret : mi2.2.2.2 = none) (hnm : mi2.1.name = "<init>") (hlk : Cond.methodLink mi.1.cls idx mi2.1 ∈ wok) (hin : Cond.instanceMethod mi2.1 ∈ wok) (hd2 : d2 + 1 ≤ d) (hkc : kc1 + kc = kcT) (hks : ks1 + ks = ksT) (hpp : am_pp (n + 1) [] S = (.ref id :: As, S')) (hn : As.length = n) (hcat : (S'.map (fun v => v.category)).sum ≤ 8) (hfit : (am_fl0 (.ref id :: As)).length ≤ mi2.2.2.1)
    (C : Sim z d2 kc1 ks1 mi2 0 (am_L0 mi2.2.2.1 (.ref id :: As)) [] lay mem (fun r lay' mem' => Sim z d kc ks mi pc' L (am_ap r S') lay' mem' Q)) : Sim z d kcT ksT mi pc L S lay mem Q := by
  intro p e R s m args below meth c D A rv H locs cells slots ls st ws X F hc1 hs h hL hS kk
  subst hp; subst hkc; subst hks
  have hsp := am_pp_spec (n + 1) [] S (.ref id :: As) S' hpp
  rw [List.reverse_nil, List.nil_append, List.reverse_cons, List.append_assoc] at hsp
  rw [← hsp] at hS
  obtain ⟨s1, rest1, rfl, h1, hT1⟩ := am_s.app hS
  obtain ⟨w, rest, rfl, hv, hT⟩ := am_s.cons (show am_s rv ws (.ref id :: S') rest1 from hT1)
  obtain ⟨b, e1, hw, rfl⟩ := hv
  have hA : am_s rv ws As s1.reverse := by
    have := h1.rev
    rwa [List.reverse_reverse] at this
  have hA2 : am_s rv ws (.ref id :: As) (.ref b :: s1.reverse) := ⟨⟨b, _, hw, rfl⟩, hA⟩
  have hM := am_met hok.1 hfit C D rv ws H.size hA2
  have hCB := am_callB (R := R) (D := d) (kc := kc1) (ks := ks1) F.2.2.2.2.2.1 hok (F.2.2.2.2.2.1 _ hlk) hd2 F.2.2.2.2.2.2.2.2.1 F.2.2.2.2.2.2.2.2.2.1
  rw [hret] at hCB
  have hrun := va_runI (b := b) (As := s1.reverse) (rest := rest) (g := F0 m pc ls (s1 ++ .ref b :: rest)) (e := e) (below := below) (meth := meth) (locs := locs) (cells := cells) (slots := slots) (H := H) ⟨F.1, F.2.1, F.2.2.1, F.2.2.2.2.1, F.2.2.2.2.2.1⟩ hM ⟨hCB, hnm, F.2.2.2.2.2.1 _ hin⟩ ⟨am_Pc_blind, am_Pc_of F h⟩ rfl (by rw [hA.len]; exact hn) hL.1 (by rw [List.reverse_reverse]) (am_room hT hcat) hd ⟨by omega, by omega⟩
  exact am_back hrun F hc1 hs h hL hT (fun r lay' mem' q => by rw [am_ap_eq]; exact q) kk
theorem s_invIN {idx n d2 kc1 ks1 kcT ksT id : Nat} {host : String} {mi2 : MI} {As S' : List Value} (hd : decode mi.2.1 pc = .ok (.invokespecial idx, 3)) (hp : pc + 3 = pc') (hok : am_ok mi2 n) (hret : mi2.2.2.2 = none) (hnm : mi2.1.name = "<init>") (hlk : Cond.methodLinkNest mi.1.cls idx mi2.1 host ∈ am_nws) (hin : Cond.instanceMethod mi2.1 ∈ wok) (hd2 : d2 + 1 ≤ d) (hkc : kc1 + kc = kcT) (hks : ks1 + ks = ksT) (hpp : am_pp (n + 1) [] S = (.ref id :: As, S')) (hn : As.length = n) (hcat : (S'.map (fun v => v.category)).sum ≤ 8) (hfit : (am_fl0 (.ref id :: As)).length ≤ mi2.2.2.1)
    (C : Sim z d2 kc1 ks1 mi2 0 (am_L0 mi2.2.2.1 (.ref id :: As)) [] lay mem (fun r lay' mem' => Sim z d kc ks mi pc' L (am_ap r S') lay' mem' Q)) : Sim z d kcT ksT mi pc L S lay mem Q := by
  intro p e R s m args below meth c D A rv H locs cells slots ls st ws X F hc1 hs h hL hS kk
  subst hp; subst hkc; subst hks
  have hsp := am_pp_spec (n + 1) [] S (.ref id :: As) S' hpp
  rw [List.reverse_nil, List.nil_append, List.reverse_cons, List.append_assoc] at hsp
  rw [← hsp] at hS
  obtain ⟨s1, rest1, rfl, h1, hT1⟩ := am_s.app hS
  obtain ⟨w, rest, rfl, hv, hT⟩ := am_s.cons (show am_s rv ws (.ref id :: S') rest1 from hT1)
  obtain ⟨b, e1, hw, rfl⟩ := hv
  have hA : am_s rv ws As s1.reverse := by
    have := h1.rev
    rwa [List.reverse_reverse] at this
  have hA2 : am_s rv ws (.ref id :: As) (.ref b :: s1.reverse) := ⟨⟨b, _, hw, rfl⟩, hA⟩
  have hM := am_met hok.1 hfit C D rv ws H.size hA2
  have hnw := F.2.2.2.2.2.2.2.2.2.2.2.2.2.2.2.2.2.2.1 _ hlk
  have hCB := am_callN (R := R) (D := d) (kc := kc1) (ks := ks1) F.2.2.2.2.2.1 hok hnw hd2 F.2.2.2.2.2.2.2.2.1 F.2.2.2.2.2.2.2.2.2.1
  rw [hret] at hCB
  have hrun := va_runIN (b := b) (As := s1.reverse) (rest := rest) (g := F0 m pc ls (s1 ++ .ref b :: rest)) (e := e) (below := below) (meth := meth) (locs := locs) (cells := cells) (slots := slots) (H := H) ⟨F.1, F.2.1, F.2.2.1, F.2.2.2.2.1, F.2.2.2.2.2.1⟩ hM ⟨hCB, hnm, F.2.2.2.2.2.1 _ hin⟩ ⟨am_Pc_blind, am_Pc_of F h⟩ rfl (by rw [hA.len]; exact hn) hL.1 (by rw [List.reverse_reverse]) (am_room hT hcat) hd ⟨by omega, by omega⟩
  exact am_back hrun F hc1 hs h hL hT (fun r lay' mem' q => by rw [am_ap_eq]; exact q) kk
/-- a call on one of the two String constants -/
theorem s_invVs {idx n d2 kc1 ks1 kcT ksT j : Nat} {mi2 : MI} {As S' : List Value} (hd : decode mi.2.1 pc = .ok (.invokevirtual idx, 3)) (hp : pc + 3 = pc') (hok : am_ok mi2 n) (hlk : Cond.methodLink mi.1.cls idx mi2.1 ∈ wok) (hin : Cond.instanceMethod mi2.1 ∈ wok) (hsel : Cond.selects mi2.1.cls mi2.1 mi2.1 ∈ wok) (hd2 : d2 + 1 ≤ d) (hkc : kc1 + kc = kcT) (hks : ks1 + ks = ksT) (hpp : am_pp (n + 1) [] S = (.retAddr (3 + j) :: As, S')) (hj : j < 2) (hcl : mi2.1.cls = "java/lang/String") (hn : As.length = n) (hcat : (S'.map (fun v => v.category)).sum ≤ 8) (hfit : (am_fl0 (.retAddr (3 + j) :: As)).length ≤ mi2.2.2.1)
    (C : Sim z d2 kc1 ks1 mi2 0 (am_L0 mi2.2.2.1 (.retAddr (3 + j) :: As)) [] lay mem (fun r lay' mem' => Sim z d kc ks mi pc' L (am_ap r S') lay' mem' Q)) : Sim z d kcT ksT mi pc L S lay mem Q := by
  intro p e R s m args below meth c D A rv H locs cells slots ls st ws X F hc1 hs h hL hS kk
  subst hp; subst hkc; subst hks
  have hsp := am_pp_spec (n + 1) [] S (.retAddr (3 + j) :: As) S' hpp
  rw [List.reverse_nil, List.nil_append, List.reverse_cons, List.append_assoc] at hsp
  rw [← hsp] at hS
  obtain ⟨s1, rest1, rfl, h1, hT1⟩ := am_s.app hS
  obtain ⟨w, rest, rfl, hv, hT⟩ := am_s.cons (show am_s rv ws (.retAddr (3 + j) :: S') rest1 from hT1)
  obtain ⟨adK, adV, d1, d2', d3, d4, d5, d6, d7⟩ := F.2.2.2.2.2.2.2.2.2.2.2.2.2.2.2.1
  have hrv : rv (3 + j) = .ref (adK j) := by
    match j, hj with
    | 0, _ => exact d2'
    | 1, _ => exact d3
  have hv1 := hv.1
  rw [hrv] at hv1
  subst hv1
  have hA : am_s rv ws As s1.reverse := by
    have := h1.rev
    rwa [List.reverse_reverse] at this
  have hA2 : am_s rv ws (.retAddr (3 + j) :: As) (.ref (adK j) :: s1.reverse) := ⟨hv, hA⟩
  have hM := am_met hok.1 hfit C D rv ws H.size hA2
  have hrc := vk_recv d1 hj h.2.2.1
  rw [← hcl] at hrc
  have hrun := va_runV (C := mi2.1.cls) (b := adK j) (As := s1.reverse) (rest := rest) (g := F0 m pc ls (s1 ++ .ref (adK j) :: rest)) (e := e) (below := below) (meth := meth) (locs := locs) (cells := cells) (slots := slots) (H := H) ⟨F.1, F.2.1, F.2.2.1, F.2.2.2.2.1, F.2.2.2.2.2.1⟩ hM ⟨am_callB F.2.2.2.2.2.1 hok (F.2.2.2.2.2.1 _ hlk) hd2 F.2.2.2.2.2.2.2.2.1 F.2.2.2.2.2.2.2.2.2.1, F.2.2.2.2.2.1 _ hin, F.2.2.2.2.2.1 _ hsel⟩ ⟨am_Pc_blind, hrc, am_Pc_of F h⟩ rfl (by rw [hA.len]; exact hn) hL.1 (by rw [List.reverse_reverse]) (am_room hT hcat) hd ⟨by omega, by omega⟩
  exact am_back hrun F hc1 hs h hL hT (fun r lay' mem' q => by rw [am_ap_eq]; exact q) kk
theorem s_objInit {idx id : Nat} (hd : decode mi.2.1 pc = .ok (.invokespecial idx, 3)) (hp : pc + 3 = pc') (hlk : Cond.methodLink mi.1.cls idx Lib.objectInit ∈ wok) (hin : Cond.instanceMethod Lib.objectInit ∈ wok) (hco : Cond.code Lib.objectInit ⟨#[0xb1]⟩ 1 none ∈ wok) (hd1 : 1 ≤ d) (hcat : (S.map (fun v => v.category)).sum ≤ 8) (K : Sim z d kc ks mi pc' L S lay mem Q) : Sim z d kc ks mi pc L (.ref id :: S) lay mem Q := by
  intro p e R s m args below meth c D A rv H locs cells slots ls st ws X F hc1 hs h hL hS kk
  subst hp
  obtain ⟨w, rest, rfl, hv, hT⟩ := am_s.cons hS
  obtain ⟨b, e1, hw, rfl⟩ := hv
  have hr := am_room (m := m) (pc := pc) (ls := ls) (st := .ref b :: rest) hT hcat
  have h9 := F.2.2.2.2.2.2.2.2.1
  have h10 := F.2.2.2.2.2.2.2.2.2.1
  exact W.objInit F.1 F.2.1 F.2.2.2.2.1 (F.2.2.2.2.2.1 _ hlk) (F.2.2.2.2.2.1 _ hin) (F.2.2.2.2.2.1 _ hco) rfl (by rw [F.2.2.1]; exact hL.1) rfl hd (by omega) (by omega) (K p e R s m args below meth c D A rv H locs cells slots ls _ ws X F hc1 hs h hL hT kk)
theorem s_gGre {idx : Nat} (hd : decode mi.2.1 pc = .ok (.getstatic idx, 3)) (hp : pc + 3 = pc') (hlk : Cond.fieldLink mi.1.cls idx "EdgesOff" "GREATEST" "[I" ∈ wok) (K : Sim z d kc ks mi pc' L (.retAddr 0 :: S) lay mem Q) : Sim z d kc ks mi pc L S lay mem Q := by
  intro p e R s m args below meth c D A rv H locs cells slots ls st ws X F hc1 hs h hL hS kk
  subst hp
  obtain ⟨t, r0, hz, ht⟩ := F.2.2.2.2.2.2.2.2.2.2.2.2.1
  exact va_gets F.1 F.2.1 hz h.2.2.1 F.2.2.2.2.1 (F.2.2.2.2.2.1 _ hlk) (fun _ h9 => h9) hd (K p e R s m args below meth c D A rv H locs cells slots ls _ ws X F hc1 hs h hL ⟨⟨r0.symm, Or.inr ⟨t, rfl⟩⟩, hS⟩ kk)
theorem s_gGreN {idx : Nat} {host : String} (hd : decode mi.2.1 pc = .ok (.getstatic idx, 3)) (hp : pc + 3 = pc') (hlk : Cond.fieldLinkNest mi.1.cls idx "EdgesOff" "GREATEST" "[I" host ∈ am_nws) (K : Sim z d kc ks mi pc' L (.retAddr 0 :: S) lay mem Q) : Sim z d kc ks mi pc L S lay mem Q := by
  intro p e R s m args below meth c D A rv H locs cells slots ls st ws X F hc1 hs h hL hS kk
  subst hp
  obtain ⟨t, r0, hz, ht⟩ := F.2.2.2.2.2.2.2.2.2.2.2.2.1
  have hnw := F.2.2.2.2.2.2.2.2.2.2.2.2.2.2.2.2.2.2.1 _ hlk
  exact va_getsN F.1 F.2.1 hz h.2.2.1 F.2.2.2.2.1 (va_Nw.use rfl hnw) (fun _ h9 => h9) hd (K p e R s m args below meth c D A rv H locs cells slots ls _ ws X F hc1 hs h hL ⟨⟨r0.symm, Or.inr ⟨t, rfl⟩⟩, hS⟩ kk)
theorem s_gKab {idx : Nat} (hd : decode mi.2.1 pc = .ok (.getstatic idx, 3)) (hp : pc + 3 = pc') (hlk : Cond.fieldLink mi.1.cls idx "EdgesOff" "KIND_ABOVE" "[I" ∈ wok) (K : Sim z d kc ks mi pc' L (.retAddr 1 :: S) lay mem Q) : Sim z d kc ks mi pc L S lay mem Q := by
  intro p e R s m args below meth c D A rv H locs cells slots ls st ws X F hc1 hs h hL hS kk
  subst hp
  obtain ⟨t, r0, hz, ht⟩ := F.2.2.2.2.2.2.2.2.2.2.2.2.2.1
  exact va_gets F.1 F.2.1 hz h.2.2.1 F.2.2.2.2.1 (F.2.2.2.2.2.1 _ hlk) (fun _ h9 => h9) hd (K p e R s m args below meth c D A rv H locs cells slots ls _ ws X F hc1 hs h hL ⟨⟨r0.symm, Or.inr ⟨t, rfl⟩⟩, hS⟩ kk)
theorem s_gCmp {idx : Nat} (hd : decode mi.2.1 pc = .ok (.getstatic idx, 3)) (hp : pc + 3 = pc') (hlk : Cond.fieldLink mi.1.cls idx "java/lang/String" "COMPACT_STRINGS" "Z" ∈ wok) (K : Sim z d kc ks mi pc' L (.int 1 :: S) lay mem Q) : Sim z d kc ks mi pc L S lay mem Q := by
  intro p e R s m args below meth c D A rv H locs cells slots ls st ws X F hc1 hs h hL hS kk
  subst hp
  exact va_gets F.1 F.2.1 F.2.2.2.2.2.2.2.2.2.2.2.2.2.2.2.2.1 h.2.2.1 F.2.2.2.2.1 (F.2.2.2.2.2.1 _ hlk) (fun _ h9 => h9) hd (K p e R s m args below meth c D A rv H locs cells slots ls _ ws X F hc1 hs h hL ⟨rfl, hS⟩ kk)
theorem s_gFmt {idx : Nat} (hd : decode mi.2.1 pc = .ok (.getstatic idx, 3)) (hp : pc + 3 = pc') (hlk : Cond.fieldLink mi.1.cls idx "jdk/internal/util/Preconditions" "SIOOBE_FORMATTER" "Ljava/util/function/BiFunction;" ∈ wok) (K : Sim z d kc ks mi pc' L (.retAddr 7 :: S) lay mem Q) : Sim z d kc ks mi pc L S lay mem Q := by
  intro p e R s m args below meth c D A rv H locs cells slots ls st ws X F hc1 hs h hL hS kk
  subst hp
  obtain ⟨hz, hr⟩ := F.2.2.2.2.2.2.2.2.2.2.2.2.2.2.2.2.2.1
  exact va_gets F.1 F.2.1 hz h.2.2.1 F.2.2.2.2.1 (F.2.2.2.2.2.1 _ hlk) (fun _ h9 => h9) hd (K p e R s m args below meth c D A rv H locs cells slots ls _ ws X F hc1 hs h hL ⟨⟨rfl, hr⟩, hS⟩ kk)
theorem s_tald0 {i : Int32} (hd : decode mi.2.1 pc = .ok (.iaload, 1)) (hp : pc + 1 = pc') (hin : vp_in i 6) (K : Sim z d kc ks mi pc' L (.int (am_gre i.toNatClampNeg) :: S) lay mem Q) : Sim z d kc ks mi pc L (.int i :: .retAddr 0 :: S) lay mem Q := by
  intro p e R s m args below meth c D A rv H locs cells slots ls st ws X F hc1 hs h hL hS kk
  subst hp
  obtain ⟨t, r0, hz, ht⟩ := F.2.2.2.2.2.2.2.2.2.2.2.2.1
  obtain ⟨w0, st0, rfl, v0, hT⟩ := am_s.cons hS
  obtain rfl : w0 = .int i := v0
  obtain ⟨w1, st1, rfl, v1, hT1⟩ := am_s.cons hT
  have hv1 := v1.1
  rw [r0] at hv1
  subst hv1
  exact va_ti F.1 F.2.1 ht h.2.2.1 hin rfl hd (K p e R s m args below meth c D A rv H locs cells slots ls _ ws X F hc1 hs h hL ⟨rfl, hT1⟩ kk)
theorem s_tald1 {i : Int32} (hd : decode mi.2.1 pc = .ok (.iaload, 1)) (hp : pc + 1 = pc') (hin : vp_in i 6) (K : Sim z d kc ks mi pc' L (.int (am_kab i.toNatClampNeg) :: S) lay mem Q) : Sim z d kc ks mi pc L (.int i :: .retAddr 1 :: S) lay mem Q := by
  intro p e R s m args below meth c D A rv H locs cells slots ls st ws X F hc1 hs h hL hS kk
  subst hp
  obtain ⟨t, r0, hz, ht⟩ := F.2.2.2.2.2.2.2.2.2.2.2.2.2.1
  obtain ⟨w0, st0, rfl, v0, hT⟩ := am_s.cons hS
  obtain rfl : w0 = .int i := v0
  obtain ⟨w1, st1, rfl, v1, hT1⟩ := am_s.cons hT
  have hv1 := v1.1
  rw [r0] at hv1
  subst hv1
  exact va_ti F.1 F.2.1 ht h.2.2.1 hin rfl hd (K p e R s m args below meth c D A rv H locs cells slots ls _ ws X F hc1 hs h hL ⟨rfl, hT1⟩ kk)
theorem s_tald2 {i : Int32} (hd : decode mi.2.1 pc = .ok (.iaload, 1)) (hp : pc + 1 = pc') (hin : vp_in i z.2.1) (K : Sim z d kc ks mi pc' L (.int (z.2.2 i.toNatClampNeg) :: S) lay mem Q) : Sim z d kc ks mi pc L (.int i :: .retAddr 2 :: S) lay mem Q := by
  intro p e R s m args below meth c D A rv H locs cells slots ls st ws X F hc1 hs h hL hS kk
  subst hp
  obtain ⟨t, r0, ht⟩ := F.2.2.2.2.2.2.2.2.2.2.2.2.2.2.1
  obtain ⟨w0, st0, rfl, v0, hT⟩ := am_s.cons hS
  obtain rfl : w0 = .int i := v0
  obtain ⟨w1, st1, rfl, v1, hT1⟩ := am_s.cons hT
  have hv1 := v1.1
  rw [r0] at hv1
  subst hv1
  exact va_ti F.1 F.2.1 ht h.2.2.1 hin rfl hd (K p e R s m args below meth c D A rv H locs cells slots ls _ ws X F hc1 hs h hL ⟨rfl, hT1⟩ kk)
theorem s_tlen2 (hd : decode mi.2.1 pc = .ok (.arraylength, 1)) (hp : pc + 1 = pc') (K : Sim z d kc ks mi pc' L (.int (nI z.2.1) :: S) lay mem Q) : Sim z d kc ks mi pc L (.retAddr 2 :: S) lay mem Q := by
  intro p e R s m args below meth c D A rv H locs cells slots ls st ws X F hc1 hs h hL hS kk
  subst hp
  obtain ⟨t, r0, ht⟩ := F.2.2.2.2.2.2.2.2.2.2.2.2.2.2.1
  obtain ⟨w1, st1, rfl, v1, hT1⟩ := am_s.cons hS
  have hv1 := v1.1
  rw [r0] at hv1
  subst hv1
  exact va_tlen F.1 F.2.1 ht h.2.2.1 rfl hd (K p e R s m args below meth c D A rv H locs cells slots ls _ ws X F hc1 hs h hL ⟨rfl, hT1⟩ kk)
def am_sl (j : Nat) : Nat := ([96, 8] : List Nat).getD j 0
def am_sb (j i : Nat) : Int32 := (([am_byt am_txtW, am_byt am_txtS] : List (List Int32)).getD j []).getD i 0
theorem am_strs {A : Nat → Prop} {s : State} {rv : Nat → Value} {SL : Nat} {xs : Nat → Int32} (h : am_ro A s s.heap rv SL xs) {j : Nat} (hj : j < 2) : ∃ a b : Nat, rv (3 + j) = .ref a ∧ rv (5 + j) = .ref b ∧ va_OF "java/lang/String" "coder" "B" (.int 0) a A s s.heap ∧ va_OF "java/lang/String" "value" "[B" (.ref b) a A s s.heap ∧ va_T .byte b (am_sl j) (fun i => .int (am_sb j i)) A s s.heap := by
  obtain ⟨adK, adV, d1, d2, d3, d4, d5, d6, d7⟩ := h.2.2.2.1
  obtain ⟨-, h2, h3, h4⟩ := d1.1 j hj
  have h4' : va_T .byte (adV j) (am_sl j) (fun i => .int (am_sb j i)) A s s.heap := h4
  clear h4
  have e1 : rv (3 + j) = .ref (adK j) := by
    have : j = 0 ∨ j = 1 := by omega
    rcases this with rfl | rfl
    · exact d2
    · exact d3
  have e2 : rv (5 + j) = .ref (adV j) := by
    have : j = 0 ∨ j = 1 := by omega
    rcases this with rfl | rfl
    · exact d4
    · exact d5
  exact ⟨_, _, e1, e2, h2, h3, h4'⟩
theorem s_strc {idx j : Nat} (hj : j < 2) (hd : decode mi.2.1 pc = .ok (.getfield idx, 3)) (hp : pc + 3 = pc') (hlk : Cond.fieldLink mi.1.cls idx "java/lang/String" "coder" "B" ∈ wok) (K : Sim z d kc ks mi pc' L (.int 0 :: S) lay mem Q) : Sim z d kc ks mi pc L (.retAddr (3 + j) :: S) lay mem Q := by
  intro p e R s m args below meth c D A rv H locs cells slots ls st ws X F hc1 hs h hL hS kk
  subst hp
  obtain ⟨a, b, r1, r2, f1, f2, f3⟩ := am_strs F.2.2.2.2.2.2.2.2.2.2.2.2 hj
  obtain ⟨w1, st1, rfl, v1, hT1⟩ := am_s.cons hS
  have hv1 := v1.1
  rw [r1] at hv1
  subst hv1
  exact vk_getf F.1 F.2.1 f1 h.2.2.1 F.2.2.2.2.1 (F.2.2.2.2.2.1 _ hlk) (fun _ h9 => h9) hd (K p e R s m args below meth c D A rv H locs cells slots ls _ ws X F hc1 hs h hL ⟨rfl, hT1⟩ kk)
theorem s_strv {idx j : Nat} (hj : j < 2) (hd : decode mi.2.1 pc = .ok (.getfield idx, 3)) (hp : pc + 3 = pc') (hlk : Cond.fieldLink mi.1.cls idx "java/lang/String" "value" "[B" ∈ wok) (K : Sim z d kc ks mi pc' L (.retAddr (5 + j) :: S) lay mem Q) : Sim z d kc ks mi pc L (.retAddr (3 + j) :: S) lay mem Q := by
  intro p e R s m args below meth c D A rv H locs cells slots ls st ws X F hc1 hs h hL hS kk
  subst hp
  obtain ⟨a, b, r1, r2, f1, f2, f3⟩ := am_strs F.2.2.2.2.2.2.2.2.2.2.2.2 hj
  obtain ⟨w1, st1, rfl, v1, hT1⟩ := am_s.cons hS
  have hv1 := v1.1
  rw [r1] at hv1
  subst hv1
  exact vk_getf F.1 F.2.1 f2 h.2.2.1 F.2.2.2.2.1 (F.2.2.2.2.2.1 _ hlk) (fun _ h9 => h9) hd (K p e R s m args below meth c D A rv H locs cells slots ls _ ws X F hc1 hs h hL ⟨⟨r2.symm, Or.inr ⟨b, rfl⟩⟩, hT1⟩ kk)
theorem s_tbald {j : Nat} {i : Int32} (hj : j < 2) (hd : decode mi.2.1 pc = .ok (.baload, 1)) (hp : pc + 1 = pc') (hin : vp_in i (am_sl j)) (K : Sim z d kc ks mi pc' L (.int (am_sb j i.toNatClampNeg) :: S) lay mem Q) : Sim z d kc ks mi pc L (.int i :: .retAddr (5 + j) :: S) lay mem Q := by
  intro p e R s m args below meth c D A rv H locs cells slots ls st ws X F hc1 hs h hL hS kk
  subst hp
  obtain ⟨a, b, r1, r2, f1, f2, f3⟩ := am_strs F.2.2.2.2.2.2.2.2.2.2.2.2 hj
  obtain ⟨w0, st0, rfl, v0, hT⟩ := am_s.cons hS
  obtain rfl : w0 = .int i := v0
  obtain ⟨w1, st1, rfl, v1, hT1⟩ := am_s.cons hT
  have hv1 := v1.1
  rw [r2] at hv1
  subst hv1
  exact va_tb F.1 F.2.1 f3 h.2.2.1 hin rfl hd (K p e R s m args below meth c D A rv H locs cells slots ls _ ws X F hc1 hs h hL ⟨rfl, hT1⟩ kk)
theorem s_tblen {j : Nat} (hj : j < 2) (hd : decode mi.2.1 pc = .ok (.arraylength, 1)) (hp : pc + 1 = pc') (K : Sim z d kc ks mi pc' L (.int (nI (am_sl j)) :: S) lay mem Q) : Sim z d kc ks mi pc L (.retAddr (5 + j) :: S) lay mem Q := by
  intro p e R s m args below meth c D A rv H locs cells slots ls st ws X F hc1 hs h hL hS kk
  subst hp
  obtain ⟨a, b, r1, r2, f1, f2, f3⟩ := am_strs F.2.2.2.2.2.2.2.2.2.2.2.2 hj
  obtain ⟨w1, st1, rfl, v1, hT1⟩ := am_s.cons hS
  have hv1 := v1.1
  rw [r2] at hv1
  subst hv1
  exact va_tlen F.1 F.2.1 f3 h.2.2.1 rfl hd (K p e R s m args below meth c D A rv H locs cells slots ls _ ws X F hc1 hs h hL ⟨rfl, hT1⟩ kk)
theorem s_ldcW (hd : decode mi.2.1 pc = .ok (.ldc 99, 2)) (hp : pc + 2 = pc') (hcl : mi.1.cls = RX1) (K : Sim z d kc ks mi pc' L (.retAddr 3 :: S) lay mem Q) : Sim z d kc ks mi pc L S lay mem Q := by
  intro p e R s m args below meth c D A rv H locs cells slots ls st ws X F hc1 hs h hL hS kk
  subst hp
  obtain ⟨adK, adV, d1, d2, d3, d4, d5, d6, d7⟩ := F.2.2.2.2.2.2.2.2.2.2.2.2.2.2.2.1
  exact va_ldcS F.1 F.2.1 (own := RX1) (by rw [← hcl]; exact F.2.2.2.2.1) d6 hd (K p e R s m args below meth c D A rv H locs cells slots ls _ ws X F hc1 hs h hL ⟨⟨d2.symm, Or.inr ⟨_, rfl⟩⟩, hS⟩ kk)
theorem s_ldcS (hd : decode mi.2.1 pc = .ok (.ldc 92, 2)) (hp : pc + 2 = pc') (hcl : mi.1.cls = RX1) (K : Sim z d kc ks mi pc' L (.retAddr 4 :: S) lay mem Q) : Sim z d kc ks mi pc L S lay mem Q := by
  intro p e R s m args below meth c D A rv H locs cells slots ls st ws X F hc1 hs h hL hS kk
  subst hp
  obtain ⟨adK, adV, d1, d2, d3, d4, d5, d6, d7⟩ := F.2.2.2.2.2.2.2.2.2.2.2.2.2.2.2.1
  exact va_ldcS F.1 F.2.1 (own := RX1) (by rw [← hcl]; exact F.2.2.2.2.1) d7 hd (K p e R s m args below meth c D A rv H locs cells slots ls _ ws X F hc1 hs h hL ⟨⟨d3.symm, Or.inr ⟨_, rfl⟩⟩, hS⟩ kk)
def am_cp (mem : Mem) (id0 id1 sp dp n : Nat) : Mem := fun j => if j = id1 then va_cpy (mem id0) (mem id1) sp dp n else mem j
theorem s_acopy {idx id0 id1 n0 n1 : Nat} {rf0 rf1 : Nat → Value} {sp dp n : Int32} (hd : decode mi.2.1 pc = .ok (.invokestatic idx, 3)) (hp : pc + 3 = pc') (hlk : Cond.methodLink mi.1.cls idx arraycopyName ∈ wok) (hnat : Cond.native arraycopyName ∈ wok) (hstt : Cond.static arraycopyName ∈ wok) (hini : Cond.initialized "java/lang/System" ∈ wok) (hc0 : lay[id0]? = some (8, n0, rf0)) (hc1 : lay[id1]? = some (8, n1, rf1)) (h1 : ¬ sp < 0) (h2 : ¬ dp < 0) (h3 : ¬ n < 0) (h4 : sp.toNatClampNeg + n.toNatClampNeg ≤ n0) (h5 : dp.toNatClampNeg + n.toNatClampNeg ≤ n1) (hd1 : 2 ≤ d) (hcat : (S.map (fun v => v.category)).sum ≤ 8)
    (K : Sim z d kc ks mi pc' L S lay (am_cp mem id0 id1 sp.toNatClampNeg dp.toNatClampNeg n.toNatClampNeg) Q) : Sim z d kc ks mi pc L (.int n :: .int dp :: .ref id1 :: .int sp :: .ref id0 :: S) lay mem Q := by
  intro p e R s m args below meth c D A rv H locs cells slots ls st ws X F hcc hs h hL hS kk
  subst hp
  obtain ⟨a0, cA0, hw0, x1, x2⟩ := am_arr h (by decide) hc0
  obtain ⟨a1, cA1, hw1, y1, y2⟩ := am_arr h (by decide) hc1
  obtain ⟨w0, st0, rfl, v0, hT0⟩ := am_s.cons hS
  obtain rfl : w0 = .int n := v0
  obtain ⟨w1, st1, rfl, v1, hT1⟩ := am_s.cons hT0
  obtain rfl : w1 = .int dp := v1
  obtain ⟨w2, st2, rfl, v2, hT2⟩ := am_s.cons hT1
  obtain ⟨b1, e1, hb1, rfl⟩ := v2
  cases hw1.symm.trans hb1
  obtain ⟨w3, st3, rfl, v3, hT3⟩ := am_s.cons hT2
  obtain rfl : w3 = .int sp := v3
  obtain ⟨w4, st4, rfl, v4, hT4⟩ := am_s.cons hT3
  obtain ⟨b0, e0, hb0, rfl⟩ := v4
  cases hw0.symm.trans hb0
  have h9 := F.2.2.2.2.2.2.2.2.1
  have h10 := F.2.2.2.2.2.2.2.2.2.1
  have hKK : va_K D classes [(cA0, .int), (cA1, .int)] s := (am_K1 F.2.2.2.2.2.2.2.2.2.2.1 x1 x2).app (am_K1 F.2.2.2.2.2.2.2.2.2.2.1 y1 y2)
  have hct := am_s.cat hT4
  have hnfw : nativeFrameWords "java/lang/System" "arraycopy" 5 + 11 ≤ 100 := by decide +kernel
  refine va_copyi F.1 F.2.1 (F.2.2.1.trans hL.1.symm) F.2.2.2.2.1 (F.2.2.2.2.2.1 _ hlk) (F.2.2.2.2.2.1 _ hnat) (F.2.2.2.2.2.1 _ hstt) (F.2.2.2.2.2.1 _ hini) hKK h.1 h.2.1 h.2.2.1 id0 id1 0 1 hw0 hw1 rfl rfl rfl h1 h2 h3 h4 h5 (fun i hi => rfl) (by omega) (by rw [hct]; omega) hd (fun H1 locs1 hP hD hS1 => ?_)
  have hx := am_ex.set (e' := .inl (cA1, n1, .inl (va_cpy (mem id0) (mem id1) sp.toNatClampNeg dp.toNatClampNeg n.toNatClampNeg))) hw1
  have hm : am_m s rv (ws.set id1 (a1, .inl (cA1, n1, .inl (va_cpy (mem id0) (mem id1) sp.toNatClampNeg dp.toNatClampNeg n.toNatClampNeg)))) lay (am_cp mem id0 id1 sp.toNatClampNeg dp.toNatClampNeg n.toNatClampNeg) := by
    refine h.2.2.2.set hc1 hw1 (c' := (8, n1, rf1)) (am_set_self hc1).symm (fun j hj => if_neg hj) ?_
    unfold am_e
    rw [if_neg (show ¬ 8 < 8 by decide), if_pos (show 8 < 11 by decide)]
    refine ⟨cA1, ?_, y1, y2⟩
    rw [show am_cp mem id0 id1 sp.toNatClampNeg dp.toNatClampNeg n.toNatClampNeg id1 = va_cpy (mem id0) (mem id1) sp.toNatClampNeg dp.toNatClampNeg n.toNatClampNeg from if_pos rfl]
  exact K p e R s m args below meth c D A rv H1 locs1 cells slots ls _ _ X F hcc hs ⟨hP, hD, hS1, hm⟩ (hL.mono hx) (hT4.mono hx) (fun r lay' mem' H' locs' ws' pc' ls' rw q1 q2 q3 q4 q5 => kk r lay' mem' H' locs' ws' pc' ls' rw q1 q2 (hx.tr q3) q4 q5)
end IV
end
